section
set_option maxHeartbeats 1600000
/-! the class: groups keep their ranks, on the right -/
theorem Od_rankOf2_q6 {C : zC} {n0 : Nat} {a0 : Nat} {a1 : Int32} {a2 : Int32} {a3 : Int32} {a4 : Nat} {κ : zS} {Q : Int32 → zS → Prop} (W : zW C n0 κ) (Ta0 : zT κ a0 = 9) (Ta4 : zT κ a4 = 20) (ml mr : Int) (R9 : gr24 κ a0) (hp : (grI9 κ a0 ∧ tbL9 κ a0 ∧ gI9 κ a0 ml mr) ∧ (ml < 100000 ∧ mr < 100000) ∧ (a1 = 2 ∧ a4 = zR κ odRights a0) ∧ (0 ≤ a2.toInt ∧ a2.toInt < (zI κ hoTotal (zR κ odGroups a0)).toInt ∧ pV9 κ (zR κ odGroups a0) a2 0 = 0) ∧ ((zI κ hoTotal (zR κ odGroups a0)).toInt < 3000 ∨ ∃ x, hkS9 κ (zR κ odGroups a0) 8192 (k39 2 a2 a3) 3 x)) (h : ∀ (v : Int32) (κ' : zS), ((∃ x : Int32, (tbS9 κ κ' a0 ∧ gI9 κ' a0 ml (mr + 1) ∧ (0 ≤ x.toInt ∧ x.toInt < (zI κ' hoTotal (zR κ odGroups a0)).toInt) ∧ hkS9 κ' (zR κ odGroups a0) 8192 (k39 2 a2 a3) 3 x.toNatClampNeg ∧ ∀ y : Nat, hkS9 κ (zR κ odGroups a0) 8192 (k39 2 a2 a3) 3 y → tbN9 κ κ' a0 ∧ x.toInt = (y : Int)) ∧ v = zA κ' (zR κ' odRanks a0) x.toNatClampNeg) ∧ (gr24 κ' a0 ∧ nw24 κ κ' (zR κ odGroups a0) (k39 2 a2 a3))) → Q v κ') : zRun C 4 mOd_rankOf [.ref a0, .int a1, .int a2, .int a3, .ref a4] κ (oI Q noX) := by
  refine Od_rankOf_run W Ta0 Ta4 ?_
  replace W := W.lo (Nat.le_trans W.1.2.1 W.1.2.2) (Nat.le_refl (zn κ))
  unfold w_Od_rankOf_0
  obtain ⟨⟨G0, L0, I0⟩, ⟨m1, m2⟩, ⟨ea1, ea4⟩, ⟨t0, t1, tg0⟩, H5⟩ := hp
  subst ea1
  have tg := ty_odGroups W Ta0
  have ag : a0 ≠ zR κ odGroups a0 := fun z => by rw [← z, Ta0] at tg; exact absurd tg (by decide)
  have tM := G0.1.1.2.1
  have k2 := cnk t0
  have hj44 : ∀ (l0 : Nat) (l6 : Int32) (τ : zS), zW C (zn κ) τ → zT τ l0 = 9 → ((a0 = l0 ∧ tbS9 κ τ a0 ∧ gI9 τ a0 ml (mr + 1) ∧ (0 ≤ l6.toInt ∧ l6.toInt < (zI τ hoTotal (zR κ odGroups a0)).toInt) ∧ hkS9 τ (zR κ odGroups a0) 8192 (k39 2 a2 a3) 3 l6.toNatClampNeg ∧ ∀ y : Nat, hkS9 κ (zR κ odGroups a0) 8192 (k39 2 a2 a3) 3 y → tbN9 κ τ a0 ∧ l6.toInt = (y : Int)) ∧ gr24 τ a0 ∧ nw24 κ τ (zR κ odGroups a0) (k39 2 a2 a3)) → w_Od_rankOf_44 C (zn κ) Q  l0 l6 τ := by
    rintro _ y44_6 τ44 W44 T44_0 ⟨⟨rfl, j44⟩, hE⟩
    unfold w_Od_rankOf_44
    refine ⟨?_, ?_⟩
    · have q := j44.1.2.2.1.1.1.2.1.2
      rw [j44.1.2.1 odGroups (by decide)] at q
      rw [inb_iff, (tb_l9 W Ta0 j44.1 L0).2.2.2.1]
      exact ⟨j44.2.2.1.1, Int.lt_of_lt_of_le j44.2.2.1.2 q⟩
    refine h _ _ ?_
    · refine and_5 ?_ (fun o9 => hE)  -- q2
      exact ⟨y44_6, j44, rfl⟩
  intro x1 hx1
  intro T2
  refine Od_group_c W T2  ?_ (fun r3 κ_4 q5 => ?_)
  · exact ⟨G0, H5⟩  -- p3
  intro W6
  intro M7
  obtain ⟨S3, Z3, ⟨v0, v1⟩, hs, tt, dd⟩ := q5
  have wl := gr_w9 W Ta0 Z3 ag (f := odLefts) (by decide +kernel) (by decide) (by decide)
  have wr := gr_w9 W Ta0 Z3 ag (f := odRights) (by decide +kernel) (by decide) (by decide)
  have wk := gr_w9 W Ta0 Z3 ag (f := odRanks) (by decide +kernel) (by decide) (by decide)
  have eg := S3.2.1 odGroups (by decide)
  have T3 : zT κ_4 a0 = 9 := Z3.t Ta0 (by decide)
  have tM3 := S3.2.2.1.1.1.2.1.2
  rw [eg] at tM3
  refine ⟨fun c8 => ?_, fun c8 => ?_⟩
  · skip
    refine hj44 _ _ _ W6 ?_ ?_
    · exact T3  -- t4
    · refine and_5 ?_ (fun o9 => ?_)  -- k5
      · have te : (zI κ_4 hoTotal (zR κ odGroups a0)).toInt = (zI κ hoTotal (zR κ odGroups a0)).toInt := by
          rcases tt with z | z
          · exact z
          · exact absurd (Int32.toInt_inj.mp (by rw [hx1]; exact z.2)) c8
        refine ⟨rfl, S3, ?_, ⟨v0, v1⟩, hs, fun x H => ⟨⟨te, wl.2.1, wr.2.1, wk.2.1⟩, (dd x H).2⟩⟩
        unfold gI9
        rw [eg, te, wl.1, wr.1, wk.1, wl.2.1, wr.2.1, wk.2.1]
        exact gp_m9 (gp_e9 I0 (fun x hx => S3.2.2.2.2.2 x 0 hx) (fun x hx => S3.2.2.2.2.2 x 1 hx)) (Int.le_refl _) (by omega)
      · have te : (zI κ_4 hoTotal (zR κ odGroups a0)).toInt = (zI κ hoTotal (zR κ odGroups a0)).toInt := by
          rcases tt with z | z
          · exact z
          · exact absurd (Int32.toInt_inj.mp (by rw [hx1]; exact z.2)) c8
        refine ⟨?_, Or.inl te⟩
        unfold gr24
        rw [eg, te, wl.1, wr.1, wk.1, wl.2.1, wr.2.1, wk.2.1]
        exact gR_e24 R9 (fun x hx => S3.2.2.2.2.2 x 0 hx) (fun x hx => S3.2.2.2.2.2 x 1 hx)
  · skip
    refine ⟨?_, ?_⟩
    · rw [inb_iff, ea4, wr.2.2, L0.2.1]; omega  -- b6
    refine ⟨?_, ?_⟩
    · rw [inb_iff, wk.1, wk.2.2, L0.2.2.2.1]; omega  -- b7
    intro κ_9 hκ_9
    intro W10
    have r8 : zR κ_9 = zR κ_4 := by rw [hκ_9]; rfl
    have n8 : zN κ_9 = zN κ_4 := by rw [hκ_9]; rfl
    have o8 : zO κ_9 = zO κ_4 := by rw [hκ_9]; rfl
    refine ⟨?_, ?_⟩
    · rw [inb_iff, n8, ea4, wr.2.2, L0.2.1]; omega  -- b8
    refine ⟨?_, ?_⟩
    · rw [inb_iff, n8, ea4, wr.2.2, L0.2.1]; omega  -- b9
    intro κ_11 hκ_11
    intro W12
    have r10 : zR κ_11 = zR κ_4 := by rw [hκ_11]; exact r8
    have n10 : zN κ_11 = zN κ_4 := by rw [hκ_11]; exact n8
    have rv : r3.toInt = (zI κ hoTotal (zR κ odGroups a0)).toInt := by rw [c8, hx1]
    have te : (zI κ_4 hoTotal (zR κ odGroups a0)).toInt = (zI κ hoTotal (zR κ odGroups a0)).toInt + 1 := by
      rcases tt with z | z
      · omega
      · exact z.1
    have ol := W6.o (show zr odRights = some 20 by decide +kernel) (by decide) T3
    have ok := W6.o (show zr odRanks = some 20 by decide +kernel) (by decide) T3
    rw [wr.1] at ol
    rw [ea4] at hκ_11 hκ_9
    have Z10 : zF (fun f b => b = a0 ∧ (f = odLefts ∨ f = odRights ∨ f = odRanks)) κ_4 κ_11 := by
      have a1 : zF (fun f b => b = a0 ∧ (f = odLefts ∨ f = odRights ∨ f = odRanks)) κ_4 κ_9 := by rw [hκ_9]; exact zF_ua (by rw [ok]; exact ⟨rfl, Or.inr (Or.inr rfl)⟩)
      have a2 : zF (fun f b => b = a0 ∧ (f = odLefts ∨ f = odRights ∨ f = odRanks)) κ_9 κ_11 := by rw [hκ_11]; exact zF_ua (by rw [o8, ol]; exact ⟨rfl, Or.inr (Or.inl rfl)⟩)
      exact a1.tr a2
    have U := tb_u9 W6 T3 S3 Z10 r10 n10
    have nrl := od_ow9 W6 T3 (f := odRights) (g := odLefts) (by decide +kernel) (by decide +kernel) (by decide) (by decide) (by decide)
    have nkl := od_ow9 W6 T3 (f := odRanks) (g := odLefts) (by decide +kernel) (by decide +kernel) (by decide) (by decide) (by decide)
    have nkr := od_ow9 W6 T3 (f := odRanks) (g := odRights) (by decide +kernel) (by decide +kernel) (by decide) (by decide) (by decide)
    rw [wr.1, wl.1] at nrl
    rw [wk.1, wl.1] at nkl
    rw [wk.1, wr.1] at nkr
    rw [wk.1] at hκ_9
    have x9 : zA κ_9 (zR κ odRights a0) = zA κ (zR κ odRights a0) := by
      rw [hκ_9]
      exact (if_neg (Ne.symm nkr)).trans wr.2.1
    have xr : zA κ_11 (zR κ odRights a0) = upd (zA κ (zR κ odRights a0)) a2.toNatClampNeg (zA κ (zR κ odRights a0) a2.toNatClampNeg + 1) := by
      rw [hκ_11]
      refine (if_pos rfl).trans ?_
      show upd (zA κ_9 (zR κ odRights a0)) _ (zA κ_9 (zR κ odRights a0) _ + 1) = _
      rw [x9]
    have xl : zA κ_11 (zR κ odLefts a0) = zA κ (zR κ odLefts a0) := by
      rw [hκ_11]
      refine (if_neg (Ne.symm nrl)).trans ?_
      rw [hκ_9]
      exact (if_neg (Ne.symm nkl)).trans wl.2.1
    have xk : zA κ_11 (zR κ odRanks a0) = upd (zA κ (zR κ odRanks a0)) r3.toNatClampNeg (zA κ (zR κ odRights a0) a2.toNatClampNeg) := by
      rw [hκ_11]
      refine (if_neg nkr).trans ?_
      rw [hκ_9]
      refine (if_pos rfl).trans ?_
      show upd (zA κ_4 (zR κ odRanks a0)) _ (zA κ_4 (zR κ odRights a0) _) = _
      rw [wk.2.1, wr.2.1]
    refine hj44 _ _ _ W12 ?_ ?_
    · exact Z10.t T3 (by decide)  -- t10
    · refine and_5 ?_ (fun o9 => ?_)  -- k11
      · refine ⟨rfl, U.1, ?_, ⟨v0, by rw [U.2.2.2]; exact v1⟩, (U.2.1 _ _ _).mpr hs, fun x H => ?_⟩
        · unfold gI9
          rw [r10, wl.1, wr.1, wk.1, xl, xr, xk, eg, U.2.2.2, U.2.2.1, te]
          refine gp_r9 I0 rv tM.1 (fun x hx => S3.2.2.2.2.2 x 0 hx) (fun x hx => S3.2.2.2.2.2 x 1 hx) ?_ ?_ t0 t1 tg0 m2
          · exact pV9_k (K := k39 2 a2 a3) v0 hs.1 (by decide) (by decide)
          · exact pV9_k (K := k39 2 a2 a3) v0 hs.1 (by decide) (by decide)
        · have y := (dd x H).1
          omega
      · refine ⟨?_, by unfold nw24; rw [U.2.2.2]; exact Or.inr ⟨te, (U.2.1 _ _ _).mpr (by rw [← rv]; exact hs)⟩⟩
        unfold gr24
        rw [r10, wl.1, wr.1, wk.1, xl, xr, xk, eg, U.2.2.2, U.2.2.1, te]
        refine gR_r24 R9 I0 m2 rv tM.1 (fun x hx => S3.2.2.2.2.2 x 0 hx) (fun x hx => S3.2.2.2.2.2 x 1 hx) ?_ ?_ t0 t1 tg0
        · exact pV9_k (K := k39 2 a2 a3) v0 hs.1 (by decide) (by decide)
        · exact pV9_k (K := k39 2 a2 a3) v0 hs.1 (by decide) (by decide)

end
section
set_option maxHeartbeats 1600000
/-! the class: the endings that count -/
def hm24 (κ : zS) (a n e : Nat) : Prop := ∃ (k : Nat) (i : Int32), k < n ∧ (zA κ (zR κ atFirsts (zR κ odAtlas a)) k).toInt ≤ i.toInt ∧ i.toInt < (zA κ (zR κ atFirsts (zR κ odAtlas a)) (k + 1)).toInt ∧ cE9 κ a k i ∧ (zA κ (zR κ atNumbers (zR κ odAtlas a)) i.toNatClampNeg).toNatClampNeg = e
theorem Od_markEndings_q6 {C : zC} {n0 : Nat} {a0 : Nat} {κ : zS} {Q : Int32 → zS → Prop} (W : zW C n0 κ) (Ta0 : zT κ a0 = 9) (ρ : Nat → Nat) (n9 P9 : Nat) (hp : odX9 ρ κ a0 n9 P9 ∧ (zN κ (zR κ odCellOf a0)) = 1000 ∧ (zR κ atStates (zR κ odAtlas a0) ≠ zR κ odGroups a0 ∧ zR κ atEndings (zR κ odAtlas a0) ≠ zR κ odGroups a0)) (h : ∀ (v : Int32) (κ' : zS), (((zF (oneF odCellOf a0) κ κ' ∧ rwE9 κ κ') ∧ (0 ≤ v.toInt ∧ v.toInt ≤ 1000) ∧ (∀ e, e < 1000 → zA κ' (zR κ odCellOf a0) e = -1 ∨ zA κ' (zR κ odCellOf a0) e = 0) ∧ ∀ k i, k < n9 → (zA κ (zR κ atFirsts (zR κ odAtlas a0)) k).toInt ≤ i.toInt → i.toInt < (zA κ (zR κ atFirsts (zR κ odAtlas a0)) (k + 1)).toInt → mkD9 κ κ' a0 k i) ∧ (v.toInt = (cC9 (zA κ' (zR κ odCellOf a0)) 1000 : Int) ∧ ∀ e, e < 1000 → zA κ' (zR κ odCellOf a0) e ≠ -1 → hm24 κ a0 n9 e)) → Q v κ') : zRun C 2 mOd_markEndings [.ref a0] κ (oI Q noX) := by
  refine Od_markEndings_run W Ta0 ?_
  replace W := W.lo (Nat.le_trans W.1.2.1 W.1.2.2) (Nat.le_refl (zn κ))
  unfold w_Od_markEndings_0
  obtain ⟨X0, c1k, hg⟩ := hp
  have A0 := X0.2.2.1.1
  have hn := A0.2.2.1
  have l20 := A0.2.1.2.2
  have nx5 := A0.2.2.2.2.1
  have Tg := ty_odGroups W Ta0
  have eh := X0.2.2.2.2.2
  have lc : zN κ (zR κ odCellOf a0) = 1000 := c1k
  intro T1
  refine Ar_fill_c W T1  (fun κ_2 q3 => ?_)
  have x2 : zA κ_2 (zR κ odCellOf a0) = fun k => if 0 ≤ k ∧ k < 1000 then -1 else zA κ (zR κ odCellOf a0) k := by
    rw [q3, ← lc]
    exact if_pos rfl
  have m2 : ∀ e, e < 1000 → zA κ_2 (zR κ odCellOf a0) e = -1 := fun e he => by
    rw [x2]
    exact if_pos ⟨Nat.zero_le _, he⟩
  have Z2 : zF (oneF odCellOf a0) κ κ_2 := by
    rw [q3]
    exact zF_uf (by rw [W.o (show zr odCellOf = some 20 by decide +kernel) (by decide) Ta0]; exact ⟨rfl, rfl⟩)
  intro W4
  intro M5
  unfold w_Od_markEndings_12
  refine ⟨fun n l0 l1 l2 τ => n = ((n9 : Int) - l2.toInt).toNat ∧ ((a0 = l0 ∧ mkB9 κ τ a0 l1 ∧ (0 ≤ l2.toInt ∧ l2.toInt ≤ n9) ∧ ∀ (k : Nat) (i : Int32), (k : Int) < l2.toInt → (zA κ (zR κ atFirsts (zR κ odAtlas a0)) k).toInt ≤ i.toInt → i.toInt < (zA κ (zR κ atFirsts (zR κ odAtlas a0)) (k + 1)).toInt → mkD9 κ τ a0 k i) ∧ ∀ e, e < 1000 → zA τ (zR κ odCellOf a0) e ≠ -1 → hm24 κ a0 n9 e), ⟨_, rfl, ?_⟩, ?_⟩
  · refine and_5 ?_ (fun o9 => fun e he z => absurd (m2 e he) z)  -- j1
    refine ⟨rfl, ⟨⟨Z2, by rw [q3]; rfl, by rw [q3]; rfl, by rw [q3]; rfl⟩, ?_, fun e he => Or.inl (m2 e he)⟩, ⟨by decide, by rw [t0i]; omega⟩, fun k i hk => by rw [t0i] at hk; omega⟩
    rw [cC_09 1000 m2]
    rfl
  rintro n12 _ x12_1 x12_2 κ12 W12 T12_0 ⟨hn12, ⟨rfl, i12⟩, hE⟩
  obtain ⟨⟨⟨Z1, R1, N1, I1⟩, C1, E1⟩, l2, D1⟩ := i12
  have k2 := cnk l2.1
  obtain ⟨X1, _, _, g1, _⟩ := od_t9 W Ta0 Tg (oneF_t9 (by decide)) Z1 hg.1 hg.2 X0
  have tot1 := X1.2.2.1.1.2.2.2.1
  refine ⟨fun c6 => ?_, fun c6 => ?_⟩
  · skip
    refine h _ _ ?_
    · refine and_5 ?_ (fun o9 => ⟨C1, hE⟩)  -- q2
      rw [lei, tot1] at c6
      have cl := cC_le9 (r := zA κ12 (zR κ odCellOf a0)) 1000
      exact ⟨⟨Z1, R1, N1, I1⟩, ⟨by omega, by omega⟩, E1, fun k i hk => D1 k i (by omega)⟩
  · skip
    rw [lei, tot1] at c6
    have f1 := (g1 atFirsts (by decide))
    obtain ⟨⟨f0, f01, f02⟩, nx, _⟩ := A0.2.2.2.2.2 x12_2.toNatClampNeg (by omega)
    refine ⟨?_, ?_⟩
    · rw [inb_iff, f1.2, A0.1.1]; omega  -- b3
    intro x7 hx7
    unfold w_Od_markEndings_36
    refine ⟨fun n l0 l1 l2 l3 τ => n = ((zA κ (zR κ atFirsts (zR κ odAtlas a0)) (x12_2.toNatClampNeg + 1)).toInt - l3.toInt).toNat ∧ ((a0 = l0 ∧ mkB9 κ τ a0 l1 ∧ (x12_2 = l2 ∧ (zA κ (zR κ atFirsts (zR κ odAtlas a0)) x12_2.toNatClampNeg).toInt ≤ l3.toInt ∧ l3.toInt ≤ (zA κ (zR κ atFirsts (zR κ odAtlas a0)) (x12_2.toNatClampNeg + 1)).toInt) ∧ (∀ (k : Nat) (i : Int32), (k : Int) < x12_2.toInt → (zA κ (zR κ atFirsts (zR κ odAtlas a0)) k).toInt ≤ i.toInt → i.toInt < (zA κ (zR κ atFirsts (zR κ odAtlas a0)) (k + 1)).toInt → mkD9 κ τ a0 k i) ∧ ∀ i : Int32, (zA κ (zR κ atFirsts (zR κ odAtlas a0)) x12_2.toNatClampNeg).toInt ≤ i.toInt → i.toInt < l3.toInt → mkD9 κ τ a0 x12_2.toNatClampNeg i) ∧ ∀ e, e < 1000 → zA τ (zR κ odCellOf a0) e ≠ -1 → hm24 κ a0 n9 e), ⟨_, rfl, ?_⟩, ?_⟩
    · refine and_5 ?_ (fun o9 => hE)  -- j4
      rw [f1.1] at hx7
      refine ⟨rfl, ⟨⟨Z1, R1, N1, I1⟩, C1, E1⟩, ⟨rfl, by rw [hx7]; exact Int.le_refl _, by rw [hx7]; exact f01⟩, D1, fun i h1 h2 => by rw [hx7] at h2; omega⟩
    rintro n36 _ x36_1 x36_2 x36_3 κ36 W36 T36_0 ⟨hn36, ⟨rfl, i36⟩, hE⟩
    obtain ⟨⟨⟨Z3, R3, N3, I3⟩, C3, E3⟩, ⟨rfl, l31, l32⟩, D3, D4⟩ := i36
    obtain ⟨X3, ce3, _, g3, _⟩ := od_t9 W Ta0 Tg (oneF_t9 (by decide)) Z3 hg.1 hg.2 X0
    have k3 := cnk (x := x36_3) (by omega)
    have f3 := (g3 atFirsts (by decide)).1
    have n3 := (g3 atNumbers (by decide))
    have i1 := cn1 (x := x12_2) l2.1 (by omega)
    have ix := cn1 (x := x36_3) (by omega) (by omega)
    refine ⟨?_, ?_⟩
    · rw [inb_iff, i1.2, (g3 atFirsts (by decide)).2, A0.1.1]; omega  -- b5
    refine ⟨fun c8 => ?_, fun c8 => ?_⟩
    · skip
      intro x9 hx9
      refine lp_b5 ?_ (fun d9 => ⟨rfl, ?_⟩)
      · rw [hn12, hx9, i1.2]; omega  -- d6
      · refine and_5 ?_ (fun o9 => hE)  -- i7
        rw [f3, i1.1, lei] at c8
        refine ⟨rfl, ⟨⟨Z3, R3, N3, I3⟩, C3, E3⟩, ⟨by rw [hx9, i1.2]; omega, by rw [hx9, i1.2]; omega⟩, fun k i hk h1 h2 => ?_⟩
        rw [hx9, i1.2] at hk
        by_cases z : k = x12_2.toNatClampNeg
        · rw [z] at h1 h2 ⊢
          exact D4 i h1 (by omega)
        · exact D3 k i (by omega) h1 h2
    · skip
      intro T10
      rw [f3, i1.1, lei] at c8
      have nxi := nx x36_3.toNatClampNeg (by omega) (by omega)
      refine Od_comesToEnd_c W36 T10 ρ n9 P9 ?_ (fun r11 q13 => ?_)
      · exact ⟨X3, ⟨l2.1, by omega⟩, by omega, by rw [n3.2]; omega⟩  -- p8
      intro W14
      intro M15
      have q14 := q13.2.trans (ce3 x12_2.toNatClampNeg x36_3 (by omega))
      refine ⟨fun c16 => ?_, fun c16 => ?_⟩
      · skip
        intro x17 hx17
        refine lp_b5 ?_ (fun d9 => ⟨rfl, ?_⟩)
        · rw [hn36, hx17, ix.2]; omega  -- d9
        · refine and_5 ?_ (fun o9 => hE)  -- i10
          refine ⟨rfl, ⟨⟨Z3, R3, N3, I3⟩, C3, E3⟩, ⟨rfl, by rw [hx17, ix.2]; omega, by rw [hx17, ix.2]; omega⟩, D3, fun i h1 h2 => ?_⟩
          rw [hx17, ix.2] at h2
          by_cases z : i.toInt = x36_3.toInt
          · rw [Int32.toInt_inj.mp z]
            exact fun y => absurd c16 (q14.mpr y)
          · exact D4 i h1 (by omega)
      · skip
        have ce := q14.mp c16
        have s1 : zA κ (zR κ atSorts (zR κ odAtlas a0)) x36_3.toNatClampNeg = 1 := ce.1
        have nb3 := nxi.2.1 s1
        have ke := cnk nb3.1
        have eM := eh.2.1.2
        have ec : zR κ36 odCellOf a0 = zR κ odCellOf a0 := by rw [R3]
        refine ⟨?_, ?_⟩
        · rw [inb_iff, n3.2]; omega  -- b11
        refine ⟨?_, ?_⟩
        · rw [n3.1, inb_iff, ec, N3, lc]; omega  -- b12
        refine ⟨fun c18 => ?_, fun c18 => ?_⟩
        · skip
          intro x19 hx19
          refine lp_b5 ?_ (fun d9 => ⟨rfl, ?_⟩)
          · rw [hn36, hx19, ix.2]; omega  -- d13
          · refine and_5 ?_ (fun o9 => hE)  -- i14
            rw [n3.1, ec] at c18
            refine ⟨rfl, ⟨⟨Z3, R3, N3, I3⟩, C3, E3⟩, ⟨rfl, by rw [hx19, ix.2]; omega, by rw [hx19, ix.2]; omega⟩, D3, fun i h1 h2 => ?_⟩
            rw [hx19, ix.2] at h2
            by_cases z : i.toInt = x36_3.toInt
            · rw [Int32.toInt_inj.mp z]
              exact fun _ => c18
            · exact D4 i h1 (by omega)
        · skip
          rw [n3.1, ec] at c18
          refine ⟨?_, ?_⟩
          · rw [inb_iff, n3.2]; omega  -- b15
          refine ⟨?_, ?_⟩
          · rw [n3.1, inb_iff, ec, N3, lc]; omega  -- b16
          intro κ_20 hκ_20
          intro W21
          intro x22 hx22
          intro x23 hx23
          rw [n3.1, ec] at hκ_20
          have x20 : zA κ_20 (zR κ odCellOf a0) = upd (zA κ36 (zR κ odCellOf a0)) (zA κ (zR κ atNumbers (zR κ odAtlas a0)) x36_3.toNatClampNeg).toNatClampNeg 0 := by
            rw [hκ_20]
            exact if_pos rfl
          have o36 := W36.o (show zr odCellOf = some 20 by decide +kernel) (by decide) T36_0
          rw [ec] at o36
          have Z20 : zF (oneF odCellOf a0) κ κ_20 := Z3.tr (by rw [hκ_20]; exact zF_ua (by rw [o36]; exact ⟨rfl, rfl⟩))
          have cu := cC_u9 (x := 0) c18 (by decide) 1000 (show (zA κ (zR κ atNumbers (zR κ odAtlas a0)) x36_3.toNatClampNeg).toNatClampNeg < 1000 by omega)
          have cl := cC_le9 (r := zA κ_20 (zR κ odCellOf a0)) 1000
          rw [x20, cu] at cl
          have m1 := cn1 (x := x36_1) (by omega) (by omega)
          have kp : ∀ k i, mkD9 κ κ36 a0 k i → mkD9 κ κ_20 a0 k i := fun k i d y => by
            rw [x20]
            unfold upd
            split
            · decide
            · exact d y
          refine lp_b5 ?_ (fun d9 => ⟨rfl, ?_⟩)
          · rw [hn36, hx23, ix.2]; omega  -- d17
          · refine and_5 ?_ (fun o9 => ?_)  -- i18
            · refine ⟨rfl, ⟨⟨Z20, by rw [hκ_20]; exact R3, by rw [hκ_20]; exact N3, by rw [hκ_20]; exact I3⟩, ?_, fun e he => ?_⟩, ⟨rfl, by rw [hx23, ix.2]; omega, by rw [hx23, ix.2]; omega⟩, fun k i hk h1 h2 => kp k i (D3 k i hk h1 h2), fun i h1 h2 => ?_⟩
              · rw [hx22, m1.2, x20, cu]
                omega
              · rw [x20]
                unfold upd
                split
                · exact Or.inr rfl
                · exact E3 e he
              · rw [hx23, ix.2] at h2
                by_cases z : i.toInt = x36_3.toInt
                · rw [Int32.toInt_inj.mp z]
                  intro _
                  rw [x20]
                  unfold upd
                  rw [if_pos rfl]
                  decide
                · exact kp _ i (D4 i h1 (by omega))
            · intro e he z
              rw [x20] at z
              by_cases c : e = (zA κ (zR κ atNumbers (zR κ odAtlas a0)) x36_3.toNatClampNeg).toNatClampNeg
              · exact ⟨x12_2.toNatClampNeg, x36_3, by omega, l31, by omega, ce, c.symm⟩
              · rw [upd_ne c] at z
                exact hE e he z

end
section
set_option maxHeartbeats 1600000
/-! the class: where tables stand -/
def bt24 (κ : zS) (a x : Nat) : Int := if pV9 κ (zR κ odGroups a) (Int32.ofNat x) 0 = 0 then (zA κ (zR κ odLefts a) x).toInt * (zA κ (zR κ odRights a) x).toInt else 0
theorem on_24 {x : Int32} (h : 0 ≤ x.toInt) (l : x.toInt < 60000000) : Int32.ofNat x.toNatClampNeg = x := by
  have k := cnk h
  exact Int32.toInt_inj.mp (by rw [ofn_i (by omega)]; omega)
theorem sI_m24 {f : Nat → Int} {k : Nat} : ∀ {n : Nat}, k ≤ n → (∀ i, i < n → 0 ≤ f i) → sI f k ≤ sI f n := by
  intro n
  induction n with
  | zero => intro h _; rw [Nat.le_zero.mp h]; exact Int.le_refl _
  | succ n ih =>
    intro h p
    by_cases c : k = n + 1
    · rw [c]; exact Int.le_refl _
    · have a := ih (by omega) (fun i hi => p i (by omega))
      have b := p n (by omega)
      have e : sI f (n + 1) = sI f n + f n := rfl
      omega
theorem bt_n24 {κ : zS} {a x : Nat} {ml mr : Int} (I : gI9 κ a ml mr) (hx : (x : Int) < (zI κ hoTotal (zR κ odGroups a)).toInt) (ht : (zI κ hoTotal (zR κ odGroups a)).toInt ≤ 3000) : 0 ≤ bt24 κ a x := by
  unfold bt24
  split
  · rename_i z
    have e : (Int32.ofNat x).toInt = (x : Int) := ofn_i (by omega)
    have k : (Int32.ofNat x).toNatClampNeg = x := cl_5 (by omega)
    obtain ⟨⟨⟨a1, _⟩, b1, _⟩, _⟩ := And.intro ((I (Int32.ofNat x) (by omega) (by omega)).1 z) trivial
    rw [k] at a1 b1
    exact Int.mul_nonneg a1 b1
  · exact Int.le_refl _
theorem Od_placeTables_q6 {C : zC} {n0 : Nat} {a0 : Nat} {a1 : Int32} {κ : zS} {Q : Int32 → zS → Prop} (W : zW C n0 κ) (Ta0 : zT κ a0 = 9)  (hp : (grI9 κ a0 ∧ tbL9 κ a0 ∧ gI9 κ a0 1000 1000) ∧ (0 ≤ a1.toInt ∧ a1.toInt ≤ 1000)) (h : ∀ (v : Int32) (κ' : zS), (((zF (oneF odBases a0) κ κ' ∧ rwE9 κ κ') ∧ 0 ≤ v.toInt ∧ (v.toInt ≤ a1.toInt → plC9 κ κ' a0 ((zI κ hoTotal (zR κ odGroups a0)).toInt) v.toInt)) ∧ ((v.toInt ≤ a1.toInt → v.toInt = sI (bt24 κ a0) (zI κ hoTotal (zR κ odGroups a0)).toInt.toNat ∧ ∀ x : Int32, 0 ≤ x.toInt → x.toInt < (zI κ hoTotal (zR κ odGroups a0)).toInt → pV9 κ (zR κ odGroups a0) x 0 = 0 → (zA κ' (zR κ odBases a0) x.toNatClampNeg).toInt = sI (bt24 κ a0) x.toNatClampNeg) ∧ (a1.toInt < v.toInt → a1.toInt < sI (bt24 κ a0) (zI κ hoTotal (zR κ odGroups a0)).toInt.toNat))) → Q v κ') : zRun C 2 mOd_placeTables [.ref a0, .int a1] κ (oI Q noX) := by
  refine Od_placeTables_run W Ta0 ?_
  replace W := W.lo (Nat.le_trans W.1.2.1 W.1.2.2) (Nat.le_refl (zn κ))
  unfold w_Od_placeTables_0
  obtain ⟨⟨G0, L0, I0⟩, p0, p1⟩ := hp
  have Tg := ty_odGroups W Ta0
  have tM := G0.1.1.2.1
  unfold w_Od_placeTables_4
  refine ⟨fun n l0 l1 l2 l3 τ => n = ((zI κ hoTotal (zR κ odGroups a0)).toInt - l3.toInt).toNat ∧ ((a0 = l0 ∧ a1 = l1 ∧ (zF (oneF odBases a0) κ τ ∧ rwE9 κ τ) ∧ (0 ≤ l2.toInt ∧ l2.toInt ≤ 1001000) ∧ (0 ≤ l3.toInt ∧ l3.toInt ≤ (zI κ hoTotal (zR κ odGroups a0)).toInt) ∧ plC9 κ τ a0 l3.toInt l2.toInt) ∧ l2.toInt = sI (bt24 κ a0) l3.toNatClampNeg ∧ ∀ x : Int32, 0 ≤ x.toInt → x.toInt < l3.toInt → pV9 κ (zR κ odGroups a0) x 0 = 0 → (zA τ (zR κ odBases a0) x.toNatClampNeg).toInt = sI (bt24 κ a0) x.toNatClampNeg), ⟨_, rfl, ?_⟩, ?_⟩
  · refine and_5 ?_ (fun o9 => ⟨rfl, fun x x0 x1 => by rw [t0i] at x1; omega⟩)  -- j1
    exact ⟨rfl, rfl, ⟨zF.rf, rfl, rfl, rfl⟩, by decide, ⟨by decide, by rw [t0i]; exact tM.1⟩, fun x x0 x1 => by rw [t0i] at x1; omega⟩
  rintro n4 _ _ x4_2 x4_3 κ4 W4 T4_0 ⟨hn4, ⟨rfl, rfl, i4⟩, hE⟩
  obtain ⟨⟨Z1, R1, N1, I1⟩, l2, l3, D1⟩ := i4
  have k3 := cnk l3.1
  have V1 := ho_t9 W Tg Z1 (fun f b z => by rw [z.1]; decide)
  have wl := Z1.row W (f := odLefts) (t := 20) (by decide +kernel) (by decide) Ta0 (fun z => absurd z.1 (by decide))
  have wr := Z1.row W (f := odRights) (t := 20) (by decide +kernel) (by decide) Ta0 (fun z => absurd z.1 (by decide))
  rw [R1] at wl wr
  refine ⟨fun c1 => ?_, fun c1 => ?_⟩
  · skip
    refine h _ _ ?_
    · refine and_5 ?_ (fun o9 => ?_)  -- q2
      · rw [lei, R1, V1.2.2.2.1] at c1
        exact ⟨⟨Z1, R1, N1, I1⟩, l2.1, fun _ x x0 x1 => D1 x x0 (by omega)⟩
      · rw [lei, R1, V1.2.2.2.1] at c1
        have tt : (zI κ hoTotal (zR κ odGroups a0)).toInt.toNat = x4_3.toNatClampNeg := by omega
        rw [tt]
        exact ⟨fun _ => ⟨hE.1, fun x x0 x1 => hE.2 x x0 (by omega)⟩, fun z => by rw [← hE.1]; exact z⟩
  · skip
    rw [lei, R1, V1.2.2.2.1] at c1
    refine ⟨fun c2 => ?_, fun c2 => ?_⟩
    · skip
      refine h _ _ ?_
      · refine and_5 ?_ (fun o9 => ?_)  -- q3
        · rw [lti] at c2
          exact ⟨⟨Z1, R1, N1, I1⟩, l2.1, fun z => by omega⟩
        · rw [lti] at c2
          refine ⟨fun z => by omega, fun _ => ?_⟩
          have m := sI_m24 (f := bt24 κ a0) (k := x4_3.toNatClampNeg) (n := (zI κ hoTotal (zR κ odGroups a0)).toInt.toNat) (by omega) (fun i hi => bt_n24 I0 (by omega) tM.2)
          have := hE.1
          omega
    · skip
      intro T3
      rw [lti] at c2
      have ix := cn1 (x := x4_3) l3.1 (by omega)
      refine Ho_part_c2 W4 T3 3000 3 8192 ?_ (fun r4 q6 => ?_)
      · rw [R1]
        exact ⟨V1.2.2.2.2 _ _ _ G0.1.1, Or.inr (Or.inr ⟨rfl, rfl, rfl⟩)⟩
      intro W7
      intro M8
      rw [R1, V1.2.2.1] at q6
      refine ⟨fun c9 => ?_, fun c9 => ?_⟩
      · skip
        intro x10 hx10
        refine lp_b5 ?_ (fun d9 => ⟨rfl, ?_⟩)
        · rw [hn4, hx10, ix.2]; omega  -- d5
        · refine and_5 ?_ (fun o9 => ?_)  -- i6
          · refine ⟨rfl, rfl, ⟨Z1, R1, N1, I1⟩, l2, ⟨by rw [hx10, ix.2]; omega, by rw [hx10, ix.2]; omega⟩, fun x x0 x1 xt => ?_⟩
            rw [hx10, ix.2] at x1
            by_cases z : x.toInt = x4_3.toInt
            · rw [Int32.toInt_inj.mp z] at xt
              rw [xt] at q6
              exact absurd q6 c9
            · exact D1 x x0 (by omega) xt
          · have b0 : bt24 κ a0 x4_3.toNatClampNeg = 0 := by
              unfold bt24
              rw [on_24 l3.1 (by omega), if_neg (by rw [← q6]; exact c9)]
            have ek : x10.toNatClampNeg = x4_3.toNatClampNeg + 1 := by rw [hx10]; exact ix.1
            refine ⟨?_, fun x x0 x1 xt => ?_⟩
            · rw [ek]
              have e : sI (bt24 κ a0) (x4_3.toNatClampNeg + 1) = sI (bt24 κ a0) x4_3.toNatClampNeg + bt24 κ a0 x4_3.toNatClampNeg := rfl
              have := hE.1
              omega
            · rw [hx10, ix.2] at x1
              by_cases z : x.toInt = x4_3.toInt
              · rw [Int32.toInt_inj.mp z] at xt
                exact absurd (q6.trans xt) c9
              · exact hE.2 x x0 (by omega) xt
      · skip
        refine ⟨?_, ?_⟩
        · rw [inb_iff, R1, N1, L0.2.2.1]; omega  -- b7
        intro κ_11 hκ_11
        intro W12
        rw [R1] at hκ_11
        have r11 : zR κ_11 = zR κ := by rw [hκ_11]; exact R1
        have n11 : zN κ_11 = zN κ := by rw [hκ_11]; exact N1
        have nlb := od_ow9 W Ta0 (f := odLefts) (g := odBases) (by decide +kernel) (by decide +kernel) (by decide) (by decide) (by decide)
        have nrb := od_ow9 W Ta0 (f := odRights) (g := odBases) (by decide +kernel) (by decide +kernel) (by decide) (by decide) (by decide)
        have xl : zA κ_11 (zR κ odLefts a0) = zA κ (zR κ odLefts a0) := by
          rw [hκ_11]
          exact (if_neg nlb).trans wl.1
        have xr : zA κ_11 (zR κ odRights a0) = zA κ (zR κ odRights a0) := by
          rw [hκ_11]
          exact (if_neg nrb).trans wr.1
        have xb : zA κ_11 (zR κ odBases a0) = upd (zA κ4 (zR κ odBases a0)) x4_3.toNatClampNeg x4_2 := by
          rw [hκ_11]
          exact if_pos rfl
        have tag : pV9 κ (zR κ odGroups a0) x4_3 0 = 0 := by rw [← q6]; exact c9
        obtain ⟨⟨a1l, a2l⟩, a1r, a2r⟩ := (I0 x4_3 l3.1 (by omega)).1 tag
        have pp := pr_9 a1l a2l a1r a2r
        refine ⟨?_, ?_⟩
        · rw [inb_iff, r11, n11, L0.1]; omega  -- b8
        refine ⟨?_, ?_⟩
        · rw [inb_iff, r11, n11, L0.2.1]; omega  -- b9
        intro x13 hx13
        intro x14 hx14
        rw [r11, xl, xr] at hx13
        have em : (zA κ (zR κ odLefts a0) x4_3.toNatClampNeg * zA κ (zR κ odRights a0) x4_3.toNatClampNeg).toInt = (zA κ (zR κ odLefts a0) x4_3.toNatClampNeg).toInt * (zA κ (zR κ odRights a0) x4_3.toNatClampNeg).toInt := mul_i (by omega) (by omega)
        have ea : x13.toInt = x4_2.toInt + (zA κ (zR κ odLefts a0) x4_3.toNatClampNeg).toInt * (zA κ (zR κ odRights a0) x4_3.toNatClampNeg).toInt := by rw [hx13, add_i (by rw [em]; omega) (by rw [em]; omega), em]
        have o4 := W4.o (show zr odBases = some 20 by decide +kernel) (by decide) T4_0
        rw [R1] at o4
        have Z11 : zF (oneF odBases a0) κ κ_11 := Z1.tr (by rw [hκ_11]; exact zF_ua (by rw [o4]; exact ⟨rfl, rfl⟩))
        refine lp_b5 ?_ (fun d9 => ⟨rfl, ?_⟩)
        · rw [hn4, hx14, ix.2]; omega  -- d10
        · refine and_5 ?_ (fun o9 => ?_)  -- i11
          · refine ⟨rfl, rfl, ⟨Z11, r11, n11, by rw [hκ_11]; exact I1⟩, ⟨by rw [ea]; omega, by rw [ea]; omega⟩, ⟨by rw [hx14, ix.2]; omega, by rw [hx14, ix.2]; omega⟩, fun x x0 x1 xt => ?_⟩
            rw [hx14, ix.2] at x1
            rw [xb, ea]
            unfold upd
            have kx := cnk x0
            by_cases z : x.toInt = x4_3.toInt
            · rw [Int32.toInt_inj.mp z, if_pos rfl]
              exact ⟨l2.1, Int.le_refl _⟩
            · rw [if_neg (by omega)]
              have d := D1 x x0 (by omega) xt
              exact ⟨d.1, by omega⟩
          · have b0 : bt24 κ a0 x4_3.toNatClampNeg = (zA κ (zR κ odLefts a0) x4_3.toNatClampNeg).toInt * (zA κ (zR κ odRights a0) x4_3.toNatClampNeg).toInt := by
              unfold bt24
              rw [on_24 l3.1 (by omega), if_pos tag]
            have ek : x14.toNatClampNeg = x4_3.toNatClampNeg + 1 := by rw [hx14]; exact ix.1
            refine ⟨?_, fun x x0 x1 xt => ?_⟩
            · rw [ek]
              have e : sI (bt24 κ a0) (x4_3.toNatClampNeg + 1) = sI (bt24 κ a0) x4_3.toNatClampNeg + bt24 κ a0 x4_3.toNatClampNeg := rfl
              have := hE.1
              omega
            · rw [hx14, ix.2] at x1
              rw [xb]
              have kx := cnk x0
              by_cases z : x.toInt = x4_3.toInt
              · rw [Int32.toInt_inj.mp z, upd_eq]
                exact hE.1
              · rw [upd_ne (by omega)]
                exact hE.2 x x0 (by omega) xt

end
section
set_option maxHeartbeats 1600000
/-! the class: cells' nexts, linked in their order -/
def cx24 (κ : zS) (a : Nat) (x : Int32) : Int32 := zA κ (zR κ odCellOf a) (zA κ (zR κ atNumbers (zR κ odAtlas a)) x.toNatClampNeg).toNatClampNeg
def lx24 (κ τ : zS) (a n : Nat) (b : Int) : Prop := (∀ c, c < 1000 → (∀ x, lkN9 κ a n x → b ≤ x.toInt → (cx24 κ a x).toNatClampNeg = c → zA τ (zR κ odHeads a) c ≠ -1 ∧ (zA τ (zR κ odHeads a) c).toInt ≤ x.toInt) ∧ (zA τ (zR κ odHeads a) c ≠ -1 → (cx24 κ a (zA τ (zR κ odHeads a) c)).toNatClampNeg = c)) ∧ ∀ x, lkN9 κ a n x → b ≤ x.toInt → (∀ y, lkN9 κ a n y → x.toInt < y.toInt → cx24 κ a y = cx24 κ a x → zA τ (zR κ odLinks a) x.toNatClampNeg ≠ -1 ∧ (zA τ (zR κ odLinks a) x.toNatClampNeg).toInt ≤ y.toInt) ∧ (zA τ (zR κ odLinks a) x.toNatClampNeg ≠ -1 → (cx24 κ a (zA τ (zR κ odLinks a) x.toNatClampNeg)).toNatClampNeg = (cx24 κ a x).toNatClampNeg)
theorem lx_m24 {κ τ : zS} {a n : Nat} {b b' : Int} (h : lx24 κ τ a n b) (m : ∀ x, lkN9 κ a n x → b' ≤ x.toInt → b ≤ x.toInt) : lx24 κ τ a n b' := ⟨fun c hc => ⟨fun x hx hb => (h.1 c hc).1 x hx (m x hx hb), (h.1 c hc).2⟩, fun x hx hb => h.2 x hx (m x hx hb)⟩
theorem Od_linkCells_q6 {C : zC} {n0 : Nat} {a0 : Nat} {a1 : Int32} {κ : zS} {Q : Int32 → zS → Prop} (W : zW C n0 κ) (Ta0 : zT κ a0 = 9) (ρ : Nat → Nat) (n9 P9 : Nat) (hp : (odX9 ρ κ a0 n9 P9 ∧ tbL9 κ a0 ∧ (zR κ atStates (zR κ odAtlas a0) ≠ zR κ odGroups a0 ∧ zR κ atEndings (zR κ odAtlas a0) ≠ zR κ odGroups a0)) ∧ ((zI κ atNexts (zR κ odAtlas a0)).toInt ≤ (zN κ (zR κ odLinks a0)) ∧ a1.toInt ≤ 1000) ∧ ∀ k i, k < n9 → (zA κ (zR κ atFirsts (zR κ odAtlas a0)) k).toInt ≤ i.toInt → i.toInt < (zA κ (zR κ atFirsts (zR κ odAtlas a0)) (k + 1)).toInt → cE9 κ a0 k i → 0 ≤ (zA κ (zR κ odCellOf a0) (zA κ (zR κ atNumbers (zR κ odAtlas a0)) i.toNatClampNeg).toNatClampNeg).toInt ∧ (zA κ (zR κ odCellOf a0) (zA κ (zR κ atNumbers (zR κ odAtlas a0)) i.toNatClampNeg).toNatClampNeg).toInt < a1.toInt) (h : ∀ (v : Int32) (κ' : zS), ((nb v ∧ (zF (hlF9 a0) κ κ' ∧ rwE9 κ κ') ∧ lkB9 κ κ' a0 n9 0) ∧ (lx24 κ κ' a0 n9 0 ∧ (v ≠ 0 ↔ ∀ c : Nat, (c : Int) < a1.toInt → zA κ' (zR κ odHeads a0) c ≠ -1))) → Q v κ') : zRun C 2 mOd_linkCells [.ref a0, .int a1] κ (oI Q noX) := by
  refine Od_linkCells_run W Ta0 ?_
  replace W := W.lo (Nat.le_trans W.1.2.1 W.1.2.2) (Nat.le_refl (zn κ))
  unfold w_Od_linkCells_0
  obtain ⟨⟨X0, L0, hg⟩, ⟨nl, c10⟩, cc⟩ := hp
  have A0 := X0.2.2.1.1
  have hn := A0.2.2.1
  have l20k := A0.2.1.2.2
  have nx5 := A0.2.2.2.2.1
  have tot := A0.2.2.2.1
  have Tg := ty_odGroups W Ta0
  have eh := X0.2.2.2.2.2
  have lh : zN κ (zR κ odHeads a0) = 1000 := L0.2.2.2.2.2.1
  have nhl := od_ow9 W Ta0 (f := odHeads) (g := odLinks) (by decide +kernel) (by decide +kernel) (by decide) (by decide) (by decide)
  intro T1
  refine Ar_fill_c W T1  (fun κ_2 q3 => ?_)
  have x2 : zA κ_2 (zR κ odHeads a0) = fun k => if 0 ≤ k ∧ k < 1000 then -1 else zA κ (zR κ odHeads a0) k := by
    rw [q3, ← lh]
    exact if_pos rfl
  have Z2 : zF (hlF9 a0) κ κ_2 := by
    rw [q3]
    exact zF_uf (by rw [W.o (show zr odHeads = some 20 by decide +kernel) (by decide) Ta0]; exact ⟨rfl, Or.inl rfl⟩)
  have R2 : zR κ_2 = zR κ := by rw [q3]; rfl
  have N2 : zN κ_2 = zN κ := by rw [q3]; rfl
  have I2 : zI κ_2 = zI κ := by rw [q3]; rfl
  intro W4
  intro M5
  intro x6 hx6
  unfold w_Od_linkCells_21
  refine ⟨fun n l0 l1 l2 τ => n = (l2.toInt + 1).toNat ∧ ((a0 = l0 ∧ a1 = l1 ∧ (zF (hlF9 a0) κ τ ∧ rwE9 κ τ) ∧ (-1 ≤ l2.toInt ∧ l2.toInt < n9) ∧ lkB9 κ τ a0 n9 ((zA κ (zR κ atFirsts (zR κ odAtlas a0)) (l2.toInt + 1).toNat).toInt)) ∧ lx24 κ τ a0 n9 (zA κ (zR κ atFirsts (zR κ odAtlas a0)) (l2.toInt + 1).toNat).toInt), ⟨_, rfl, ?_⟩, ?_⟩
  · refine and_5 ?_ (fun o9 => ?_)  -- j1
    · rw [R2, I2] at hx6
      have ex : x6.toInt = (n9 : Int) - 1 := by
        rw [hx6, sub_i (by rw [tot, t1i]; omega) (by rw [tot, t1i]; omega), tot, t1i]
      refine ⟨rfl, rfl, ⟨Z2, R2, N2, I2⟩, ⟨by omega, by omega⟩, fun c hc => Or.inl ?_, fun x hx hb => ?_⟩
      · rw [x2]
        exact if_pos ⟨Nat.zero_le _, hc⟩
      · obtain ⟨k, h1, h2, h3, _⟩ := hx
        rw [ex, show ((n9 : Int) - 1 + 1).toNat = n9 by omega] at hb
        have q := fm_9 A0 n9 (k + 1) (by omega) (Nat.le_refl _)
        omega
    · rw [R2, I2] at hx6
      have ex : x6.toInt = (n9 : Int) - 1 := by
        rw [hx6, sub_i (by rw [tot, t1i]; omega) (by rw [tot, t1i]; omega), tot, t1i]
      have no : ∀ x, lkN9 κ a0 n9 x → ¬ (zA κ (zR κ atFirsts (zR κ odAtlas a0)) (x6.toInt + 1).toNat).toInt ≤ x.toInt := fun x hx hb => by
        obtain ⟨k, h1, h2, h3, _⟩ := hx
        rw [ex, show ((n9 : Int) - 1 + 1).toNat = n9 by omega] at hb
        have q := fm_9 A0 n9 (k + 1) (by omega) (Nat.le_refl _)
        omega
      refine ⟨fun c hc => ⟨fun x hx hb => absurd hb (no x hx), fun z => absurd ?_ z⟩, fun x hx hb => absurd hb (no x hx)⟩
      rw [x2]
      exact if_pos ⟨Nat.zero_le _, hc⟩
  rintro n21 _ _ x21_2 κ21 W21 T21_0 ⟨hn21, ⟨rfl, rfl, i21⟩, hE⟩
  obtain ⟨⟨Z1, R1, N1, I1⟩, l2, D1⟩ := i21
  obtain ⟨X1, _, _, g1, _⟩ := od_t9 W Ta0 Tg hlF9_t Z1 hg.1 hg.2 X0
  refine ⟨fun c7 => ?_, fun c7 => ?_⟩
  · skip
    unfold w_Od_linkCells_112
    refine ⟨fun n l0 l1 l2 τ => n = (l1.toInt - l2.toInt).toNat ∧ ((a0 = l0 ∧ a1 = l1 ∧ (zF (hlF9 a0) κ τ ∧ rwE9 κ τ) ∧ 0 ≤ l2.toInt ∧ lkB9 κ τ a0 n9 0) ∧ lx24 κ τ a0 n9 0 ∧ ∀ c : Nat, (c : Int) < l2.toInt → zA τ (zR κ odHeads a0) c ≠ -1), ⟨_, rfl, ?_⟩, ?_⟩
    · refine and_5 ?_ (fun o9 => ?_)  -- j2
      · rw [lti, t0i] at c7
        rw [show (x21_2.toInt + 1).toNat = 0 by omega] at D1
        refine ⟨rfl, rfl, ⟨Z1, R1, N1, I1⟩, by decide, fun c hc => ?_, fun x hx _ => ?_⟩
        · rcases D1.1 c hc with y | y
          · exact Or.inl y
          · obtain ⟨k, h1, h2, _⟩ := y.1
            have f0 := (A0.2.2.2.2.2 k h1).1.1
            exact Or.inr ⟨y.1, by omega⟩
        · have hx' := hx
          obtain ⟨k, h1, h2, _⟩ := hx'
          have q := fm_9 A0 k 0 (by omega) (by omega)
          exact D1.2 x hx (by omega)
      · rw [lti, t0i] at c7
        rw [show (x21_2.toInt + 1).toNat = 0 by omega] at hE
        refine ⟨lx_m24 hE (fun x hx _ => ?_), fun c hc => by rw [t0i] at hc; omega⟩
        obtain ⟨k, h1, h2, _⟩ := hx
        have q := fm_9 A0 k 0 (by omega) (by omega)
        omega
    rintro n112 _ _ x112_2 κ112 W112 T112_0 ⟨hn112, ⟨rfl, rfl, i112⟩, hE⟩
    obtain ⟨⟨Z2, R2, N2, I2⟩, l20, D2⟩ := i112
    refine ⟨fun c8 => ?_, fun c8 => ?_⟩
    · skip
      refine h _ _ ?_
      · refine and_5 ?_ (fun o9 => ?_)  -- q3
        · exact ⟨nb_1, ⟨Z2, R2, N2, I2⟩, D2⟩
        · refine ⟨hE.1, fun _ c hc => hE.2 c ?_, fun _ => by decide⟩
          rw [lei] at c8
          omega
    · skip
      rw [lei] at c8
      have ix := cn1 (x := x112_2) l20 (by omega)
      refine ⟨?_, ?_⟩
      · rw [inb_iff, R2, N2, lh]; omega  -- b4
      refine ⟨fun c9 => ?_, fun c9 => ?_⟩
      · skip
        intro x10 hx10
        refine lp_b5 ?_ (fun d9 => ⟨rfl, ?_⟩)
        · rw [hn112, hx10, ix.2]; omega  -- d5
        · refine and_5 ?_ (fun o9 => ?_)  -- i6
          · exact ⟨rfl, rfl, ⟨Z2, R2, N2, I2⟩, by rw [hx10, ix.2]; omega, D2⟩
          · have ix := cn1 (x := x112_2) l20 (by omega)
            have kk := cnk l20
            refine ⟨hE.1, fun c hc => ?_⟩
            rw [hx10, ix.2] at hc
            by_cases z : c = x112_2.toNatClampNeg
            · rw [z, ← R2]
              exact c9
            · exact hE.2 c (by omega)
      · skip
        refine h _ _ ?_
        · refine and_5 ?_ (fun o9 => ?_)  -- q7
          · exact ⟨nb_0, ⟨Z2, R2, N2, I2⟩, D2⟩
          · have kk := cnk l20
            refine ⟨hE.1, fun z => absurd rfl z, fun z => absurd ?_ (z x112_2.toNatClampNeg (by omega))⟩
            rw [← R2]
            first | exact c9 | exact Classical.not_not.mp c9
  · skip
    rw [lti, t0i] at c7
    have k2 := cnk (x := x21_2) (by omega)
    have i1 := cn1 (x := x21_2) (by omega) (by omega)
    have f1 := g1 atFirsts (by decide)
    have hk9 : x21_2.toNatClampNeg < n9 := by omega
    obtain ⟨⟨f0, f01, f02⟩, nx, -⟩ := A0.2.2.2.2.2 x21_2.toNatClampNeg hk9
    rw [show (x21_2.toInt + 1).toNat = x21_2.toNatClampNeg + 1 by omega] at D1
    refine ⟨?_, ?_⟩
    · rw [inb_iff, i1.2, f1.2, A0.1.1]; omega  -- b8
    intro x11 hx11
    unfold w_Od_linkCells_39
    refine ⟨fun n l0 l1 l2 l3 τ => n = (l3.toInt + 1).toNat ∧ ((a0 = l0 ∧ a1 = l1 ∧ (zF (hlF9 a0) κ τ ∧ rwE9 κ τ) ∧ (x21_2 = l2 ∧ (zA κ (zR κ atFirsts (zR κ odAtlas a0)) x21_2.toNatClampNeg).toInt - 1 ≤ l3.toInt ∧ l3.toInt < (zA κ (zR κ atFirsts (zR κ odAtlas a0)) (x21_2.toNatClampNeg + 1)).toInt) ∧ lkB9 κ τ a0 n9 (l3.toInt + 1)) ∧ lx24 κ τ a0 n9 (l3.toInt + 1)), ⟨_, rfl, ?_⟩, ?_⟩
    · refine and_5 ?_ (fun o9 => ?_)  -- j9
      · rw [f1.1, i1.1] at hx11
        have ex : x11.toInt = (zA κ (zR κ atFirsts (zR κ odAtlas a0)) (x21_2.toNatClampNeg + 1)).toInt - 1 := by
          rw [hx11, sub_i (by rw [t1i]; omega) (by rw [t1i]; omega), t1i]
        refine ⟨rfl, rfl, ⟨Z1, R1, N1, I1⟩, ⟨rfl, by omega, by omega⟩, ?_⟩
        rw [ex, show (zA κ (zR κ atFirsts (zR κ odAtlas a0)) (x21_2.toNatClampNeg + 1)).toInt - 1 + 1 = (zA κ (zR κ atFirsts (zR κ odAtlas a0)) (x21_2.toNatClampNeg + 1)).toInt by omega]
        exact D1
      · rw [f1.1, i1.1] at hx11
        have ex : x11.toInt = (zA κ (zR κ atFirsts (zR κ odAtlas a0)) (x21_2.toNatClampNeg + 1)).toInt - 1 := by
          rw [hx11, sub_i (by rw [t1i]; omega) (by rw [t1i]; omega), t1i]
        rw [ex, show (zA κ (zR κ atFirsts (zR κ odAtlas a0)) (x21_2.toNatClampNeg + 1)).toInt - 1 + 1 = (zA κ (zR κ atFirsts (zR κ odAtlas a0)) (x21_2.toNatClampNeg + 1)).toInt by omega]
        rw [show (x21_2.toInt + 1).toNat = x21_2.toNatClampNeg + 1 by omega] at hE
        exact hE
    rintro n39 _ _ x39_2 x39_3 κ39 W39 T39_0 ⟨hn39, ⟨rfl, rfl, i39⟩, hE⟩
    obtain ⟨⟨Z3, R3, N3, I3⟩, ⟨rfl, l31, l32⟩, D3⟩ := i39
    obtain ⟨X3, ce3, _, g3, _⟩ := od_t9 W Ta0 Tg hlF9_t Z3 hg.1 hg.2 X0
    have f3 := g3 atFirsts (by decide)
    have n3 := g3 atNumbers (by decide)
    refine ⟨?_, ?_⟩
    · rw [inb_iff, f3.2, A0.1.1]; omega  -- b10
    refine ⟨fun c12 => ?_, fun c12 => ?_⟩
    · skip
      intro x13 hx13
      refine lp_b5 ?_ (fun d9 => ⟨rfl, ?_⟩)
      · have e13 : x13.toInt = x21_2.toInt - 1 := by rw [hx13]; exact dm1_9 (Int.not_lt.mp c7)
        rw [hn21]; omega
      · refine and_5 ?_ (fun o9 => ?_)  -- i12
        · rw [f3.1, lti] at c12
          have e13 : x13.toInt = x21_2.toInt - 1 := by rw [hx13]; exact dm1_9 (Int.not_lt.mp c7)
          refine ⟨rfl, rfl, ⟨Z3, R3, N3, I3⟩, ⟨by omega, by omega⟩, ?_⟩
          rw [show (x13.toInt + 1).toNat = x21_2.toNatClampNeg by omega]
          rw [show x39_3.toInt + 1 = (zA κ (zR κ atFirsts (zR κ odAtlas a0)) x21_2.toNatClampNeg).toInt by omega] at D3
          exact D3
        · rw [f3.1, lti] at c12
          have e13 : x13.toInt = x21_2.toInt - 1 := by rw [hx13]; exact dm1_9 (Int.not_lt.mp c7)
          rw [show (x13.toInt + 1).toNat = x21_2.toNatClampNeg by omega]
          rw [show x39_3.toInt + 1 = (zA κ (zR κ atFirsts (zR κ odAtlas a0)) x21_2.toNatClampNeg).toInt by omega] at hE
          exact hE
    · skip
      intro T14
      rw [f3.1, lti] at c12
      have k3 := cnk (x := x39_3) (by omega)
      have p39 : 0 ≤ x39_3.toInt := by omega
      refine Od_comesToEnd_c W39 T14 ρ n9 P9 ?_ (fun r15 q17 => ?_)
      · exact ⟨X3, ⟨by omega, by omega⟩, by omega, by rw [n3.2]; omega⟩  -- p13
      intro W18
      intro M19
      have ce9 := ce3 x21_2.toNatClampNeg x39_3 hk9
      have q14 := Iff.trans q17.2 ce9
      refine ⟨fun c20 => ?_, fun c20 => ?_⟩
      · skip
        intro x21 hx21
        refine lp_b5 ?_ (fun d9 => ⟨rfl, ?_⟩)
        · have e21 : x21.toInt = x39_3.toInt - 1 := by rw [hx21]; exact dm1_9 p39
          rw [hn39]; omega
        · refine and_5 ?_ (fun o9 => ?_)  -- i15
          · have e21 : x21.toInt = x39_3.toInt - 1 := by rw [hx21]; exact dm1_9 p39
            refine ⟨rfl, rfl, ⟨Z3, R3, N3, I3⟩, ⟨rfl, by omega, by omega⟩, fun c hc => ?_, fun x hx hb => ?_⟩
            · rcases D3.1 c hc with y | y
              · exact Or.inl y
              · exact Or.inr ⟨y.1, by omega⟩
            · by_cases z : x.toInt = x39_3.toInt
              · exfalso
                have ex := Int32.toInt_inj.mp z
                obtain ⟨k, h1, h2, h3, h4⟩ := hx
                have ek := fu_9 A0 h1 hk9 h2 h3 (by omega) (by omega)
                rw [ek, ex] at h4
                exact absurd c20 (q14.mpr h4)
              · exact D3.2 x hx (by omega)
          · have e21 : x21.toInt = x39_3.toInt - 1 := by rw [hx21]; exact dm1_9 p39
            refine lx_m24 hE (fun x hx hb => ?_)
            by_cases z : x.toInt = x39_3.toInt
            · exfalso
              have ex := Int32.toInt_inj.mp z
              obtain ⟨k, h1, h2, h3, h4⟩ := hx
              have ek := fu_9 A0 h1 hk9 h2 h3 (by omega) (by omega)
              rw [ek, ex] at h4
              exact absurd c20 (q14.mpr h4)
            · omega
      · skip
        have ce := q14.mp c20
        have s1 : zA κ (zR κ atSorts (zR κ odAtlas a0)) x39_3.toNatClampNeg = 1 := ce.1
        have nb3 := (nx x39_3.toNatClampNeg (by omega) (by omega)).2.1 s1
        have ke := cnk nb3.1
        have eM := eh.2.1.2
        have ec : zR κ39 odCellOf a0 = zR κ odCellOf a0 := by rw [R3]
        have eh9 : zR κ39 odHeads a0 = zR κ odHeads a0 := by rw [R3]
        have el9 : zR κ39 odLinks a0 = zR κ odLinks a0 := by rw [R3]
        have wc := Z3.row W (f := odCellOf) (t := 20) (by decide +kernel) (by decide) Ta0 (fun z => absurd z.2 (by decide))
        rw [R3] at wc
        have cl := cc x21_2.toNatClampNeg x39_3 hk9 (by omega) (by omega) ce
        have kc := cnk cl.1
        have lkn : lkN9 κ a0 n9 x39_3 := ⟨x21_2.toNatClampNeg, hk9, by omega, by omega, ce⟩
        refine ⟨?_, ?_⟩
        · rw [inb_iff, n3.2]; omega  -- b16
        refine ⟨?_, ?_⟩
        · rw [n3.1, inb_iff, ec, N3, L0.2.2.2.2.1]; omega  -- b17
        intro x22 hx22
        rw [n3.1, ec, wc.1] at hx22
        rw [← hx22] at cl kc
        refine ⟨?_, ?_⟩
        · rw [inb_iff, eh9, N3, lh]; omega  -- b18
        refine ⟨?_, ?_⟩
        · rw [inb_iff, el9, N3]; omega  -- b19
        intro κ_23 hκ_23
        intro W24
        rw [el9, eh9] at hκ_23
        have r23 : zR κ_23 = zR κ := by rw [hκ_23]; exact R3
        have n23 : zN κ_23 = zN κ := by rw [hκ_23]; exact N3
        refine ⟨?_, ?_⟩
        · rw [inb_iff, r23, n23, lh]; omega  -- b20
        intro κ_25 hκ_25
        intro W26
        intro x27 hx27
        rw [r23] at hκ_25
        have xh : zA κ_25 (zR κ odHeads a0) = upd (zA κ39 (zR κ odHeads a0)) x22.toNatClampNeg x39_3 := by
          rw [hκ_25]
          refine (if_pos rfl).trans ?_
          have q : zA κ_23 (zR κ odHeads a0) = zA κ39 (zR κ odHeads a0) := by
            rw [hκ_23]
            exact if_neg nhl
          show upd (zA κ_23 (zR κ odHeads a0)) _ _ = _
          rw [q]
        have xl : zA κ_25 (zR κ odLinks a0) = upd (zA κ39 (zR κ odLinks a0)) x39_3.toNatClampNeg (zA κ39 (zR κ odHeads a0) x22.toNatClampNeg) := by
          rw [hκ_25]
          refine (if_neg (Ne.symm nhl)).trans ?_
          rw [hκ_23]
          exact if_pos rfl
        have oh := W39.o (show zr odHeads = some 20 by decide +kernel) (by decide) T39_0
        have ol := W39.o (show zr odLinks = some 20 by decide +kernel) (by decide) T39_0
        rw [eh9] at oh
        rw [el9] at ol
        have Z23 : zF (hlF9 a0) κ κ_23 := Z3.tr (by rw [hκ_23]; exact zF_ua (by rw [ol]; exact ⟨rfl, Or.inr rfl⟩))
        have o23 : zO κ_23 = zO κ39 := by rw [hκ_23]; rfl
        have Z25 : zF (hlF9 a0) κ κ_25 := Z23.tr (by rw [hκ_25]; exact zF_ua (by rw [o23, oh]; exact ⟨rfl, Or.inl rfl⟩))
        refine lp_b5 ?_ (fun d9 => ⟨rfl, ?_⟩)
        · have e27 : x27.toInt = x39_3.toInt - 1 := by rw [hx27]; exact dm1_9 p39
          rw [hn39]; omega
        · refine and_5 ?_ (fun o9 => ?_)  -- i22
          · have e27 : x27.toInt = x39_3.toInt - 1 := by rw [hx27]; exact dm1_9 p39
            refine ⟨rfl, rfl, ⟨Z25, by rw [hκ_25]; exact r23, by rw [hκ_25]; exact n23, by rw [hκ_25, hκ_23]; exact I3⟩, ⟨rfl, by omega, by omega⟩, fun c hc => ?_, fun x hx hb => ?_⟩
            · rw [xh]
              unfold upd
              by_cases z : c = x22.toNatClampNeg
              · rw [if_pos z]
                exact Or.inr ⟨lkn, by omega⟩
              · rw [if_neg z]
                rcases D3.1 c hc with y | y
                · exact Or.inl y
                · exact Or.inr ⟨y.1, by omega⟩
            · have x0 : 0 ≤ x.toInt := by
                obtain ⟨k, h1, h2, _⟩ := id hx
                have f9 := (A0.2.2.2.2.2 k h1).1.1
                omega
              have kx := cnk x0
              rw [xl]
              unfold upd
              by_cases z : x.toInt = x39_3.toInt
              · have ex := Int32.toInt_inj.mp z
                rw [ex, if_pos rfl]
                rcases D3.1 x22.toNatClampNeg (by omega) with y | y
                · exact Or.inl y
                · exact Or.inr ⟨y.1, by omega⟩
              · rw [if_neg (by omega)]
                exact D3.2 x hx (by omega)
          · have e27 : x27.toInt = x39_3.toInt - 1 := by rw [hx27]; exact dm1_9 p39
            have cp : cx24 κ a0 x39_3 = x22 := hx22.symm
            have x0 : ∀ x, lkN9 κ a0 n9 x → 0 ≤ x.toInt := fun x hx => by
              obtain ⟨k, h1, h2, _⟩ := hx
              have f9 := (A0.2.2.2.2.2 k h1).1.1
              omega
            refine ⟨fun c hc => ?_, fun x hx hb => ?_⟩
            · rw [xh]
              by_cases z : c = x22.toNatClampNeg
              · rw [z, upd_eq]
                exact ⟨fun x hx hb _ => ⟨fun y => by rw [y, tmi] at p39; omega, by omega⟩, fun _ => by rw [cp]⟩
              · rw [upd_ne z]
                refine ⟨fun x hx hb hc' => (hE.1 c hc).1 x hx ?_ hc', (hE.1 c hc).2⟩
                by_cases y : x.toInt = x39_3.toInt
                · rw [Int32.toInt_inj.mp y, cp] at hc'
                  exact absurd hc'.symm z
                · omega
            · rw [xl]
              by_cases z : x = x39_3
              · rw [z, upd_eq, cp]
                have H := hE.1 x22.toNatClampNeg (by omega)
                exact ⟨fun y hy hl he => H.1 y hy (by omega) (by rw [he]), fun w => H.2 w⟩
              · have nx : x.toNatClampNeg ≠ x39_3.toNatClampNeg := nt_24 (x0 x hx) p39 z
                rw [upd_ne nx]
                have n2 : ¬ x.toInt = x39_3.toInt := fun y => z (Int32.toInt_inj.mp y)
                exact hE.2 x hx (by omega)

end
section
set_option maxHeartbeats 1600000
/-! the class: groups of endings, and what has a cell -/
def ro24 (β τ : zS) (a : Nat) (i j t e T : Int32) (L R : Nat) : Prop := 0 ≤ T.toInt ∧ hkS9 τ (zR β odGroups a) 8192 (tK9 β a e t) 3 T.toNatClampNeg ∧ hkS9 τ (zR β odGroups a) 8192 (k39 1 T (pV9 β (zR β atEndings (zR β odAtlas a)) e i)) 3 L ∧ hkS9 τ (zR β odGroups a) 8192 (k39 2 T (pV9 β (zR β atEndings (zR β odAtlas a)) e j)) 3 R
def mk24 (β : zS) (a : Nat) (m : Int) (e : Int32) : Prop := 0 ≤ e.toInt ∧ e.toInt < m ∧ zA β (zR β odCellOf a) e.toNatClampNeg ≠ -1
/-- each group is of an ending that counts -/
def us24 (β τ : zS) (a : Nat) (i j t : Int32) (m : Int) : Prop := ∀ x : Nat, (x : Int) < (zI τ hoTotal (zR β odGroups a)).toInt → ∃ e T L R, mk24 β a m e ∧ ro24 β τ a i j t e T L R ∧ (x = T.toNatClampNeg ∨ x = L ∨ x = R)
def pl24 (β τ : zS) (a : Nat) : Prop := ∀ x : Int32, 0 ≤ x.toInt → x.toInt < (zI τ hoTotal (zR β odGroups a)).toInt → pV9 τ (zR β odGroups a) x 0 = 0 → (zA τ (zR τ odBases a) x.toNatClampNeg).toInt = sI (bt24 τ a) x.toNatClampNeg
def ci24 (b lf rt p q : Int) : Int := b + (if lf < rt then q * lf + p else p * rt + q)
def ce24 (τ : zS) (a : Nat) (T : Int32) (L R : Nat) : Int := ci24 (zA τ (zR τ odBases a) T.toNatClampNeg).toInt (zA τ (zR τ odLefts a) T.toNatClampNeg).toInt (zA τ (zR τ odRights a) T.toNatClampNeg).toInt (zA τ (zR τ odRanks a) L).toInt (zA τ (zR τ odRanks a) R).toInt
def xc24 (β τ : zS) (a : Nat) (i j t : Int32) (m : Int) : Prop := ∀ e, mk24 β a m e → ∃ T L R, ro24 β τ a i j t e T L R ∧ (zA τ (zR τ odCellOf a) e.toNatClampNeg).toInt = ce24 τ a T L R
def fz24 (P : Nat → Prop) (τ τ' : zS) (a g : Nat) : Prop := (∀ f, f / 100 = 9 → zR τ' f a = zR τ f a) ∧ (zI τ' hoTotal g).toInt = (zI τ hoTotal g).toInt ∧ (∀ K L x, hkS9 τ g 8192 K L x → hkS9 τ' g 8192 K L x) ∧ (∀ x i : Int32, x.toInt < (zI τ hoTotal g).toInt → pV9 τ' g x i = pV9 τ g x i) ∧ ∀ f, (f = odLefts ∨ f = odRights ∨ f = odRanks ∨ P f) → zA τ' (zR τ' f a) = zA τ (zR τ f a)
theorem ro_m24 {β τ τ' : zS} {a : Nat} {i j t e T : Int32} {L R : Nat} (p : ∀ K L x, hkS9 τ (zR β odGroups a) 8192 K L x → hkS9 τ' (zR β odGroups a) 8192 K L x) (h : ro24 β τ a i j t e T L R) : ro24 β τ' a i j t e T L R := ⟨h.1, p _ _ _ h.2.1, p _ _ _ h.2.2.1, p _ _ _ h.2.2.2⟩
theorem us_m24 {β τ τ' : zS} {a : Nat} {i j t : Int32} {m m' : Int} (p : ∀ K L x, hkS9 τ (zR β odGroups a) 8192 K L x → hkS9 τ' (zR β odGroups a) 8192 K L x) (ht : (zI τ' hoTotal (zR β odGroups a)).toInt = (zI τ hoTotal (zR β odGroups a)).toInt) (hm : m ≤ m') (U : us24 β τ a i j t m) : us24 β τ' a i j t m' := fun x hx => by
  rw [ht] at hx
  obtain ⟨e, T, L, R, ⟨h1, h2, h3⟩, h4, h5⟩ := U x hx
  exact ⟨e, T, L, R, ⟨h1, by omega, h3⟩, ro_m24 p h4, h5⟩
theorem us_n24 {β τ τ1 τ2 τ3 : zS} {a : Nat} {i j t e T : Int32} {L R : Nat} (U : us24 β τ a i j t e.toInt) (mk : mk24 β a (e.toInt + 1) e) (p1 : ∀ K L x, hkS9 τ (zR β odGroups a) 8192 K L x → hkS9 τ1 (zR β odGroups a) 8192 K L x) (p2 : ∀ K L x, hkS9 τ1 (zR β odGroups a) 8192 K L x → hkS9 τ2 (zR β odGroups a) 8192 K L x) (p3 : ∀ K L x, hkS9 τ2 (zR β odGroups a) 8192 K L x → hkS9 τ3 (zR β odGroups a) 8192 K L x) (n1 : nw24 τ τ1 (zR β odGroups a) (tK9 β a e t)) (n2 : nw24 τ1 τ2 (zR β odGroups a) (k39 1 T (pV9 β (zR β atEndings (zR β odAtlas a)) e i))) (n3 : nw24 τ2 τ3 (zR β odGroups a) (k39 2 T (pV9 β (zR β atEndings (zR β odAtlas a)) e j))) (r : ro24 β τ3 a i j t e T L R) : us24 β τ3 a i j t (e.toInt + 1) := fun x hx => by
  have new : (x = T.toNatClampNeg ∨ x = L ∨ x = R) → ∃ e' T L R, mk24 β a (e.toInt + 1) e' ∧ ro24 β τ3 a i j t e' T L R ∧ (x = T.toNatClampNeg ∨ x = L ∨ x = R) := fun z => ⟨e, T, L, R, mk, r, z⟩
  by_cases c2 : (x : Int) < (zI τ2 hoTotal (zR β odGroups a)).toInt
  · by_cases c1 : (x : Int) < (zI τ1 hoTotal (zR β odGroups a)).toInt
    · by_cases c0 : (x : Int) < (zI τ hoTotal (zR β odGroups a)).toInt
      · obtain ⟨e', T', L', R', ⟨h1, h2, h3⟩, h4, h5⟩ := U x c0
        exact ⟨e', T', L', R', ⟨h1, by omega, h3⟩, ro_m24 (fun K L x H => p3 _ _ _ (p2 _ _ _ (p1 _ _ _ H))) h4, h5⟩
      · rcases n1 with z | z
        · exact absurd c1 (by rw [z]; exact c0)
        · refine new (Or.inl (hkS_u24 ?_ r.2.1))
          rw [show x = (zI τ hoTotal (zR β odGroups a)).toInt.toNat by omega]
          exact p3 _ _ _ (p2 _ _ _ z.2)
    · rcases n2 with z | z
      · exact absurd c2 (by rw [z]; exact c1)
      · refine new (Or.inr (Or.inl (hkS_u24 ?_ r.2.2.1)))
        rw [show x = (zI τ1 hoTotal (zR β odGroups a)).toInt.toNat by omega]
        exact p3 _ _ _ z.2
  · rcases n3 with z | z
    · exact absurd hx (by rw [z]; exact c2)
    · refine new (Or.inr (Or.inr (hkS_u24 ?_ r.2.2.2)))
      rw [show x = (zI τ2 hoTotal (zR β odGroups a)).toInt.toNat by omega]
      exact z.2
section
variable {P : Nat → Prop} {β τ τ' : zS} {a : Nat} {i j t : Int32} {m : Int}
theorem gr_f24 (F : fz24 P τ τ' a (zR τ odGroups a)) (h : gr24 τ a) : gr24 τ' a := by
  obtain ⟨f1, f2, f3, f4, f5⟩ := F
  unfold gr24
  rw [f1 odGroups (by decide), f2, f5 odLefts (Or.inl rfl), f5 odRights (Or.inr (Or.inl rfl)), f5 odRanks (Or.inr (Or.inr (Or.inl rfl)))]
  exact gR_e24 h (fun x hx => f4 x 0 hx) (fun x hx => f4 x 1 hx)
theorem bt_f24 (F : fz24 P τ τ' a (zR τ odGroups a)) {x : Nat} (t3 : (zI τ hoTotal (zR τ odGroups a)).toInt ≤ 3000) (hx : (x : Int) < (zI τ hoTotal (zR τ odGroups a)).toInt) : bt24 τ' a x = bt24 τ a x := by
  obtain ⟨f1, f2, f3, f4, f5⟩ := F
  unfold bt24
  rw [f1 odGroups (by decide), f5 odLefts (Or.inl rfl), f5 odRights (Or.inr (Or.inl rfl)), f4 _ _ (by rw [ofn_i (by omega)]; exact hx)]
theorem us_f24 (eg : zR τ odGroups a = zR β odGroups a) (F : fz24 P τ τ' a (zR τ odGroups a)) (U : us24 β τ a i j t m) : us24 β τ' a i j t m := by
  rw [eg] at F
  exact us_m24 F.2.2.1 F.2.1 (Int.le_refl _) U
theorem pl_f24 (eg : zR τ odGroups a = zR β odGroups a) (t3 : (zI τ hoTotal (zR τ odGroups a)).toInt ≤ 3000) (F : fz24 P τ τ' a (zR τ odGroups a)) (hb : P odBases) (D : pl24 β τ a) : pl24 β τ' a := fun x x0 x1 xt => by
  have k := cnk x0
  have F' := F
  rw [eg] at F' t3
  rw [F'.2.1] at x1
  rw [F'.2.2.2.1 x 0 x1] at xt
  rw [F.2.2.2.2 odBases (Or.inr (Or.inr (Or.inr hb))), D x x0 x1 xt]
  exact sI_c (fun y hy => (bt_f24 F (by rw [eg]; exact t3) (by rw [eg]; omega)).symm)
theorem si_f24 (t3 : (zI τ hoTotal (zR τ odGroups a)).toInt ≤ 3000) (F : fz24 P τ τ' a (zR τ odGroups a)) : sI (bt24 τ' a) (zI τ' hoTotal (zR τ' odGroups a)).toInt.toNat = sI (bt24 τ a) (zI τ hoTotal (zR τ odGroups a)).toInt.toNat := by
  rw [F.1 odGroups (by decide), F.2.1]
  exact sI_c (fun y hy => bt_f24 F t3 (by omega))
theorem ce_f24 {T : Int32} {L R : Nat} (F : fz24 P τ τ' a (zR τ odGroups a)) (hb : P odBases) : ce24 τ' a T L R = ce24 τ a T L R := by
  unfold ce24
  rw [F.2.2.2.2 odBases (Or.inr (Or.inr (Or.inr hb))), F.2.2.2.2 odLefts (Or.inl rfl), F.2.2.2.2 odRights (Or.inr (Or.inl rfl)), F.2.2.2.2 odRanks (Or.inr (Or.inr (Or.inl rfl)))]
theorem xc_f24 (eg : zR τ odGroups a = zR β odGroups a) (F : fz24 P τ τ' a (zR τ odGroups a)) (hb : P odBases) (hc : P odCellOf) (X : xc24 β τ a i j t m) : xc24 β τ' a i j t m := fun e he => by
  obtain ⟨T, L, R, h1, h2⟩ := X e he
  refine ⟨T, L, R, ro_m24 (by rw [eg] at F; exact F.2.2.1) h1, ?_⟩
  rw [ce_f24 F hb, F.2.2.2.2 odCellOf (Or.inr (Or.inr (Or.inr hc)))]
  exact h2
theorem xc_u24 {e T : Int32} {L R : Nat} (eg : zR τ odGroups a = zR β odGroups a) (F : fz24 P τ τ' a (zR τ odGroups a)) (hb : P odBases) (he : 0 ≤ e.toInt) {v : Int32} (hc : zA τ' (zR τ' odCellOf a) = upd (zA τ (zR τ odCellOf a)) e.toNatClampNeg v) (r : ro24 β τ a i j t e T L R) (hv : v.toInt = ce24 τ a T L R) (X : xc24 β τ a i j t e.toInt) : xc24 β τ' a i j t (e.toInt + 1) := fun f hf => by
  have p : ∀ K L x, hkS9 τ (zR β odGroups a) 8192 K L x → hkS9 τ' (zR β odGroups a) 8192 K L x := by
    have F' := F
    rw [eg] at F'
    exact F'.2.2.1
  by_cases z : f = e
  · rw [z]
    exact ⟨T, L, R, ro_m24 p r, by rw [hc, upd_eq, ce_f24 F hb]; exact hv⟩
  · have n : ¬ f.toInt = e.toInt := fun y => z (Int32.toInt_inj.mp y)
    obtain ⟨T', L', R', h1, h2⟩ := X f ⟨hf.1, by have := hf.2.1; omega, hf.2.2⟩
    exact ⟨T', L', R', ro_m24 p h1, by rw [hc, upd_ne (nt_24 hf.1 he z), ce_f24 F hb]; exact h2⟩
end
theorem fz_n24 {C : zC} {n0 a : Nat} {τ τ' : zS} (W : zW C n0 τ) (Ta : zT τ a = 9) (S : tbS9 τ τ' a) (N : tbN9 τ τ' a) : fz24 (fun f => f = odBases ∨ f = odCellOf) τ τ' a (zR τ odGroups a) := by
  have K := tb_k9 W Ta S N
  refine ⟨S.2.1, N.1, S.2.2.2.2.1, S.2.2.2.2.2, fun f hf => K.2.2.1 f ?_⟩
  rcases hf with h | h | h | h | h
  · exact Or.inl h
  · exact Or.inr (Or.inl h)
  · exact Or.inr (Or.inr (Or.inl h))
  · exact Or.inr (Or.inr (Or.inr (Or.inl h)))
  · exact Or.inr (Or.inr (Or.inr (Or.inr h)))
theorem fz_z24 {C : zC} {n0 a : Nat} {F : Nat → Nat → Prop} {P : Nat → Prop} {τ τ' : zS} (W : zW C n0 τ) (Ta : zT τ a = 9) (Z : zF F τ τ') (R : zR τ' = zR τ) (h9 : ∀ f b, F f b → f / 100 = 9) (hF : ∀ f b, F f b → ¬ (f = odLefts ∨ f = odRights ∨ f = odRanks ∨ P f)) (hP : ∀ f, P f → zr f = some 20 ∧ f / 100 = 9) : fz24 P τ τ' a (zR τ odGroups a) := by
  have V := ho_t9 W (ty_odGroups W Ta) Z h9
  refine ⟨fun f _ => by rw [R], by rw [V.2.2.2.1], fun K L x H => (V.1 _ _ _ _).mpr H, fun x i _ => by rw [V.2.2.1], fun f hf => ?_⟩
  have t : zr f = some 20 ∧ f / 100 = 9 := by
    rcases hf with h | h | h | h
    · rw [h]; exact ⟨by decide +kernel, by decide⟩
    · rw [h]; exact ⟨by decide +kernel, by decide⟩
    · rw [h]; exact ⟨by decide +kernel, by decide⟩
    · exact hP f h
  exact (Z.row W t.1 (by decide) (Ta.trans t.2.symm) (fun z => hF _ _ z hf)).1
/-! cells by their numbers -/
theorem dc_a24 {f : Nat → Int} {x : Int} (x0 : 0 ≤ x) : ∀ {n : Nat}, x < sI f n → ∃ g, g < n ∧ sI f g ≤ x ∧ x < sI f g + f g := by
  intro n
  induction n with
  | zero => intro h; exact absurd h (by show ¬ x < 0; omega)
  | succ n ih =>
    intro h
    by_cases c : x < sI f n
    · obtain ⟨g, g1, g2⟩ := ih c
      exact ⟨g, by omega, g2⟩
    · exact ⟨n, by omega, by omega, h⟩
theorem dc_u24 {f : Nat → Int} {x : Int} {n g g' : Nat} (nn : ∀ i, i < n → 0 ≤ f i) (hg : g < n) (hg' : g' < n) (h : sI f g ≤ x ∧ x < sI f g + f g) (h' : sI f g' ≤ x ∧ x < sI f g' + f g') : g = g' := by
  rcases Nat.lt_trichotomy g g' with c | c | c
  · have m := sI_m24 (f := f) (k := g + 1) (n := g') c (fun i hi => nn i (by omega))
    have e : sI f (g + 1) = sI f g + f g := rfl
    omega
  · exact c
  · have m := sI_m24 (f := f) (k := g' + 1) (n := g) c (fun i hi => nn i (by omega))
    have e : sI f (g' + 1) = sI f g' + f g' := rfl
    omega
theorem rc_u24 {w r c r' c' : Int} (h1 : 0 ≤ c) (h2 : c < w) (h3 : 0 ≤ c') (h4 : c' < w) (h : r * w + c = r' * w + c') : r = r' ∧ c = c' := by
  have k : r = r' := by
    rcases Int.lt_trichotomy r r' with z | z | z
    · have m : (r + 1) * w ≤ r' * w := Int.mul_le_mul_of_nonneg_right z (by omega)
      rw [Int.add_mul, Int.one_mul] at m
      omega
    · exact z
    · have m : (r' + 1) * w ≤ r * w := Int.mul_le_mul_of_nonneg_right z (by omega)
      rw [Int.add_mul, Int.one_mul] at m
      omega
  rw [k] at h
  exact ⟨k, by omega⟩
theorem rc_e24 {w l x : Int} (x0 : 0 ≤ x) (h : x < l * w) (w0 : 0 ≤ w) : ∃ r c : Int, 0 ≤ r ∧ r < l ∧ 0 ≤ c ∧ c < w ∧ x = r * w + c := by
  have wp : 0 < w := by
    rcases Int.lt_or_eq_of_le w0 with z | z
    · exact z
    · rw [← z, Int.mul_zero] at h; omega
  refine ⟨x / w, x % w, Int.ediv_nonneg x0 w0, ?_, Int.emod_nonneg x (by omega), Int.emod_lt_of_pos x wp, ?_⟩
  · exact Int.ediv_lt_of_lt_mul wp h
  · rw [Int.mul_comm]; exact (Int.mul_ediv_add_emod x w).symm
theorem sI_l24 {f g : Nat → Int} : ∀ {n : Nat}, (∀ i, i < n → f i ≤ g i) → sI f n ≤ sI g n
  | 0, _ => Int.le_refl _
  | n + 1, h => Int.add_le_add (sI_l24 (fun i hi => h i (by omega))) (h n (by omega))
theorem sI_g24 {f : Nat → Int} {k : Nat} : ∀ {n : Nat}, (∀ i, i < n → 0 ≤ f i) → k < n → f k ≤ sI f n
  | 0, _, h => absurd h (by omega)
  | n + 1, p, h => by
    show f k ≤ sI f n + f n
    by_cases c : k = n
    · have z := sI_m24 (f := f) (k := 0) (n := n) (Nat.zero_le _) (fun i hi => p i (by omega))
      have z' : (0 : Int) ≤ sI f n := z
      rw [c]; omega
    · have a := sI_g24 (f := f) (k := k) (n := n) (fun i hi => p i (by omega)) (by omega)
      have b := p n (by omega)
      omega
/-- as many cells as endings at most, if each has one -/
theorem pc_24 {r : Nat → Int32} {ix : Nat → Int} {K N : Nat} (h : ∀ x, x < N → ∃ e, e < K ∧ r e ≠ -1 ∧ ix e = (x : Int)) : N ≤ cC9 r K := by
  have d : ∀ e x : Nat, 0 ≤ (if r e ≠ -1 ∧ ix e = (x : Int) then (1 : Int) else 0) := fun e x => by split <;> decide
  have a : ∀ n, sI (fun _ => (1 : Int)) n = (n : Int) := fun n => by
    induction n with
    | zero => rfl
    | succ n ih => show sI _ n + 1 = _; rw [ih]; omega
  have b : sI (fun _ => (1 : Int)) N ≤ sI (fun x => sI (fun e => if r e ≠ -1 ∧ ix e = (x : Int) then (1 : Int) else 0) K) N := sI_l24 (fun x hx => by
    obtain ⟨e, e1, e2, e3⟩ := h x hx
    have g := sI_g24 (f := fun e => if r e ≠ -1 ∧ ix e = (x : Int) then (1 : Int) else 0) (k := e) (n := K) (fun i _ => d i x) e1
    rw [if_pos ⟨e2, e3⟩] at g
    exact g)
  rw [sI_cm, a] at b
  have c : ∀ e (n : Nat), sI (fun x => if r e ≠ -1 ∧ ix e = (x : Int) then (1 : Int) else 0) n = if r e ≠ -1 ∧ 0 ≤ ix e ∧ ix e < (n : Int) then 1 else 0 := fun e n => by
    induction n with
    | zero =>
      rw [if_neg (fun z => by have := z.2; omega)]
      rfl
    | succ n ih =>
      show sI _ n + (if r e ≠ -1 ∧ ix e = (n : Int) then (1 : Int) else 0) = _
      rw [ih]
      by_cases z : r e ≠ -1
      · by_cases y : ix e = (n : Int)
        · rw [if_neg (fun w => by have := w.2.2; omega), if_pos ⟨z, y⟩, if_pos ⟨z, by omega, by omega⟩]; rfl
        · rw [if_neg (c := r e ≠ -1 ∧ ix e = (n : Int)) (fun w => y w.2)]
          by_cases w : 0 ≤ ix e ∧ ix e < (n : Int)
          · rw [if_pos ⟨z, w⟩, if_pos ⟨z, w.1, by omega⟩]; rfl
          · rw [if_neg (fun v => w v.2), if_neg (fun v => w ⟨v.2.1, by have := v.2.2; omega⟩)]; rfl
      · rw [if_neg (fun w => z w.1), if_neg (fun w => z w.1), if_neg (fun w => z w.1)]; rfl
  have f : ∀ k, sI (fun e => if r e ≠ -1 ∧ 0 ≤ ix e ∧ ix e < (N : Int) then (1 : Int) else 0) k ≤ (cC9 r k : Int) := fun k => by
    induction k with
    | zero => exact Int.le_refl _
    | succ k ih =>
      show sI (fun e => if r e ≠ -1 ∧ 0 ≤ ix e ∧ ix e < (N : Int) then (1 : Int) else 0) k + (if r k ≠ -1 ∧ 0 ≤ ix k ∧ ix k < (N : Int) then (1 : Int) else 0) ≤ ((cC9 r k + if r k = -1 then 0 else 1 : Nat) : Int)
      by_cases z : r k = -1
      · rw [if_neg (fun w => w.1 z), if_pos z]; omega
      · rw [if_neg z]
        split <;> omega
  rw [sI_c (fun e _ => c e N)] at b
  have := f K
  omega

/-! what arrange comes to -/
def he24 (κ : zS) (a n : Nat) (e : Int32) : Prop := (0 ≤ e.toInt ∧ e.toInt < 1000) ∧ hm24 κ a n e.toNatClampNeg
def full24 (κ τ : zS) (a n : Nat) (i j t : Int32) : Prop := ∀ g : Int32, 0 ≤ g.toInt → g.toInt < (zI τ hoTotal (zR τ odGroups a)).toInt → pV9 τ (zR τ odGroups a) g 0 = 0 → ∀ p q : Int, 0 ≤ p → p < (zA τ (zR τ odLefts a) g.toNatClampNeg).toInt → 0 ≤ q → q < (zA τ (zR τ odRights a) g.toNatClampNeg).toInt → ∃ e L R, he24 κ a n e ∧ ro24 τ τ a i j t e g L R ∧ (zA τ (zR τ odRanks a) L).toInt = p ∧ (zA τ (zR τ odRanks a) R).toInt = q
def st24 (κ τ : zS) (a n : Nat) (i j t : Int32) : Prop := gr24 τ a ∧ (gI9 τ a 1000 1000 ∧ (zI τ hoTotal (zR τ odGroups a)).toInt ≤ 3000) ∧ (∀ x : Nat, (x : Int) < (zI τ hoTotal (zR τ odGroups a)).toInt → ∃ e T L R, he24 κ a n e ∧ ro24 τ τ a i j t e T L R ∧ (x = T.toNatClampNeg ∨ x = L ∨ x = R)) ∧ ∀ e, he24 κ a n e → ∃ T L R, ro24 τ τ a i j t e T L R
def ar24 (κ τ : zS) (a n : Nat) (i j t : Int32) : Prop := pl24 τ τ a ∧ (∀ e, he24 κ a n e → ∃ T L R, ro24 τ τ a i j t e T L R ∧ (zA τ (zR τ odCellOf a) e.toNatClampNeg).toInt = ce24 τ a T L R) ∧ lx24 τ τ a n 0
theorem hm_e24 {κ τ : zS} {a n e : Nat} (f : zA τ (zR τ atFirsts (zR τ odAtlas a)) = zA κ (zR κ atFirsts (zR κ odAtlas a))) (g : zA τ (zR τ atNumbers (zR τ odAtlas a)) = zA κ (zR κ atNumbers (zR κ odAtlas a))) (ce : ∀ k i, k < n → (cE9 τ a k i ↔ cE9 κ a k i)) : hm24 τ a n e ↔ hm24 κ a n e := by
  unfold hm24
  rw [f, g]
  constructor
  · rintro ⟨k, i, h1, h2, h3, h4, h5⟩
    exact ⟨k, i, h1, h2, h3, (ce k i h1).mp h4, h5⟩
  · rintro ⟨k, i, h1, h2, h3, h4, h5⟩
    exact ⟨k, i, h1, h2, h3, (ce k i h1).mpr h4, h5⟩
theorem ro_b24 {β τ : zS} {a : Nat} {i j t e T : Int32} {L R : Nat} (eg : zR τ odGroups a = zR β odGroups a) (ep : pV9 τ (zR τ atEndings (zR τ odAtlas a)) = pV9 β (zR β atEndings (zR β odAtlas a))) (h : ro24 β τ a i j t e T L R) : ro24 τ τ a i j t e T L R := by
  unfold ro24 tK9 at *
  rw [eg, ep]
  exact h
theorem ro_u24 {τ : zS} {a : Nat} {i j t e T T' : Int32} {L R L' R' : Nat} (h : ro24 τ τ a i j t e T L R) (h' : ro24 τ τ a i j t e T' L' R') : T = T' ∧ L = L' ∧ R = R' := by
  have k := hkS_u24 h.2.1 h'.2.1
  have c1 := cnk h.1
  have c2 := cnk h'.1
  have eT : T = T' := Int32.toInt_inj.mp (by omega)
  subst eT
  exact ⟨rfl, hkS_u24 h.2.2.1 h'.2.2.1, hkS_u24 h.2.2.2 h'.2.2.2⟩
theorem ci_b24 {b lf rt p q : Int} (p0 : 0 ≤ p) (p1 : p < lf) (q0 : 0 ≤ q) (q1 : q < rt) (l1 : lf ≤ 1000) (r1 : rt ≤ 1000) : b ≤ ci24 b lf rt p q ∧ ci24 b lf rt p q < b + lf * rt := by
  unfold ci24
  split
  · have m := lm_9 q0 q1 p0 p1 r1 l1
    rw [Int.mul_comm lf rt]
    omega
  · have m := lm_9 p0 p1 q0 q1 l1 r1
    omega
theorem ci_u24 {b lf rt p q p' q' : Int} (p0 : 0 ≤ p) (p1 : p < lf) (q0 : 0 ≤ q) (q1 : q < rt) (p0' : 0 ≤ p') (p1' : p' < lf) (q0' : 0 ≤ q') (q1' : q' < rt) (h : ci24 b lf rt p q = ci24 b lf rt p' q') : p = p' ∧ q = q' := by
  unfold ci24 at h
  by_cases c : lf < rt
  · rw [if_pos c, if_pos c] at h
    have z := rc_u24 (w := lf) (r := q) (c := p) (r' := q') (c' := p') p0 p1 p0' p1' (by omega)
    exact ⟨z.2, z.1⟩
  · rw [if_neg c, if_neg c] at h
    exact rc_u24 (w := rt) (r := p) (c := q) (r' := p') (c' := q') q0 q1 q0' q1' (by omega)
theorem ci_e24 {b lf rt x : Int} (l0 : 0 ≤ lf) (r0 : 0 ≤ rt) (h0 : b ≤ x) (h1 : x < b + lf * rt) : ∃ p q : Int, 0 ≤ p ∧ p < lf ∧ 0 ≤ q ∧ q < rt ∧ x = ci24 b lf rt p q := by
  unfold ci24
  by_cases c : lf < rt
  · obtain ⟨r, c', y1, y2, y3, y4, y5⟩ := rc_e24 (w := lf) (l := rt) (x := x - b) (by omega) (by rw [Int.mul_comm]; omega) l0
    exact ⟨c', r, y3, y4, y1, y2, by rw [if_pos c]; omega⟩
  · obtain ⟨r, c', y1, y2, y3, y4, y5⟩ := rc_e24 (w := rt) (l := lf) (x := x - b) (by omega) (by omega) r0
    exact ⟨r, c', y1, y2, y3, y4, by rw [if_neg c]; omega⟩
/-- ranks are in bounds -/
theorem ro_k24 {τ : zS} {a : Nat} {i j t e T : Int32} {L R : Nat} (I : gI9 τ a 1000 1000) (t3 : (zI τ hoTotal (zR τ odGroups a)).toInt ≤ 3000) (h : ro24 τ τ a i j t e T L R) : (T.toInt < (zI τ hoTotal (zR τ odGroups a)).toInt ∧ pV9 τ (zR τ odGroups a) T 0 = 0) ∧ (0 ≤ (zA τ (zR τ odRanks a) L).toInt ∧ (zA τ (zR τ odRanks a) L).toInt < (zA τ (zR τ odLefts a) T.toNatClampNeg).toInt) ∧ (0 ≤ (zA τ (zR τ odRanks a) R).toInt ∧ (zA τ (zR τ odRanks a) R).toInt < (zA τ (zR τ odRights a) T.toNatClampNeg).toInt) ∧ (zA τ (zR τ odLefts a) T.toNatClampNeg).toInt ≤ 1000 ∧ (zA τ (zR τ odRights a) T.toNatClampNeg).toInt ≤ 1000 := by
  obtain ⟨T0, h1, h2, h3⟩ := h
  have kT := cnk T0
  have b1 := h1.1.1
  have b2 := h2.1.1
  have b3 := h3.1.1
  have eL : (Int32.ofNat L).toInt = (L : Int) := ofn_i (by omega)
  have nL : (Int32.ofNat L).toNatClampNeg = L := cl_5 (by omega)
  have eR : (Int32.ofNat R).toInt = (R : Int) := ofn_i (by omega)
  have nR : (Int32.ofNat R).toNatClampNeg = R := cl_5 (by omega)
  have tT : pV9 τ (zR τ odGroups a) T 0 = 0 := pV9_k (K := tK9 τ a e t) T0 h1.1 (by decide) (by decide)
  have l0 : pV9 τ (zR τ odGroups a) (Int32.ofNat L) 0 = 1 := pV9_k (K := k39 1 T (pV9 τ (zR τ atEndings (zR τ odAtlas a)) e i)) (by rw [eL]; omega) (by rw [nL]; exact h2.1) (by decide) (by decide)
  have l1 : pV9 τ (zR τ odGroups a) (Int32.ofNat L) 1 = T := pV9_k (K := k39 1 T (pV9 τ (zR τ atEndings (zR τ odAtlas a)) e i)) (by rw [eL]; omega) (by rw [nL]; exact h2.1) (by decide) (by decide)
  have r0 : pV9 τ (zR τ odGroups a) (Int32.ofNat R) 0 = 2 := pV9_k (K := k39 2 T (pV9 τ (zR τ atEndings (zR τ odAtlas a)) e j)) (by rw [eR]; omega) (by rw [nR]; exact h3.1) (by decide) (by decide)
  have r1 : pV9 τ (zR τ odGroups a) (Int32.ofNat R) 1 = T := pV9_k (K := k39 2 T (pV9 τ (zR τ atEndings (zR τ odAtlas a)) e j)) (by rw [eR]; omega) (by rw [nR]; exact h3.1) (by decide) (by decide)
  have gl := ((I (Int32.ofNat L) (by rw [eL]; omega) (by rw [eL]; omega)).2.1 l0).2
  have gr := ((I (Int32.ofNat R) (by rw [eR]; omega) (by rw [eR]; omega)).2.2 r0).2
  have gT := (I T T0 (by omega)).1 tT
  dsimp only at gl gr
  rw [l1, nL] at gl
  rw [r1, nR] at gr
  exact ⟨⟨by omega, tT⟩, gl, gr, gT.1.2, gT.2.2⟩
def ix24 (τ : zS) (a : Nat) (T : Int32) (L R : Nat) : Int := ci24 (sI (bt24 τ a) T.toNatClampNeg) (zA τ (zR τ odLefts a) T.toNatClampNeg).toInt (zA τ (zR τ odRights a) T.toNatClampNeg).toInt (zA τ (zR τ odRanks a) L).toInt (zA τ (zR τ odRanks a) R).toInt
theorem bt_p24 {τ : zS} {a : Nat} {T : Int32} (T0 : 0 ≤ T.toInt) (T1 : T.toInt < 60000000) (tT : pV9 τ (zR τ odGroups a) T 0 = 0) : bt24 τ a T.toNatClampNeg = (zA τ (zR τ odLefts a) T.toNatClampNeg).toInt * (zA τ (zR τ odRights a) T.toNatClampNeg).toInt := by
  unfold bt24
  rw [on_24 T0 T1, if_pos tT]
theorem ix_b24 {τ : zS} {a : Nat} {i j t e T : Int32} {L R : Nat} (I : gI9 τ a 1000 1000) (t3 : (zI τ hoTotal (zR τ odGroups a)).toInt ≤ 3000) (h : ro24 τ τ a i j t e T L R) : sI (bt24 τ a) T.toNatClampNeg ≤ ix24 τ a T L R ∧ ix24 τ a T L R < sI (bt24 τ a) T.toNatClampNeg + bt24 τ a T.toNatClampNeg := by
  obtain ⟨⟨k1, k2⟩, ⟨k3, k4⟩, ⟨k5, k6⟩, k7, k8⟩ := ro_k24 I t3 h
  rw [bt_p24 h.1 (by omega) k2]
  exact ci_b24 k3 k4 k5 k6 k7 k8
theorem fx_24 {κ τ : zS} {a n : Nat} {i j t : Int32} (I : gI9 τ a 1000 1000) (t3 : (zI τ hoTotal (zR τ odGroups a)).toInt ≤ 3000) : full24 κ τ a n i j t ↔ ∀ x : Nat, (x : Int) < sI (bt24 τ a) (zI τ hoTotal (zR τ odGroups a)).toInt.toNat → ∃ e T L R, he24 κ a n e ∧ ro24 τ τ a i j t e T L R ∧ ix24 τ a T L R = (x : Int) := by
  have nn : ∀ y, y < (zI τ hoTotal (zR τ odGroups a)).toInt.toNat → 0 ≤ bt24 τ a y := fun y hy => bt_n24 I (by omega) t3
  constructor
  · intro F x hx
    obtain ⟨g, g1, g2, g3⟩ := dc_a24 (Int.natCast_nonneg x) hx
    have eg : (Int32.ofNat g).toInt = (g : Int) := ofn_i (by omega)
    have ng : (Int32.ofNat g).toNatClampNeg = g := cl_5 (by omega)
    have tg : pV9 τ (zR τ odGroups a) (Int32.ofNat g) 0 = 0 := Classical.byContradiction (fun z => by
      have b0 : bt24 τ a g = 0 := if_neg z
      omega)
    have bg := bt_p24 (T := Int32.ofNat g) (by omega) (by omega) tg
    rw [ng] at bg
    have gT := (I (Int32.ofNat g) (by omega) (by omega)).1 tg
    rw [ng] at gT
    obtain ⟨p, q, p0, p1, q0, q1, e1⟩ := ci_e24 (b := sI (bt24 τ a) g) gT.1.1 gT.2.1 g2 (by rw [← bg]; exact g3)
    obtain ⟨e, L, R, h1, h2, h3, h4⟩ := F (Int32.ofNat g) (by omega) (by omega) tg p q p0 (by rw [ng]; exact p1) q0 (by rw [ng]; exact q1)
    refine ⟨e, _, L, R, h1, h2, ?_⟩
    unfold ix24
    rw [ng, h3, h4, e1]
  · intro F g g0 g1 tg p q p0 p1 q0 q1
    have kg := cnk g0
    have gT := (I g g0 g1).1 tg
    have bg := bt_p24 g0 (by omega) tg
    have cb := ci_b24 (b := sI (bt24 τ a) g.toNatClampNeg) p0 p1 q0 q1 gT.1.2 gT.2.2
    rw [← bg] at cb
    have b0 := sI_m24 (f := bt24 τ a) (k := 0) (n := g.toNatClampNeg) (Nat.zero_le _) (fun i hi => nn i (by omega))
    have b0' : (0 : Int) ≤ sI (bt24 τ a) g.toNatClampNeg := b0
    have b1 := sI_m24 (f := bt24 τ a) (k := g.toNatClampNeg + 1) (n := (zI τ hoTotal (zR τ odGroups a)).toInt.toNat) (by omega) nn
    have e1 : sI (bt24 τ a) (g.toNatClampNeg + 1) = sI (bt24 τ a) g.toNatClampNeg + bt24 τ a g.toNatClampNeg := rfl
    obtain ⟨e, T, L, R, h1, h2, h3⟩ := F (ci24 (sI (bt24 τ a) g.toNatClampNeg) (zA τ (zR τ odLefts a) g.toNatClampNeg).toInt (zA τ (zR τ odRights a) g.toNatClampNeg).toInt p q).toNat (by omega)
    rw [Int.toNat_of_nonneg (by omega)] at h3
    have ib := ix_b24 I t3 h2
    obtain ⟨⟨k1, k2⟩, ⟨k3, k4⟩, ⟨k5, k6⟩, k7, k8⟩ := ro_k24 I t3 h2
    have kT := cnk h2.1
    rw [h3] at ib
    have eT := dc_u24 nn (by omega) (by omega) ib cb
    have eT' : T = g := Int32.toInt_inj.mp (by omega)
    subst eT'
    have u := ci_u24 k3 k4 k5 k6 p0 p1 q0 q1 h3
    exact ⟨e, L, R, h1, h2, u.1, u.2⟩
theorem pr_24 {r : Nat → Int32} {Rl : Nat → Nat → Prop} {K N : Nat} (u : ∀ e x y, Rl e x → Rl e y → x = y) (h : ∀ x, x < N → ∃ e, e < K ∧ r e ≠ -1 ∧ Rl e x) : N ≤ cC9 r K := by
  refine pc_24 (ix := fun e => ((Classical.epsilon (Rl e) : Nat) : Int)) (fun x hx => ?_)
  obtain ⟨e, e1, e2, e3⟩ := h x hx
  exact ⟨e, e1, e2, by rw [u e _ _ (Classical.epsilon_spec ⟨x, e3⟩) e3]⟩
theorem lx_e24 {κ τ σ : zS} {a n : Nat} {b : Int} (l : ∀ x, lkN9 τ a n x ↔ lkN9 κ a n x) (c : ∀ x, cx24 τ a x = cx24 κ a x) (R : zR τ = zR κ) (h : lx24 κ σ a n b) : lx24 τ σ a n b := by
  unfold lx24 at *
  simp only [l, c, R]
  exact h
theorem lk_h24 {κ : zS} {a n e : Nat} : hm24 κ a n e ↔ ∃ x, lkN9 κ a n x ∧ (zA κ (zR κ atNumbers (zR κ odAtlas a)) x.toNatClampNeg).toNatClampNeg = e := by
  constructor
  · rintro ⟨k, i, h1, h2, h3, h4, h5⟩
    exact ⟨i, ⟨k, h1, h2, h3, h4⟩, h5⟩
  · rintro ⟨i, ⟨k, h1, h2, h3, h4⟩, h5⟩
    exact ⟨k, i, h1, h2, h3, h4, h5⟩
theorem gi_f24 {P : Nat → Prop} {τ τ' : zS} {a : Nat} {ml mr : Int} (F : fz24 P τ τ' a (zR τ odGroups a)) (I : gI9 τ a ml mr) : gI9 τ' a ml mr := by
  unfold gI9
  rw [F.1 odGroups (by decide), F.2.1, F.2.2.2.2 odLefts (Or.inl rfl), F.2.2.2.2 odRights (Or.inr (Or.inl rfl)), F.2.2.2.2 odRanks (Or.inr (Or.inr (Or.inl rfl)))]
  exact gp_e9 I (fun x hx => F.2.2.2.1 x 0 hx) (fun x hx => F.2.2.2.1 x 1 hx)
theorem st_b24 {κ β τ : zS} {a n : Nat} {i j t : Int32} {m : Int} (eg : zR τ odGroups a = zR β odGroups a) (ep : pV9 τ (zR τ atEndings (zR τ odAtlas a)) = pV9 β (zR β atEndings (zR β odAtlas a))) (M : ∀ e, mk24 β a m e ↔ he24 κ a n e) (G : gr24 τ a) (I : gI9 τ a 1000 1000) (t3 : (zI τ hoTotal (zR τ odGroups a)).toInt ≤ 3000) (U : us24 β τ a i j t m) (p : ∀ e, mk24 β a m e → pr9 β τ a i j t e) : st24 κ τ a n i j t := by
  refine ⟨G, ⟨I, t3⟩, fun x hx => ?_, fun e he => ?_⟩
  · rw [eg] at hx
    obtain ⟨e, T, L, R, h1, h2, h3⟩ := U x hx
    exact ⟨e, T, L, R, (M e).mp h1, ro_b24 eg ep h2, h3⟩
  · obtain ⟨T, T0, h1, ⟨L, h2⟩, R, h3⟩ := p e ((M e).mpr he)
    exact ⟨T, L, R, ro_b24 eg ep ⟨T0, h1, h2, h3⟩⟩
theorem ce_i24 {τ : zS} {a : Nat} {i j t e T : Int32} {L R : Nat} (I : gI9 τ a 1000 1000) (t3 : (zI τ hoTotal (zR τ odGroups a)).toInt ≤ 3000) (D : pl24 τ τ a) (h : ro24 τ τ a i j t e T L R) : ce24 τ a T L R = ix24 τ a T L R := by
  have k := (ro_k24 I t3 h).1
  unfold ce24 ix24
  rw [D T h.1 k.1 k.2]
theorem ix_n24 {τ : zS} {a : Nat} {i j t e T : Int32} {L R : Nat} (I : gI9 τ a 1000 1000) (t3 : (zI τ hoTotal (zR τ odGroups a)).toInt ≤ 3000) (h : ro24 τ τ a i j t e T L R) : 0 ≤ ix24 τ a T L R := by
  have b := (ix_b24 I t3 h).1
  have k := (ro_k24 I t3 h).1
  have kT := cnk h.1
  have z := sI_m24 (f := bt24 τ a) (k := 0) (n := T.toNatClampNeg) (Nat.zero_le _) (fun i hi => bt_n24 I (by omega) t3)
  have z' : (0 : Int) ≤ sI (bt24 τ a) T.toNatClampNeg := z
  omega

end
