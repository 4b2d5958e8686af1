section
set_option maxHeartbeats 1600000
/-! the class: findVisits, by values -/
def fO15 (κ : zS) (a n : Nat) (σ : rS) (S : Nat → Prop) : Prop := ∃ V : Nat → Rat, vV15 κ a n V ∧ vE15 (pR15 σ n) n S V ∧ ∀ k, k < n → f2W8 (V k)
def fN15 (n : Nat) (σ : rS) : Prop := ∃ (V : Nat → Rat) (S : Nat → Prop), vE15 (pR15 σ n) n S V ∧ ∃ j, j < n ∧ S j ∧ cnE σ j ∧ ¬ f2W8 (V j)
def fX15 (κ' : zS) (a n : Nat) (σ : rS) (v : Int32) : Prop := (v = 0 ∧ ¬ bg15 σ ∧ fO15 κ' a n σ (cnE σ)) ∨ (v = -3 ∧ ¬ bg15 σ ∧ fN15 n σ) ∨ (v = -2 ∧ bg15 σ)
theorem f2_015 : f2W8 0 := by
  unfold f2W8
  decide
theorem So_findVisitz_q6 {C : zC} {n0 : Nat} {a0 : Nat} {κ : zS} {Q : Int32 → zS → Prop} (W : zW C n0 κ) (Ta0 : zT κ a0 = 12) (ρ : Nat → Nat) (n9 : Nat) (σ9 : rS) (hT9 : tbl15 κ (zR κ soAtlas a0) n9 σ9) (hp : soR9 ρ κ a0 ∧ ((weU κ (zR κ soWeb a0) ∨ weM κ (zR κ soWeb a0)) ∧ weL κ (zR κ soWeb a0)) ∧ atW κ (zR κ soAtlas a0) n9) (h : ∀ (v : Int32) (κ' : zS), ((fvP9 ρ κ κ' a0 n9) ∧ (fX15 κ' a0 n9 σ9 v)) → Q v κ') : zRun C 8 mSo_findVisits [.ref a0] κ (oI Q noX) := by
  refine So_findVisitz_run W Ta0 ?_
  replace W := W.lo (Nat.le_trans W.1.2.1 W.1.2.2) (Nat.le_refl (zn κ))
  unfold w_So_findVisitz_0
  obtain ⟨S0, ⟨U0, L0⟩, A0⟩ := hp
  have tw := ty_soWeb W Ta0
  have tb := ty_soAtlas W Ta0
  have hj129 : ∀ (l0 : Nat) (τ : zS), zW C (zn κ) τ → zT τ l0 = 12 → ((a0 = l0 ∧ ∃ ρ', fvJ9 ρ κ τ a0 n9 ρ' ∧ vsI9 ρ' τ a0 n9 1) ∧ wg15 τ a0 n9 σ9 ∧ ∀ k, k < n9 → rqW8 τ (vU9 τ a0 k) 0) → w_So_findVisitz_129 C (zn κ) Q  l0 τ := by
    rintro _ τ129 W129 T129_0 ⟨⟨rfl, j129⟩, hE⟩
    unfold w_So_findVisitz_129
    intro x1 hx1
    obtain ⟨ρ1, J1, V1⟩ := j129
    have X1 := J1.2.2.2.1
    have kK := X1.2.1.1
    have hn := X1.1.2.1.2
    have hx : x1.toInt = (zI τ129 weKnots (zR τ129 soWeb a0)).toInt - 1 := by
      rw [hx1]
      have q := sub_i (x := zI τ129 weKnots (zR τ129 soWeb a0)) (y := 1) (by rw [t1i]; omega) (by rw [t1i]; omega)
      rw [t1i] at q
      exact q
    unfold w_So_findVisitz_139
    refine ⟨fun n l0 l1 τ => n = (l1.toInt + 1).toNat ∧ ((a0 = l0 ∧ (∃ ρ' P, fvJ9 ρ κ τ a0 n9 ρ' ∧ vsI9 ρ' τ a0 n9 P ∧ 0 < P ∧ P ≤ pD9 (2 * (n9 - ((zA τ (zR τ weKnotFirsts (zR τ soWeb a0)) (l1.toInt + 1).toNat).toInt).toNat))) ∧ -1 ≤ l1.toInt ∧ l1.toInt < (zI τ weKnots (zR τ soWeb a0)).toInt) ∧ wg15 τ a0 n9 σ9 ∧ fO15 τ a0 n9 σ9 (fun k => cnE σ9 k ∧ l1.toInt < (kO15 τ a0 k).toInt)), ⟨_, rfl, ?_⟩, ?_⟩
    · refine and_5 ?_ (fun o9 => ?_)  -- j1
      · exact ⟨rfl, ⟨ρ1, 1, J1, V1, by decide, pD9_p⟩, by omega, by omega⟩
      · refine ⟨hE.1, fun _ => 0, fun k hk => ⟨hE.2 k hk, Rat.le_refl⟩, ⟨fun _ _ _ => rfl, fun j hj s => ?_, fun k j hk hj s _ => ?_⟩, fun _ _ => f2_015⟩
        · have K := kK_15 X1.2.1 hE.1
          have l := ko_88 K hj
          have l : (kO15 τ129 a0 j).toNatClampNeg < (zI τ129 weKnots (zR τ129 soWeb a0)).toInt.toNat := l
          have s2 := s.2
          rw [hx] at s2
          have c := cnk (x := kO15 τ129 a0 j) (by omega)
          omega
        · have K := kK_15 X1.2.1 hE.1
          have l := ko_88 K hj
          have l : (kO15 τ129 a0 j).toNatClampNeg < (zI τ129 weKnots (zR τ129 soWeb a0)).toInt.toNat := l
          have s2 := s.2
          rw [hx] at s2
          have c := cnk (x := kO15 τ129 a0 j) (by omega)
          omega
    rintro n139 _ x139_1 κ139 W139 T139_0 ⟨hn139, ⟨rfl, i139⟩, hE⟩
    obtain ⟨⟨ρ1, P1, J1, V1, P10, P11⟩, l11, l12⟩ := i139
    have X1 := J1.2.2.2.1
    have hn := X1.1.2.1.2
    have wM := X1.1.1.1
    have kK := X1.2.1.1
    have PB : P1 < pB9 1490 := pD9_b P11 (by omega)
    have hj214 : ∀ (l0 : Nat) (l1 : Int32) (l2 : Int32) (τ : zS), zW C (zn κ) τ → zT τ l0 = 12 → ((a0 = l0 ∧ ((l2 ≠ 0 → ∃ ρ' P, fvJ9 ρ κ τ a0 n9 ρ' ∧ vsI9 ρ' τ a0 n9 P ∧ 0 < P ∧ P ≤ pD9 (2 * (n9 - ((zA τ (zR τ weKnotFirsts (zR τ soWeb a0)) l1.toNatClampNeg).toInt).toNat))) ∧ (l2 = 0 → ∃ ρ', fvJ9 ρ κ τ a0 n9 ρ') ∧ zI τ weKnots (zR τ soWeb a0) = zI κ139 weKnots (zR κ139 soWeb a0)) ∧ 0 ≤ l1.toInt ∧ x139_1 = l1) ∧ wg15 τ a0 n9 σ9 ∧ (l2 ≠ 0 → fO15 τ a0 n9 σ9 (fun k => cnE σ9 k ∧ l1.toInt ≤ (kO15 τ a0 k).toInt)) ∧ (l2 = 0 → ¬ bg15 σ9 ∧ fN15 n9 σ9)) → w_So_findVisitz_214 C (zn κ) Q (fun (l0' : Nat) (l1' : Int32) (τ : zS) => ∃ k < n139, (fun (n : Nat) (l0 : Nat) (l1 : Int32) (τ : zS) => n = (l1.toInt + 1).toNat ∧ ((a0 = l0 ∧ (∃ ρ' P, fvJ9 ρ κ τ a0 n9 ρ' ∧ vsI9 ρ' τ a0 n9 P ∧ 0 < P ∧ P ≤ pD9 (2 * (n9 - ((zA τ (zR τ weKnotFirsts (zR τ soWeb a0)) (l1.toInt + 1).toNat).toInt).toNat))) ∧ -1 ≤ l1.toInt ∧ l1.toInt < (zI τ weKnots (zR τ soWeb a0)).toInt) ∧ wg15 τ a0 n9 σ9 ∧ fO15 τ a0 n9 σ9 (fun k => cnE σ9 k ∧ l1.toInt < (kO15 τ a0 k).toInt))) k l0' l1' τ) l0 l1 l2 τ := by
      rintro _ y214_1 y214_2 τ214 W214 T214_0 ⟨⟨rfl, j214⟩, hE⟩
      unfold w_So_findVisitz_214
      obtain ⟨⟨k1, k2, k3⟩, l31, l33⟩ := j214
      subst l33
      have hm := dd_9 l31 hn139
      refine ⟨fun c2 => ?_, fun c2 => ?_⟩
      · skip
        intro x3 hx3
        refine lp_b5 ?_ (fun d9 => ⟨rfl, ?_⟩)
        · rw [hx3]; exact hm.1  -- d2
        · refine and_5 ?_ (fun o9 => ?_)  -- i3
          · obtain ⟨ρ2, P2, J2, V2, P20, P21⟩ := k1 c2
            refine ⟨rfl, ⟨ρ2, P2, J2, V2, P20, ?_⟩, by rw [hx3]; exact hm.2.1, by rw [hx3, k3]; exact Int.lt_trans hm.2.2.2 l12⟩
            rw [hx3, hm.2.2.1]
            exact P21
          · obtain ⟨g1, g2, g3⟩ := hE
            obtain ⟨V, v1, v2, v3⟩ := g2 c2
            refine ⟨g1, V, v1, vE_c15 v2 (fun k hk => ?_) (fun _ _ => rfl), v3⟩
            have e : x3.toInt = x139_1.toInt - 1 := by rw [hx3]; exact dm_9 l31
            rw [e]
            exact ⟨fun z => ⟨z.1, by omega⟩, fun z => ⟨z.1, by omega⟩⟩
      · skip
        refine h _ _ ?_
        · refine and_5 ?_ (fun o9 => ?_)  -- q4
          · obtain ⟨ρ2, J2⟩ := k2 c2
            exact fv_p9 J2
          · have z := hE.2.2 c2
            exact Or.inr (Or.inl ⟨rfl, z.1, z.2⟩)
    refine ⟨fun c4 => ?_, fun c4 => ?_⟩
    · skip
      intro κ_5 hκ_5
      intro W6
      refine h _ _ ?_
      · refine and_5 ?_ (fun o9 => ?_)  -- q5
        · obtain ⟨j1, j2, j3, j4, j5, j6, j7, j8, j9, j10, j11⟩ := J1
          have F5 : zF (fvF9 ρ κ a0) κ139 κ_5 := by
            rw [hκ_5]
            exact zF_ui (Or.inr (Or.inr (Or.inl ⟨rfl, Or.inl rfl⟩)))
          have Zs : zF (fun f b => f = soSolved ∧ b = a0) κ139 κ_5 := by
            rw [hκ_5]
            exact zF_ui ⟨rfl, rfl⟩
          have nt : ∀ (t f w : Nat), zT κ139 w = t → t ≠ 12 → ¬ (f = soSolved ∧ w = a0) := fun t f w ht h12 z => by
            rw [z.2, T139_0] at ht
            exact h12 ht.symm
          have R5 := rs_h9 W139 T139_0 j3 Zs (fun f w h => nt 8 f w h (by decide)) (fun f w h => nt 11 f w h (by decide)) (fun f w h => nt 4 f w h (by decide)) (fun f h1 _ z => h1 z.1)
          have er : zR κ_5 = zR κ139 := by rw [hκ_5]; rfl
          have eA : zA κ_5 = zA κ139 := by rw [hκ_5]; rfl
          have eN : zN κ_5 = zN κ139 := by rw [hκ_5]; rfl
          have eQ : zQ κ_5 = zQ κ139 := by rw [hκ_5]; rfl
          have V5 : frV9 (zn κ139) (fun f b => f = soSolved ∧ b = a0) := fun f b z => by
            rw [z.1]
            exact Or.inr (Or.inr (Or.inr (Or.inr (Or.inl (by decide)))))
          have tb1 := ty_soAtlas W139 T139_0
          have A5 := atW_v9 W139 V5 Zs tb1 X1.2.2.1
          refine ⟨ρ1, j1, j2.tr F5, R5.1, by rw [← j8]; exact A5, ?_, ⟨by rw [er]; exact j8, by rw [er]; exact j9, by rw [er]; exact j10⟩, fun _ => ⟨P1, fun k hk => ?_, ⟨P10, PB⟩, by rw [er, eN]; exact X1.2.2.2⟩, j11.tr (zK_z9 W139 T139_0 Zs (fun b _ z => absurd z.1 (by decide)) (fun z => absurd z.1 (by decide)) (fun z => absurd z.1 (by decide)) (fun z => absurd z.1 (by decide)))⟩
          · have q := X1.1.1
            rw [j9] at q
            unfold weM weL
            rw [er, eN]
            exact q
          · have q := V1 k hk
            have vu : vU9 κ_5 a0 k = vU9 κ139 a0 k := by unfold vU9; rw [er, eQ]
            have sg : ∀ u, zI κ_5 raSign u = zI κ139 raSign u := fun u => by rw [hκ_5]; rfl
            have nn : ∀ u, nuN κ_5 u = nuN κ139 u := fun u => by
              unfold nuN
              rw [er, eA]
              have l : zI κ_5 nuLength u = zI κ139 nuLength u := by rw [hκ_5]; rfl
              rw [l]
            unfold vsK9 dvN9 dvA at q ⊢
            rw [vu, er, eQ, eA, sg, nn, nn]
            exact q
        · obtain ⟨Wg, V, v1, v2, v3⟩ := hE
          have eq9 : ∀ k q, rqW8 κ139 (vU9 κ139 a0 k) q → rqW8 κ_5 (vU9 κ_5 a0 k) q := fun k q z => by
            have er : zR κ_5 = zR κ139 := by rw [hκ_5]; rfl
            have eA : zA κ_5 = zA κ139 := by rw [hκ_5]; rfl
            have eQ : zQ κ_5 = zQ κ139 := by rw [hκ_5]; rfl
            have vu : vU9 κ_5 a0 k = vU9 κ139 a0 k := by unfold vU9; rw [er, eQ]
            have sg : ∀ u, zI κ_5 raSign u = zI κ139 raSign u := fun u => by rw [hκ_5]; rfl
            have nn : ∀ u, nuN κ_5 u = nuN κ139 u := fun u => by
              unfold nuN
              rw [er, eA]
              have l : zI κ_5 nuLength u = zI κ139 nuLength u := by rw [hκ_5]; rfl
              rw [l]
            rw [vu]
            unfold rqW8
            rw [sg, er, nn, nn]
            exact z
          rw [lti, t0i] at c4
          refine Or.inl ⟨rfl, bg_n15 X1.2.1 Wg J1.2.2.2.2.2.1, V, fun k hk => ⟨eq9 k _ (v1 k hk).1, (v1 k hk).2⟩, vE_c15 v2 (fun k hk => ⟨fun z => z.1, fun z => ⟨z, ?_⟩⟩) (fun _ _ => rfl), v3⟩
          obtain ⟨i, i1, i2⟩ := X1.2.1.2.2.2 k hk
          have q := (X1.2.1.2.2.1 i i1).2.1.1
          rw [i2] at q
          have q : 0 ≤ (kO15 κ139 a0 k).toInt := q
          omega
    · skip
      rw [lti, t0i] at c4
      have kl := cnk (x := x139_1) (by omega)
      have kA := X1.2.1.2.1 x139_1.toNatClampNeg (by omega)
      have kO := (X1.2.1.2.2.1 ((zA κ139 (zR κ139 weKnotFirsts (zR κ139 soWeb a0)) x139_1.toNatClampNeg).toInt).toNat (by omega)).1
      have kf := cnk kA.1
      have e26 : ((zA κ139 (zR κ139 weKnotFirsts (zR κ139 soWeb a0)) x139_1.toNatClampNeg).toInt).toNat = (zA κ139 (zR κ139 weKnotFirsts (zR κ139 soWeb a0)) x139_1.toNatClampNeg).toNatClampNeg := by omega
      rw [e26] at kO
      have ko := cnk kO.1
      rw [show (x139_1.toInt + 1).toNat = x139_1.toNatClampNeg + 1 by omega] at P11
      obtain ⟨Wg, V9, hV9, hE9, hF9⟩ := hE
      have f9 : ((zA κ139 (zR κ139 weKnotFirsts (zR κ139 soWeb a0)) x139_1.toNatClampNeg).toInt).toNat = (zA κ139 (zR κ139 weKnotFirsts (zR κ139 soWeb a0)) x139_1.toNatClampNeg).toNatClampNeg := e26
      have kn9 := kn_15 X1 (c := x139_1.toNatClampNeg) (f := ((zA κ139 (zR κ139 weKnotFirsts (zR κ139 soWeb a0)) x139_1.toNatClampNeg).toInt).toNat) (m := ((zA κ139 (zR κ139 weKnotFirsts (zR κ139 soWeb a0)) (x139_1.toNatClampNeg + 1)).toInt).toNat - ((zA κ139 (zR κ139 weKnotFirsts (zR κ139 soWeb a0)) x139_1.toNatClampNeg).toInt).toNat) (by omega) (by omega) (by omega)
      have hd9 := kn9.2.1 0 kn9.1.2
      rw [Nat.add_zero, f9] at hd9
      have lc : x139_1.toInt = (x139_1.toNatClampNeg : Int) := by omega
      have mz9 : ∀ s, s < n9 → (kO15 κ139 a0 s).toInt = (x139_1.toNatClampNeg : Int) → V9 s = 0 := fun s hs e => hE9.1 s hs (fun z => by omega)
      have op9 : ∀ k, k < n9 → (kO15 κ139 a0 k).toInt = (x139_1.toNatClampNeg : Int) → zA κ139 (zR κ139 weOpen (zR κ139 soWeb a0)) (od15 κ139 a0 (zA κ139 (zR κ139 weKnotFirsts (zR κ139 soWeb a0)) x139_1.toNatClampNeg).toNatClampNeg) ≠ 0 → cnE σ9 k := fun k hk e z => wg_k15 Wg hk hd9.1 (Int32.toInt.inj (e.trans hd9.2.symm)) ((Wg.2.1 _ hd9.1).mp z)
      have ng9 : ¬ bg15 σ9 := bg_n15 X1.2.1 Wg J1.2.2.2.2.2.1
      refine ⟨?_, ?_⟩
      · rw [inb_iff, wM.2.2.2.1]; omega  -- b6
      refine ⟨?_, ?_⟩
      · rw [inb_iff, wM.2.2.2.2.2.1]; omega  -- b7
      refine ⟨?_, ?_⟩
      · rw [inb_iff, wM.2.2.1]; omega  -- b8
      refine ⟨fun c7 => ?_, fun c7 => ?_⟩
      · skip
        refine hj214 _ _ _ _ W139 ?_ ?_
        · exact T139_0  -- t9
        · refine and_5 ?_ (fun o9 => ?_)  -- k10
          · refine ⟨rfl, ⟨fun _ => ⟨ρ1, P1, J1, V1, P10, Nat.le_trans P11 (pD9_l (by omega))⟩, fun z => absurd z (by decide), rfl⟩, by omega, rfl⟩
          · refine ⟨Wg, fun _ => ⟨V9, hV9, ?_, hF9⟩, fun z => absurd z (by decide)⟩
            have no : ∀ k, k < n9 → (kO15 κ139 a0 k).toInt = (x139_1.toNatClampNeg : Int) → ¬ cnE σ9 k := fun k hk e z => by
              have y := wg_k15 Wg hd9.1 hk (Int32.toInt.inj (hd9.2.trans e.symm)) z
              exact (Wg.2.1 _ hd9.1).mpr y c7
            rw [lc] at hE9 ⊢
            exact vs_n15 hE9 no
      · skip
        intro T8
        refine We_isRing_q6 W139 T8 n9 ?_ (fun r9 q11 => ?_)
        · exact ⟨wM, hn, X1.2.1, ⟨by omega, l12⟩, X1.1.2.2.1, X1.1.1.2.2.2⟩  -- p11
        obtain ⟨q11, z9⟩ := q11
        have zi := z9
        intro W12
        intro M13
        refine ⟨fun c14 => ?_, fun c14 => ?_⟩
        · skip
          refine ⟨?_, ?_⟩
          · rw [inb_iff, wM.2.2.2.1]; omega  -- b12
          refine ⟨?_, ?_⟩
          · rw [inb_iff, wM.2.2.2.2.2.1]; omega  -- b13
          intro T15
          refine So_visitOne_q6 W12 T15 ρ1 n9 P1 V9 hV9 (mz9 _ hd9.1 hd9.2) (fun s hs y => mz9 s hs ((congrArg Int32.toInt y).trans hd9.2)) (fun b h1 h2 => bW_p15 X1 Wg.1.1 Wg.1.2 hd9.1 h1 h2) ?_ (fun r16 κ_17 q18 => ?_)
          · exact ⟨J1.2.2.1.1, X1, V1, kO, ⟨P10, Nat.lt_of_lt_of_le PB (pB9_l (by decide))⟩, J1.2.2.1.2.2.2.2.2.2⟩  -- p14
          obtain ⟨q18, z9⟩ := q18
          have zo := z9
          intro W19
          intro M20
          obtain ⟨nbv, ⟨Zv, Nv, Sv⟩, lv, kv⟩ := q18
          have R1 := J1.2.2.1
          have Ev : rgE9 (fun _ => True) ρ1 κ139 κ_17 a0 ρ1 := rg_so9 W139 T139_0 R1.2.1 R1.2.2.1 Zv (fun _ _ => trivial) ⟨Nv, Sv⟩
          have Jv := fv_s9 W139 T139_0 J1 Ev (Nat.lt_of_le_of_lt lv R1.2.2.2.2.2.2) (soF_r9 Zv (by decide)).1
          have wv := rg_w9 W139 T139_0 Ev X1
          have T17 : zT κ_17 a0 = 12 := Zv.t T139_0 (by decide)
          refine hj214 _ _ _ _ W19 ?_ ?_
          · exact T17  -- t15
          · refine and_5 ?_ (fun o9 => ?_)  -- k16
            · refine ⟨rfl, ⟨fun z => ⟨ρ1, P1 * dvN9 κ139 (zR κ139 soAtlas a0) (zA κ139 (zR κ139 weOrder (zR κ139 soWeb a0)) (zA κ139 (zR κ139 weKnotFirsts (zR κ139 soWeb a0)) x139_1.toNatClampNeg).toNatClampNeg).toNatClampNeg, Jv, fun k hk => ?_, Nat.mul_pos P10 dvN9_p, ?_⟩, fun _ => ⟨ρ1, Jv⟩, wv.2.2.2.1⟩, by omega, rfl⟩
              · obtain ⟨q1, q2, q3⟩ := V1 k hk
                obtain ⟨e3, e4⟩ := vU9_f W139 T139_0 Zv
                have ea : zR κ_17 soAtlas a0 = zR κ139 soAtlas a0 := (soF_r9 Zv (by decide)).1
                have dd := dvA_f9 W139 soF_fr Zv (ty_soAtlas W139 T139_0) k
                have dN : dvN9 κ_17 (zR κ139 soAtlas a0) k = dvN9 κ139 (zR κ139 soAtlas a0) k := by unfold dvN9; rw [dd]
                rw [e3, e4, ea, dN]
                refine ⟨q1, q2, ?_⟩
                by_cases y : k = (zA κ139 (zR κ139 weOrder (zR κ139 soWeb a0)) (zA κ139 (zR κ139 weKnotFirsts (zR κ139 soWeb a0)) x139_1.toNatClampNeg).toNatClampNeg).toNatClampNeg
                · rw [y]
                  exact kv z
                · refine vsK9_m (Nat.dvd_mul_right _ _) (vsK9_f W139 R1.1.1 Zv q2 (vs_r9 (by omega)) ⟨by unfold voR9; omega, by unfold voR9; omega, by unfold voR9; omega⟩ q3)
              · have d9 : dvN9 κ139 (zR κ139 soAtlas a0) (zA κ139 (zR κ139 weOrder (zR κ139 soWeb a0)) (zA κ139 (zR κ139 weKnotFirsts (zR κ139 soWeb a0)) x139_1.toNatClampNeg).toNatClampNeg).toNatClampNeg ≤ 8000000 := by
                  have d := dv_9 X1 (k := (zA κ139 (zR κ139 weOrder (zR κ139 soWeb a0)) (zA κ139 (zR κ139 weKnotFirsts (zR κ139 soWeb a0)) x139_1.toNatClampNeg).toNatClampNeg).toNatClampNeg) (by omega)
                  unfold dvN9
                  split <;> omega
                refine Nat.le_trans (Nat.mul_le_mul P11 d9) ?_
                rw [pD9_s, wv.2.2.1]
                exact pD9_l (by omega)
            · have B := bx_f15 W139 T139_0 Zv X1
              have Wg2 := wg_f15 W139 T139_0 soF_fr Zv X1 Wg
              have K0 := kO.1
              have ir := ir_15 X1 Wg (c := x139_1.toNatClampNeg) (f := ((zA κ139 (zR κ139 weKnotFirsts (zR κ139 soWeb a0)) x139_1.toNatClampNeg).toInt).toNat) (m := ((zA κ139 (zR κ139 weKnotFirsts (zR κ139 soWeb a0)) (x139_1.toNatClampNeg + 1)).toInt).toNat - ((zA κ139 (zR κ139 weKnotFirsts (zR κ139 soWeb a0)) x139_1.toNatClampNeg).toInt).toNat) (by omega) (by omega) (by omega) (fun z => zi.mpr z c14)
              rw [f9] at ir
              have one : ∀ k, k < n9 → (kO15 κ139 a0 k).toInt = (x139_1.toNatClampNeg : Int) → k = od15 κ139 a0 (zA κ139 (zR κ139 weKnotFirsts (zR κ139 soWeb a0)) x139_1.toNatClampNeg).toNatClampNeg := fun k hk e => by
                obtain ⟨j, j1, j2⟩ := kn9.2.2.2 k hk e
                rw [f9] at j1 j2
                rw [ir.1] at j1
                rw [← j2, show j = 0 by omega, Nat.add_zero]
              have V' : vE15 (pR15 σ9 n9) n9 (fun k => cnE σ9 k ∧ (x139_1.toNatClampNeg : Int) ≤ (kO15 κ139 a0 k).toInt) (fun k => if k = od15 κ139 a0 (zA κ139 (zR κ139 weKnotFirsts (zR κ139 soWeb a0)) x139_1.toNatClampNeg).toNatClampNeg then in15 κ139 a0 V9 (zA κ139 (zR κ139 weOrder (zR κ139 soWeb a0)) (zA κ139 (zR κ139 weKnotFirsts (zR κ139 soWeb a0)) x139_1.toNatClampNeg).toNatClampNeg) else V9 k) := by
                rw [lc] at hE9
                refine vs_15 Wg hE9 (fun k hk e => op9 k hk e c7) (fun k hk ne => if_neg (fun z => ne (by rw [z]; exact hd9.2))) (fun j hj e => ?_)
                rw [one j hj e, if_pos rfl]
                exact vo_15 X1 Wg K0 hd9.1 (mz9 _ hd9.1 hd9.2) ir.2
              have n0 := in_n15 (V := V9) (k := zA κ139 (zR κ139 weOrder (zR κ139 soWeb a0)) (zA κ139 (zR κ139 weKnotFirsts (zR κ139 soWeb a0)) x139_1.toNatClampNeg).toNatClampNeg) X1 hd9.1 (fun s hs => (hV9 s hs).2)
              have u17 := (vU9_f W139 T139_0 Zv).2
              refine ⟨Wg2, fun z => ⟨_, fun k hk => ?_, vE_c15 V' (fun k hk => ?_) (fun _ _ => rfl), fun k hk => ?_⟩, fun z => ⟨ng9, _, _, V', od15 κ139 a0 (zA κ139 (zR κ139 weKnotFirsts (zR κ139 soWeb a0)) x139_1.toNatClampNeg).toNatClampNeg, hd9.1, ⟨op9 _ hd9.1 hd9.2 c7, by rw [hd9.2]; exact Int.le_refl _⟩, op9 _ hd9.1 hd9.2 c7, ?_⟩⟩
              · by_cases e : k = od15 κ139 a0 (zA κ139 (zR κ139 weKnotFirsts (zR κ139 soWeb a0)) x139_1.toNatClampNeg).toNatClampNeg
                · rw [if_pos e, u17, e]
                  exact ⟨zo.2 z, n0⟩
                · have e' : ¬ k = (zA κ139 (zR κ139 weOrder (zR κ139 soWeb a0)) (zA κ139 (zR κ139 weKnotFirsts (zR κ139 soWeb a0)) x139_1.toNatClampNeg).toNatClampNeg).toNatClampNeg := e
                  rw [if_neg e, u17]
                  exact ⟨rq_f15 W139 J1.2.2.1.1.1 Zv (V1 k hk).2.1 (vs_r9 (by omega)) ⟨by unfold voR9; omega, by unfold voR9; omega, by unfold voR9; omega⟩ (hV9 k hk).1, (hV9 k hk).2⟩
              · have y : kO15 κ_17 a0 k = kO15 κ139 a0 k := B.2.2.2.2.1 k
                rw [lc, y]
              · split
                · exact zo.1.mp z
                · exact hF9 k hk
              · rw [if_pos rfl]
                exact fun y => zo.1.mpr y z
        · skip
          intro T21
          refine So_visitRing_q6 W12 T21 ρ1 n9 P1 ((zA κ139 (zR κ139 weKnotFirsts (zR κ139 soWeb a0)) x139_1.toNatClampNeg).toInt).toNat (((zA κ139 (zR κ139 weKnotFirsts (zR κ139 soWeb a0)) (x139_1.toNatClampNeg + 1)).toInt).toNat - ((zA κ139 (zR κ139 weKnotFirsts (zR κ139 soWeb a0)) x139_1.toNatClampNeg).toInt).toNat) V9 hV9 (fun s hs y => mz9 s hs ((congrArg Int32.toInt y).trans hd9.2)) (fun r hr => uB_15 X1 Wg.1.1 Wg.1.2 (kn9.2.1 r hr).1) (fun j hj => Exists.elim ((wg_g15 Wg).2.2 _ (kn9.2.1 j hj).1 (op9 _ (kn9.2.1 j hj).1 (kn9.2.1 j hj).2 c7)) (fun l hl => hE_15 X1 Wg (fun r hr => (kn9.2.1 r hr).1) kn9.2.2.1 l j hj hl)) (hC_15 X1 Wg (fun r hr => (kn9.2.1 r hr).1) kn9.2.2.1 (fun i j hi hj => Int32.toInt.inj ((kn9.2.1 i hi).2.trans (kn9.2.1 j hj).2.symm)) (fun s hs i hi e => kn9.2.2.2 s hs ((congrArg Int32.toInt e).trans (kn9.2.1 i hi).2))) ?_ (fun r22 κ_23 q24 => ?_)
          · have sz := J1.2.2.2.2.2.1 x139_1.toNatClampNeg (by omega) c7
            have R1 := J1.2.2.1
            exact ⟨⟨R1.1, R1.2.1, R1.2.2.1⟩, X1, V1, J1.2.2.2.2.1, ⟨by omega, l12⟩, ⟨by omega, by omega, by omega⟩, ⟨P10, PB⟩, R1.2.2.2.2.2.2⟩
          obtain ⟨q24, z9⟩ := q24
          have zr9 := z9
          intro W25
          intro M26
          obtain ⟨nbv, ρ2, Ev, lv, er, kv⟩ := q24
          have Jv := fv_s9 W139 T139_0 J1 Ev lv er
          have wv := rg_w9 W139 T139_0 Ev X1
          have T23 : zT κ_23 a0 = 12 := Ev.2.2.2.2.t T139_0 (by decide)
          refine hj214 _ _ _ _ W25 ?_ ?_
          · exact T23  -- t18
          · refine and_5 ?_ (fun o9 => ?_)  -- k19
            · refine ⟨rfl, ⟨fun z => ?_, fun _ => ⟨ρ2, Jv⟩, wv.2.2.2.1⟩, by omega, rfl⟩
              have ex : 2 * (n9 - ((zA κ139 (zR κ139 weKnotFirsts (zR κ139 soWeb a0)) (x139_1.toNatClampNeg + 1)).toInt).toNat) + 2 * (((zA κ139 (zR κ139 weKnotFirsts (zR κ139 soWeb a0)) (x139_1.toNatClampNeg + 1)).toInt).toNat - ((zA κ139 (zR κ139 weKnotFirsts (zR κ139 soWeb a0)) x139_1.toNatClampNeg).toInt).toNat) ≤ 2 * (n9 - ((zA κ139 (zR κ139 weKnotFirsts (zR κ139 soWeb a0)) x139_1.toNatClampNeg).toInt).toNat) := by omega
              obtain ⟨Q9, ⟨q1, q2⟩, q3⟩ := kv z
              refine ⟨ρ2, P1 * Q9, Jv, q3, Nat.mul_pos P10 q1, ?_⟩
              rw [wv.2.2.1]
              refine Nat.le_trans (Nat.mul_le_mul P11 q2) ?_
              exact Nat.le_trans (Nat.le_of_eq pD9_a) (pD9_l ex)
            · have B := bx_g15 W139 T139_0 rgF9_fr Ev.2.2.2.2 X1
              have Wg2 := wg_f15 W139 T139_0 rgF9_fr Ev.2.2.2.2 X1 Wg
              obtain ⟨X, x1, x2, x3⟩ := zr9
              have ex : ∀ k, ∃ q : Rat, ((kO15 κ139 a0 k).toInt = (x139_1.toNatClampNeg : Int) → ∀ i, i < ((zA κ139 (zR κ139 weKnotFirsts (zR κ139 soWeb a0)) (x139_1.toNatClampNeg + 1)).toInt).toNat - ((zA κ139 (zR κ139 weKnotFirsts (zR κ139 soWeb a0)) x139_1.toNatClampNeg).toInt).toNat → od15 κ139 a0 (((zA κ139 (zR κ139 weKnotFirsts (zR κ139 soWeb a0)) x139_1.toNatClampNeg).toInt).toNat + i) = k → q = X i) ∧ ((kO15 κ139 a0 k).toInt ≠ (x139_1.toNatClampNeg : Int) → q = V9 k) := fun k => by
                by_cases c : ∃ i, i < ((zA κ139 (zR κ139 weKnotFirsts (zR κ139 soWeb a0)) (x139_1.toNatClampNeg + 1)).toInt).toNat - ((zA κ139 (zR κ139 weKnotFirsts (zR κ139 soWeb a0)) x139_1.toNatClampNeg).toInt).toNat ∧ od15 κ139 a0 (((zA κ139 (zR κ139 weKnotFirsts (zR κ139 soWeb a0)) x139_1.toNatClampNeg).toInt).toNat + i) = k
                · obtain ⟨i, i1, i2⟩ := c
                  exact ⟨X i, fun _ j j1 j2 => by rw [kn9.2.2.1 j i j1 i1 (j2.trans i2.symm)], fun z => absurd (by rw [← i2]; exact (kn9.2.1 i i1).2) z⟩
                · exact ⟨V9 k, fun _ j j1 j2 => absurd ⟨j, j1, j2⟩ c, fun _ => rfl⟩
              obtain ⟨V', hV'⟩ := Classical.axiomOfChoice ex
              have mem : ∀ i, i < ((zA κ139 (zR κ139 weKnotFirsts (zR κ139 soWeb a0)) (x139_1.toNatClampNeg + 1)).toInt).toNat - ((zA κ139 (zR κ139 weKnotFirsts (zR κ139 soWeb a0)) x139_1.toNatClampNeg).toInt).toNat → V' (od15 κ139 a0 (((zA κ139 (zR κ139 weKnotFirsts (zR κ139 soWeb a0)) x139_1.toNatClampNeg).toInt).toNat + i)) = X i := fun i hi => (hV' _).1 (kn9.2.1 i hi).2 i hi rfl
              have VE : vE15 (pR15 σ9 n9) n9 (fun k => cnE σ9 k ∧ (x139_1.toNatClampNeg : Int) ≤ (kO15 κ139 a0 k).toInt) V' := by
                rw [lc] at hE9
                exact vs_15 Wg hE9 (fun k hk e => op9 k hk e c7) (fun k _ ne => (hV' k).2 ne) (vr_15 X1 Wg kn9 mz9 x1 (fun k _ ne => (hV' k).2 ne) mem)
              refine ⟨Wg2, fun z => ⟨V', fun k hk => ?_, vE_c15 VE (fun k hk => by rw [lc, B.2.2.2.2.1]) (fun _ _ => rfl), fun k hk => ?_⟩, fun z => ?_⟩
              · by_cases e : (kO15 κ139 a0 k).toInt = (x139_1.toNatClampNeg : Int)
                · obtain ⟨i, i1, i2⟩ := kn9.2.2.2 k hk e
                  rw [← i2, mem i i1]
                  exact ⟨((x2 z).1 i i1).1, (x1 i i1).1⟩
                · rw [(hV' k).2 e]
                  exact ⟨(x2 z).2 k hk (fun i hi q => e (by rw [← q]; exact (kn9.2.1 i hi).2)), (hV9 k hk).2⟩
              · by_cases e : (kO15 κ139 a0 k).toInt = (x139_1.toNatClampNeg : Int)
                · obtain ⟨i, i1, i2⟩ := kn9.2.2.2 k hk e
                  rw [← i2, mem i i1]
                  exact ((x2 z).1 i i1).2
                · rw [(hV' k).2 e]
                  exact hF9 k hk
              · obtain ⟨i, i1, i2⟩ := x3 z
                exact ⟨ng9, V', _, VE, _, (kn9.2.1 i i1).1, ⟨op9 _ (kn9.2.1 i i1).1 (kn9.2.1 i i1).2 c7, by rw [(kn9.2.1 i i1).2]; exact Int.le_refl _⟩, op9 _ (kn9.2.1 i i1).1 (kn9.2.1 i i1).2 c7, by rw [mem i i1]; exact i2⟩
  intro κ_27 hκ_27
  intro W28
  intro T29
  intro T30
  have Zs : zF (fun f b => f = soSolved ∧ b = a0) κ κ_27 := by
    rw [hκ_27]
    exact zF_ui ⟨rfl, rfl⟩
  have V27 : frV9 (zn κ) (fun f b => f = soSolved ∧ b = a0) := fun f b z => by
    rw [z.1]
    exact Or.inr (Or.inr (Or.inr (Or.inr (Or.inl (by decide)))))
  have A27 := atW_v9 W V27 Zs tb A0
  have er27 : zR κ_27 = zR κ := by rw [hκ_27]; rfl
  have nt : ∀ (t f w : Nat), zT κ w = t → t ≠ 12 → ¬ (f = soSolved ∧ w = a0) := fun t f w ht h12 z => by
    rw [z.2, Ta0] at ht
    exact h12 ht.symm
  have S27 := rs_h9 W Ta0 S0 Zs (fun f w h => nt 8 f w h (by decide)) (fun f w h => nt 11 f w h (by decide)) (fun f w h => nt 4 f w h (by decide)) (fun f h1 _ z => h1 z.1)
  have T27 : zT κ_27 a0 = 12 := Zs.t Ta0 (by decide)
  refine We_weave_q15 W28 T29 T30 n9 ?_ (fun κ_31 q32 => ?_)
  · rw [er27]
    refine ⟨?_, ?_, A27⟩
    · rw [hκ_27]; exact U0
    · rw [hκ_27]; exact L0
  obtain ⟨q32, zw⟩ := q32
  rw [er27] at q32 T29 T30
  obtain ⟨Zw, G31, A31⟩ := q32
  have no : ∀ (t f w : Nat), zT κ_27 w = t → t ≠ 14 → ¬ objF (zR κ soWeb a0) f w := fun t f w ht h14 z => by
    rw [show w = zR κ soWeb a0 from z, T29] at ht
    exact h14 ht.symm
  have S31 := rs_h9 W28 T27 S27.1 Zw (fun f w h => no 8 f w h (by decide)) (fun f w h => no 11 f w h (by decide)) (fun f w h => no 4 f w h (by decide)) (fun f _ _ => no 12 f a0 T27 (by decide))
  have T31 : zT κ_31 a0 = 12 := Zw.t T27 (by decide)
  have ew31 : zR κ_31 soWeb a0 = zR κ soWeb a0 := by rw [S31.2 soWeb (by decide) (by decide), er27]
  have eb31 : zR κ_31 soAtlas a0 = zR κ soAtlas a0 := by rw [S31.2 soAtlas (by decide) (by decide), er27]
  have ec31 : zR κ_31 soCalc a0 = zR κ soCalc a0 := by rw [S31.2 soCalc (by decide) (by decide), er27]
  intro W33
  intro M34
  intro T35
  refine We_knot_q6 W33 T35 n9 ?_ (fun κ_36 q37 => ?_)
  · rw [ew31]
    exact ⟨G31.1.1, G31.2.1, G31.2.2.1, G31.1.2.2.2⟩
  obtain ⟨q37, z9⟩ := q37
  have zk := z9
  intro W38
  intro M39
  rw [ew31] at q37 T35
  obtain ⟨Kn, KN⟩ := q37
  have tb31 : zT κ_31 (zR κ soAtlas a0) = 3 := by rw [← eb31]; exact ty_soAtlas W33 T31
  have Zk : zF (objF (zR κ soWeb a0)) κ_31 κ_36 := Kn.1.mono (fun f x z => z.1)
  have no2 : ∀ (t f w : Nat), zT κ_31 w = t → t ≠ 14 → ¬ objF (zR κ soWeb a0) f w := fun t f w ht h14 z => by
    rw [show w = zR κ soWeb a0 from z, T35] at ht
    exact h14 ht.symm
  have S36 := rs_h9 W33 T31 S31.1 Zk (fun f w h => no2 8 f w h (by decide)) (fun f w h => no2 11 f w h (by decide)) (fun f w h => no2 4 f w h (by decide)) (fun f _ _ => no2 12 f a0 T31 (by decide))
  have G36 := weG_K9 W33 T35 tb31 Kn G31
  have A36 := atW_E W33 T35 tb31 Zk A31
  have T36 : zT κ_36 a0 = 12 := Zk.t T31 (by decide)
  have ew36 : zR κ_36 soWeb a0 = zR κ soWeb a0 := by rw [S36.2 soWeb (by decide) (by decide)]; exact ew31
  have eb36 : zR κ_36 soAtlas a0 = zR κ soAtlas a0 := by rw [S36.2 soAtlas (by decide) (by decide)]; exact eb31
  have ec36 : zR κ_36 soCalc a0 = zR κ soCalc a0 := by rw [S36.2 soCalc (by decide) (by decide)]; exact ec31
  have hn := G36.2.1.2
  have kK := KN.1
  have sl36 : zI κ_36 soSolved a0 = 0 := by
    rw [Zk.i (no2 12 _ a0 T31 (by decide)), Zw.i (no 12 _ a0 T27 (by decide)), hκ_27]
    exact if_pos ⟨rfl, rfl⟩
  have F36 : zF (fvF9 ρ κ a0) κ κ_36 := ((Zs.mono (fun f b z => Or.inr (Or.inr (Or.inl ⟨z.2, Or.inl z.1⟩)))).tr (Zw.mono (fun f b z => Or.inr (Or.inl z)))).tr (Zk.mono (fun f b z => Or.inr (Or.inl z)))
  have K36 : zK9 κ κ_36 a0 := ((zK_z9 W Ta0 Zs (fun b _ z => absurd z.1 (by decide)) (fun z => absurd z.1 (by decide)) (fun z => absurd z.1 (by decide)) (fun z => absurd z.1 (by decide))).tr (zK_w9 W28 T27 T29 Zw)).tr (zK_w9 W33 T31 T35 Zk)
  have wM36 := G36.1.1
  have mn36 := F36.2.2.2.2.2.2
  have tb27 : zT κ_27 (zR κ soAtlas a0) = 3 := by rw [← er27]; exact ty_soAtlas W28 T27
  have wg36 : wgw15 κ_36 (zR κ soWeb a0) (zR κ soAtlas a0) n9 σ9 := by
    rw [er27] at zw
    rw [ew31] at zk
    refine wg_k015 W33 T35 tb31 (tb_E15 W28 T29 tb27 Zw (tb_v15 W V27 Zs tb hT9)) zw (fun j hj y z => ?_) Kn zk.1 zk.2
    obtain ⟨i, i1, i2, i3⟩ := z
    have o := G31.2.2.1
    have i2' : (i : Int) < (zA κ_31 (zR κ_31 weFirsts (zR κ soWeb a0)) (j + 1)).toInt := i2
    have i3' : (zA κ_31 (zR κ_31 weTargets (zR κ soWeb a0)) i).toNatClampNeg = y := i3
    have a1 := (o.1 (j + 1) (by omega)).2
    have a2 := o.2.2.2 i (by omega)
    have c := cnk a2.1
    omega
  unfold w_So_findVisitz_26
  refine ⟨fun n l0 l1 τ => n = ((zI κ_36 weKnots (zR κ_36 soWeb a0)).toInt - l1.toInt).toNat ∧ ((a0 = l0 ∧ κ_36 = τ ∧ (0 ≤ l1.toInt ∧ l1.toInt ≤ (zI κ_36 weKnots (zR κ_36 soWeb a0)).toInt) ∧ ∀ c : Nat, (c : Int) < l1.toInt → zA κ_36 (zR κ_36 weOpen (zR κ_36 soWeb a0)) (zA κ_36 (zR κ_36 weOrder (zR κ_36 soWeb a0)) (zA κ_36 (zR κ_36 weKnotFirsts (zR κ_36 soWeb a0)) c).toNatClampNeg).toNatClampNeg ≠ 0 → (zA κ_36 (zR κ_36 weKnotFirsts (zR κ_36 soWeb a0)) (c + 1)).toInt - (zA κ_36 (zR κ_36 weKnotFirsts (zR κ_36 soWeb a0)) c).toInt ≤ 32) ∧ True), ⟨_, rfl, ?_⟩, ?_⟩
  · refine and_5 ?_ (fun o9 => trivial)  -- j22
    exact ⟨rfl, rfl, ⟨by decide, by rw [ew36, t0i]; exact kK.1⟩, fun c hc => by rw [t0i] at hc; omega⟩
  rintro n26 _ x26_1 κ26 W26 T26_0 ⟨hn26, ⟨rfl, i26⟩, hE⟩
  obtain ⟨e26, l26, z26⟩ := i26
  subst e26
  have kl := cnk l26.1
  refine ⟨fun c40 => ?_, fun c40 => ?_⟩
  · skip
    intro T41
    refine So_fresh_c W26 T41 ρ a0 100 soVisits ?_ (fun r42 κ_43 q44 => ?_)
    · have tot := G36.2.1.1
      rw [← ew36] at tot
      exact ⟨S36.1.1, T36, ⟨Or.inl rfl, Or.inl rfl, W26.o (show zr soVisits = some 25 by decide +kernel) (by decide) T26_0, fun z => absurd z (by decide)⟩, S36.1.2.2.2.1.1, S36.1.2.2.2.1.2, ⟨by omega, by omega⟩⟩
    intro W45
    intro M46
    intro T47
    have tot := G36.2.1.1
    rw [← ew36] at tot
    have wo := fr_o9 (f9 := soVisits) (s := a0) (τ := κ_43) W26 (ty_soVisits W26 T26_0) T26_0 (W26.o (show zr soVisits = some 25 by decide +kernel) (by decide) T26_0) (Exists.choose_spec (Exists.choose_spec q44.1)).1 (Exists.choose_spec (Exists.choose_spec q44.1)).2.2.2.2.1.1
    refine ⟨?_, ?_⟩
    · rcases wo with y | y
      · exact Or.inr y.1
      · exact Or.inl y.1
    intro κ_48 hκ_48
    intro W49
    obtain ⟨Z48, K48, ρ8, h8, R8, V8, L8⟩ := fr_r9 (n := n9) W26 W45 W49 T26_0 S36.1 ⟨tot, hn⟩ q44.1 q44.2 hκ_48
    have T48 : zT κ_48 a0 = 12 := Z48.t T26_0 (by decide)
    have fv8 := frF9_v (ρ := ρ) (κ := κ_36) (s := a0) (Or.inl (rfl : soVisits = soVisits))
    have nf : ∀ f, f = soAtlas ∨ f = soWeb ∨ f = soCalc ∨ f = soSolved → ¬ frF9 ρ κ_36 soVisits a0 f a0 := fun f hf z => by
      have la := (W26.2.1 a0 (by rw [T26_0]; decide)).2
      rcases z with z | z | z | z
      · rcases z with ⟨_, z | z | z⟩ | ⟨_, z | z | z | z⟩ <;> (rw [z] at hf; exact absurd hf (by decide))
      · rw [z.1] at hf; exact absurd hf (by decide)
      · rw [z] at hf; exact absurd hf (by decide)
      · omega
    have ea8 : zR κ_48 soAtlas a0 = zR κ soAtlas a0 := (Z48.r (nf _ (Or.inl rfl))).trans eb36
    have ew8 : zR κ_48 soWeb a0 = zR κ soWeb a0 := (Z48.r (nf _ (Or.inr (Or.inl rfl)))).trans ew36
    have ec8 : zR κ_48 soCalc a0 = zR κ soCalc a0 := (Z48.r (nf _ (Or.inr (Or.inr (Or.inl rfl))))).trans ec36
    have tw36 : zT κ_36 (zR κ soWeb a0) = 14 := by rw [← ew36]; exact ty_soWeb W26 T26_0
    have tb36 : zT κ_36 (zR κ soAtlas a0) = 3 := by rw [← eb36]; exact ty_soAtlas W26 T26_0
    have X8 : svX9 κ_48 a0 n9 := by
      unfold svX9
      rw [ew8, ea8]
      exact ⟨weG_v9 W26 fv8 Z48 tw36 tb36 G36, weKn_v9 W26 fv8 Z48 tw36 KN, atW_v9 W26 fv8 Z48 tb36 A36, L8⟩
    have g8 := fun f hf => we_v9 W26 fv8 Z48 tw36 (f := f) hf
    have ix8 : zI κ_48 weKnots (zR κ soWeb a0) = zI κ_36 weKnots (zR κ soWeb a0) := Z48.i (frV9_n W26 fv8 tw36 (by decide))
    rw [lei] at c40
    have sz8 : ∀ c : Nat, (c : Int) < (zI κ_48 weKnots (zR κ_48 soWeb a0)).toInt → zA κ_48 (zR κ_48 weOpen (zR κ_48 soWeb a0)) (zA κ_48 (zR κ_48 weOrder (zR κ_48 soWeb a0)) (zA κ_48 (zR κ_48 weKnotFirsts (zR κ_48 soWeb a0)) c).toNatClampNeg).toNatClampNeg ≠ 0 → (zA κ_48 (zR κ_48 weKnotFirsts (zR κ_48 soWeb a0)) (c + 1)).toInt - (zA κ_48 (zR κ_48 weKnotFirsts (zR κ_48 soWeb a0)) c).toInt ≤ 32 := by
      rw [ew8, ix8, (g8 weOpen (by decide)).2.1, (g8 weOrder (by decide)).2.1, (g8 weKnotFirsts (by decide)).2.1]
      rw [ew36] at z26 c40
      exact fun c hc => z26 c (by omega)
    have sl8 : zI κ_48 soSolved a0 = 0 := (Z48.i (nf _ (Or.inr (Or.inr (Or.inr rfl))))).trans sl36
    have F48 : zF (fvF9 ρ κ a0) κ κ_48 := F36.tr (Z48.mono (fun f b z => by
      rcases z with z | z | z | z
      · rcases z with z | z
        · exact Or.inl (Or.inl ⟨trivial, z.2⟩)
        · exact Or.inr (Or.inr (Or.inr (Or.inr (Or.inl z.1))))
      · exact Or.inr (Or.inr (Or.inl ⟨z.2, Or.inr (Or.inr (Or.inr z.1))⟩))
      · exact Or.inr (Or.inr (Or.inr (Or.inl z)))
      · exact Or.inr (Or.inr (Or.inr (Or.inr (Or.inr (by omega)))))))
    have h8' : ∀ b, b < zn κ → ρ8 b = ρ b := fun b hb => h8 b (by omega)
    have tot8 : (zI κ_48 weTotal (zR κ_48 soWeb a0)).toInt = (n9 : Int) := X8.1.2.1.1
    refine ⟨fun c50 => ?_, fun c50 => ?_⟩
    · skip
      refine hj129 _ _ W49 ?_ ?_
      · exact T48  -- t25
      · refine and_5 ?_ (fun o9 => ?_)  -- k26
        · rw [lei, tot8, ofn_i (by rcases R8.2.2.2.2.2.1 with y | y <;> rw [y] <;> decide)] at c50
          exact ⟨rfl, ρ8, ⟨h8', F48, R8, X8, by omega, sz8, sl8, ea8, ew8, ec8, K36.tr K48⟩, V8⟩
        · refine ⟨?_, fun k hk => fz_15 q44.1 hκ_48 (by have tot := G36.2.1.1; rw [← ew36] at tot; have c := cnk (x := zI κ_36 weTotal (zR κ_36 soWeb a0)) (by omega); omega)⟩
          show wgw15 κ_48 (zR κ_48 soWeb a0) (zR κ_48 soAtlas a0) n9 σ9
          rw [ew8, ea8]
          exact wg_v15 W26 fv8 Z48 tw36 tb36 wg36
    · skip
      refine ⟨?_, ?_⟩
      · exact ⟨by decide, by decide⟩  -- b27
      intro κ_51 hκ_51
      intro W52
      refine ⟨?_, ?_⟩
      · rw [hκ_51]; exact if_pos rfl  -- b28
      intro κ_53 hκ_53
      intro W54
      rw [lei, tot8, ofn_i (by rcases R8.2.2.2.2.2.1 with y | y <;> rw [y] <;> decide)] at c50
      have l0 : (zN κ_48 (zR κ_48 soRows a0)) = 0 := by
        rcases R8.2.2.2.2.2.1 with y | y
        · exact y
        · omega
      have n1k : (1000 : Int32).toNatClampNeg = 1000 := by decide
      rw [n1k] at hκ_51
      have G := we_gr (f := soRows) (c := a0) W49 (show zr soRows = some 20 by decide +kernel) (by decide) T48 hκ_51 hκ_53 (by rw [l0]; decide) (by rw [l0]; decide)
      have E : rgE9 (fun _ => False) ρ8 κ_48 κ_53 a0 ρ8 := rg_rn9 W49 T48 R8.1.1 R8.1.2 R8.2.1 R8.2.2.1 G.1
      have n53 : zN κ_53 (zR κ_53 soRows a0) = 1000 := by rw [G.2.2.2.1]; exact G.2.2.2.2.1
      have X3 := rg_x9 W49 T48 E X8
      have w3 := rg_w9 W49 T48 E X8
      have wo3 := (we_f9 W49 rgF9_fr E.2.2.2.2 (ty_soWeb W49 T48) (f := weOpen) (by decide)).2.1
      have nl3 := rg_n9 (c := 0) W49 (ty_soLess W49 T48) E (fun z => z)
      have V3 := rg_v9 W49 T48 R8.1.1 hn (fun _ _ _ z => z) E V8
      have F53 : zF (fvF9 ρ κ a0) κ κ_53 := F48.tr (G.1.mono (fun f b z => Or.inr (Or.inr (Or.inl ⟨z.2, Or.inr (Or.inr (Or.inl z.1))⟩))))
      have R3 := rs_rg9 W49 T48 R8 E (by rw [nl3.2.1]; exact R8.2.2.2.2.2.2) (Or.inr n53)
      have e3 := fun f hf => rg_r9 W49 T48 E (f := f) hf
      refine hj129 _ _ W54 ?_ ?_
      · exact G.1.t T48 (by decide)  -- t29
      · refine and_5 ?_ (fun o9 => ?_)  -- k30
        · refine ⟨rfl, ρ8, ⟨h8', F53, R3, X3.1, by rw [n53]; exact hn, ?_, (e3 soSolved (by decide)).2.trans sl8, X3.2.2.1.trans ea8, X3.2.1.trans ew8, (e3 soCalc (by decide)).1.trans ec8, (K36.tr K48).tr E.2.2.2.1.2⟩, V3.1⟩
          rw [w3.2.2.1, w3.2.2.2.1, w3.1, X3.2.1, wo3]
          exact sz8
        · have wg48 : wg15 κ_48 a0 n9 σ9 := by
            show wgw15 κ_48 (zR κ_48 soWeb a0) (zR κ_48 soAtlas a0) n9 σ9
            rw [ew8, ea8]
            exact wg_v15 W26 fv8 Z48 tw36 tb36 wg36
          refine ⟨wg_f15 W49 T48 rgF9_fr E.2.2.2.2 X8 wg48, fun k hk => ?_⟩
          exact rq_g15 W49 T48 R8.1.1 (fun _ _ _ z => z) E (V8 k hk).2.1 (by omega) (fz_15 q44.1 hκ_48 (by have tot := G36.2.1.1; rw [← ew36] at tot; have c := cnk (x := zI κ_36 weTotal (zR κ_36 soWeb a0)) (by omega); omega))
  · skip
    rw [lei] at c40
    have c40' := c40
    rw [ew36] at c40'
    have kA := KN.2.1 x26_1.toNatClampNeg (by omega)
    have kf := cnk kA.1
    have kO := (KN.2.2.1 (zA κ_36 (zR κ_36 weKnotFirsts (zR κ soWeb a0)) x26_1.toNatClampNeg).toNatClampNeg (by omega)).1
    have ix := cn1 (x := x26_1) l26.1 (by omega)
    refine ⟨?_, ?_⟩
    · rw [ew36, inb_iff, wM36.2.2.2.1]; omega  -- b31
    refine ⟨?_, ?_⟩
    · rw [ew36, inb_iff, wM36.2.2.2.2.2.1]; omega  -- b32
    refine ⟨?_, ?_⟩
    · rw [ew36, inb_iff, wM36.2.2.1]; omega  -- b33
    refine ⟨fun c55 => ?_, fun c55 => ?_⟩
    · skip
      intro x56 hx56
      refine lp_b5 ?_ (fun d9 => ⟨rfl, ?_⟩)
      · rw [hn26, hx56, ix.2]; omega  -- d34
      · refine and_5 ?_ (fun o9 => trivial)  -- i35
        refine ⟨rfl, rfl, ⟨by rw [hx56, ix.2]; omega, by rw [hx56, ix.2]; omega⟩, fun c hc ho => ?_⟩
        rw [hx56, ix.2] at hc
        by_cases e : c = x26_1.toNatClampNeg
        · rw [e] at ho
          exact absurd c55 ho
        · exact z26 c (by omega) ho
    · skip
      intro T57
      refine We_sizeOf_c W26 T57 n9 ?_ (fun r58 q60 => ?_)
      · rw [ew36]
        exact ⟨wM36, hn, KN, ⟨l26.1, by omega⟩⟩
      intro W61
      intro M62
      refine ⟨fun c63 => ?_, fun c63 => ?_⟩
      · skip
        intro x64 hx64
        refine lp_b5 ?_ (fun d9 => ⟨rfl, ?_⟩)
        · rw [hn26, hx64, ix.2]; omega  -- d37
        · refine and_5 ?_ (fun o9 => trivial)  -- i38
          refine ⟨rfl, rfl, ⟨by rw [hx64, ix.2]; omega, by rw [hx64, ix.2]; omega⟩, fun c hc ho => ?_⟩
          rw [hx64, ix.2] at hc
          by_cases e : c = x26_1.toNatClampNeg
          · rw [lei, show (32 : Int32).toInt = 32 from rfl] at c63
            rw [e]
            have q := q60.1
            omega
          · exact z26 c (by omega) ho
      · skip
        refine h _ _ ?_
        · refine and_5 ?_ (fun o9 => ?_)  -- q39
          · exact ⟨ρ, fun _ _ => rfl, F36, S36.1, A36, G36.1, ⟨eb36, ew36, ec36⟩, fun z => absurd sl36 z, K36⟩
          · rw [lei, show (32 : Int32).toInt = 32 from rfl] at c63
            rw [ew36] at q60 c55
            refine Or.inr (Or.inr ⟨rfl, bg_y15 KN wg36 (c := x26_1.toNatClampNeg) (by omega) c55 ?_⟩)
            have q := q60.1
            omega

end
section
set_option maxHeartbeats 1600000
/-! solve's answer, by the tables alone -/
noncomputable def sv15 (σ : rS) (s : Nat) : Int32 := @ite Int32 (bg15 σ) (Classical.propDecidable _) (-2) (@ite Int32 (nf15 σ s) (Classical.propDecidable _) (-3) 0)
theorem sv_215 {σ : rS} {s : Nat} (b : bg15 σ) : sv15 σ s = -2 := if_pos b
theorem sv_315 {σ : rS} {s : Nat} (b : ¬ bg15 σ) (n : nf15 σ s) : sv15 σ s = -3 := by
  unfold sv15
  rw [if_neg b, if_pos n]
/-- where all visits fit, none of another solution doesn't -/
theorem sv_015 {σ : rS} {s : Nat} {V : Nat → Rat} (h : pOK σ) (hs : s = (σ.1 70).toNatClampNeg) (b : ¬ bg15 σ) (E : vE15 (pR15 σ s) s (cnE σ) V) (ft : ∀ k, k < s → ftW8 (V k)) : sv15 σ s = 0 := by
  unfold sv15
  rw [if_neg b, if_neg ?_]
  rintro ⟨V', S, E', j, j1, j2, j3, j4⟩
  have G := gP_15 h hs
  have q := un_15 G.1 G.2.1 G.2.2 E E' j j1 j3 j2
  exact j4 (by rw [← q]; exact ft j j1)
theorem sx_15 {σ τ : rS} {s : Nat} {v : Int32} (h : pOK σ) (hs : s = (σ.1 70).toNatClampNeg) (x : sX15 σ τ s v) : v = sv15 σ s := by
  rcases x with ⟨e, b, V, v1, v2, v3⟩ | ⟨e, b, n⟩ | ⟨e, b⟩
  · rw [sv_015 h hs b v2 v3]; exact e
  · rw [sv_315 b n]; exact e
  · rw [sv_215 b]; exact e
theorem fx_15 {κ : zS} {a n : Nat} {σ : rS} {v : Int32} (h : pOK σ) (hs : n = (σ.1 70).toNatClampNeg) (x : fX15 κ a n σ v) : v = sv15 σ n := by
  rcases x with ⟨e, b, V, v1, v2, v3⟩ | ⟨e, b, V, S, n1, j, j1, j2, j3, j4⟩ | ⟨e, b⟩
  · rw [sv_015 h hs b v2 (fun k hk => f2_t15.mp (v3 k hk))]; exact e
  · rw [sv_315 b ⟨V, S, n1, j, j1, j2, j3, fun z => j4 (f2_t15.mpr z)⟩]; exact e
  · rw [sv_215 b]; exact e
/-- solve, of the reference -/
noncomputable def sw15 (σ : rS) : Int32 := sv15 σ (σ.1 70).toNatClampNeg
def sc15 (σ : rS) : Prop := σ.1 69 ≠ 0
def XQ15 (σ σ' : rS) (v : Int32) : Prop := (sc15 σ ∧ σ'.1 0 = 0 ∧ v = sw15 σ) ∨ (¬ sc15 σ ∧ σ'.1 0 = 1)
theorem XQ_15 {σ σ' : rS} {v : Int32} (h : pOK σ) (x : XV15 σ σ' (σ.1 70).toNatClampNeg v) : XQ15 σ σ' v := by
  rcases x with ⟨z, e⟩ | ⟨z, e, x, _⟩
  · exact Or.inr ⟨fun y => y z, e⟩
  · exact Or.inl ⟨z, e, sx_15 h rfl x⟩

end
section
set_option maxHeartbeats 1600000
/-! what is seen of the tape and of the last fault, on both sides: bytes below the length, the length, the fault -/
abbrev Ob9 : Type := (Nat → Int32) × Int32 × Int32
def mkO9 (f : Nat → Int32) (n x : Int32) : Ob9 := (fun j => if j < n.toInt.toNat then f j else 0, n, x)
def oR9 (σ : rS) : Ob9 := mkO9 (σ.2.2.1 1) (σ.1 2) (σ.1 53)
theorem oR_k9 {σ τ : rS} (h2 : τ.1 2 = σ.1 2) (h53 : τ.1 53 = σ.1 53) (h1 : τ.2.2.1 1 = σ.2.2.1 1) : oR9 τ = oR9 σ := by
  unfold oR9
  rw [h2, h53, h1]
/-- end -/
def trO9 (w : Ob9) (m : Int32) : Ob9 := if 0 ≤ m ∧ m ≤ w.2.1 then mkO9 w.1 m w.2.2 else w
theorem tr_m9 {f : Nat → Int32} {n x m : Int32} (h : 0 ≤ m ∧ m ≤ n) : trO9 (mkO9 f n x) m = mkO9 f m x := by
  unfold trO9
  rw [if_pos (show 0 ≤ m ∧ m ≤ (mkO9 f n x).2.1 from h)]
  refine Prod.ext (funext fun j => ?_) rfl
  show (if j < m.toInt.toNat then (if j < n.toInt.toNat then f j else 0) else 0) = if j < m.toInt.toNat then f j else 0
  by_cases c : j < m.toInt.toNat
  · have z := h.2
    rw [lei] at z
    rw [if_pos c, if_pos c, if_pos (by omega)]
  · rw [if_neg c, if_neg c]
theorem tr_n9 {f : Nat → Int32} {n x m : Int32} (h : ¬ (0 ≤ m ∧ m ≤ n)) : trO9 (mkO9 f n x) m = mkO9 f n x := if_neg h
/-- a byte of a word -/
def bw9 (w : Int32) (i : Nat) : Int32 := vp_nar .byte (Int8.toInt32 (Int32.toInt8 (w >>> (((24 : Int32) - 8 * Int32.ofNat i) &&& 31))))
def vs9 (a b c d e : Int32) (i : Nat) : Int32 := if i < 4 then a else if i < 8 then b else if i < 12 then c else if i < 16 then d else e
def by9 (a b c d e : Int32) (i : Nat) : Int32 := bw9 (vs9 a b c d e i) (i % 4)
/-- feed -/
def fdO9 (w : Ob9) (G : Nat → Int32) : Ob9 := (fun j => if j < w.2.1.toInt.toNat then w.1 j else if j < w.2.1.toInt.toNat + 20 then G (j - w.2.1.toInt.toNat) else 0, w.2.1 + 20, w.2.2)
theorem fd_m9 {f f' G : Nat → Int32} {n n' x : Int32} (h0 : 0 ≤ n.toInt) (h60 : n.toInt ≤ 60000) (hn : n' = n + 20) (h1 : ∀ j, j < n.toInt.toNat → f' j = f j) (h2 : ∀ i, i < 20 → f' (n.toInt.toNat + i) = G i) : mkO9 f' n' x = fdO9 (mkO9 f n x) G := by
  subst hn
  have t20 : (20 : Int32).toInt = 20 := rfl
  have e : (n + 20).toInt = n.toInt + 20 := by rw [add_i (by rw [t20]; omega) (by rw [t20]; omega), t20]
  refine Prod.ext (funext fun j => ?_) rfl
  show (if j < (n + 20).toInt.toNat then f' j else 0) = if j < n.toInt.toNat then (if j < n.toInt.toNat then f j else 0) else if j < n.toInt.toNat + 20 then G (j - n.toInt.toNat) else 0
  by_cases c : j < n.toInt.toNat
  · rw [if_pos (by omega), if_pos c, if_pos c, h1 j c]
  · rw [if_neg c]
    by_cases c2 : j < n.toInt.toNat + 20
    · rw [if_pos (by omega), if_pos c2]
      have z := h2 (j - n.toInt.toNat) (by omega)
      rw [show n.toInt.toNat + (j - n.toInt.toNat) = j by omega] at z
      exact z
    · rw [if_neg (by omega), if_neg c2]
theorem mk_e9 {f f' : Nat → Int32} {n n' x x' : Int32} (h : mkO9 f n x = mkO9 f' n' x') : n = n' ∧ x = x' ∧ ∀ j, j < n.toInt.toNat → f j = f' j := by
  have e1 : n = n' := congrArg (fun w : Ob9 => w.2.1) h
  have e2 : x = x' := congrArg (fun w : Ob9 => w.2.2) h
  refine ⟨e1, e2, fun j hj => ?_⟩
  have z : (if j < n.toInt.toNat then f j else 0) = if j < n'.toInt.toNat then f' j else 0 := congrFun (congrArg (fun w : Ob9 => w.1) h) j
  rw [← e1, if_pos hj, if_pos hj] at z
  exact z
theorem mk_09 {f : Nat → Int32} {x : Int32} : mkO9 f 0 x = ((fun _ => 0, 0, x) : Ob9) := by
  refine Prod.ext (funext fun j => ?_) rfl
  show (if j < (0 : Int32).toInt.toNat then f j else 0) = 0
  exact if_neg (by show ¬ j < 0; omega)
theorem sh_49 : ∀ k, k < 20 → (((24 : Int32) - ((8 : Int32) * (Int32.ofNat k &&& (3 : Int32)))) &&& 31) = (((24 : Int32) - 8 * Int32.ofNat (k % 4)) &&& 31) := by decide
/-- the reference: fault, by what it answers -/
theorem fault_c9 {C : rCx} (hC : cOK C) {σ : rS} {Q : Int32 → rS → Prop} (h : ∀ (σ' : rS), ((∀ k, k ≠ 0 → σ'.1 k = σ.1 k) ∧ σ'.2 = σ.2) → Q (σ.1 53) σ') : cI C 0 m_fault [.ref (co C)] σ Q := by
  refine m_fault_run hC ?_
  unfold w_fault_0
  intro σ1 h1
  have e : σ1.1 53 = σ.1 53 := by rw [h1, si1, if_neg (by decide)]
  rw [e]
  exact h σ1 ⟨fun k hk => by rw [h1, si1, if_neg hk], by rw [h1, si2]⟩
/-- what a call keeps: tape, fault and code -/
def pR7 (σ τ : rS) : Prop := oR9 τ = oR9 σ ∧ kR7 σ τ
/-- what a call keeps: what was explored as well -/
def pR8 (σ τ : rS) : Prop := pR7 σ τ ∧ kS8 σ τ
def pT8 (σ τ : rS) : Prop := pR7 σ τ ∧ kT8 σ τ
def pD8 (k c : Int32) (σ σ' : rS) : Prop := pT8 σ σ' ∧ XU8 k c σ σ'
theorem kS_f8 {σ τ : rS} (hf : ∀ k, k ∈ ke8 → τ.1 k = σ.1 k) (hr : ∀ k, k ∈ kx8 → τ.2.2.1 k = σ.2.2.1 k) : kS8 σ τ := ⟨hf, hr⟩

end
section
set_option maxHeartbeats 1600000
/-! the reference: what holds between calls -/
theorem nu_k {σ τ : rS} {k : Nat} (g : τ.2.2.1 91 k = σ.2.2.1 91 k ∧ ∀ i, i < 40000 → τ.2.2.1 90 (40000 * k + i) = σ.2.2.1 90 (40000 * k + i)) (h : numO σ k) : numO τ k ∧ nV τ k = nV σ k ∧ nL τ k = nL σ k := by
  have el : nL τ k = nL σ k := by show (τ.2.2.1 91 k).toNatClampNeg = _; rw [g.1]
  have le := nL_le h
  refine ⟨⟨by rw [g.1]; exact h.1, by rw [g.1]; exact h.2.1, fun i hi => ?_, ?_⟩, ?_, el⟩
  · rw [el] at hi
    rw [g.2 i (by omega)]; exact h.2.2.1 i hi
  · rw [el]
    rcases h.2.2.2 with z | ⟨m, z1, z2⟩
    · exact Or.inl z
    · exact Or.inr ⟨m, z1, by rw [g.2 m (by omega)]; exact z2⟩
  · unfold nV
    rw [el]
    exact dv_congr (fun i hi => g.2 i (by omega))
abbrev rjP : List Nat := [15, 16, 17, 18, 19, 40, 41, 42]
abbrev rjQ : List Nat := [5, 7, 20, 22, 23, 24, 25, 26, 27, 28, 29, 30, 31, 32, 33, 34, 35, 36, 37, 38, 39, 43, 44]
/-- the book and the tape -/
def jBk (σ : rS) : Prop := (σ.1 3 = 0 ∨ σ.1 3 = 65537) ∧ tyAll σ ∧ (σ.1 14 ≠ 0 → ∃ T, progOK σ (σ.1 3) T)
def jVs (σ : rS) : Prop := σ.1 94 ≠ 0 → ∀ k, k < (σ.1 70).toNatClampNeg → vOK σ k
def jWo (σ : rS) : Prop := σ.1 114 ≠ 0 → ∀ k, k < (σ.1 70).toNatClampNeg → wkO σ 115 116 k
/-- what holds between calls -/
def rJ (σ : rS) : Prop := (0 ≤ σ.1 2 ∧ σ.1 2 ≤ 65536) ∧ jBk σ ∧ exP σ ∧ jVs σ ∧ jWo σ ∧ plN σ ∧ shO σ ∧ 0 ≤ σ.1 104 ∧ σ.1 104 ≤ 200
theorem ty_g9 {σ τ : rS} (h : tyAll σ) (ff : ∀ k, k ∈ rjP → τ.1 k = σ.1 k) (rr : ∀ k, k ∈ rjQ → τ.2.2.1 k = σ.2.2.1 k) : tyAll τ := by
  obtain ⟨g1, g3, g4, g5, g6⟩ := h
  refine ⟨?_, ?_, ?_, ?_, by rw [rr 37 (by decide)]; exact g6⟩
  · show tyF _ _ _ _ _ _ _ _
    rw [ff 15 (by decide), ff 16 (by decide), ff 17 (by decide), ff 18 (by decide), ff 19 (by decide), ff 40 (by decide), ff 41 (by decide), ff 42 (by decide)]
    exact g1
  · show tyN _ _ _ _ _ _
    rw [rr 20 (by decide), rr 22 (by decide), rr 25 (by decide), rr 28 (by decide), rr 26 (by decide), rr 27 (by decide)]
    exact g3
  · show tyA _ _
    rw [rr 23 (by decide), rr 24 (by decide)]
    exact g4
  · show tyS _ _ _ _ _ _ _ _
    rw [rr 29 (by decide), rr 33 (by decide), rr 34 (by decide), rr 35 (by decide), rr 36 (by decide), rr 38 (by decide), rr 43 (by decide), rr 44 (by decide)]
    exact g5
theorem jBk_o {σ τ : rS} (h : jBk σ) (h3 : τ.1 3 = σ.1 3) (h14 : τ.1 14 = σ.1 14) (ff : ∀ k, k ∈ rjP → τ.1 k = σ.1 k) (rr : ∀ k, k ∈ rjQ → τ.2.2.1 k = σ.2.2.1 k) : jBk τ := by
  refine ⟨by rw [h3]; exact h.1, ty_g9 h.2.1 ff rr, fun z => ?_⟩
  rw [h14] at z
  obtain ⟨T, g⟩ := h.2.2 z
  exact ⟨T, by rw [h3]; exact (rI_gen ⟨h.2.1, g⟩ ff rr).2⟩
theorem jVs_o {σ τ : rS} (h : jVs σ) (h94 : τ.1 94 ≠ 0 → σ.1 94 ≠ 0) (h70 : τ.1 70 = σ.1 70) (r : τ.2.2.1 102 = σ.2.2.1 102) : jVs τ := fun z k hk => vOK_f r (h (h94 z) k (by rw [← h70]; exact hk))
theorem jWo_o {σ τ : rS} (h : jWo σ) (h114 : τ.1 114 ≠ 0 → σ.1 114 ≠ 0) (h70 : τ.1 70 = σ.1 70) (r : τ.2.2.1 115 = σ.2.2.1 115) (r2 : τ.2.2.1 116 = σ.2.2.1 116) : jWo τ := fun z k hk => wkO_f r r2 (h (h114 z) k (by rw [← h70]; exact hk))
theorem plN_o {σ τ : rS} (h : plN σ) (h106 : τ.1 106 ≠ -1 → σ.1 106 ≠ -1) (hn : ∀ k, k = 17 ∨ k = 18 → τ.2.2.1 91 k = σ.2.2.1 91 k ∧ ∀ i, i < 40000 → τ.2.2.1 90 (40000 * k + i) = σ.2.2.1 90 (40000 * k + i)) : plN τ := by
  intro z
  have q := h (h106 z)
  have a := nu_k (hn 17 (Or.inl rfl)) q.1
  have b := nu_k (hn 18 (Or.inr rfl)) q.2.1
  rw [a.2.2, b.2.2, b.2.1]
  exact ⟨a.1, b.1, q.2.2⟩
theorem shO_o {σ τ : rS} (h : shO σ) (h103 : τ.1 103 = σ.1 103) (hn : ∀ k, k = 15 ∨ k = 16 → τ.2.2.1 91 k = σ.2.2.1 91 k ∧ ∀ i, i < 40000 → τ.2.2.1 90 (40000 * k + i) = σ.2.2.1 90 (40000 * k + i)) : shO τ := by
  intro z
  rw [h103] at z
  have q := h z
  exact ⟨(nu_k (hn 15 (Or.inl rfl)) q.1).1, (nu_k (hn 16 (Or.inr rfl)) q.2).1⟩
theorem rj34 {σ : rS} (h : tyAll σ) : 0 ≤ σ.1 15 + σ.1 17 ∧ σ.1 15 + σ.1 17 ≤ 34 := by
  have g : tyF _ _ _ _ _ _ _ _ := h.1
  obtain ⟨a0, a1, b0, b1, c0, c1, -⟩ := g
  generalize σ.1 15 = v at *
  generalize σ.1 16 = r at *
  generalize σ.1 17 = c at *
  have c24 : c ≤ 24 := by
    have e : r = 0 ∨ r = 1 ∨ r = 2 ∨ r = 3 := by grind
    rcases e with e | e | e | e <;> rw [e] at c1 <;> exact Int32.le_trans c1 (by decide)
  grind
abbrev rjF : List Nat := [3, 14, 15, 16, 17, 18, 19, 40, 41, 42, 70, 71, 72, 88, 94, 103, 106, 114]
abbrev rjR : List Nat := [5, 7, 20, 22, 23, 24, 25, 26, 27, 28, 29, 30, 31, 32, 33, 34, 35, 36, 37, 38, 39, 43, 44, 73, 76, 77, 78, 79, 80, 81, 83, 102, 115, 116]
def rjN (σ τ : rS) : Prop := ∀ k, 14 < k → k < 19 → τ.2.2.1 91 k = σ.2.2.1 91 k ∧ ∀ i, i < 40000 → τ.2.2.1 90 (40000 * k + i) = σ.2.2.1 90 (40000 * k + i)
theorem rjN_r {σ τ : rS} (h0 : τ.2.2.1 90 = σ.2.2.1 90) (h1 : τ.2.2.1 91 = σ.2.2.1 91) : rjN σ τ := fun k _ _ => ⟨by rw [h1], fun i _ => by rw [h0]⟩
theorem rjN_l {l : List Nat} {σ τ : rS} (h : ∀ k, k ∉ l → τ.2.2.1 91 k = σ.2.2.1 91 k ∧ ∀ i, i < 40000 → τ.2.2.1 90 (40000 * k + i) = σ.2.2.1 90 (40000 * k + i)) (hl : 15 ∉ l ∧ 16 ∉ l ∧ 17 ∉ l ∧ 18 ∉ l) : rjN σ τ := fun k z1 z2 => h k (by
  have e : k = 15 ∨ k = 16 ∨ k = 17 ∨ k = 18 := by omega
  rcases e with e | e | e | e <;> rw [e]
  · exact hl.1
  · exact hl.2.1
  · exact hl.2.2.1
  · exact hl.2.2.2)
/-- a call that changes nothing of it but the tape's size and the draws told -/
theorem rJ_c {σ τ : rS} (h : rJ σ) (h2 : 0 ≤ τ.1 2 ∧ τ.1 2 ≤ 65536) (h104 : 0 ≤ τ.1 104 ∧ τ.1 104 ≤ 200) (hf : ∀ k, k ∈ rjF → τ.1 k = σ.1 k) (hr : ∀ k, k ∈ rjR → τ.2.2.1 k = σ.2.2.1 k) (hn : rjN σ τ) : rJ τ := by
  obtain ⟨g1, g2, g3, g4, g5, g6, g7, g8⟩ := h
  refine ⟨h2, jBk_o g2 (hf 3 (by decide)) (hf 14 (by decide)) (fun k hk => hf k ((by decide : ∀ k, k ∈ rjP → k ∈ rjF) k hk)) (fun k hk => hr k ((by decide : ∀ k, k ∈ rjQ → k ∈ rjR) k hk)), exP_o g3 (fun k hk => hf k (by rcases hk with z | z | z | z <;> rw [z] <;> decide)) (fun k hk => hr k (by rcases hk with z | z | z | z | z | z | z | z <;> rw [z] <;> decide)), jVs_o g4 (by rw [hf 94 (by decide)]; exact fun z => z) (hf 70 (by decide)) (hr 102 (by decide)), jWo_o g5 (by rw [hf 114 (by decide)]; exact fun z => z) (hf 70 (by decide)) (hr 115 (by decide)) (hr 116 (by decide)), plN_o g6 (by rw [hf 106 (by decide)]; exact fun z => z) (fun k hk => hn k (by omega) (by omega)), shO_o g7 (hf 103 (by decide)) (fun k hk => hn k (by omega) (by omega)), h104⟩
theorem rJ_G {σ τ : rS} (h : rJ σ) (f : frG [0] [] σ τ) : rJ τ ∧ pR8 σ τ := ⟨rJ_c h (by rw [f.1 2 (by decide)]; exact h.1) (by rw [f.1 104 (by decide)]; exact h.2.2.2.2.2.2.2) (fun k hk => f.1 k ((by decide : ∀ k, k ∈ rjF → k ∉ [0]) k hk)) (fun k _ => f.2.2.1 k List.not_mem_nil) (rjN_r (f.2.2.1 90 List.not_mem_nil) (f.2.2.1 91 List.not_mem_nil)), ⟨⟨oR_k9 (f.1 2 (by decide)) (f.1 53 (by decide)) (f.2.2.1 1 List.not_mem_nil), kR_f7 (fun k hk => f.1 k ((by decide : ∀ k, k ∈ kf7 → k ∉ [0]) k hk)) (fun k _ => f.2.2.1 k List.not_mem_nil) (fun j => f.2.2.2 8 j)⟩, kS_f8 (fun k hk => f.1 k ((by decide : ∀ k, k ∈ ke8 → k ∉ [0]) k hk)) (fun k _ => f.2.2.1 k List.not_mem_nil)⟩⟩
theorem rJ_T {σ τ : rS} (h : rJ σ) (f : frT [0] [] σ τ) : rJ τ ∧ pR8 σ τ := ⟨rJ_c h (by rw [f.1 2 (by decide)]; exact h.1) (by rw [f.1 104 (by decide)]; exact h.2.2.2.2.2.2.2) (fun k hk => f.1 k ((by decide : ∀ k, k ∈ rjF → k ∉ [0]) k hk)) (fun k hk => f.2.2.1 k ((by decide : ∀ k, k ∈ rjR → k ≠ 90) k hk) ((by decide : ∀ k, k ∈ rjR → k ≠ 91) k hk)) (rjN_l f.2.2.2.2 (by decide)), ⟨⟨oR_k9 (f.1 2 (by decide)) (f.1 53 (by decide)) (f.2.2.1 1 (by decide) (by decide)), kR_f7 (fun k hk => f.1 k ((by decide : ∀ k, k ∈ kf7 → k ∉ [0]) k hk)) (fun k hk => f.2.2.1 k ((by decide : ∀ k, k ∈ kz7 → k ≠ 90) k hk) ((by decide : ∀ k, k ∈ kz7 → k ≠ 91) k hk)) (fun j => by rw [f.2.2.2.1])⟩, kS_f8 (fun k hk => f.1 k ((by decide : ∀ k, k ∈ ke8 → k ∉ [0]) k hk)) (fun k hk => f.2.2.1 k ((by decide : ∀ k, k ∈ kx8 → k ≠ 90) k hk) ((by decide : ∀ k, k ∈ kx8 → k ≠ 91) k hk))⟩⟩
theorem rJ_U {σ τ : rS} (h : rJ σ) (f : frU ifF ifR ifL σ τ) : rJ τ ∧ pR8 σ τ := ⟨rJ_c h (by rw [f.1 2 (by decide)]; exact h.1) (by rw [f.1 104 (by decide)]; exact h.2.2.2.2.2.2.2) (fun k hk => f.1 k ((by decide : ∀ k, k ∈ rjF → k ∉ ifF) k hk)) (fun k hk => f.2.2.1 k ((by decide : ∀ k, k ∈ rjR → k ≠ 90) k hk) ((by decide : ∀ k, k ∈ rjR → k ≠ 91) k hk) ((by decide : ∀ k, k ∈ rjR → k ∉ ifR) k hk)) (rjN_l f.2.2.2.2 (by decide)), ⟨⟨oR_k9 (f.1 2 (by decide)) (f.1 53 (by decide)) (f.2.2.1 1 (by decide) (by decide) (by decide)), kR_f7 (fun k hk => f.1 k ((by decide : ∀ k, k ∈ kf7 → k ∉ ifF) k hk)) (fun k hk => f.2.2.1 k ((by decide : ∀ k, k ∈ kz7 → k ≠ 90) k hk) ((by decide : ∀ k, k ∈ kz7 → k ≠ 91) k hk) ((by decide : ∀ k, k ∈ kz7 → k ∉ ifR) k hk)) (fun j => by rw [f.2.2.2.1])⟩, kS_f8 (fun k hk => f.1 k ((by decide : ∀ k, k ∈ ke8 → k ∉ ifF) k hk)) (fun k hk => f.2.2.1 k ((by decide : ∀ k, k ∈ kx8 → k ≠ 90) k hk) ((by decide : ∀ k, k ∈ kx8 → k ≠ 91) k hk) ((by decide : ∀ k, k ∈ kx8 → k ∉ ifR) k hk))⟩⟩
section calls
variable {C : rCx} {σ : rS} {a1 a2 a3 a4 a5 : Int32}
theorem count_j (hC : cOK C) (J : rJ σ) {Q : Int32 → rS → Prop} (h : ∀ v σ', rJ σ' → pR8 σ σ' → Q v σ') : cI C 1 m_count [.ref (co C), .int a1] σ Q := count_c hC ⟨J.2.2.1.1.1.1, J.2.2.1.1.1.2⟩ (fun v σ' q => h v σ' (rJ_G J q).1 (rJ_G J q).2)
theorem state_j (hC : cOK C) (J : rJ σ) {Q : Int32 → rS → Prop} (h : ∀ v σ', rJ σ' → pR8 σ σ' → Q v σ') : cI C 1 m_state [.ref (co C), .int a1, .int a2] σ Q := state_c hC J.2.2.1 (fun v σ' q => h v σ' (rJ_G J q).1 (rJ_G J q).2)
theorem value_j (hC : cOK C) (J : rJ σ) {Q : Int32 → rS → Prop} (h : ∀ v σ', rJ σ' → pR8 σ σ' → Q v σ') : cI C 1 m_value [.ref (co C), .int a1, .int a2, .int a3] σ Q := value_c hC ⟨J.2.2.1, J.2.1.2.1⟩ (fun v σ' q => h v σ' (rJ_G J q).1 (rJ_G J q).2)
theorem next_j (hC : cOK C) (J : rJ σ) {Q : Int32 → rS → Prop} (h : ∀ v σ', rJ σ' → pR8 σ σ' → Q v σ') : cI C 1 m_next [.ref (co C), .int a1, .int a2, .int a3] σ Q := next_c hC J.2.2.1 (fun v σ' q => h v σ' (rJ_G J q).1 (rJ_G J q).2)
theorem ending_j (hC : cOK C) (J : rJ σ) {Q : Int32 → rS → Prop} (h : ∀ v σ', rJ σ' → pR8 σ σ' → Q v σ') : cI C 0 m_ending [.ref (co C), .int a1, .int a2] σ Q := ending_c hC ⟨J.2.2.1, J.2.1.2.1⟩ (fun v σ' q => h v σ' (rJ_G J q).1 (rJ_G J q).2)
theorem decided_j (hC : cOK C) (J : rJ σ) {Q : Int32 → rS → Prop} (h : ∀ v σ', rJ σ' → pR8 σ σ' → Q v σ') : cI C 1 m_decided [.ref (co C), .int a1] σ Q := decided_c hC J.2.2.1 (fun v σ' q => h v σ' (rJ_G J q).1 (rJ_G J q).2)
theorem size_j (hC : cOK C) (J : rJ σ) {Q : Int32 → rS → Prop} (h : ∀ v σ', rJ σ' → pR8 σ σ' → Q v σ') : cI C 1 m_size [.ref (co C), .int a1] σ Q := size_c hC J.2.2.2.2.2.2.1 (fun v σ' q => h v σ' (rJ_T J q).1 (rJ_T J q).2)
theorem limb_j (hC : cOK C) (J : rJ σ) {Q : Int32 → rS → Prop} (h : ∀ v σ', rJ σ' → pR8 σ σ' → Q v σ') : cI C 1 m_limb [.ref (co C), .int a1, .int a2] σ Q := limb_c hC J.2.2.2.2.2.2.1 (fun v σ' q => h v σ' (rJ_T J q).1 (rJ_T J q).2)
theorem played_j (hC : cOK C) (J : rJ σ) {Q : Int64 → rS → Prop} (h : ∀ v σ', rJ σ' → pR8 σ σ' → Q v σ') : cJ C 0 m_played [.ref (co C), .int a1] σ Q := played_c hC (rj34 J.2.1.2.1) (fun v σ' q => h v σ' (rJ_T J q).1 (rJ_T J q).2)
theorem independent_j (hC : cOK C) (J : rJ σ) {Q : Int32 → rS → Prop} (h : ∀ v σ', rJ σ' → pR8 σ σ' → Q v σ') : cI C 9 m_independent [.ref (co C), .int a1, .int a2] σ Q := independent_c hC _ ⟨pOK_of J.2.2.1, rfl, J.2.2.2.1, (rj34 J.2.1.2.1).2⟩ (fun v σ' q => h v σ' (rJ_U J q).1 (rJ_U J q).2)
theorem given_j (hC : cOK C) (J : rJ σ) {Q : Int32 → rS → Prop} (h : ∀ v σ', rJ σ' → pR8 σ σ' → Q v σ') : cI C 9 m_given [.ref (co C), .int a1, .int a2, .int a3] σ Q := given_c hC _ ⟨pOK_of J.2.2.1, rfl, J.2.2.2.1, (rj34 J.2.1.2.1).2⟩ (fun v σ' q => h v σ' (rJ_U J q).1 (rJ_U J q).2)
end calls

end
section
set_option maxHeartbeats 1600000
/-! the reference: feed by its bytes; feed, end, fault, tell, forget -/
/-- on feed's way: the bytes written so far -/
def fbI9 (a b c d e : Int32) (σ : rS) (l : Int32) (τ : rS) : Prop := (∀ j, j < (σ.1 2).toInt.toNat → τ.2.2.1 1 j = σ.2.2.1 1 j) ∧ (∀ i : Nat, (i : Int) < l.toInt → τ.2.2.1 1 ((σ.1 2).toInt.toNat + i) = by9 a b c d e i)
theorem fb_09 {a b c d e x : Int32} {σ : rS} : fbI9 a b c d e σ 0 (siU σ 0 x) := ⟨fun _ _ => rfl, fun i hi => absurd hi (by rw [t0i]; omega)⟩
theorem fb_s9 {a b c d e l s0 : Int32} {σ τ : rS} (h0 : 0 ≤ σ.1 2) (h60 : σ.1 2 ≤ 60000) (h2 : τ.1 2 = σ.1 2 + l) (l0 : 0 ≤ l) (l20 : l < 20) (hs : s0 = vs9 a b c d e l.toInt.toNat) (h : fbI9 a b c d e σ l τ) : fbI9 a b c d e σ (l + 1) (siU (riU τ 1 (τ.1 2).toNatClampNeg (vp_nar .byte ((s0 >>> (((24 : Int32) - ((8 : Int32) * (l &&& (3 : Int32)))) &&& 31))).toInt8.toInt32)) 2 ((riU τ 1 (τ.1 2).toNatClampNeg (vp_nar .byte ((s0 >>> (((24 : Int32) - ((8 : Int32) * (l &&& (3 : Int32)))) &&& 31))).toInt8.toInt32)).1 2 + 1)) := by
  have t60 : (60000 : Int32).toInt = 60000 := rfl
  have t20 : (20 : Int32).toInt = 20 := rfl
  rw [lei, t0i] at h0 l0
  rw [lei, t60] at h60
  rw [lti, t20] at l20
  have e2 : (τ.1 2).toInt = (σ.1 2).toInt + l.toInt := by rw [h2, add_i (by omega) (by omega)]
  have el : (l + 1).toInt = l.toInt + 1 := by rw [add_i (by rw [t1i]; omega) (by rw [t1i]; omega), t1i]
  have ci : (τ.1 2).toNatClampNeg = (σ.1 2).toInt.toNat + l.toInt.toNat := by
    have z := cnk (x := τ.1 2) (by omega)
    omega
  have lo : l = Int32.ofNat l.toInt.toNat := Int32.toInt_inj.mp (by rw [ofn_i (by omega)]; omega)
  have sh : (((24 : Int32) - ((8 : Int32) * (l &&& (3 : Int32)))) &&& 31) = (((24 : Int32) - 8 * Int32.ofNat (l.toInt.toNat % 4)) &&& 31) := by
    have z := sh_49 l.toInt.toNat (by omega)
    rw [← lo] at z
    exact z
  have rw1 : ∀ j, (siU (riU τ 1 (τ.1 2).toNatClampNeg (vp_nar .byte ((s0 >>> (((24 : Int32) - ((8 : Int32) * (l &&& (3 : Int32)))) &&& 31))).toInt8.toInt32)) 2 ((riU τ 1 (τ.1 2).toNatClampNeg (vp_nar .byte ((s0 >>> (((24 : Int32) - ((8 : Int32) * (l &&& (3 : Int32)))) &&& 31))).toInt8.toInt32)).1 2 + 1)).2.2.1 1 j = if j = (σ.1 2).toInt.toNat + l.toInt.toNat then by9 a b c d e l.toInt.toNat else τ.2.2.1 1 j := fun j => by
    show (riU τ 1 (τ.1 2).toNatClampNeg _).2.2.1 1 j = _
    rw [ri4, ci]
    unfold by9 bw9
    rw [← hs, sh]
  refine ⟨fun j hj => ?_, fun i hi => ?_⟩
  · rw [rw1, if_neg (by omega)]
    exact h.1 j hj
  · rw [rw1]
    rw [el] at hi
    by_cases q : i = l.toInt.toNat
    · rw [if_pos (by omega), q]
    · rw [if_neg (by omega)]
      exact h.2 i (by omega)
theorem feed_c9 {C : rCx} (hC : cOK C)  {σ : rS} {a1 : Int32} {a2 : Int32} {a3 : Int32} {a4 : Int32} {a5 : Int32} {Q : Int32 → rS → Prop} (hp : 0 ≤ σ.1 2 ∧ σ.1 2 ≤ 60000) (h : ∀ (v : Int32) (σ' : rS), (((∀ k, k ≠ 0 → k ≠ 2 → σ'.1 k = σ.1 k) ∧ (∀ k,  σ'.2.1 k = σ.2.1 k) ∧ (∀ k, k ≠ 1 → σ'.2.2.1 k = σ.2.2.1 k) ∧ (∀ k j, k ≠ 1 → σ'.2.2.1 k j = σ.2.2.1 k j) ∧ (∀ k j,  σ'.2.2.2 k j = σ.2.2.2 k j)) ∧ 0 ≤ σ'.1 2 ∧ σ'.1 2 ≤ 65536 ∧ v = σ.1 2 + 20 ∧ σ'.1 2 = σ.1 2 + 20 ∧ σ'.1 0 = 0 ∧ (∀ j, j < (σ.1 2).toInt.toNat → σ'.2.2.1 1 j = σ.2.2.1 1 j) ∧ (∀ i, i < 20 → σ'.2.2.1 1 ((σ.1 2).toInt.toNat + i) = by9 a1 a2 a3 a4 a5 i)) → Q v σ') : cI C 0 m_feed [.ref (co C), .int a1, .int a2, .int a3, .int a4, .int a5] σ Q := by
  refine m_feed_run hC ?_
  unfold w_feed_0
  have hj18 : ∀ (l1 : Int32) (l2 : Int32) (l3 : Int32) (l4 : Int32) (l5 : Int32) (s1 : Int32) (τ : rS), (l1 = a1 ∧ l2 = a2 ∧ l3 = a3 ∧ l4 = a4 ∧ l5 = a5 ∧ τ = σ ∧ s1 = 0) → w_feed_18 C Q  l1 l2 l3 l4 l5 s1 τ := by
    rintro y18_1 y18_2 y18_3 y18_4 y18_5 y18_s1 τ18 j18
    unfold w_feed_18
    intro σ_1 hσ_1
    refine ⟨fun c2 => ?_, fun c2 => ?_⟩
    · skip
      unfold w_feed_33
      refine ⟨fun n l1 l2 l3 l4 l5 l6 τ => n = (20 - l6).toNatClampNeg ∧ (l1 = a1 ∧ l2 = a2 ∧ l3 = a3 ∧ l4 = a4 ∧ l5 = a5 ∧ ((∀ k, k ≠ 0 → k ≠ 2 → τ.1 k = σ.1 k) ∧ (∀ k,  τ.2.1 k = σ.2.1 k) ∧ (∀ k, k ≠ 1 → τ.2.2.1 k = σ.2.2.1 k) ∧ (∀ k j, k ≠ 1 → τ.2.2.1 k j = σ.2.2.1 k j) ∧ (∀ k j,  τ.2.2.2 k j = σ.2.2.2 k j)) ∧ τ.1 0 = 0 ∧ τ.1 2 = σ.1 2 + l6 ∧ 0 ≤ l6 ∧ l6 ≤ 20 ∧ σ.1 2 + 20 ≤ 65536 ∧ fbI9 a1 a2 a3 a4 a5 σ l6 τ), ⟨_, rfl, ?_⟩, ?_⟩
      · clear h
        obtain ⟨j1, j2, j3, j4, j5, j6, j7⟩ := j18
        have fb : fbI9 a1 a2 a3 a4 a5 σ 0 σ_1 := by
          rw [hσ_1, j6]
          exact fb_09
        refine ⟨j1, j2, j3, j4, j5, ?_, ?_, ?_, by decide, by decide, ?_, fb⟩
        · grind (splits := 24) [si1, si2, ri1, ri2, ri3, ri34, ri5, ob_ri, ob_si2, ob_only, ob_refl, vb5]
        · grind (splits := 24) [si1, si2, ri1, ri2, ri3, ri34, ri5, ob_ri, ob_si2, ob_only, ob_refl, vb5]
        · grind (splits := 24) [si1, si2, ri1, ri2, ri3, ri34, ri5, ob_ri, ob_si2, ob_only, ob_refl, vb5]
        · clear fb; grind (splits := 24) [si1, si2, ri1, ri2, ri3, ri34, ri5, ob_ri, ob_si2, ob_only, ob_refl, vb5]
      rintro n33 x33_1 x33_2 x33_3 x33_4 x33_5 x33_6 σ33 ⟨hn33, i33⟩
      have hj86 : ∀ (l1 : Int32) (l2 : Int32) (l3 : Int32) (l4 : Int32) (l5 : Int32) (l6 : Int32) (s0 : Int32) (τ : rS), (l1 = a1 ∧ l2 = a2 ∧ l3 = a3 ∧ l4 = a4 ∧ l5 = a5 ∧ τ = σ33 ∧ l6 = x33_6 ∧ l6 < 20 ∧ s0 = vs9 a1 a2 a3 a4 a5 l6.toInt.toNat) → w_feed_86 C Q (fun l1' l2' l3' l4' l5' l6' τ => ∃ k < n33, (fun n l1 l2 l3 l4 l5 l6 τ => n = (20 - l6).toNatClampNeg ∧ (l1 = a1 ∧ l2 = a2 ∧ l3 = a3 ∧ l4 = a4 ∧ l5 = a5 ∧ ((∀ k, k ≠ 0 → k ≠ 2 → τ.1 k = σ.1 k) ∧ (∀ k,  τ.2.1 k = σ.2.1 k) ∧ (∀ k, k ≠ 1 → τ.2.2.1 k = σ.2.2.1 k) ∧ (∀ k j, k ≠ 1 → τ.2.2.1 k j = σ.2.2.1 k j) ∧ (∀ k j,  τ.2.2.2 k j = σ.2.2.2 k j)) ∧ τ.1 0 = 0 ∧ τ.1 2 = σ.1 2 + l6 ∧ 0 ≤ l6 ∧ l6 ≤ 20 ∧ σ.1 2 + 20 ≤ 65536 ∧ fbI9 a1 a2 a3 a4 a5 σ l6 τ)) k l1' l2' l3' l4' l5' l6' τ) l1 l2 l3 l4 l5 l6 s0 τ := by
        rintro y86_1 y86_2 y86_3 y86_4 y86_5 y86_6 y86_s0 τ86 j86
        unfold w_feed_86
        refine ⟨ib_65536.mpr ?_, ?_⟩
        · clear h; grind (splits := 24) [si1, si2, ri1, ri2, ri3, ri34, ri5, ob_ri, ob_si2, ob_only, ob_refl, vb5]  -- b2
        intro σ_3 hσ_3
        intro σ_4 hσ_4
        intro x5 hx5
        refine ⟨_, cn_lt2 hn33 ?_ ?_, rfl, ?_⟩
        · clear h; grind (splits := 24) [si1, si2, ri1, ri2, ri3, ri34, ri5, ob_ri, ob_si2, ob_only, ob_refl, vb5]  -- d3
        · clear h; grind (splits := 24) [si1, si2, ri1, ri2, ri3, ri34, ri5, ob_ri, ob_si2, ob_only, ob_refl, vb5]  -- d4
        · clear h
          obtain ⟨j1, j2, j3, j4, j5, j6, j7, j8, j9⟩ := j86
          obtain ⟨i1, i2, i3, i4, i5, i6, i7, i8, i9, i10, i11, fb⟩ := i33
          have fb2 : fbI9 a1 a2 a3 a4 a5 σ x5 σ_4 := by
            rw [hσ_4, hσ_3, j6, hx5, j7]
            exact fb_s9 hp.1 hp.2 i8 i9 (by rw [← j7]; exact j8) (by rw [← j7]; exact j9) fb
          refine ⟨j1, j2, j3, j4, j5, ?_, ?_, ?_, ?_, ?_, i11, fb2⟩ <;> (clear fb fb2; grind (splits := 24) [si1, si2, ri1, ri2, ri3, ri34, ri5, ob_ri, ob_si2, ob_only, ob_refl, vb5])
      refine ⟨fun c6 => ?_, fun c6 => ?_⟩
      · skip
        refine h _ _ ?_
        · clear h
          obtain ⟨i1, i2, i3, i4, i5, i6, i7, i8, i9, i10, i11, fb⟩ := i33
          have e6 : x33_6 = 20 := Int32.le_antisymm i10 c6
          rw [e6] at i8 fb
          refine ⟨i6, ?_, ?_, i8, i8, i7, fb.1, fun i hi => fb.2 i (by show (i : Int) < 20; omega)⟩ <;> (clear fb; grind (splits := 24) [si1, si2, ri1, ri2, ri3, ri34, ri5, ob_ri, ob_si2, ob_only, ob_refl, vb5])
      · skip
        refine ⟨fun c7 => ?_, fun c7 => ?_⟩
        · skip
          refine ⟨fun c8 => ?_, fun c8 => ?_⟩
          · skip
            refine ⟨fun c9 => ?_, fun c9 => ?_⟩
            · skip
              refine ⟨fun c10 => ?_, fun c10 => ?_⟩
              · skip
                refine hj86 _ _ _ _ _ _ _ _ ?_
                · clear h
                  obtain ⟨i1, i2, i3, i4, i5, i6, i7, i8, i9, i10, i11, fb⟩ := i33
                  refine ⟨i1, i2, i3, i4, i5, rfl, rfl, n_lt c6, ?_⟩
                  have t4 : (4 : Int32).toInt = 4 := rfl
                  have t8 : (8 : Int32).toInt = 8 := rfl
                  have t12 : (12 : Int32).toInt = 12 := rfl
                  have t16 : (16 : Int32).toInt = 16 := rfl
                  have t20 : (20 : Int32).toInt = 20 := rfl
                  rw [lei] at c6 i9 c7 c8 c9 c10
                  rw [t0i] at i9
                  unfold vs9
                  rw [if_neg (by omega), if_neg (by omega), if_neg (by omega), if_neg (by omega)]
                  exact i5
              · skip
                refine hj86 _ _ _ _ _ _ _ _ ?_
                · clear h
                  obtain ⟨i1, i2, i3, i4, i5, i6, i7, i8, i9, i10, i11, fb⟩ := i33
                  refine ⟨i1, i2, i3, i4, i5, rfl, rfl, n_lt c6, ?_⟩
                  have t4 : (4 : Int32).toInt = 4 := rfl
                  have t8 : (8 : Int32).toInt = 8 := rfl
                  have t12 : (12 : Int32).toInt = 12 := rfl
                  have t16 : (16 : Int32).toInt = 16 := rfl
                  have t20 : (20 : Int32).toInt = 20 := rfl
                  rw [lei] at c6 i9 c7 c8 c9 c10
                  rw [t0i] at i9
                  unfold vs9
                  rw [if_neg (by omega), if_neg (by omega), if_neg (by omega), if_pos (by omega)]
                  exact i4
            · skip
              refine hj86 _ _ _ _ _ _ _ _ ?_
              · clear h
                obtain ⟨i1, i2, i3, i4, i5, i6, i7, i8, i9, i10, i11, fb⟩ := i33
                refine ⟨i1, i2, i3, i4, i5, rfl, rfl, n_lt c6, ?_⟩
                have t4 : (4 : Int32).toInt = 4 := rfl
                have t8 : (8 : Int32).toInt = 8 := rfl
                have t12 : (12 : Int32).toInt = 12 := rfl
                have t16 : (16 : Int32).toInt = 16 := rfl
                have t20 : (20 : Int32).toInt = 20 := rfl
                rw [lei] at c6 i9 c7 c8 c9
                rw [t0i] at i9
                unfold vs9
                rw [if_neg (by omega), if_neg (by omega), if_pos (by omega)]
                exact i3
          · skip
            refine hj86 _ _ _ _ _ _ _ _ ?_
            · clear h
              obtain ⟨i1, i2, i3, i4, i5, i6, i7, i8, i9, i10, i11, fb⟩ := i33
              refine ⟨i1, i2, i3, i4, i5, rfl, rfl, n_lt c6, ?_⟩
              have t4 : (4 : Int32).toInt = 4 := rfl
              have t8 : (8 : Int32).toInt = 8 := rfl
              have t12 : (12 : Int32).toInt = 12 := rfl
              have t16 : (16 : Int32).toInt = 16 := rfl
              have t20 : (20 : Int32).toInt = 20 := rfl
              rw [lei] at c6 i9 c7 c8
              rw [t0i] at i9
              unfold vs9
              rw [if_neg (by omega), if_pos (by omega)]
              exact i2
        · skip
          refine hj86 _ _ _ _ _ _ _ _ ?_
          · clear h
            obtain ⟨i1, i2, i3, i4, i5, i6, i7, i8, i9, i10, i11, fb⟩ := i33
            refine ⟨i1, i2, i3, i4, i5, rfl, rfl, n_lt c6, ?_⟩
            have t4 : (4 : Int32).toInt = 4 := rfl
            have t8 : (8 : Int32).toInt = 8 := rfl
            have t12 : (12 : Int32).toInt = 12 := rfl
            have t16 : (16 : Int32).toInt = 16 := rfl
            have t20 : (20 : Int32).toInt = 20 := rfl
            rw [lei] at c6 i9 c7
            rw [t0i] at i9
            unfold vs9
            rw [if_pos (by omega)]
            exact i1
    · skip
      refine h _ _ ?_
      · clear h; grind (splits := 24) [si1, si2, ri1, ri2, ri3, ri34, ri5, ob_ri, ob_si2, ob_only, ob_refl, vb5]  -- q12
  refine ⟨fun c11 => ?_, fun c11 => ?_⟩
  · skip
    refine hj18 _ _ _ _ _ _ _ ?_
    · clear h; grind (splits := 24) [si1, si2, ri1, ri2, ri3, ri34, ri5, ob_ri, ob_si2, ob_only, ob_refl, vb5]  -- k13
  · skip
    refine hj18 _ _ _ _ _ _ _ ?_
    · clear h; grind (splits := 24) [si1, si2, ri1, ri2, ri3, ri34, ri5, ob_ri, ob_si2, ob_only, ob_refl, vb5]  -- k14

theorem end_c2 {C : rCx} (hC : cOK C)  {σ : rS} {a1 : Int32} {Q : rS → Prop} (hp : 0 ≤ σ.1 2 ∧ σ.1 2 ≤ 65536) (h : ∀ (σ' : rS), (((∀ k, k ≠ 0 → k ≠ 2 → σ'.1 k = σ.1 k) ∧ σ'.2 = σ.2) ∧ 0 ≤ σ'.1 2 ∧ σ'.1 2 ≤ 65536 ∧ ((0 ≤ a1 ∧ a1 ≤ σ.1 2) → σ'.1 0 = 0 ∧ σ'.1 2 = a1) ∧ (¬ (0 ≤ a1 ∧ a1 ≤ σ.1 2) → σ'.1 0 = 1 ∧ σ'.1 2 = σ.1 2)) → Q σ') : cV C 0 m_end [.ref (co C), .int a1] σ Q := by
  refine m_end_run hC ?_
  unfold w_end_0
  refine ⟨fun c1 => ?_, fun c1 => ?_⟩
  · skip
    unfold w_end_18
    intro σ_2 hσ_2
    refine ⟨fun c3 => ?_, fun c3 => ?_⟩
    · skip
      intro σ_4 hσ_4
      refine h _ ?_
      · clear h; grind (splits := 24) [si1, si2, ri1, ri2, ri3, ri34, ri5, ob_ri, ob_si2, ob_only, ob_refl, vb5]  -- q1
    · skip
      intro σ_5 hσ_5
      refine h _ ?_
      · clear h; grind (splits := 24) [si1, si2, ri1, ri2, ri3, ri34, ri5, ob_ri, ob_si2, ob_only, ob_refl, vb5]  -- q2
  · skip
    refine ⟨fun c6 => ?_, fun c6 => ?_⟩
    · skip
      unfold w_end_18
      intro σ_7 hσ_7
      refine ⟨fun c8 => ?_, fun c8 => ?_⟩
      · skip
        intro σ_9 hσ_9
        refine h _ ?_
        · clear h; grind (splits := 24) [si1, si2, ri1, ri2, ri3, ri34, ri5, ob_ri, ob_si2, ob_only, ob_refl, vb5]  -- q3
      · skip
        intro σ_10 hσ_10
        refine h _ ?_
        · clear h; grind (splits := 24) [si1, si2, ri1, ri2, ri3, ri34, ri5, ob_ri, ob_si2, ob_only, ob_refl, vb5]  -- q4
    · skip
      unfold w_end_18
      intro σ_11 hσ_11
      refine ⟨fun c12 => ?_, fun c12 => ?_⟩
      · skip
        intro σ_13 hσ_13
        refine h _ ?_
        · clear h; grind (splits := 24) [si1, si2, ri1, ri2, ri3, ri34, ri5, ob_ri, ob_si2, ob_only, ob_refl, vb5]  -- q5
      · skip
        intro σ_14 hσ_14
        refine h _ ?_
        · clear h; grind (splits := 24) [si1, si2, ri1, ri2, ri3, ri34, ri5, ob_ri, ob_si2, ob_only, ob_refl, vb5]  -- q6

theorem feed_j {C : rCx} {σ : rS} {a1 a2 a3 a4 a5 : Int32} (hC : cOK C) (J : rJ σ) (h60 : σ.1 2 ≤ 60000) {Q : Int32 → rS → Prop} (h : ∀ v σ', rJ σ' → (oR9 σ' = fdO9 (oR9 σ) (by9 a1 a2 a3 a4 a5) ∧ kR7 σ σ') ∧ kS8 σ σ' → Q v σ') : cI C 0 m_feed [.ref (co C), .int a1, .int a2, .int a3, .int a4, .int a5] σ Q := feed_c9 hC ⟨J.1.1, h60⟩ (fun v σ' q => h v σ' (rJ_c J ⟨q.2.1, q.2.2.1⟩ (by rw [q.1.1 104 (by decide) (by decide)]; exact J.2.2.2.2.2.2.2) (fun k hk => q.1.1 k ((by decide : ∀ k, k ∈ rjF → k ≠ 0) k hk) ((by decide : ∀ k, k ∈ rjF → k ≠ 2) k hk)) (fun k hk => q.1.2.2.1 k ((by decide : ∀ k, k ∈ rjR → k ≠ 1) k hk)) (rjN_r (q.1.2.2.1 90 (by decide)) (q.1.2.2.1 91 (by decide)))) ⟨⟨(by
    have h0 := J.1.1
    have t60 : (60000 : Int32).toInt = 60000 := rfl
    have h61 := h60
    rw [lei, t0i] at h0
    rw [lei, t60] at h61
    have z := fd_m9 (f := σ.2.2.1 1) (f' := σ'.2.2.1 1) (G := by9 a1 a2 a3 a4 a5) (x := σ.1 53) h0 h61 q.2.2.2.2.1 q.2.2.2.2.2.2.1 q.2.2.2.2.2.2.2
    unfold oR9
    rw [q.1.1 53 (by decide) (by decide)]
    exact z), kR_f7 (fun k hk => q.1.1 k ((by decide : ∀ k, k ∈ kf7 → k ≠ 0) k hk) ((by decide : ∀ k, k ∈ kf7 → k ≠ 2) k hk)) (fun k hk => q.1.2.2.1 k ((by decide : ∀ k, k ∈ kz7 → k ≠ 1) k hk)) (fun j => q.1.2.2.2.2 8 j)⟩, kS_f8 (fun k hk => q.1.1 k ((by decide : ∀ k, k ∈ ke8 → k ≠ 0) k hk) ((by decide : ∀ k, k ∈ ke8 → k ≠ 2) k hk)) (fun k hk => q.1.2.2.1 k ((by decide : ∀ k, k ∈ kx8 → k ≠ 1) k hk))⟩)
theorem end_j {C : rCx} {σ : rS} {a1 : Int32} (hC : cOK C) (J : rJ σ) {Q : rS → Prop} (h : ∀ σ', rJ σ' → (oR9 σ' = trO9 (oR9 σ) a1 ∧ kR7 σ σ') ∧ kS8 σ σ' → Q σ') : cV C 0 m_end [.ref (co C), .int a1] σ Q := end_c2 hC J.1 (fun σ' q => h σ' (rJ_c J ⟨q.2.1, q.2.2.1⟩ (by rw [q.1.1 104 (by decide) (by decide)]; exact J.2.2.2.2.2.2.2) (fun k hk => q.1.1 k ((by decide : ∀ k, k ∈ rjF → k ≠ 0) k hk) ((by decide : ∀ k, k ∈ rjF → k ≠ 2) k hk)) (fun k _ => by rw [q.1.2]) (rjN_r (by rw [q.1.2]) (by rw [q.1.2]))) ⟨⟨(by
    unfold oR9
    rw [q.1.1 53 (by decide) (by decide), q.1.2]
    by_cases c : 0 ≤ a1 ∧ a1 ≤ σ.1 2
    · rw [tr_m9 c, (q.2.2.2.1 c).2]
    · rw [tr_n9 c, (q.2.2.2.2 c).2]), kR_f7 (fun k hk => q.1.1 k ((by decide : ∀ k, k ∈ kf7 → k ≠ 0) k hk) ((by decide : ∀ k, k ∈ kf7 → k ≠ 2) k hk)) (fun k _ => by rw [q.1.2]) (fun j => by rw [q.1.2])⟩, kS_f8 (fun k hk => q.1.1 k ((by decide : ∀ k, k ∈ ke8 → k ≠ 0) k hk) ((by decide : ∀ k, k ∈ ke8 → k ≠ 2) k hk)) (fun k _ => by rw [q.1.2])⟩)
theorem fault_j {C : rCx} {σ : rS} (hC : cOK C) (J : rJ σ) {Q : Int32 → rS → Prop} (h : ∀ v σ', rJ σ' → v = σ.1 53 → pR8 σ σ' → Q v σ') : cI C 0 m_fault [.ref (co C)] σ Q := fault_c9 hC (fun σ' q => h _ σ' (rJ_c J (by rw [q.1 2 (by decide)]; exact J.1) (by rw [q.1 104 (by decide)]; exact J.2.2.2.2.2.2.2) (fun k hk => q.1 k ((by decide : ∀ k, k ∈ rjF → k ≠ 0) k hk)) (fun k _ => by rw [q.2]) (rjN_r (by rw [q.2]) (by rw [q.2]))) rfl ⟨⟨oR_k9 (q.1 2 (by decide)) (q.1 53 (by decide)) (by rw [q.2]), kR_f7 (fun k hk => q.1 k ((by decide : ∀ k, k ∈ kf7 → k ≠ 0) k hk)) (fun k _ => by rw [q.2]) (fun j => by rw [q.2])⟩, kS_f8 (fun k hk => q.1 k ((by decide : ∀ k, k ∈ ke8 → k ≠ 0) k hk)) (fun k _ => by rw [q.2])⟩)
theorem forget_j {C : rCx} {σ : rS} (hC : cOK C) (J : rJ σ) {Q : Int32 → rS → Prop} (h : ∀ v σ', rJ σ' → pR8 σ σ' → Q v σ') : cI C 0 m_forget [.ref (co C)] σ Q := forget_c hC (fun v σ' q => h v σ' (rJ_c J (by rw [q.1.1 2 (by decide) (by decide)]; exact J.1) (by rw [q.2.2]; decide) (fun k hk => q.1.1 k ((by decide : ∀ k, k ∈ rjF → k ≠ 0) k hk) ((by decide : ∀ k, k ∈ rjF → k ≠ 104) k hk)) (fun k _ => by rw [q.1.2]) (rjN_r (by rw [q.1.2]) (by rw [q.1.2]))) ⟨⟨oR_k9 (q.1.1 2 (by decide) (by decide)) (q.1.1 53 (by decide) (by decide)) (by rw [q.1.2]), kR_f7 (fun k hk => q.1.1 k ((by decide : ∀ k, k ∈ kf7 → k ≠ 0) k hk) ((by decide : ∀ k, k ∈ kf7 → k ≠ 104) k hk)) (fun k _ => by rw [q.1.2]) (fun j => by rw [q.1.2])⟩, kS_f8 (fun k hk => q.1.1 k ((by decide : ∀ k, k ∈ ke8 → k ≠ 0) k hk) ((by decide : ∀ k, k ∈ ke8 → k ≠ 104) k hk)) (fun k _ => by rw [q.1.2])⟩)
theorem tell_j {C : rCx} {σ : rS} {a1 : Int32} (hC : cOK C) (J : rJ σ) {Q : Int32 → rS → Prop} (h : ∀ v σ', rJ σ' → pR8 σ σ' → Q v σ') : cI C 0 m_tell [.ref (co C), .int a1] σ Q := tell_c hC J.2.2.2.2.2.2.2 (fun v σ' q => h v σ' (rJ_c J (by rw [q.1.1 2 (by decide) (by decide)]; exact J.1) ⟨q.2.1, q.2.2.1⟩ (fun k hk => q.1.1 k ((by decide : ∀ k, k ∈ rjF → k ≠ 0) k hk) ((by decide : ∀ k, k ∈ rjF → k ≠ 104) k hk)) (fun k hk => q.1.2.2.1 k ((by decide : ∀ k, k ∈ rjR → k ≠ 105) k hk)) (rjN_r (q.1.2.2.1 90 (by decide)) (q.1.2.2.1 91 (by decide)))) ⟨⟨oR_k9 (q.1.1 2 (by decide) (by decide)) (q.1.1 53 (by decide) (by decide)) (q.1.2.2.1 1 (by decide)), kR_f7 (fun k hk => q.1.1 k ((by decide : ∀ k, k ∈ kf7 → k ≠ 0) k hk) ((by decide : ∀ k, k ∈ kf7 → k ≠ 104) k hk)) (fun k hk => q.1.2.2.1 k ((by decide : ∀ k, k ∈ kz7 → k ≠ 105) k hk)) (fun j => q.1.2.2.2.2 8 j)⟩, kS_f8 (fun k hk => q.1.1 k ((by decide : ∀ k, k ∈ ke8 → k ≠ 0) k hk) ((by decide : ∀ k, k ∈ ke8 → k ≠ 104) k hk)) (fun k hk => q.1.2.2.1 k ((by decide : ∀ k, k ∈ kx8 → k ≠ 105) k hk))⟩)

end
section
set_option maxHeartbeats 1600000
/-- what program answers, by its reading -/
def pQ9 (σ : rS) (v : Int32) (σ' : rS) : Prop := ∃ σ2 : rS, (σ2.1 2 = σ.1 2 ∧ σ2.2.2.1 1 = σ.2.2.1 1 ∧ σ2.1 3 = σ.1 3 ∧ (σ.1 3 = 0 ∨ σ.1 3 = 65537)) ∧ σ'.1 53 = (g5_tellProgram σ2).1 11 ∧ ((g5_tellProgram σ2).1 11 = 0 → v = (g5_tellProgram σ2).1 19 ∧ σ'.1 14 = 1 ∧ (∀ g, g ∈ kf7 → g ≠ 14 → σ'.1 g = (g5_tellProgram σ2).1 g) ∧ σ'.2 = (g5_tellProgram σ2).2 ∧ eB (σ'.2.2.1 26) 0 5 ∧ ((g5_tellProgram σ2).1 3 = 0 ∨ (g5_tellProgram σ2).1 3 = 65537) ∧ (g5_tellProgram σ2).1 3 ≠ σ.1 3 ∧ σ'.1 69 = 0 ∧ no8 σ') ∧ ((g5_tellProgram σ2).1 11 ≠ 0 → v = (-1 : Int32) - (g5_tellProgram σ2).1 12 ∧ kR7 σ σ' ∧ kS8 σ σ')
/-- a text that fails leaves the code that stands -/
theorem kR_b7 {σ σ1 σ4 σ7 τ : rS} (q : back σ1 σ7 τ) (hb : σ.1 3 = 0 ∨ σ.1 3 = 65537) (t3 : σ4.1 3 = 0 ∨ σ4.1 3 = 65537) (t4 : σ4.1 3 ≠ σ.1 3) (t5 : ∀ k, (k = 5 ∨ k = 6 ∨ k = 7 ∨ k = 9 ∨ k = 39) → ∀ t : Int32, 0 ≤ t → (t < σ4.1 3 ∨ σ4.1 3 + 65536 < t) → rd σ4 k t = rd σ k t) (e1 : ∀ k, k ≠ 0 → σ1.1 k = σ.1 k) (s1 : σ1.2 = σ.2) (h14 : σ7.1 14 = σ.1 14) (s7 : σ7.2 = σ4.2) (hl : ∀ j, (if σ.1 3 = 0 then j ≤ 65536 else 65537 ≤ j) → σ4.2.2.2 8 j = σ.2.2.2 8 j) : kR7 σ τ := by
  obtain ⟨b1, b15, b16, b17, b18, b19, b40, b3, b5, b6, b7, b8⟩ := q
  refine ⟨fun g hg => ?_, fun p hp i hi => by rw [(b8 p hp).1 i hi, s1], fun k hk j hj => ?_, fun j hj => ?_⟩
  · have c : g = 3 ∨ g = 14 ∨ g = 15 ∨ g = 16 ∨ g = 17 ∨ g = 18 ∨ g = 19 ∨ g = 40 := by
      have z : ∀ g, g ∈ kf7 → g = 3 ∨ g = 14 ∨ g = 15 ∨ g = 16 ∨ g = 17 ∨ g = 18 ∨ g = 19 ∨ g = 40 := by decide
      exact z g hg
    rcases c with c | c | c | c | c | c | c | c <;> rw [c]
    · exact b3.trans (e1 3 (by decide))
    · exact (b1 14 (by decide) (by decide) (by decide) (by decide) (by decide) (by decide) (by decide) (by decide)).trans h14
    · exact b15.trans (e1 15 (by decide))
    · exact b16.trans (e1 16 (by decide))
    · exact b17.trans (e1 17 (by decide))
    · exact b18.trans (e1 18 (by decide))
    · exact b19.trans (e1 19 (by decide))
    · exact b40.trans (e1 40 (by decide))
  · have y : τ.2.2.1 k = σ4.2.2.1 k := by
      rw [b7 k (by omega) (by rcases hk with c | c | c | c | c <;> rw [c] <;> decide), s7]
    have jj : j ≤ 131073 := by
      unfold hf7 at hj
      by_cases c : σ.1 3 = 0
      · rw [if_pos c] at hj; omega
      · rw [if_neg c] at hj; omega
    have lj := ofn_i (n := j) (by omega)
    have z := t5 k hk (Int32.ofNat j) (by rw [lei, t0i]; omega) (by
      unfold hf7 at hj
      rcases hb with b | b
      · have t : σ4.1 3 = 65537 := by
          rcases t3 with t | t
          · exact absurd (t.trans b.symm) t4
          · exact t
        left
        rw [if_pos b] at hj
        rw [t, lti, lj]
        show (j : Int) < 65537
        omega
      · have t : σ4.1 3 = 0 := by
          rcases t3 with t | t
          · exact t
          · exact absurd (t.trans b.symm) t4
        right
        rw [b, if_neg (by decide)] at hj
        rw [t, lti, lj]
        show (65536 : Int) < j
        omega)
    unfold rd at z
    rw [cl_5 (by omega)] at z
    rw [y]
    exact z
  · rw [b6 8 j, s7]
    refine hl j ?_
    unfold hf7 at hj
    by_cases c : σ.1 3 = 0
    · rw [if_pos c] at hj ⊢; exact hj
    · rw [if_neg c] at hj ⊢; exact hj.1
theorem program_c9 {C : rCx} (hC : cOK C)  {σ : rS}  {Q : Int32 → rS → Prop} (hp : (σ.1 3 = 0 ∨ σ.1 3 = 65537) ∧ 0 ≤ σ.1 2 ∧ σ.1 2 ≤ 65536 ∧ tyAll σ ∧ (σ.1 14 ≠ 0 → ∃ T, progOK σ (σ.1 3) T)) (h : ∀ (v : Int32) (σ' : rS), (prQ σ σ' ∧ pQ9 σ v σ') → Q v σ') : cI C 13 m_program [.ref (co C)] σ Q := by
  refine m_program_run hC ?_
  unfold w_program_0
  obtain ⟨hb, hs0, hs1, hT, hP⟩ := hp
  intro σ_1 hσ_1
  refine swingAll_c_s hC  (fun σ_2 q3 => ?_)
  have e1 : ∀ k, k ≠ 0 → σ_1.1 k = σ.1 k := fun k hk => by rw [hσ_1, si1, if_neg hk]
  have s1 : σ_1.2 = σ.2 := by rw [hσ_1, si2]
  have e2 : ∀ k, k ≠ 0 → k ≠ 55 → σ_2.1 k = σ.1 k := fun k z1 z2 => (q3.1.1 k z2).trans (e1 k z1)
  have r2 : ∀ k, k ≠ 54 → k ≠ 56 → σ_2.2.2.1 k = σ.2.2.1 k := fun k z1 z2 => (q3.1.2.2.1 k z1 z2).trans (by rw [s1])
  have T1 : tyAll σ_1 := ty_s hT (fun k hk => e1 k (by omega)) (fun k _ _ => by rw [s1])
  have T2 : tyAll σ_2 := ty_s hT (fun k hk => e2 k (by omega) (by omega)) r2
  have F2 : frH zFF zRR σ σ_2 := ⟨fun k z => e2 k (fun e => z (by rw [e]; decide)) (fun e => z (by rw [e]; decide)), fun k => (q3.1.2.1 k).trans (by rw [s1]), fun k z => r2 k (fun e => z (by rw [e]; decide)) (fun e => z (by rw [e]; decide)), fun k j _ => (q3.1.2.2.2.2 k j).trans (by rw [s1])⟩
  refine tellProgram_g5 hC  ?_ (fun σ_4 q5z => ?_)
  · clear h; exact ⟨by rw [e2 3 (by decide) (by decide)]; exact hb, by rw [e2 2 (by decide) (by decide)]; exact hs0, by rw [e2 2 (by decide) (by decide)]; exact hs1, T2⟩  -- p1
  obtain ⟨q5, zg⟩ := q5z
  intro σ_6 hσ_6
  intro σ_7 hσ_7
  obtain ⟨t1, t2, t3, t4, t5, t6, t7⟩ := q5
  have e7 : ∀ k, k ≠ 2 → k ≠ 53 → σ_7.1 k = σ_4.1 k := fun k z1 z2 => by rw [hσ_7, si1, if_neg z2, hσ_6, si1, if_neg z1]
  have v7 : σ_7.1 2 = 0 := by rw [hσ_7, si1, if_neg (by decide), hσ_6, si1, if_pos rfl]
  have s7 : σ_7.2 = σ_4.2 := by rw [hσ_7, si2, hσ_6, si2]
  have F7 : frH zFF zRR σ σ_7 := frH_tr F2 (frH_tr (frZ_q t1) (by rw [hσ_7, hσ_6]; exact frH_tr (frZ_si (by decide)) (frZ_si (by decide))))
  have T7 : tyAll σ_7 := ty_s t2 (fun k hk => e7 k (by omega) (by omega)) (fun k _ _ => by rw [s7])
  have k7 : ∀ k, k ∉ qFF → k ≠ 0 → k ≠ 55 → k ≠ 2 → k ≠ 53 → σ_7.1 k = σ.1 k := fun k z1 z2 z3 z4 z5 => (e7 k z4 z5).trans ((t1.1 k z1).trans (e2 k z2 z3))
  refine ⟨fun c8 => ?_, fun c8 => ?_⟩
  · skip
    intro σ_9 hσ_9
    intro σ_10 hσ_10
    intro σ_11 hσ_11
    intro σ_12 hσ_12
    intro σ_13 hσ_13
    intro σ_14 hσ_14
    intro σ_15 hσ_15
    intro σ_16 hσ_16
    have x16 : ∀ k, k ≠ 14 → k ≠ 69 → k ≠ 94 → k ≠ 114 → k ≠ 106 → k ≠ 70 → k ≠ 71 → k ≠ 72 → σ_16.1 k = σ_7.1 k := fun k z1 z2 z3 z4 z5 z6 z7 z8 => by rw [hσ_16, si1, if_neg z8, hσ_15, si1, if_neg z7, hσ_14, si1, if_neg z6, hσ_13, si1, if_neg z5, hσ_12, si1, if_neg z4, hσ_11, si1, if_neg z3, hσ_10, si1, if_neg z2, hσ_9, si1, if_neg z1]
    have x53 : σ_7.1 53 = σ_4.1 11 := by rw [hσ_7, si1, if_pos rfl, hσ_6, si1, if_neg (by decide)]
    have z0 : σ_4.1 11 = 0 := by
      have c9 := c8
      rw [e7 11 (by decide) (by decide)] at c9
      exact Int32.le_antisymm c9 t7
    have s16z : σ_16.2 = σ_4.2 := by rw [hσ_16, si2, hσ_15, si2, hσ_14, si2, hσ_13, si2, hσ_12, si2, hσ_11, si2, hσ_10, si2, hσ_9, si2]; exact s7
    have y14 : σ_16.1 14 = 1 := by rw [hσ_16, si1, if_neg (by decide), hσ_15, si1, if_neg (by decide), hσ_14, si1, if_neg (by decide), hσ_13, si1, if_neg (by decide), hσ_12, si1, if_neg (by decide), hσ_11, si1, if_neg (by decide), hσ_10, si1, if_neg (by decide), hσ_9, si1, if_pos rfl]
    have y26 : eB (σ_16.2.2.1 26) 0 5 := by
      obtain ⟨_, z3, _⟩ := t2
      obtain ⟨_, _, _, _, z4, _⟩ := z3
      rw [s16z]
      exact z4
    have pq : pQ9 σ (σ_16.1 19) σ_16 := ⟨σ_2, ⟨e2 2 (by decide) (by decide), r2 1 (by decide) (by decide), e2 3 (by decide) (by decide), hb⟩, by rw [zg, x16 53 (by decide) (by decide) (by decide) (by decide) (by decide) (by decide) (by decide) (by decide), x53], fun _ => ⟨by rw [zg, x16 19 (by decide) (by decide) (by decide) (by decide) (by decide) (by decide) (by decide) (by decide), e7 19 (by decide) (by decide)], y14, fun g hg n14 => by
      rw [zg, x16 g n14 ((by decide : ∀ g, g ∈ kf7 → g ≠ 69) g hg) ((by decide : ∀ g, g ∈ kf7 → g ≠ 94) g hg) ((by decide : ∀ g, g ∈ kf7 → g ≠ 114) g hg) ((by decide : ∀ g, g ∈ kf7 → g ≠ 106) g hg) ((by decide : ∀ g, g ∈ kf7 → g ≠ 70) g hg) ((by decide : ∀ g, g ∈ kf7 → g ≠ 71) g hg) ((by decide : ∀ g, g ∈ kf7 → g ≠ 72) g hg), e7 g ((by decide : ∀ g, g ∈ kf7 → g ≠ 2) g hg) ((by decide : ∀ g, g ∈ kf7 → g ≠ 53) g hg)], by rw [zg]; exact s16z, y26, by rw [zg]; exact t3, by rw [zg, ← e2 3 (by decide) (by decide)]; exact t4, by rw [hσ_16, si1, if_neg (by decide), hσ_15, si1, if_neg (by decide), hσ_14, si1, if_neg (by decide), hσ_13, si1, if_neg (by decide), hσ_12, si1, if_neg (by decide), hσ_11, si1, if_neg (by decide), hσ_10, si1, if_pos rfl], by rw [hσ_16, si1, if_neg (by decide), hσ_15, si1, if_neg (by decide), hσ_14, si1, if_pos rfl], by rw [hσ_16, si1, if_neg (by decide), hσ_15, si1, if_pos rfl], by rw [hσ_16, si1, if_pos rfl]⟩, fun z => absurd (by rw [zg]; exact z0) z⟩
    refine h _ _ ⟨?_, pq⟩
    · clear h; have s16 : σ_16.2 = σ_4.2 := by rw [hσ_16, si2, hσ_15, si2, hσ_14, si2, hσ_13, si2, hσ_12, si2, hσ_11, si2, hσ_10, si2, hσ_9, si2]; exact s7
      have e16 : ∀ k, k ≠ 14 → k ≠ 69 → k ≠ 94 → k ≠ 114 → k ≠ 106 → k ≠ 70 → k ≠ 71 → k ≠ 72 → σ_16.1 k = σ_7.1 k := fun k z1 z2 z3 z4 z5 z6 z7 z8 => by rw [hσ_16, si1, if_neg z8, hσ_15, si1, if_neg z7, hσ_14, si1, if_neg z6, hσ_13, si1, if_neg z5, hσ_12, si1, if_neg z4, hσ_11, si1, if_neg z3, hσ_10, si1, if_neg z2, hσ_9, si1, if_neg z1]
      have e4 : ∀ k, k ≠ 2 → k ≠ 53 → k ≠ 14 → k ≠ 69 → k ≠ 94 → k ≠ 114 → k ≠ 106 → k ≠ 70 → k ≠ 71 → k ≠ 72 → σ_16.1 k = σ_4.1 k := fun k y1 y2 z1 z2 z3 z4 z5 z6 z7 z8 => (e16 k z1 z2 z3 z4 z5 z6 z7 z8).trans (e7 k y1 y2)
      have f0 : σ_4.1 11 = 0 := by
        rw [e7 11 (by decide) (by decide)] at c8
        exact Int32.le_antisymm c8 t7
      obtain ⟨T, pk⟩ := t6 f0
      have d3 := e4 3 (by decide) (by decide) (by decide) (by decide) (by decide) (by decide) (by decide) (by decide) (by decide) (by decide)
      refine ⟨by rw [d3]; exact t3, by rw [e16 2 (by decide) (by decide) (by decide) (by decide) (by decide) (by decide) (by decide) (by decide)]; exact v7, ?_, fun _ => ⟨T, ?_⟩, ?_, Or.inr ⟨?_, ?_, ?_, ?_, ?_, ?_, ?_, ?_⟩⟩
      · exact ty_s t2 (fun k hk => e4 k (by omega) (by omega) (by omega) (by omega) (by omega) (by omega) (by omega) (by omega) (by omega) (by omega)) (fun k _ _ => by rw [s16])
      · rw [d3]
        exact progOK_L t2 pk (fun t _ _ => by rw [s16]) (fun t _ _ => by rw [s16]) (fun t _ _ => by rw [s16]) (e4 18 (by decide) (by decide) (by decide) (by decide) (by decide) (by decide) (by decide) (by decide) (by decide) (by decide)) (e4 19 (by decide) (by decide) (by decide) (by decide) (by decide) (by decide) (by decide) (by decide) (by decide) (by decide)) (e4 40 (by decide) (by decide) (by decide) (by decide) (by decide) (by decide) (by decide) (by decide) (by decide) (by decide)) (fun k _ j _ => by rw [s16]) (fun k _ j _ => by rw [s16])
      · refine frH_tr F7 ⟨fun k z => e16 k ?_ ?_ ?_ ?_ ?_ ?_ ?_ ?_, fun k => by rw [s16, s7], fun k _ => by rw [s16, s7], fun k j _ => by rw [s16, s7]⟩ <;> exact fun e => z (by rw [e]; decide)
      · rw [hσ_16, si1, if_neg (by decide), hσ_15, si1, if_neg (by decide), hσ_14, si1, if_neg (by decide), hσ_13, si1, if_neg (by decide), hσ_12, si1, if_neg (by decide), hσ_11, si1, if_neg (by decide), hσ_10, si1, if_neg (by decide), hσ_9, si1, if_pos rfl]
      · rw [hσ_16, si1, if_neg (by decide), hσ_15, si1, if_neg (by decide), hσ_14, si1, if_neg (by decide), hσ_13, si1, if_neg (by decide), hσ_12, si1, if_neg (by decide), hσ_11, si1, if_neg (by decide), hσ_10, si1, if_pos rfl]
      · rw [hσ_16, si1, if_neg (by decide), hσ_15, si1, if_neg (by decide), hσ_14, si1, if_pos rfl]
      · rw [hσ_16, si1, if_neg (by decide), hσ_15, si1, if_pos rfl]
      · rw [hσ_16, si1, if_pos rfl]
      · rw [hσ_16, si1, if_neg (by decide), hσ_15, si1, if_neg (by decide), hσ_14, si1, if_neg (by decide), hσ_13, si1, if_neg (by decide), hσ_12, si1, if_neg (by decide), hσ_11, si1, if_pos rfl]
      · rw [hσ_16, si1, if_neg (by decide), hσ_15, si1, if_neg (by decide), hσ_14, si1, if_neg (by decide), hσ_13, si1, if_pos rfl]
      · rw [hσ_16, si1, if_neg (by decide), hσ_15, si1, if_neg (by decide), hσ_14, si1, if_neg (by decide), hσ_13, si1, if_neg (by decide), hσ_12, si1, if_pos rfl]
  · skip
    refine swingAll_c_b hC σ_1 ?_ (fun σ_17 q18 => ?_)
    · clear h; exact kept_s q3.2 (by rw [s7]; exact t1.2.2.1 54 (by decide))  -- p3
    have y53 : σ_17.1 53 = σ_4.1 11 := by rw [q18.1 53 (by decide) (by decide) (by decide) (by decide) (by decide) (by decide) (by decide) (by decide), hσ_7, si1, if_pos rfl, hσ_6, si1, if_neg (by decide)]
    have y12 : σ_17.1 12 = σ_4.1 12 := by rw [q18.1 12 (by decide) (by decide) (by decide) (by decide) (by decide) (by decide) (by decide) (by decide), e7 12 (by decide) (by decide)]
    have n0 : ¬ σ_4.1 11 = 0 := fun z => c8 (by rw [e7 11 (by decide) (by decide), z]; decide)
    have okS2 : okS5 σ_2 := by
      have j0 := hs0
      have j1 := hs1
      rw [lei, t0i] at j0
      rw [lei, show (65536 : Int32).toInt = 65536 from rfl] at j1
      unfold okS5
      rw [e2 2 (by decide) (by decide)]
      exact ⟨j0, j1⟩
    have kr : kR7 σ σ_17 := kR_b7 q18 hb t3 (by rw [← e2 3 (by decide) (by decide)]; exact t4) (fun k hk t h1 h2 => by
        rw [rd, rd, ← r2 k (by omega) (by omega)]
        exact t5 k hk t h1 h2) e1 s1 (by
        rw [e7 14 (by decide) (by decide)]
        exact (t1.1 14 (by decide)).trans (e2 14 (by decide) (by decide))) s7 (fun j hj => by
        rw [← zg, tell_l6 okS2 j (by
          rw [e2 3 (by decide) (by decide)]
          exact hj), q3.1.2.2.2.2 8 j, s1])
    have ks : kS8 σ σ_17 := by
      obtain ⟨b1, _, _, _, _, _, _, _, _, _, b7, _⟩ := q18
      refine ⟨fun g hg => ?_, fun g hg => ?_⟩
      · rw [b1 g ((by decide : ∀ g, g ∈ ke8 → g ≠ 55) g hg) ((by decide : ∀ g, g ∈ ke8 → g ≠ 15) g hg) ((by decide : ∀ g, g ∈ ke8 → g ≠ 16) g hg) ((by decide : ∀ g, g ∈ ke8 → g ≠ 17) g hg) ((by decide : ∀ g, g ∈ ke8 → g ≠ 18) g hg) ((by decide : ∀ g, g ∈ ke8 → g ≠ 19) g hg) ((by decide : ∀ g, g ∈ ke8 → g ≠ 40) g hg) ((by decide : ∀ g, g ∈ ke8 → g ≠ 3) g hg)]
        exact k7 g ((by decide : ∀ g, g ∈ ke8 → g ∉ qFF) g hg) ((by decide : ∀ g, g ∈ ke8 → g ≠ 0) g hg) ((by decide : ∀ g, g ∈ ke8 → g ≠ 55) g hg) ((by decide : ∀ g, g ∈ ke8 → g ≠ 2) g hg) ((by decide : ∀ g, g ∈ ke8 → g ≠ 53) g hg)
      · rw [b7 g ((by decide : ∀ g, g ∈ kx8 → g ≠ 56) g hg) (fun p hp e => (by decide : ∀ p, p ∈ kPt → p.1 ∉ kx8) p hp (by rw [e]; exact hg)), s7, t1.2.2.1 g ((by decide : ∀ g, g ∈ kx8 → g ∉ qRR) g hg)]
        exact r2 g ((by decide : ∀ g, g ∈ kx8 → g ≠ 54) g hg) ((by decide : ∀ g, g ∈ kx8 → g ≠ 56) g hg)
    have pq : pQ9 σ ((-1 : Int32) - σ_17.1 12) σ_17 := ⟨σ_2, ⟨e2 2 (by decide) (by decide), r2 1 (by decide) (by decide), e2 3 (by decide) (by decide), hb⟩, by rw [zg, y53], fun z => absurd (by rw [← zg]; exact z) n0, fun _ => ⟨by rw [zg, y12], kr, ks⟩⟩
    refine h _ _ ⟨?_, pq⟩
    · clear h; have T17 := ty_back q18 T1 T7
      obtain ⟨b1, b15, b16, b17, b18, b19, b40, b3, b5, b6, b7, b8⟩ := q18
      have bf : ∀ k, k ∉ [55, 15, 16, 17, 18, 19, 40, 3] → σ_17.1 k = σ_7.1 k := fun k z => b1 k (fun e => z (by rw [e]; decide)) (fun e => z (by rw [e]; decide)) (fun e => z (by rw [e]; decide)) (fun e => z (by rw [e]; decide)) (fun e => z (by rw [e]; decide)) (fun e => z (by rw [e]; decide)) (fun e => z (by rw [e]; decide)) (fun e => z (by rw [e]; decide))
      have d3 : σ_17.1 3 = σ.1 3 := b3.trans (e1 3 (by decide))
      have kk : ∀ k, k ∉ [55, 15, 16, 17, 18, 19, 40, 3] → k ∉ qFF → k ≠ 0 → k ≠ 55 → k ≠ 2 → k ≠ 53 → σ_17.1 k = σ.1 k := fun k z1 z2 z3 z4 z5 z6 => (bf k z1).trans (k7 k z2 z3 z4 z5 z6)
      have d14 : σ_17.1 14 = σ.1 14 := kk 14 (by decide) (by decide) (by decide) (by decide) (by decide) (by decide)
      refine ⟨by rw [d3]; exact hb, by rw [bf 2 (by decide)]; exact v7, T17, fun z => ?_, ?_, Or.inl ⟨d14, kk 69 (by decide) (by decide) (by decide) (by decide) (by decide) (by decide), kk 70 (by decide) (by decide) (by decide) (by decide) (by decide) (by decide), kk 71 (by decide) (by decide) (by decide) (by decide) (by decide) (by decide), kk 72 (by decide) (by decide) (by decide) (by decide) (by decide) (by decide), kk 94 (by decide) (by decide) (by decide) (by decide) (by decide) (by decide), kk 106 (by decide) (by decide) (by decide) (by decide) (by decide) (by decide), kk 114 (by decide) (by decide) (by decide) (by decide) (by decide) (by decide)⟩⟩
      · rw [d14] at z
        obtain ⟨T, pk⟩ := hP z
        have tok : ∀ k, k = 5 ∨ k = 7 ∨ k = 39 → lc (σ.2.2.1 k) (σ_17.2.2.1 k) (σ.1 3) T := fun k hk t ht ht2 => by
          have w := two_b hb t3 (by rw [← e2 3 (by decide) (by decide)]; exact t4) pk.2.2.1 pk.2.2.2.1 ht ht2
          have x := t5 k (by omega) t w.1 w.2
          have y : σ_17.2.2.1 k = σ_4.2.2.1 k := by
            rcases hk with rfl | rfl | rfl
            · rw [b7 5 (by decide) (by decide), s7]
            · rw [b7 7 (by decide) (by decide), s7]
            · rw [b7 39 (by decide) (by decide), s7]
          rw [y]
          refine x.trans ?_
          rw [rd, r2 k (by omega) (by omega)]
        have rw1 : ∀ p ∈ kPt, ∀ j, j < p.2.2 → σ_17.2.2.1 p.1 j = σ.2.2.1 p.1 j := fun p hp j hj => by rw [(b8 p hp).1 j hj, s1]
        refine ⟨T, ?_⟩
        rw [d3]
        refine progOK_L hT pk (tok 5 (by decide)) (tok 7 (by decide)) (tok 39 (by decide)) (b18.trans (e1 18 (by decide))) (b19.trans (e1 19 (by decide))) (b40.trans (e1 40 (by decide))) (fun k hk j hj => ?_) (fun k hk j hj => ?_)
        · rcases hk with rfl | rfl | rfl | rfl | rfl | rfl | rfl | rfl
          · exact rw1 (30, 157, 150) (by decide) j hj
          · exact rw1 (31, 307, 150) (by decide) j hj
          · exact rw1 (32, 457, 150) (by decide) j hj
          · exact rw1 (33, 607, 150) (by decide) j hj
          · exact rw1 (34, 757, 150) (by decide) j hj
          · exact rw1 (35, 907, 150) (by decide) j hj
          · exact rw1 (36, 1057, 150) (by decide) j hj
          · exact rw1 (37, 1207, 150) (by decide) j hj
        · rcases hk with rfl | rfl
          · exact rw1 (26, 47, 10) (by decide) j hj
          · exact rw1 (29, 147, 10) (by decide) j hj
      · refine frH_tr F7 ⟨fun k z => bf k (fun e => z ((by decide : ∀ q ∈ [55, 15, 16, 17, 18, 19, 40, 3], q ∈ zFF) k e)), b5, fun k z => b7 k (fun e => z (by rw [e]; decide)) (fun p hp e => z (by rw [← e]; exact (by decide : ∀ p ∈ kPt, p.1 ∈ zRR) p hp)), fun k j _ => b6 k j⟩

/-! the reference: what holds behind decide, show, solve, best, explore, program, play, walk -/
abbrev rjA : List Nat := [2, 53, 3, 14, 15, 16, 17, 18, 19, 40, 41, 42, 104]
abbrev rjZ : List Nat := 1 :: 6 :: 9 :: 21 :: rjQ
abbrev rjY : List Nat := 1 :: 6 :: 9 :: 21 :: rjR
theorem rJ_x {σ τ : rS} (J : rJ σ) (hf : ∀ k, k ∈ rjA → τ.1 k = σ.1 k) (hr : ∀ k, k ∈ rjZ → τ.2.2.1 k = σ.2.2.1 k) (hl : ∀ j, τ.2.2.2 8 j = σ.2.2.2 8 j) (e : exP τ) (v : jVs τ) (w : jWo τ) (p : plN τ) (s : shO τ) : rJ τ ∧ pR7 σ τ :=
  ⟨⟨by rw [hf 2 (by decide)]; exact J.1, jBk_o J.2.1 (hf 3 (by decide)) (hf 14 (by decide)) (fun k hk => hf k ((by decide : ∀ k, k ∈ rjP → k ∈ rjA) k hk)) (fun k hk => hr k (List.mem_cons_of_mem _ (List.mem_cons_of_mem _ (List.mem_cons_of_mem _ (List.mem_cons_of_mem _ hk))))), e, v, w, p, s, by rw [hf 104 (by decide)]; exact J.2.2.2.2.2.2.2⟩, ⟨oR_k9 (hf 2 (by decide)) (hf 53 (by decide)) (hr 1 (by decide)), kR_f7 (fun k hk => hf k ((by decide : ∀ k, k ∈ kf7 → k ∈ rjA) k hk)) (fun k hk => hr k ((by decide : ∀ k, k ∈ kz7 → k ∈ rjZ) k hk)) hl⟩⟩
theorem rj_88 {σ : rS} (J : rJ σ) : 0 ≤ σ.1 88 := J.2.2.1.2.2.2.1
section callz
variable {C : rCx} {σ : rS} {a1 a2 : Int32}
theorem show_j (hC : cOK C) (J : rJ σ) {Q : Int32 → rS → Prop} (h : ∀ v σ', rJ σ' → pR8 σ σ' → Q v σ') : cI C 8 m_show [.ref (co C), .int a1, .int a2] σ Q := show_c hC _ ⟨pOK_of J.2.2.1, rfl, J.2.2.2.1, J.2.2.2.2.1, J.2.2.2.2.2.1, J.2.2.2.2.2.2.1⟩ (fun v σ' q => by
  obtain ⟨f, s⟩ := q
  have r : ∀ k, k ∈ rjY → σ'.2.2.1 k = σ.2.2.1 k := fun k hk => f.2.2.1 k ((by decide : ∀ k, k ∈ rjY → k ≠ 90) k hk) ((by decide : ∀ k, k ∈ rjY → k ≠ 91) k hk)
  have g := rJ_x J (fun k hk => f.1 k ((by decide : ∀ k, k ∈ rjA → k ∉ shF) k hk)) (fun k hk => r k ((by decide : ∀ k, k ∈ rjZ → k ∈ rjY) k hk)) (fun j => by rw [f.2.2.2.1]) (exP_o J.2.2.1 (fun k hk => f.1 k (by rcases hk with z | z | z | z <;> rw [z] <;> decide)) (fun k hk => r k (by rcases hk with z | z | z | z | z | z | z | z <;> rw [z] <;> decide))) (jVs_o J.2.2.2.1 (by rw [f.1 94 (by decide)]; exact fun y => y) (f.1 70 (by decide)) (r 102 (by decide))) (jWo_o J.2.2.2.2.1 (by rw [f.1 114 (by decide)]; exact fun y => y) (f.1 70 (by decide)) (r 115 (by decide)) (r 116 (by decide))) (plN_o J.2.2.2.2.2.1 (by rw [f.1 106 (by decide)]; exact fun y => y) (fun k hk => f.2.2.2.2 k (by rcases hk with z | z <;> rw [z] <;> decide))) s
  exact h v σ' g.1 ⟨g.2, kS_f8 (fun k hk => f.1 k ((by decide : ∀ k, k ∈ ke8 → k ∉ shF) k hk)) (fun k hk => f.2.2.1 k ((by decide : ∀ k, k ∈ kx8 → k ≠ 90) k hk) ((by decide : ∀ k, k ∈ kx8 → k ≠ 91) k hk))⟩)
theorem explore_j (hC : cOK C) (J : rJ σ) {Q : Int32 → rS → Prop} (h : ∀ v σ', rJ σ' → pR7 σ σ' → XS15 a1 σ σ' v → Q v σ') : cI C 11 m_explore [.ref (co C), .int a1] σ Q := explore_x15 hC ⟨J.2.1.2.1, J.2.1.2.2, J.2.2.1⟩ (fun v σ' q => by
  obtain ⟨⟨f, e, -, -, z⟩, xs⟩ := q
  have r0 := f.2.2.1 90 (by decide)
  have r1 := f.2.2.1 91 (by decide)
  have g := rJ_x J (fun k hk => f.1 k ((by decide : ∀ k, k ∈ rjA → k ∉ xpF) k hk)) (fun k hk => f.2.2.1 k ((by decide : ∀ k, k ∈ rjZ → k ∉ xpR) k hk)) (fun j => by rw [f.2.2.2 8 (by decide)]) e (by
    rcases z with z | z
    · exact jVs_o J.2.2.2.1 (by rw [z.1 94 (by decide)]; exact fun y => y) (z.1 70 (by decide)) (by rw [z.2])
    · exact fun y => absurd z.1 y) (by
    rcases z with z | z
    · exact jWo_o J.2.2.2.2.1 (by rw [z.1 114 (by decide)]; exact fun y => y) (z.1 70 (by decide)) (by rw [z.2]) (by rw [z.2])
    · exact fun y => absurd z.2 y) (plN_o J.2.2.2.2.2.1 (by rw [f.1 106 (by decide)]; exact fun y => y) (fun k hk => ⟨by rw [r1], fun i _ => by rw [r0]⟩)) (shO_o J.2.2.2.2.2.2.1 (f.1 103 (by decide)) (fun k hk => ⟨by rw [r1], fun i _ => by rw [r0]⟩))
  exact h v σ' g.1 g.2 xs)
theorem program_j (hC : cOK C) (J : rJ σ) {Q : Int32 → rS → Prop} (h : ∀ v σ', rJ σ' → oR9 σ' = ((fun _ => 0, 0, σ'.1 53) : Ob9) → pQ9 σ v σ' → Q v σ') : cI C 13 m_program [.ref (co C)] σ Q := program_c9 hC ⟨J.2.1.1, J.1.1, J.1.2, J.2.1.2.1, J.2.1.2.2⟩ (fun v σ' q => by
  obtain ⟨⟨b3, b2, ty, pg, f, z⟩, pq⟩ := q
  have r0 := f.2.2.1 90 (by decide)
  have r1 := f.2.2.1 91 (by decide)
  have e104 := f.1 104 (by decide)
  have e88 := f.1 88 (by decide)
  refine h v σ' ⟨by rw [b2]; decide, ⟨b3, ty, pg⟩, ?_, ?_, ?_, ?_, shO_o J.2.2.2.2.2.2.1 (f.1 103 (by decide)) (fun k hk => ⟨by rw [r1], fun i _ => by rw [r0]⟩), by rw [e104]; exact J.2.2.2.2.2.2.2⟩ (by unfold oR9; rw [b2]; exact mk_09) pq
  · rcases z with z | z
    · exact exP_o J.2.2.1 (fun k hk => by
        rcases hk with y | y | y | y <;> rw [y]
        · exact z.2.2.1
        · exact z.2.2.2.1
        · exact z.2.2.2.2.1
        · exact e88) (fun k hk => f.2.2.1 k (by rcases hk with z | z | z | z | z | z | z | z <;> rw [z] <;> decide))
    · exact exP_0 z.2.2.1 z.2.2.2.1 z.2.2.2.2.1 (by rw [e88]; exact rj_88 J)
  · rcases z with z | z
    · exact jVs_o J.2.2.2.1 (by rw [z.2.2.2.2.2.1]; exact fun y => y) z.2.2.1 (f.2.2.1 102 (by decide))
    · exact fun y => absurd z.2.2.2.2.2.1 y
  · rcases z with z | z
    · exact jWo_o J.2.2.2.2.1 (by rw [z.2.2.2.2.2.2.2]; exact fun y => y) z.2.2.1 (f.2.2.1 115 (by decide)) (f.2.2.1 116 (by decide))
    · exact fun y => absurd z.2.2.2.2.2.2.2 y
  · refine plN_o J.2.2.2.2.2.1 ?_ (fun k hk => ⟨by rw [r1], fun i _ => by rw [r0]⟩)
    rcases z with z | z
    · rw [z.2.2.2.2.2.2.1]; exact fun y => y
    · exact fun y => absurd z.2.2.2.2.2.2.1 y)
theorem rJ_w {σ ρ τ : rS} (J : rJ σ) (hρ : ∀ k, k ≠ 113 → ρ.1 k = σ.1 k) (hs : ρ.2.2 = σ.2.2) (f : frW ρ τ) (p : plN τ) : rJ τ ∧ pR8 σ τ := by
  have ef : ∀ k, k ∉ pyF → k ≠ 113 → τ.1 k = σ.1 k := fun k z1 z2 => (f.1 k z1).trans (hρ k z2)
  have er : ∀ k, k ≠ 90 → k ≠ 91 → k ∉ pyR → τ.2.2.1 k = σ.2.2.1 k := fun k z1 z2 z3 => (f.2.2.1 k z1 z2 z3).trans (by rw [hs])
  have g := rJ_x J (fun k hk => ef k ((by decide : ∀ k, k ∈ rjA → k ∉ pyF) k hk) ((by decide : ∀ k, k ∈ rjA → k ≠ 113) k hk)) (fun k hk => er k ((by decide : ∀ k, k ∈ rjZ → k ≠ 90) k hk) ((by decide : ∀ k, k ∈ rjZ → k ≠ 91) k hk) ((by decide : ∀ k, k ∈ rjZ → k ∉ pyR) k hk)) (fun j => (f.2.2.2.1 8 j).trans (by rw [hs])) (exP_o J.2.2.1 (fun k hk => ef k (by rcases hk with z | z | z | z <;> rw [z] <;> decide) (by rcases hk with z | z | z | z <;> rw [z] <;> decide)) (fun k hk => er k (by rcases hk with z | z | z | z | z | z | z | z <;> rw [z] <;> decide) (by rcases hk with z | z | z | z | z | z | z | z <;> rw [z] <;> decide) (by rcases hk with z | z | z | z | z | z | z | z <;> rw [z] <;> decide))) (jVs_o J.2.2.2.1 (by rw [ef 94 (by decide) (by decide)]; exact fun y => y) (ef 70 (by decide) (by decide)) (er 102 (by decide) (by decide) (by decide))) (jWo_o J.2.2.2.2.1 (by rw [ef 114 (by decide) (by decide)]; exact fun y => y) (ef 70 (by decide) (by decide)) (er 115 (by decide) (by decide) (by decide)) (er 116 (by decide) (by decide) (by decide))) p (shO_o J.2.2.2.2.2.2.1 (ef 103 (by decide) (by decide)) (fun k hk => by
    have y := f.2.2.2.2 k (by rcases hk with z | z <;> rw [z] <;> decide)
    rw [hs] at y
    exact y))
  exact ⟨g.1, g.2, kS_f8 (fun k hk => ef k ((by decide : ∀ k, k ∈ ke8 → k ∉ pyF) k hk) ((by decide : ∀ k, k ∈ ke8 → k ≠ 113) k hk)) (fun k hk => er k ((by decide : ∀ k, k ∈ kx8 → k ≠ 90) k hk) ((by decide : ∀ k, k ∈ kx8 → k ≠ 91) k hk) ((by decide : ∀ k, k ∈ kx8 → k ∉ pyR) k hk))⟩
theorem rj_T (J : rJ σ) : ∃ T, (σ.1 14 ≠ 0 → rI σ (σ.1 3) T) := by
  by_cases z : σ.1 14 = 0
  · exact ⟨0, fun y => absurd z y⟩
  · obtain ⟨T, g⟩ := J.2.1.2.2 z
    exact ⟨T, fun _ => ⟨J.2.1.2.1, g⟩⟩
theorem play_j {x : Int64} (hC : cOK C) (J : rJ σ) {Q : Int32 → rS → Prop} (h : ∀ v σ', rJ σ' → pR8 σ σ' → Q v σ') : cI C 11 m_play [.ref (co C), .long x, .int a1] σ Q := by
  obtain ⟨T, hT⟩ := rj_T J
  exact play_c hC T ⟨hT, J.2.2.1, J.2.2.2.2.2.2.2.1, J.2.2.2.2.2.2.2.2, J.2.2.2.2.2.1⟩ (fun v σ' q => h v σ' (rJ_w (ρ := siU (slU σ 112 x) 113 1) J (fun k hk => if_neg hk) rfl q.1 q.2).1 (rJ_w (ρ := siU (slU σ 112 x) 113 1) J (fun k hk => if_neg hk) rfl q.1 q.2).2)
theorem walk_j (hC : cOK C) (J : rJ σ) {Q : Int32 → rS → Prop} (h : ∀ v σ', rJ σ' → pR8 σ σ' → Q v σ') : cI C 11 m_walk [.ref (co C), .int a1] σ Q := by
  obtain ⟨T, hT⟩ := rj_T J
  exact walk_c hC T ⟨hT, J.2.2.1, J.2.2.2.2.2.2.2.1, J.2.2.2.2.2.2.2.2, J.2.2.2.2.2.1⟩ (fun v σ' q => h v σ' (rJ_w (ρ := siU σ 113 0) J (fun k hk => if_neg hk) rfl q.1 q.2).1 (rJ_w (ρ := siU σ 113 0) J (fun k hk => if_neg hk) rfl q.1 q.2).2)
end callz

end
section
set_option maxHeartbeats 1600000
/-! the reference: next, ending, value by what they answer; what holds behind them -/
section callx
variable {C : rCx} {σ : rS} {a1 a2 a3 : Int32}
theorem next_j8 (hC : cOK C) (J : rJ σ) {Q : Int32 → rS → Prop} (h : ∀ v σ', rJ σ' → pR8 σ σ' → XN8 a1 a2 a3 σ σ' v → Q v σ') : cI C 1 m_next [.ref (co C), .int a1, .int a2, .int a3] σ Q := next_g5 hC J.2.2.1 (fun v σ' q => h v σ' (rJ_G J q.1).1 (rJ_G J q.1).2 q.2)
theorem value_j8 (hC : cOK C) (J : rJ σ) {Q : Int32 → rS → Prop} (h : ∀ v σ', rJ σ' → pR8 σ σ' → XV8 a1 a2 a3 σ σ' v → Q v σ') : cI C 1 m_value [.ref (co C), .int a1, .int a2, .int a3] σ Q := value_g5 hC ⟨J.2.2.1, J.2.1.2.1⟩ (fun v σ' q => h v σ' (rJ_G J q.1).1 (rJ_G J q.1).2 q.2)
theorem ending_j8 (hC : cOK C) (J : rJ σ) {Q : Int32 → rS → Prop} (h : ∀ v σ', rJ σ' → pR8 σ σ' → XE8 a1 a2 σ σ' v → Q v σ') : cI C 0 m_ending [.ref (co C), .int a1, .int a2] σ Q := ending_g5 hC ⟨J.2.2.1, J.2.1.2.1⟩ (fun v σ' q => h v σ' (rJ_G J q.1).1 (rJ_G J q.1).2 q.2)
theorem state_j8 (hC : cOK C) (J : rJ σ) {Q : Int32 → rS → Prop} (h : ∀ v σ', rJ σ' → pR8 σ σ' → XT8 a1 a2 σ σ' v → Q v σ') : cI C 1 m_state [.ref (co C), .int a1, .int a2] σ Q := state_g5 hC J.2.2.1 (fun v σ' q => h v σ' (rJ_G J q.1).1 (rJ_G J q.1).2 q.2)
theorem count_j8 (hC : cOK C) (J : rJ σ) {Q : Int32 → rS → Prop} (h : ∀ v σ', rJ σ' → pR8 σ σ' → XK8 a1 σ σ' v → Q v σ') : cI C 1 m_count [.ref (co C), .int a1] σ Q := count_g5 hC ⟨J.2.2.1.1.1.1, J.2.2.1.1.1.2⟩ (fun v σ' q => h v σ' (rJ_G J q.1).1 (rJ_G J q.1).2 q.2)
theorem best_j8 (hC : cOK C) (J : rJ σ) {Q : Int32 → rS → Prop} (h : ∀ v σ', rJ σ' → pT8 σ σ' → XB8 σ σ' v → Q v σ') : cI C 7 m_best [.ref (co C)] σ Q := best_g5 hC _ ⟨J.2.2.1, rfl, J.2.2.2.2.1⟩ (fun v σ' q => by
  obtain ⟨⟨f, e, s, v4, n⟩, xb⟩ := q
  have e70 := f.1 70 (by decide)
  have g := rJ_x J (fun k hk => f.1 k ((by decide : ∀ k, k ∈ rjA → k ∉ bfF) k hk)) (fun k hk => f.2.2.1 k ((by decide : ∀ k, k ∈ rjZ → k ∉ bfR) k hk)) (fun j => by rw [f.2.2.2 8 (by decide)]) e (jVs_o J.2.2.2.1 v4 e70 (f.2.2.1 102 (by decide))) (fun y k hk => s y k (by rw [← e70]; exact hk)) (plN_o J.2.2.2.2.2.1 (by rw [f.1 106 (by decide)]; exact fun y => y) (fun k hk => n k (by omega))) (shO_o J.2.2.2.2.2.2.1 (f.1 103 (by decide)) (fun k hk => n k (by omega)))
  exact h v σ' g.1 ⟨g.2, ⟨fun k hk => f.1 k ((by decide : ∀ k, k ∈ ke8 → k ∉ bfF) k hk), fun k hk => f.2.2.1 k ((by decide : ∀ k, k ∈ ky8 → k ∉ bfR) k hk)⟩⟩ xb)
theorem decide_j8 (hC : cOK C) (J : rJ σ) {Q : Int32 → rS → Prop} (h : ∀ v σ', rJ σ' → pD8 a1 a2 σ σ' → XD8 a1 a2 σ σ' v → Q v σ') : cI C 1 m_decide [.ref (co C), .int a1, .int a2] σ Q := decide_g5 hC J.2.2.1 (fun v σ' q => by
  obtain ⟨⟨f, e, z⟩, xd, xu⟩ := q
  have g := rJ_x J (fun k hk => f.1 k ((by decide : ∀ k, k ∈ rjA → k ∉ [0, 94]) k hk)) (fun k hk => f.2.2.1 k ((by decide : ∀ k, k ∈ rjZ → k ∉ [83]) k hk)) (fun j => f.2.2.2 8 j) e (by
    rcases z with z | z
    · exact jVs_o J.2.2.2.1 (by rw [z.1 94 (by decide)]; exact fun y => y) (z.1 70 (by decide)) (z.2.2.1 102 (by decide))
    · exact fun y => absurd z y) (jWo_o J.2.2.2.2.1 (by rw [f.1 114 (by decide)]; exact fun y => y) (f.1 70 (by decide)) (f.2.2.1 115 (by decide)) (f.2.2.1 116 (by decide))) (plN_o J.2.2.2.2.2.1 (by rw [f.1 106 (by decide)]; exact fun y => y) (fun k hk => ⟨by rw [f.2.2.1 91 (by decide)], fun i _ => by rw [f.2.2.1 90 (by decide)]⟩)) (shO_o J.2.2.2.2.2.2.1 (f.1 103 (by decide)) (fun k hk => ⟨by rw [f.2.2.1 91 (by decide)], fun i _ => by rw [f.2.2.1 90 (by decide)]⟩))
  exact h v σ' g.1 ⟨⟨g.2, fun k hk => f.1 k ((by decide : ∀ k, k ∈ ke8 → k ∉ [0, 94]) k hk), fun k hk => f.2.2.1 k ((by decide : ∀ k, k ∈ ky8 → k ∉ [83]) k hk)⟩, xu⟩ xd)
theorem decided_j8 (hC : cOK C) (J : rJ σ) {Q : Int32 → rS → Prop} (h : ∀ v σ', rJ σ' → pR8 σ σ' → XG8 a1 σ σ' v → Q v σ') : cI C 1 m_decided [.ref (co C), .int a1] σ Q := decided_g5 hC J.2.2.1 (fun v σ' q => h v σ' (rJ_G J q.1).1 (rJ_G J q.1).2 q.2)
theorem solve_j8 (hC : cOK C) (J : rJ σ) {Q : Int32 → rS → Prop} (h : ∀ v σ', rJ σ' → pR8 σ σ' → XQ15 σ σ' v → Q v σ') : cI C 8 m_solve [.ref (co C)] σ Q := solve_g5 hC _ ⟨pOK_of J.2.2.1, rfl, J.2.2.2.1⟩ (fun v σ' q => by
  obtain ⟨⟨f, s, n⟩, xq⟩ := q
  have e70 := f.1 70 (by decide)
  have g := rJ_x J (fun k hk => f.1 k ((by decide : ∀ k, k ∈ rjA → k ∉ slF) k hk)) (fun k hk => f.2.2.1 k ((by decide : ∀ k, k ∈ rjZ → k ∉ slR) k hk)) (fun j => by rw [f.2.2.2 8 (by decide)]) (exP_o J.2.2.1 (fun k hk => f.1 k (by rcases hk with z | z | z | z <;> rw [z] <;> decide)) (fun k hk => f.2.2.1 k (by rcases hk with z | z | z | z | z | z | z | z <;> rw [z] <;> decide))) (fun y k hk => s y k (by rw [← e70]; exact hk)) (jWo_o J.2.2.2.2.1 (by rw [f.1 114 (by decide)]; exact fun y => y) e70 (f.2.2.1 115 (by decide)) (f.2.2.1 116 (by decide))) (plN_o J.2.2.2.2.2.1 (by rw [f.1 106 (by decide)]; exact fun y => y) (fun k hk => n k (by omega))) (shO_o J.2.2.2.2.2.2.1 (f.1 103 (by decide)) (fun k hk => n k (by omega)))
  exact h v σ' g.1 ⟨g.2, kS_f8 (fun k hk => f.1 k ((by decide : ∀ k, k ∈ ke8 → k ∉ slF) k hk)) (fun k hk => f.2.2.1 k ((by decide : ∀ k, k ∈ kx8 → k ∉ slR) k hk))⟩ (XQ_15 (pOK_of J.2.2.1) xq))
end callx

end
