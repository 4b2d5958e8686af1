section
set_option maxHeartbeats 1600000
/-! the class: findVisits, by values -/
def fO15 (κ : zS) (a n : Nat) (σ : rS) (S : Nat → Prop) : Prop := ∃ V : Nat → Rat, vV15 κ a n V ∧ vE15 (pR15 σ n) n S V ∧ ∀ k, k < n → f2W8 (V k)
def fN15 (n : Nat) (σ : rS) : Prop := ∃ (V : Nat → Rat) (S : Nat → Prop), vE15 (pR15 σ n) n S V ∧ ∃ j, j < n ∧ S j ∧ cnE σ j ∧ ¬ f2W8 (V j)
def fX15 (κ' : zS) (a n : Nat) (σ : rS) (v : Int32) : Prop := (v = 0 ∧ ¬ bg15 σ ∧ fO15 κ' a n σ (cnE σ)) ∨ (v = -3 ∧ ¬ bg15 σ ∧ fN15 n σ) ∨ (v = -2 ∧ bg15 σ)
theorem f2_015 : f2W8 0 := by
  unfold f2W8
  decide
theorem So_findVisitz_q6 {C : zC} {n0 : Nat} {a0 : Nat} {κ : zS} {Q : Int32 → zS → Prop} (W : zW C n0 κ) (Ta0 : zT κ a0 = 12) (ρ : Nat → Nat) (n9 : Nat) (σ9 : rS) (hT9 : tbl15 κ (zR κ soAtlas a0) n9 σ9) (hp : soR9 ρ κ a0 ∧ ((weU κ (zR κ soWeb a0) ∨ weM κ (zR κ soWeb a0)) ∧ weL κ (zR κ soWeb a0)) ∧ atW κ (zR κ soAtlas a0) n9) (h : ∀ (v : Int32) (κ' : zS), ((fvP9 ρ κ κ' a0 n9) ∧ (fX15 κ' a0 n9 σ9 v)) → Q v κ') : zRun C 8 mSo_findVisits [.ref a0] κ (oI Q noX) := by
  refine So_findVisitz_run W Ta0 ?_
  replace W := W.lo (Nat.le_trans W.1.2.1 W.1.2.2) (Nat.le_refl (zn κ))
  unfold w_So_findVisitz_0
  obtain ⟨S0, ⟨U0, L0⟩, A0⟩ := hp
  have tw := ty_soWeb W Ta0
  have tb := ty_soAtlas W Ta0
  have hj129 : ∀ (l0 : Nat) (τ : zS), zW C (zn κ) τ → zT τ l0 = 12 → ((a0 = l0 ∧ ∃ ρ', fvJ9 ρ κ τ a0 n9 ρ' ∧ vsI9 ρ' τ a0 n9 1) ∧ wg15 τ a0 n9 σ9 ∧ ∀ k, k < n9 → rqW8 τ (vU9 τ a0 k) 0) → w_So_findVisitz_129 C (zn κ) Q  l0 τ := by
    rintro _ τ129 W129 T129_0 ⟨⟨rfl, j129⟩, hE⟩
    unfold w_So_findVisitz_129
    intro x1 hx1
    obtain ⟨ρ1, J1, V1⟩ := j129
    have X1 := J1.2.2.2.1
    have kK := X1.2.1.1
    have hn := X1.1.2.1.2
    have hx : x1.toInt = (zI τ129 weKnots (zR τ129 soWeb a0)).toInt - 1 := by
      rw [hx1]
      have q := sub_i (x := zI τ129 weKnots (zR τ129 soWeb a0)) (y := 1) (by rw [t1i]; omega) (by rw [t1i]; omega)
      rw [t1i] at q
      exact q
    unfold w_So_findVisitz_139
    refine ⟨fun n l0 l1 τ => n = (l1.toInt + 1).toNat ∧ ((a0 = l0 ∧ (∃ ρ' P, fvJ9 ρ κ τ a0 n9 ρ' ∧ vsI9 ρ' τ a0 n9 P ∧ 0 < P ∧ P ≤ pD9 (2 * (n9 - ((zA τ (zR τ weKnotFirsts (zR τ soWeb a0)) (l1.toInt + 1).toNat).toInt).toNat))) ∧ -1 ≤ l1.toInt ∧ l1.toInt < (zI τ weKnots (zR τ soWeb a0)).toInt) ∧ wg15 τ a0 n9 σ9 ∧ fO15 τ a0 n9 σ9 (fun k => cnE σ9 k ∧ l1.toInt < (kO15 τ a0 k).toInt)), ⟨_, rfl, ?_⟩, ?_⟩
    · refine and_5 ?_ (fun o9 => ?_)  -- j1
      · exact ⟨rfl, ⟨ρ1, 1, J1, V1, by decide, pD9_p⟩, by omega, by omega⟩
      · refine ⟨hE.1, fun _ => 0, fun k hk => ⟨hE.2 k hk, Rat.le_refl⟩, ⟨fun _ _ _ => rfl, fun j hj s => ?_, fun k j hk hj s _ => ?_⟩, fun _ _ => f2_015⟩
        · have K := kK_15 X1.2.1 hE.1
          have l := ko_88 K hj
          have l : (kO15 τ129 a0 j).toNatClampNeg < (zI τ129 weKnots (zR τ129 soWeb a0)).toInt.toNat := l
          have s2 := s.2
          rw [hx] at s2
          have c := cnk (x := kO15 τ129 a0 j) (by omega)
          omega
        · have K := kK_15 X1.2.1 hE.1
          have l := ko_88 K hj
          have l : (kO15 τ129 a0 j).toNatClampNeg < (zI τ129 weKnots (zR τ129 soWeb a0)).toInt.toNat := l
          have s2 := s.2
          rw [hx] at s2
          have c := cnk (x := kO15 τ129 a0 j) (by omega)
          omega
    rintro n139 _ x139_1 κ139 W139 T139_0 ⟨hn139, ⟨rfl, i139⟩, hE⟩
    obtain ⟨⟨ρ1, P1, J1, V1, P10, P11⟩, l11, l12⟩ := i139
    have X1 := J1.2.2.2.1
    have hn := X1.1.2.1.2
    have wM := X1.1.1.1
    have kK := X1.2.1.1
    have PB : P1 < pB9 1490 := pD9_b P11 (by omega)
    have hj214 : ∀ (l0 : Nat) (l1 : Int32) (l2 : Int32) (τ : zS), zW C (zn κ) τ → zT τ l0 = 12 → ((a0 = l0 ∧ ((l2 ≠ 0 → ∃ ρ' P, fvJ9 ρ κ τ a0 n9 ρ' ∧ vsI9 ρ' τ a0 n9 P ∧ 0 < P ∧ P ≤ pD9 (2 * (n9 - ((zA τ (zR τ weKnotFirsts (zR τ soWeb a0)) l1.toNatClampNeg).toInt).toNat))) ∧ (l2 = 0 → ∃ ρ', fvJ9 ρ κ τ a0 n9 ρ') ∧ zI τ weKnots (zR τ soWeb a0) = zI κ139 weKnots (zR κ139 soWeb a0)) ∧ 0 ≤ l1.toInt ∧ x139_1 = l1) ∧ wg15 τ a0 n9 σ9 ∧ (l2 ≠ 0 → fO15 τ a0 n9 σ9 (fun k => cnE σ9 k ∧ l1.toInt ≤ (kO15 τ a0 k).toInt)) ∧ (l2 = 0 → ¬ bg15 σ9 ∧ fN15 n9 σ9)) → w_So_findVisitz_214 C (zn κ) Q (fun (l0' : Nat) (l1' : Int32) (τ : zS) => ∃ k < n139, (fun (n : Nat) (l0 : Nat) (l1 : Int32) (τ : zS) => n = (l1.toInt + 1).toNat ∧ ((a0 = l0 ∧ (∃ ρ' P, fvJ9 ρ κ τ a0 n9 ρ' ∧ vsI9 ρ' τ a0 n9 P ∧ 0 < P ∧ P ≤ pD9 (2 * (n9 - ((zA τ (zR τ weKnotFirsts (zR τ soWeb a0)) (l1.toInt + 1).toNat).toInt).toNat))) ∧ -1 ≤ l1.toInt ∧ l1.toInt < (zI τ weKnots (zR τ soWeb a0)).toInt) ∧ wg15 τ a0 n9 σ9 ∧ fO15 τ a0 n9 σ9 (fun k => cnE σ9 k ∧ l1.toInt < (kO15 τ a0 k).toInt))) k l0' l1' τ) l0 l1 l2 τ := by
      rintro _ y214_1 y214_2 τ214 W214 T214_0 ⟨⟨rfl, j214⟩, hE⟩
      unfold w_So_findVisitz_214
      obtain ⟨⟨k1, k2, k3⟩, l31, l33⟩ := j214
      subst l33
      have hm := dd_9 l31 hn139
      refine ⟨fun c2 => ?_, fun c2 => ?_⟩
      · skip
        intro x3 hx3
        refine lp_b5 ?_ (fun d9 => ⟨rfl, ?_⟩)
        · rw [hx3]; exact hm.1  -- d2
        · refine and_5 ?_ (fun o9 => ?_)  -- i3
          · obtain ⟨ρ2, P2, J2, V2, P20, P21⟩ := k1 c2
            refine ⟨rfl, ⟨ρ2, P2, J2, V2, P20, ?_⟩, by rw [hx3]; exact hm.2.1, by rw [hx3, k3]; exact Int.lt_trans hm.2.2.2 l12⟩
            rw [hx3, hm.2.2.1]
            exact P21
          · obtain ⟨g1, g2, g3⟩ := hE
            obtain ⟨V, v1, v2, v3⟩ := g2 c2
            refine ⟨g1, V, v1, vE_c15 v2 (fun k hk => ?_) (fun _ _ => rfl), v3⟩
            have e : x3.toInt = x139_1.toInt - 1 := by rw [hx3]; exact dm_9 l31
            rw [e]
            exact ⟨fun z => ⟨z.1, by omega⟩, fun z => ⟨z.1, by omega⟩⟩
      · skip
        refine h _ _ ?_
        · refine and_5 ?_ (fun o9 => ?_)  -- q4
          · obtain ⟨ρ2, J2⟩ := k2 c2
            exact fv_p9 J2
          · have z := hE.2.2 c2
            exact Or.inr (Or.inl ⟨rfl, z.1, z.2⟩)
    refine ⟨fun c4 => ?_, fun c4 => ?_⟩
    · skip
      intro κ_5 hκ_5
      intro W6
      refine h _ _ ?_
      · refine and_5 ?_ (fun o9 => ?_)  -- q5
        · obtain ⟨j1, j2, j3, j4, j5, j6, j7, j8, j9, j10, j11⟩ := J1
          have F5 : zF (fvF9 ρ κ a0) κ139 κ_5 := by
            rw [hκ_5]
            exact zF_ui (Or.inr (Or.inr (Or.inl ⟨rfl, Or.inl rfl⟩)))
          have Zs : zF (fun f b => f = soSolved ∧ b = a0) κ139 κ_5 := by
            rw [hκ_5]
            exact zF_ui ⟨rfl, rfl⟩
          have nt : ∀ (t f w : Nat), zT κ139 w = t → t ≠ 12 → ¬ (f = soSolved ∧ w = a0) := fun t f w ht h12 z => by
            rw [z.2, T139_0] at ht
            exact h12 ht.symm
          have R5 := rs_h9 W139 T139_0 j3 Zs (fun f w h => nt 8 f w h (by decide)) (fun f w h => nt 11 f w h (by decide)) (fun f w h => nt 4 f w h (by decide)) (fun f h1 _ z => h1 z.1)
          have er : zR κ_5 = zR κ139 := by rw [hκ_5]; rfl
          have eA : zA κ_5 = zA κ139 := by rw [hκ_5]; rfl
          have eN : zN κ_5 = zN κ139 := by rw [hκ_5]; rfl
          have eQ : zQ κ_5 = zQ κ139 := by rw [hκ_5]; rfl
          have V5 : frV9 (zn κ139) (fun f b => f = soSolved ∧ b = a0) := fun f b z => by
            rw [z.1]
            exact Or.inr (Or.inr (Or.inr (Or.inr (Or.inl (by decide)))))
          have tb1 := ty_soAtlas W139 T139_0
          have A5 := atW_v9 W139 V5 Zs tb1 X1.2.2.1
          refine ⟨ρ1, j1, j2.tr F5, R5.1, by rw [← j8]; exact A5, ?_, ⟨by rw [er]; exact j8, by rw [er]; exact j9, by rw [er]; exact j10⟩, fun _ => ⟨P1, fun k hk => ?_, ⟨P10, PB⟩, by rw [er, eN]; exact X1.2.2.2⟩, j11.tr (zK_z9 W139 T139_0 Zs (fun b _ z => absurd z.1 (by decide)) (fun z => absurd z.1 (by decide)) (fun z => absurd z.1 (by decide)) (fun z => absurd z.1 (by decide)))⟩
          · have q := X1.1.1
            rw [j9] at q
            unfold weM weL
            rw [er, eN]
            exact q
          · have q := V1 k hk
            have vu : vU9 κ_5 a0 k = vU9 κ139 a0 k := by unfold vU9; rw [er, eQ]
            have sg : ∀ u, zI κ_5 raSign u = zI κ139 raSign u := fun u => by rw [hκ_5]; rfl
            have nn : ∀ u, nuN κ_5 u = nuN κ139 u := fun u => by
              unfold nuN
              rw [er, eA]
              have l : zI κ_5 nuLength u = zI κ139 nuLength u := by rw [hκ_5]; rfl
              rw [l]
            unfold vsK9 dvN9 dvA at q ⊢
            rw [vu, er, eQ, eA, sg, nn, nn]
            exact q
        · obtain ⟨Wg, V, v1, v2, v3⟩ := hE
          have eq9 : ∀ k q, rqW8 κ139 (vU9 κ139 a0 k) q → rqW8 κ_5 (vU9 κ_5 a0 k) q := fun k q z => by
            have er : zR κ_5 = zR κ139 := by rw [hκ_5]; rfl
            have eA : zA κ_5 = zA κ139 := by rw [hκ_5]; rfl
            have eQ : zQ κ_5 = zQ κ139 := by rw [hκ_5]; rfl
            have vu : vU9 κ_5 a0 k = vU9 κ139 a0 k := by unfold vU9; rw [er, eQ]
            have sg : ∀ u, zI κ_5 raSign u = zI κ139 raSign u := fun u => by rw [hκ_5]; rfl
            have nn : ∀ u, nuN κ_5 u = nuN κ139 u := fun u => by
              unfold nuN
              rw [er, eA]
              have l : zI κ_5 nuLength u = zI κ139 nuLength u := by rw [hκ_5]; rfl
              rw [l]
            rw [vu]
            unfold rqW8
            rw [sg, er, nn, nn]
            exact z
          rw [lti, t0i] at c4
          refine Or.inl ⟨rfl, bg_n15 X1.2.1 Wg J1.2.2.2.2.2.1, V, fun k hk => ⟨eq9 k _ (v1 k hk).1, (v1 k hk).2⟩, vE_c15 v2 (fun k hk => ⟨fun z => z.1, fun z => ⟨z, ?_⟩⟩) (fun _ _ => rfl), v3⟩
          obtain ⟨i, i1, i2⟩ := X1.2.1.2.2.2 k hk
          have q := (X1.2.1.2.2.1 i i1).2.1.1
          rw [i2] at q
          have q : 0 ≤ (kO15 κ139 a0 k).toInt := q
          omega
    · skip
      rw [lti, t0i] at c4
      have kl := cnk (x := x139_1) (by omega)
      have kA := X1.2.1.2.1 x139_1.toNatClampNeg (by omega)
      have kO := (X1.2.1.2.2.1 ((zA κ139 (zR κ139 weKnotFirsts (zR κ139 soWeb a0)) x139_1.toNatClampNeg).toInt).toNat (by omega)).1
      have kf := cnk kA.1
      have e26 : ((zA κ139 (zR κ139 weKnotFirsts (zR κ139 soWeb a0)) x139_1.toNatClampNeg).toInt).toNat = (zA κ139 (zR κ139 weKnotFirsts (zR κ139 soWeb a0)) x139_1.toNatClampNeg).toNatClampNeg := by omega
      rw [e26] at kO
      have ko := cnk kO.1
      rw [show (x139_1.toInt + 1).toNat = x139_1.toNatClampNeg + 1 by omega] at P11
      obtain ⟨Wg, V9, hV9, hE9, hF9⟩ := hE
      have f9 : ((zA κ139 (zR κ139 weKnotFirsts (zR κ139 soWeb a0)) x139_1.toNatClampNeg).toInt).toNat = (zA κ139 (zR κ139 weKnotFirsts (zR κ139 soWeb a0)) x139_1.toNatClampNeg).toNatClampNeg := e26
      have kn9 := kn_15 X1 (c := x139_1.toNatClampNeg) (f := ((zA κ139 (zR κ139 weKnotFirsts (zR κ139 soWeb a0)) x139_1.toNatClampNeg).toInt).toNat) (m := ((zA κ139 (zR κ139 weKnotFirsts (zR κ139 soWeb a0)) (x139_1.toNatClampNeg + 1)).toInt).toNat - ((zA κ139 (zR κ139 weKnotFirsts (zR κ139 soWeb a0)) x139_1.toNatClampNeg).toInt).toNat) (by omega) (by omega) (by omega)
      have hd9 := kn9.2.1 0 kn9.1.2
      rw [Nat.add_zero, f9] at hd9
      have lc : x139_1.toInt = (x139_1.toNatClampNeg : Int) := by omega
      have mz9 : ∀ s, s < n9 → (kO15 κ139 a0 s).toInt = (x139_1.toNatClampNeg : Int) → V9 s = 0 := fun s hs e => hE9.1 s hs (fun z => by omega)
      have op9 : ∀ k, k < n9 → (kO15 κ139 a0 k).toInt = (x139_1.toNatClampNeg : Int) → zA κ139 (zR κ139 weOpen (zR κ139 soWeb a0)) (od15 κ139 a0 (zA κ139 (zR κ139 weKnotFirsts (zR κ139 soWeb a0)) x139_1.toNatClampNeg).toNatClampNeg) ≠ 0 → cnE σ9 k := fun k hk e z => wg_k15 Wg hk hd9.1 (Int32.toInt.inj (e.trans hd9.2.symm)) ((Wg.2.1 _ hd9.1).mp z)
      have ng9 : ¬ bg15 σ9 := bg_n15 X1.2.1 Wg J1.2.2.2.2.2.1
      refine ⟨?_, ?_⟩
      · rw [inb_iff, wM.2.2.2.1]; omega  -- b6
      refine ⟨?_, ?_⟩
      · rw [inb_iff, wM.2.2.2.2.2.1]; omega  -- b7
      refine ⟨?_, ?_⟩
      · rw [inb_iff, wM.2.2.1]; omega  -- b8
      refine ⟨fun c7 => ?_, fun c7 => ?_⟩
      · skip
        refine hj214 _ _ _ _ W139 ?_ ?_
        · exact T139_0  -- t9
        · refine and_5 ?_ (fun o9 => ?_)  -- k10
          · refine ⟨rfl, ⟨fun _ => ⟨ρ1, P1, J1, V1, P10, Nat.le_trans P11 (pD9_l (by omega))⟩, fun z => absurd z (by decide), rfl⟩, by omega, rfl⟩
          · refine ⟨Wg, fun _ => ⟨V9, hV9, ?_, hF9⟩, fun z => absurd z (by decide)⟩
            have no : ∀ k, k < n9 → (kO15 κ139 a0 k).toInt = (x139_1.toNatClampNeg : Int) → ¬ cnE σ9 k := fun k hk e z => by
              have y := wg_k15 Wg hd9.1 hk (Int32.toInt.inj (hd9.2.trans e.symm)) z
              exact (Wg.2.1 _ hd9.1).mpr y c7
            rw [lc] at hE9 ⊢
            exact vs_n15 hE9 no
      · skip
        intro T8
        refine We_isRing_q6 W139 T8 n9 ?_ (fun r9 q11 => ?_)
        · exact ⟨wM, hn, X1.2.1, ⟨by omega, l12⟩, X1.1.2.2.1, X1.1.1.2.2.2⟩  -- p11
        obtain ⟨q11, z9⟩ := q11
        have zi := z9
        intro W12
        intro M13
        refine ⟨fun c14 => ?_, fun c14 => ?_⟩
        · skip
          refine ⟨?_, ?_⟩
          · rw [inb_iff, wM.2.2.2.1]; omega  -- b12
          refine ⟨?_, ?_⟩
          · rw [inb_iff, wM.2.2.2.2.2.1]; omega  -- b13
          intro T15
          refine So_visitOne_q6 W12 T15 ρ1 n9 P1 V9 hV9 (mz9 _ hd9.1 hd9.2) (fun s hs y => mz9 s hs ((congrArg Int32.toInt y).trans hd9.2)) (fun b h1 h2 => bW_p15 X1 Wg.1.1 Wg.1.2 hd9.1 h1 h2) ?_ (fun r16 κ_17 q18 => ?_)
          · exact ⟨J1.2.2.1.1, X1, V1, kO, ⟨P10, Nat.lt_of_lt_of_le PB (pB9_l (by decide))⟩, J1.2.2.1.2.2.2.2.2.2⟩  -- p14
          obtain ⟨q18, z9⟩ := q18
          have zo := z9
          intro W19
          intro M20
          obtain ⟨nbv, ⟨Zv, Nv, Sv⟩, lv, kv⟩ := q18
          have R1 := J1.2.2.1
          have Ev : rgE9 (fun _ => True) ρ1 κ139 κ_17 a0 ρ1 := rg_so9 W139 T139_0 R1.2.1 R1.2.2.1 Zv (fun _ _ => trivial) ⟨Nv, Sv⟩
          have Jv := fv_s9 W139 T139_0 J1 Ev (Nat.lt_of_le_of_lt lv R1.2.2.2.2.2.2) (soF_r9 Zv (by decide)).1
          have wv := rg_w9 W139 T139_0 Ev X1
          have T17 : zT κ_17 a0 = 12 := Zv.t T139_0 (by decide)
          refine hj214 _ _ _ _ W19 ?_ ?_
          · exact T17  -- t15
          · refine and_5 ?_ (fun o9 => ?_)  -- k16
            · refine ⟨rfl, ⟨fun z => ⟨ρ1, P1 * dvN9 κ139 (zR κ139 soAtlas a0) (zA κ139 (zR κ139 weOrder (zR κ139 soWeb a0)) (zA κ139 (zR κ139 weKnotFirsts (zR κ139 soWeb a0)) x139_1.toNatClampNeg).toNatClampNeg).toNatClampNeg, Jv, fun k hk => ?_, Nat.mul_pos P10 dvN9_p, ?_⟩, fun _ => ⟨ρ1, Jv⟩, wv.2.2.2.1⟩, by omega, rfl⟩
              · obtain ⟨q1, q2, q3⟩ := V1 k hk
                obtain ⟨e3, e4⟩ := vU9_f W139 T139_0 Zv
                have ea : zR κ_17 soAtlas a0 = zR κ139 soAtlas a0 := (soF_r9 Zv (by decide)).1
                have dd := dvA_f9 W139 soF_fr Zv (ty_soAtlas W139 T139_0) k
                have dN : dvN9 κ_17 (zR κ139 soAtlas a0) k = dvN9 κ139 (zR κ139 soAtlas a0) k := by unfold dvN9; rw [dd]
                rw [e3, e4, ea, dN]
                refine ⟨q1, q2, ?_⟩
                by_cases y : k = (zA κ139 (zR κ139 weOrder (zR κ139 soWeb a0)) (zA κ139 (zR κ139 weKnotFirsts (zR κ139 soWeb a0)) x139_1.toNatClampNeg).toNatClampNeg).toNatClampNeg
                · rw [y]
                  exact kv z
                · refine vsK9_m (Nat.dvd_mul_right _ _) (vsK9_f W139 R1.1.1 Zv q2 (vs_r9 (by omega)) ⟨by unfold voR9; omega, by unfold voR9; omega, by unfold voR9; omega⟩ q3)
              · have d9 : dvN9 κ139 (zR κ139 soAtlas a0) (zA κ139 (zR κ139 weOrder (zR κ139 soWeb a0)) (zA κ139 (zR κ139 weKnotFirsts (zR κ139 soWeb a0)) x139_1.toNatClampNeg).toNatClampNeg).toNatClampNeg ≤ 8000000 := by
                  have d := dv_9 X1 (k := (zA κ139 (zR κ139 weOrder (zR κ139 soWeb a0)) (zA κ139 (zR κ139 weKnotFirsts (zR κ139 soWeb a0)) x139_1.toNatClampNeg).toNatClampNeg).toNatClampNeg) (by omega)
                  unfold dvN9
                  split <;> omega
                refine Nat.le_trans (Nat.mul_le_mul P11 d9) ?_
                rw [pD9_s, wv.2.2.1]
                exact pD9_l (by omega)
            · have B := bx_f15 W139 T139_0 Zv X1
              have Wg2 := wg_f15 W139 T139_0 soF_fr Zv X1 Wg
              have K0 := kO.1
              have ir := ir_15 X1 Wg (c := x139_1.toNatClampNeg) (f := ((zA κ139 (zR κ139 weKnotFirsts (zR κ139 soWeb a0)) x139_1.toNatClampNeg).toInt).toNat) (m := ((zA κ139 (zR κ139 weKnotFirsts (zR κ139 soWeb a0)) (x139_1.toNatClampNeg + 1)).toInt).toNat - ((zA κ139 (zR κ139 weKnotFirsts (zR κ139 soWeb a0)) x139_1.toNatClampNeg).toInt).toNat) (by omega) (by omega) (by omega) (fun z => zi.mpr z c14)
              rw [f9] at ir
              have one : ∀ k, k < n9 → (kO15 κ139 a0 k).toInt = (x139_1.toNatClampNeg : Int) → k = od15 κ139 a0 (zA κ139 (zR κ139 weKnotFirsts (zR κ139 soWeb a0)) x139_1.toNatClampNeg).toNatClampNeg := fun k hk e => by
                obtain ⟨j, j1, j2⟩ := kn9.2.2.2 k hk e
                rw [f9] at j1 j2
                rw [ir.1] at j1
                rw [← j2, show j = 0 by omega, Nat.add_zero]
              have V' : vE15 (pR15 σ9 n9) n9 (fun k => cnE σ9 k ∧ (x139_1.toNatClampNeg : Int) ≤ (kO15 κ139 a0 k).toInt) (fun k => if k = od15 κ139 a0 (zA κ139 (zR κ139 weKnotFirsts (zR κ139 soWeb a0)) x139_1.toNatClampNeg).toNatClampNeg then in15 κ139 a0 V9 (zA κ139 (zR κ139 weOrder (zR κ139 soWeb a0)) (zA κ139 (zR κ139 weKnotFirsts (zR κ139 soWeb a0)) x139_1.toNatClampNeg).toNatClampNeg) else V9 k) := by
                rw [lc] at hE9
                refine vs_15 Wg hE9 (fun k hk e => op9 k hk e c7) (fun k hk ne => if_neg (fun z => ne (by rw [z]; exact hd9.2))) (fun j hj e => ?_)
                rw [one j hj e, if_pos rfl]
                exact vo_15 X1 Wg K0 hd9.1 (mz9 _ hd9.1 hd9.2) ir.2
              have n0 := in_n15 (V := V9) (k := zA κ139 (zR κ139 weOrder (zR κ139 soWeb a0)) (zA κ139 (zR κ139 weKnotFirsts (zR κ139 soWeb a0)) x139_1.toNatClampNeg).toNatClampNeg) X1 hd9.1 (fun s hs => (hV9 s hs).2)
              have u17 := (vU9_f W139 T139_0 Zv).2
              refine ⟨Wg2, fun z => ⟨_, fun k hk => ?_, vE_c15 V' (fun k hk => ?_) (fun _ _ => rfl), fun k hk => ?_⟩, fun z => ⟨ng9, _, _, V', od15 κ139 a0 (zA κ139 (zR κ139 weKnotFirsts (zR κ139 soWeb a0)) x139_1.toNatClampNeg).toNatClampNeg, hd9.1, ⟨op9 _ hd9.1 hd9.2 c7, by rw [hd9.2]; exact Int.le_refl _⟩, op9 _ hd9.1 hd9.2 c7, ?_⟩⟩
              · by_cases e : k = od15 κ139 a0 (zA κ139 (zR κ139 weKnotFirsts (zR κ139 soWeb a0)) x139_1.toNatClampNeg).toNatClampNeg
                · rw [if_pos e, u17, e]
                  exact ⟨zo.2 z, n0⟩
                · have e' : ¬ k = (zA κ139 (zR κ139 weOrder (zR κ139 soWeb a0)) (zA κ139 (zR κ139 weKnotFirsts (zR κ139 soWeb a0)) x139_1.toNatClampNeg).toNatClampNeg).toNatClampNeg := e
                  rw [if_neg e, u17]
                  exact ⟨rq_f15 W139 J1.2.2.1.1.1 Zv (V1 k hk).2.1 (vs_r9 (by omega)) ⟨by unfold voR9; omega, by unfold voR9; omega, by unfold voR9; omega⟩ (hV9 k hk).1, (hV9 k hk).2⟩
              · have y : kO15 κ_17 a0 k = kO15 κ139 a0 k := B.2.2.2.2.1 k
                rw [lc, y]
              · split
                · exact zo.1.mp z
                · exact hF9 k hk
              · rw [if_pos rfl]
                exact fun y => zo.1.mpr y z
        · skip
          intro T21
          refine So_visitRing_q6 W12 T21 ρ1 n9 P1 ((zA κ139 (zR κ139 weKnotFirsts (zR κ139 soWeb a0)) x139_1.toNatClampNeg).toInt).toNat (((zA κ139 (zR κ139 weKnotFirsts (zR κ139 soWeb a0)) (x139_1.toNatClampNeg + 1)).toInt).toNat - ((zA κ139 (zR κ139 weKnotFirsts (zR κ139 soWeb a0)) x139_1.toNatClampNeg).toInt).toNat) V9 hV9 (fun s hs y => mz9 s hs ((congrArg Int32.toInt y).trans hd9.2)) (fun r hr => uB_15 X1 Wg.1.1 Wg.1.2 (kn9.2.1 r hr).1) (fun j hj => Exists.elim ((wg_g15 Wg).2.2 _ (kn9.2.1 j hj).1 (op9 _ (kn9.2.1 j hj).1 (kn9.2.1 j hj).2 c7)) (fun l hl => hE_15 X1 Wg (fun r hr => (kn9.2.1 r hr).1) kn9.2.2.1 l j hj hl)) (hC_15 X1 Wg (fun r hr => (kn9.2.1 r hr).1) kn9.2.2.1 (fun i j hi hj => Int32.toInt.inj ((kn9.2.1 i hi).2.trans (kn9.2.1 j hj).2.symm)) (fun s hs i hi e => kn9.2.2.2 s hs ((congrArg Int32.toInt e).trans (kn9.2.1 i hi).2))) ?_ (fun r22 κ_23 q24 => ?_)
          · have sz := J1.2.2.2.2.2.1 x139_1.toNatClampNeg (by omega) c7
            have R1 := J1.2.2.1
            exact ⟨⟨R1.1, R1.2.1, R1.2.2.1⟩, X1, V1, J1.2.2.2.2.1, ⟨by omega, l12⟩, ⟨by omega, by omega, by omega⟩, ⟨P10, PB⟩, R1.2.2.2.2.2.2⟩
          obtain ⟨q24, z9⟩ := q24
          have zr9 := z9
          intro W25
          intro M26
          obtain ⟨nbv, ρ2, Ev, lv, er, kv⟩ := q24
          have Jv := fv_s9 W139 T139_0 J1 Ev lv er
          have wv := rg_w9 W139 T139_0 Ev X1
          have T23 : zT κ_23 a0 = 12 := Ev.2.2.2.2.t T139_0 (by decide)
          refine hj214 _ _ _ _ W25 ?_ ?_
          · exact T23  -- t18
          · refine and_5 ?_ (fun o9 => ?_)  -- k19
            · refine ⟨rfl, ⟨fun z => ?_, fun _ => ⟨ρ2, Jv⟩, wv.2.2.2.1⟩, by omega, rfl⟩
              have ex : 2 * (n9 - ((zA κ139 (zR κ139 weKnotFirsts (zR κ139 soWeb a0)) (x139_1.toNatClampNeg + 1)).toInt).toNat) + 2 * (((zA κ139 (zR κ139 weKnotFirsts (zR κ139 soWeb a0)) (x139_1.toNatClampNeg + 1)).toInt).toNat - ((zA κ139 (zR κ139 weKnotFirsts (zR κ139 soWeb a0)) x139_1.toNatClampNeg).toInt).toNat) ≤ 2 * (n9 - ((zA κ139 (zR κ139 weKnotFirsts (zR κ139 soWeb a0)) x139_1.toNatClampNeg).toInt).toNat) := by omega
              obtain ⟨Q9, ⟨q1, q2⟩, q3⟩ := kv z
              refine ⟨ρ2, P1 * Q9, Jv, q3, Nat.mul_pos P10 q1, ?_⟩
              rw [wv.2.2.1]
              refine Nat.le_trans (Nat.mul_le_mul P11 q2) ?_
              exact Nat.le_trans (Nat.le_of_eq pD9_a) (pD9_l ex)
            · have B := bx_g15 W139 T139_0 rgF9_fr Ev.2.2.2.2 X1
              have Wg2 := wg_f15 W139 T139_0 rgF9_fr Ev.2.2.2.2 X1 Wg
              obtain ⟨X, x1, x2, x3⟩ := zr9
              have ex : ∀ k, ∃ q : Rat, ((kO15 κ139 a0 k).toInt = (x139_1.toNatClampNeg : Int) → ∀ i, i < ((zA κ139 (zR κ139 weKnotFirsts (zR κ139 soWeb a0)) (x139_1.toNatClampNeg + 1)).toInt).toNat - ((zA κ139 (zR κ139 weKnotFirsts (zR κ139 soWeb a0)) x139_1.toNatClampNeg).toInt).toNat → od15 κ139 a0 (((zA κ139 (zR κ139 weKnotFirsts (zR κ139 soWeb a0)) x139_1.toNatClampNeg).toInt).toNat + i) = k → q = X i) ∧ ((kO15 κ139 a0 k).toInt ≠ (x139_1.toNatClampNeg : Int) → q = V9 k) := fun k => by
                by_cases c : ∃ i, i < ((zA κ139 (zR κ139 weKnotFirsts (zR κ139 soWeb a0)) (x139_1.toNatClampNeg + 1)).toInt).toNat - ((zA κ139 (zR κ139 weKnotFirsts (zR κ139 soWeb a0)) x139_1.toNatClampNeg).toInt).toNat ∧ od15 κ139 a0 (((zA κ139 (zR κ139 weKnotFirsts (zR κ139 soWeb a0)) x139_1.toNatClampNeg).toInt).toNat + i) = k
                · obtain ⟨i, i1, i2⟩ := c
                  exact ⟨X i, fun _ j j1 j2 => by rw [kn9.2.2.1 j i j1 i1 (j2.trans i2.symm)], fun z => absurd (by rw [← i2]; exact (kn9.2.1 i i1).2) z⟩
                · exact ⟨V9 k, fun _ j j1 j2 => absurd ⟨j, j1, j2⟩ c, fun _ => rfl⟩
              obtain ⟨V', hV'⟩ := Classical.axiomOfChoice ex
              have mem : ∀ i, i < ((zA κ139 (zR κ139 weKnotFirsts (zR κ139 soWeb a0)) (x139_1.toNatClampNeg + 1)).toInt).toNat - ((zA κ139 (zR κ139 weKnotFirsts (zR κ139 soWeb a0)) x139_1.toNatClampNeg).toInt).toNat → V' (od15 κ139 a0 (((zA κ139 (zR κ139 weKnotFirsts (zR κ139 soWeb a0)) x139_1.toNatClampNeg).toInt).toNat + i)) = X i := fun i hi => (hV' _).1 (kn9.2.1 i hi).2 i hi rfl
              have VE : vE15 (pR15 σ9 n9) n9 (fun k => cnE σ9 k ∧ (x139_1.toNatClampNeg : Int) ≤ (kO15 κ139 a0 k).toInt) V' := by
                rw [lc] at hE9
                exact vs_15 Wg hE9 (fun k hk e => op9 k hk e c7) (fun k _ ne => (hV' k).2 ne) (vr_15 X1 Wg kn9 mz9 x1 (fun k _ ne => (hV' k).2 ne) mem)
              refine ⟨Wg2, fun z => ⟨V', fun k hk => ?_, vE_c15 VE (fun k hk => by rw [lc, B.2.2.2.2.1]) (fun _ _ => rfl), fun k hk => ?_⟩, fun z => ?_⟩
              · by_cases e : (kO15 κ139 a0 k).toInt = (x139_1.toNatClampNeg : Int)
                · obtain ⟨i, i1, i2⟩ := kn9.2.2.2 k hk e
                  rw [← i2, mem i i1]
                  exact ⟨((x2 z).1 i i1).1, (x1 i i1).1⟩
                · rw [(hV' k).2 e]
                  exact ⟨(x2 z).2 k hk (fun i hi q => e (by rw [← q]; exact (kn9.2.1 i hi).2)), (hV9 k hk).2⟩
              · by_cases e : (kO15 κ139 a0 k).toInt = (x139_1.toNatClampNeg : Int)
                · obtain ⟨i, i1, i2⟩ := kn9.2.2.2 k hk e
                  rw [← i2, mem i i1]
                  exact ((x2 z).1 i i1).2
                · rw [(hV' k).2 e]
                  exact hF9 k hk
              · obtain ⟨i, i1, i2⟩ := x3 z
                exact ⟨ng9, V', _, VE, _, (kn9.2.1 i i1).1, ⟨op9 _ (kn9.2.1 i i1).1 (kn9.2.1 i i1).2 c7, by rw [(kn9.2.1 i i1).2]; exact Int.le_refl _⟩, op9 _ (kn9.2.1 i i1).1 (kn9.2.1 i i1).2 c7, by rw [mem i i1]; exact i2⟩
  intro κ_27 hκ_27
  intro W28
  intro T29
  intro T30
  have Zs : zF (fun f b => f = soSolved ∧ b = a0) κ κ_27 := by
    rw [hκ_27]
    exact zF_ui ⟨rfl, rfl⟩
  have V27 : frV9 (zn κ) (fun f b => f = soSolved ∧ b = a0) := fun f b z => by
    rw [z.1]
    exact Or.inr (Or.inr (Or.inr (Or.inr (Or.inl (by decide)))))
  have A27 := atW_v9 W V27 Zs tb A0
  have er27 : zR κ_27 = zR κ := by rw [hκ_27]; rfl
  have nt : ∀ (t f w : Nat), zT κ w = t → t ≠ 12 → ¬ (f = soSolved ∧ w = a0) := fun t f w ht h12 z => by
    rw [z.2, Ta0] at ht
    exact h12 ht.symm
  have S27 := rs_h9 W Ta0 S0 Zs (fun f w h => nt 8 f w h (by decide)) (fun f w h => nt 11 f w h (by decide)) (fun f w h => nt 4 f w h (by decide)) (fun f h1 _ z => h1 z.1)
  have T27 : zT κ_27 a0 = 12 := Zs.t Ta0 (by decide)
  refine We_weave_q15 W28 T29 T30 n9 ?_ (fun κ_31 q32 => ?_)
  · rw [er27]
    refine ⟨?_, ?_, A27⟩
    · rw [hκ_27]; exact U0
    · rw [hκ_27]; exact L0
  obtain ⟨q32, zw⟩ := q32
  rw [er27] at q32 T29 T30
  obtain ⟨Zw, G31, A31⟩ := q32
  have no : ∀ (t f w : Nat), zT κ_27 w = t → t ≠ 14 → ¬ objF (zR κ soWeb a0) f w := fun t f w ht h14 z => by
    rw [show w = zR κ soWeb a0 from z, T29] at ht
    exact h14 ht.symm
  have S31 := rs_h9 W28 T27 S27.1 Zw (fun f w h => no 8 f w h (by decide)) (fun f w h => no 11 f w h (by decide)) (fun f w h => no 4 f w h (by decide)) (fun f _ _ => no 12 f a0 T27 (by decide))
  have T31 : zT κ_31 a0 = 12 := Zw.t T27 (by decide)
  have ew31 : zR κ_31 soWeb a0 = zR κ soWeb a0 := by rw [S31.2 soWeb (by decide) (by decide), er27]
  have eb31 : zR κ_31 soAtlas a0 = zR κ soAtlas a0 := by rw [S31.2 soAtlas (by decide) (by decide), er27]
  have ec31 : zR κ_31 soCalc a0 = zR κ soCalc a0 := by rw [S31.2 soCalc (by decide) (by decide), er27]
  intro W33
  intro M34
  intro T35
  refine We_knot_q6 W33 T35 n9 ?_ (fun κ_36 q37 => ?_)
  · rw [ew31]
    exact ⟨G31.1.1, G31.2.1, G31.2.2.1, G31.1.2.2.2⟩
  obtain ⟨q37, z9⟩ := q37
  have zk := z9
  intro W38
  intro M39
  rw [ew31] at q37 T35
  obtain ⟨Kn, KN⟩ := q37
  have tb31 : zT κ_31 (zR κ soAtlas a0) = 3 := by rw [← eb31]; exact ty_soAtlas W33 T31
  have Zk : zF (objF (zR κ soWeb a0)) κ_31 κ_36 := Kn.1.mono (fun f x z => z.1)
  have no2 : ∀ (t f w : Nat), zT κ_31 w = t → t ≠ 14 → ¬ objF (zR κ soWeb a0) f w := fun t f w ht h14 z => by
    rw [show w = zR κ soWeb a0 from z, T35] at ht
    exact h14 ht.symm
  have S36 := rs_h9 W33 T31 S31.1 Zk (fun f w h => no2 8 f w h (by decide)) (fun f w h => no2 11 f w h (by decide)) (fun f w h => no2 4 f w h (by decide)) (fun f _ _ => no2 12 f a0 T31 (by decide))
  have G36 := weG_K9 W33 T35 tb31 Kn G31
  have A36 := atW_E W33 T35 tb31 Zk A31
  have T36 : zT κ_36 a0 = 12 := Zk.t T31 (by decide)
  have ew36 : zR κ_36 soWeb a0 = zR κ soWeb a0 := by rw [S36.2 soWeb (by decide) (by decide)]; exact ew31
  have eb36 : zR κ_36 soAtlas a0 = zR κ soAtlas a0 := by rw [S36.2 soAtlas (by decide) (by decide)]; exact eb31
  have ec36 : zR κ_36 soCalc a0 = zR κ soCalc a0 := by rw [S36.2 soCalc (by decide) (by decide)]; exact ec31
  have hn := G36.2.1.2
  have kK := KN.1
  have sl36 : zI κ_36 soSolved a0 = 0 := by
    rw [Zk.i (no2 12 _ a0 T31 (by decide)), Zw.i (no 12 _ a0 T27 (by decide)), hκ_27]
    exact if_pos ⟨rfl, rfl⟩
  have F36 : zF (fvF9 ρ κ a0) κ κ_36 := ((Zs.mono (fun f b z => Or.inr (Or.inr (Or.inl ⟨z.2, Or.inl z.1⟩)))).tr (Zw.mono (fun f b z => Or.inr (Or.inl z)))).tr (Zk.mono (fun f b z => Or.inr (Or.inl z)))
  have K36 : zK9 κ κ_36 a0 := ((zK_z9 W Ta0 Zs (fun b _ z => absurd z.1 (by decide)) (fun z => absurd z.1 (by decide)) (fun z => absurd z.1 (by decide)) (fun z => absurd z.1 (by decide))).tr (zK_w9 W28 T27 T29 Zw)).tr (zK_w9 W33 T31 T35 Zk)
  have wM36 := G36.1.1
  have mn36 := F36.2.2.2.2.2.2
  have tb27 : zT κ_27 (zR κ soAtlas a0) = 3 := by rw [← er27]; exact ty_soAtlas W28 T27
  have wg36 : wgw15 κ_36 (zR κ soWeb a0) (zR κ soAtlas a0) n9 σ9 := by
    rw [er27] at zw
    rw [ew31] at zk
    refine wg_k015 W33 T35 tb31 (tb_E15 W28 T29 tb27 Zw (tb_v15 W V27 Zs tb hT9)) zw (fun j hj y z => ?_) Kn zk.1 zk.2
    obtain ⟨i, i1, i2, i3⟩ := z
    have o := G31.2.2.1
    have i2' : (i : Int) < (zA κ_31 (zR κ_31 weFirsts (zR κ soWeb a0)) (j + 1)).toInt := i2
    have i3' : (zA κ_31 (zR κ_31 weTargets (zR κ soWeb a0)) i).toNatClampNeg = y := i3
    have a1 := (o.1 (j + 1) (by omega)).2
    have a2 := o.2.2.2 i (by omega)
    have c := cnk a2.1
    omega
  unfold w_So_findVisitz_26
  refine ⟨fun n l0 l1 τ => n = ((zI κ_36 weKnots (zR κ_36 soWeb a0)).toInt - l1.toInt).toNat ∧ ((a0 = l0 ∧ κ_36 = τ ∧ (0 ≤ l1.toInt ∧ l1.toInt ≤ (zI κ_36 weKnots (zR κ_36 soWeb a0)).toInt) ∧ ∀ c : Nat, (c : Int) < l1.toInt → zA κ_36 (zR κ_36 weOpen (zR κ_36 soWeb a0)) (zA κ_36 (zR κ_36 weOrder (zR κ_36 soWeb a0)) (zA κ_36 (zR κ_36 weKnotFirsts (zR κ_36 soWeb a0)) c).toNatClampNeg).toNatClampNeg ≠ 0 → (zA κ_36 (zR κ_36 weKnotFirsts (zR κ_36 soWeb a0)) (c + 1)).toInt - (zA κ_36 (zR κ_36 weKnotFirsts (zR κ_36 soWeb a0)) c).toInt ≤ 32) ∧ True), ⟨_, rfl, ?_⟩, ?_⟩
  · refine and_5 ?_ (fun o9 => trivial)  -- j22
    exact ⟨rfl, rfl, ⟨by decide, by rw [ew36, t0i]; exact kK.1⟩, fun c hc => by rw [t0i] at hc; omega⟩
  rintro n26 _ x26_1 κ26 W26 T26_0 ⟨hn26, ⟨rfl, i26⟩, hE⟩
  obtain ⟨e26, l26, z26⟩ := i26
  subst e26
  have kl := cnk l26.1
  refine ⟨fun c40 => ?_, fun c40 => ?_⟩
  · skip
    intro T41
    refine So_fresh_c W26 T41 ρ a0 100 soVisits ?_ (fun r42 κ_43 q44 => ?_)
    · have tot := G36.2.1.1
      rw [← ew36] at tot
      exact ⟨S36.1.1, T36, ⟨Or.inl rfl, Or.inl rfl, W26.o (show zr soVisits = some 25 by decide +kernel) (by decide) T26_0, fun z => absurd z (by decide)⟩, S36.1.2.2.2.1.1, S36.1.2.2.2.1.2, ⟨by omega, by omega⟩⟩
    intro W45
    intro M46
    intro T47
    have tot := G36.2.1.1
    rw [← ew36] at tot
    have wo := fr_o9 (f9 := soVisits) (s := a0) (τ := κ_43) W26 (ty_soVisits W26 T26_0) T26_0 (W26.o (show zr soVisits = some 25 by decide +kernel) (by decide) T26_0) (Exists.choose_spec (Exists.choose_spec q44.1)).1 (Exists.choose_spec (Exists.choose_spec q44.1)).2.2.2.2.1.1
    refine ⟨?_, ?_⟩
    · rcases wo with y | y
      · exact Or.inr y.1
      · exact Or.inl y.1
    intro κ_48 hκ_48
    intro W49
    obtain ⟨Z48, K48, ρ8, h8, R8, V8, L8⟩ := fr_r9 (n := n9) W26 W45 W49 T26_0 S36.1 ⟨tot, hn⟩ q44.1 q44.2 hκ_48
    have T48 : zT κ_48 a0 = 12 := Z48.t T26_0 (by decide)
    have fv8 := frF9_v (ρ := ρ) (κ := κ_36) (s := a0) (Or.inl (rfl : soVisits = soVisits))
    have nf : ∀ f, f = soAtlas ∨ f = soWeb ∨ f = soCalc ∨ f = soSolved → ¬ frF9 ρ κ_36 soVisits a0 f a0 := fun f hf z => by
      have la := (W26.2.1 a0 (by rw [T26_0]; decide)).2
      rcases z with z | z | z | z
      · rcases z with ⟨_, z | z | z⟩ | ⟨_, z | z | z | z⟩ <;> (rw [z] at hf; exact absurd hf (by decide))
      · rw [z.1] at hf; exact absurd hf (by decide)
      · rw [z] at hf; exact absurd hf (by decide)
      · omega
    have ea8 : zR κ_48 soAtlas a0 = zR κ soAtlas a0 := (Z48.r (nf _ (Or.inl rfl))).trans eb36
    have ew8 : zR κ_48 soWeb a0 = zR κ soWeb a0 := (Z48.r (nf _ (Or.inr (Or.inl rfl)))).trans ew36
    have ec8 : zR κ_48 soCalc a0 = zR κ soCalc a0 := (Z48.r (nf _ (Or.inr (Or.inr (Or.inl rfl))))).trans ec36
    have tw36 : zT κ_36 (zR κ soWeb a0) = 14 := by rw [← ew36]; exact ty_soWeb W26 T26_0
    have tb36 : zT κ_36 (zR κ soAtlas a0) = 3 := by rw [← eb36]; exact ty_soAtlas W26 T26_0
    have X8 : svX9 κ_48 a0 n9 := by
      unfold svX9
      rw [ew8, ea8]
      exact ⟨weG_v9 W26 fv8 Z48 tw36 tb36 G36, weKn_v9 W26 fv8 Z48 tw36 KN, atW_v9 W26 fv8 Z48 tb36 A36, L8⟩
    have g8 := fun f hf => we_v9 W26 fv8 Z48 tw36 (f := f) hf
    have ix8 : zI κ_48 weKnots (zR κ soWeb a0) = zI κ_36 weKnots (zR κ soWeb a0) := Z48.i (frV9_n W26 fv8 tw36 (by decide))
    rw [lei] at c40
    have sz8 : ∀ c : Nat, (c : Int) < (zI κ_48 weKnots (zR κ_48 soWeb a0)).toInt → zA κ_48 (zR κ_48 weOpen (zR κ_48 soWeb a0)) (zA κ_48 (zR κ_48 weOrder (zR κ_48 soWeb a0)) (zA κ_48 (zR κ_48 weKnotFirsts (zR κ_48 soWeb a0)) c).toNatClampNeg).toNatClampNeg ≠ 0 → (zA κ_48 (zR κ_48 weKnotFirsts (zR κ_48 soWeb a0)) (c + 1)).toInt - (zA κ_48 (zR κ_48 weKnotFirsts (zR κ_48 soWeb a0)) c).toInt ≤ 32 := by
      rw [ew8, ix8, (g8 weOpen (by decide)).2.1, (g8 weOrder (by decide)).2.1, (g8 weKnotFirsts (by decide)).2.1]
      rw [ew36] at z26 c40
      exact fun c hc => z26 c (by omega)
    have sl8 : zI κ_48 soSolved a0 = 0 := (Z48.i (nf _ (Or.inr (Or.inr (Or.inr rfl))))).trans sl36
    have F48 : zF (fvF9 ρ κ a0) κ κ_48 := F36.tr (Z48.mono (fun f b z => by
      rcases z with z | z | z | z
      · rcases z with z | z
        · exact Or.inl (Or.inl ⟨trivial, z.2⟩)
        · exact Or.inr (Or.inr (Or.inr (Or.inr (Or.inl z.1))))
      · exact Or.inr (Or.inr (Or.inl ⟨z.2, Or.inr (Or.inr (Or.inr z.1))⟩))
      · exact Or.inr (Or.inr (Or.inr (Or.inl z)))
      · exact Or.inr (Or.inr (Or.inr (Or.inr (Or.inr (by omega)))))))
    have h8' : ∀ b, b < zn κ → ρ8 b = ρ b := fun b hb => h8 b (by omega)
    have tot8 : (zI κ_48 weTotal (zR κ_48 soWeb a0)).toInt = (n9 : Int) := X8.1.2.1.1
    refine ⟨fun c50 => ?_, fun c50 => ?_⟩
    · skip
      refine hj129 _ _ W49 ?_ ?_
      · exact T48  -- t25
      · refine and_5 ?_ (fun o9 => ?_)  -- k26
        · rw [lei, tot8, ofn_i (by rcases R8.2.2.2.2.2.1 with y | y <;> rw [y] <;> decide)] at c50
          exact ⟨rfl, ρ8, ⟨h8', F48, R8, X8, by omega, sz8, sl8, ea8, ew8, ec8, K36.tr K48⟩, V8⟩
        · refine ⟨?_, fun k hk => fz_15 q44.1 hκ_48 (by have tot := G36.2.1.1; rw [← ew36] at tot; have c := cnk (x := zI κ_36 weTotal (zR κ_36 soWeb a0)) (by omega); omega)⟩
          show wgw15 κ_48 (zR κ_48 soWeb a0) (zR κ_48 soAtlas a0) n9 σ9
          rw [ew8, ea8]
          exact wg_v15 W26 fv8 Z48 tw36 tb36 wg36
    · skip
      refine ⟨?_, ?_⟩
      · exact ⟨by decide, by decide⟩  -- b27
      intro κ_51 hκ_51
      intro W52
      refine ⟨?_, ?_⟩
      · rw [hκ_51]; exact if_pos rfl  -- b28
      intro κ_53 hκ_53
      intro W54
      rw [lei, tot8, ofn_i (by rcases R8.2.2.2.2.2.1 with y | y <;> rw [y] <;> decide)] at c50
      have l0 : (zN κ_48 (zR κ_48 soRows a0)) = 0 := by
        rcases R8.2.2.2.2.2.1 with y | y
        · exact y
        · omega
      have n1k : (1000 : Int32).toNatClampNeg = 1000 := by decide
      rw [n1k] at hκ_51
      have G := we_gr (f := soRows) (c := a0) W49 (show zr soRows = some 20 by decide +kernel) (by decide) T48 hκ_51 hκ_53 (by rw [l0]; decide) (by rw [l0]; decide)
      have E : rgE9 (fun _ => False) ρ8 κ_48 κ_53 a0 ρ8 := rg_rn9 W49 T48 R8.1.1 R8.1.2 R8.2.1 R8.2.2.1 G.1
      have n53 : zN κ_53 (zR κ_53 soRows a0) = 1000 := by rw [G.2.2.2.1]; exact G.2.2.2.2.1
      have X3 := rg_x9 W49 T48 E X8
      have w3 := rg_w9 W49 T48 E X8
      have wo3 := (we_f9 W49 rgF9_fr E.2.2.2.2 (ty_soWeb W49 T48) (f := weOpen) (by decide)).2.1
      have nl3 := rg_n9 (c := 0) W49 (ty_soLess W49 T48) E (fun z => z)
      have V3 := rg_v9 W49 T48 R8.1.1 hn (fun _ _ _ z => z) E V8
      have F53 : zF (fvF9 ρ κ a0) κ κ_53 := F48.tr (G.1.mono (fun f b z => Or.inr (Or.inr (Or.inl ⟨z.2, Or.inr (Or.inr (Or.inl z.1))⟩))))
      have R3 := rs_rg9 W49 T48 R8 E (by rw [nl3.2.1]; exact R8.2.2.2.2.2.2) (Or.inr n53)
      have e3 := fun f hf => rg_r9 W49 T48 E (f := f) hf
      refine hj129 _ _ W54 ?_ ?_
      · exact G.1.t T48 (by decide)  -- t29
      · refine and_5 ?_ (fun o9 => ?_)  -- k30
        · refine ⟨rfl, ρ8, ⟨h8', F53, R3, X3.1, by rw [n53]; exact hn, ?_, (e3 soSolved (by decide)).2.trans sl8, X3.2.2.1.trans ea8, X3.2.1.trans ew8, (e3 soCalc (by decide)).1.trans ec8, (K36.tr K48).tr E.2.2.2.1.2⟩, V3.1⟩
          rw [w3.2.2.1, w3.2.2.2.1, w3.1, X3.2.1, wo3]
          exact sz8
        · have wg48 : wg15 κ_48 a0 n9 σ9 := by
            show wgw15 κ_48 (zR κ_48 soWeb a0) (zR κ_48 soAtlas a0) n9 σ9
            rw [ew8, ea8]
            exact wg_v15 W26 fv8 Z48 tw36 tb36 wg36
          refine ⟨wg_f15 W49 T48 rgF9_fr E.2.2.2.2 X8 wg48, fun k hk => ?_⟩
          exact rq_g15 W49 T48 R8.1.1 (fun _ _ _ z => z) E (V8 k hk).2.1 (by omega) (fz_15 q44.1 hκ_48 (by have tot := G36.2.1.1; rw [← ew36] at tot; have c := cnk (x := zI κ_36 weTotal (zR κ_36 soWeb a0)) (by omega); omega))
  · skip
    rw [lei] at c40
    have c40' := c40
    rw [ew36] at c40'
    have kA := KN.2.1 x26_1.toNatClampNeg (by omega)
    have kf := cnk kA.1
    have kO := (KN.2.2.1 (zA κ_36 (zR κ_36 weKnotFirsts (zR κ soWeb a0)) x26_1.toNatClampNeg).toNatClampNeg (by omega)).1
    have ix := cn1 (x := x26_1) l26.1 (by omega)
    refine ⟨?_, ?_⟩
    · rw [ew36, inb_iff, wM36.2.2.2.1]; omega  -- b31
    refine ⟨?_, ?_⟩
    · rw [ew36, inb_iff, wM36.2.2.2.2.2.1]; omega  -- b32
    refine ⟨?_, ?_⟩
    · rw [ew36, inb_iff, wM36.2.2.1]; omega  -- b33
    refine ⟨fun c55 => ?_, fun c55 => ?_⟩
    · skip
      intro x56 hx56
      refine lp_b5 ?_ (fun d9 => ⟨rfl, ?_⟩)
      · rw [hn26, hx56, ix.2]; omega  -- d34
      · refine and_5 ?_ (fun o9 => trivial)  -- i35
        refine ⟨rfl, rfl, ⟨by rw [hx56, ix.2]; omega, by rw [hx56, ix.2]; omega⟩, fun c hc ho => ?_⟩
        rw [hx56, ix.2] at hc
        by_cases e : c = x26_1.toNatClampNeg
        · rw [e] at ho
          exact absurd c55 ho
        · exact z26 c (by omega) ho
    · skip
      intro T57
      refine We_sizeOf_c W26 T57 n9 ?_ (fun r58 q60 => ?_)
      · rw [ew36]
        exact ⟨wM36, hn, KN, ⟨l26.1, by omega⟩⟩
      intro W61
      intro M62
      refine ⟨fun c63 => ?_, fun c63 => ?_⟩
      · skip
        intro x64 hx64
        refine lp_b5 ?_ (fun d9 => ⟨rfl, ?_⟩)
        · rw [hn26, hx64, ix.2]; omega  -- d37
        · refine and_5 ?_ (fun o9 => trivial)  -- i38
          refine ⟨rfl, rfl, ⟨by rw [hx64, ix.2]; omega, by rw [hx64, ix.2]; omega⟩, fun c hc ho => ?_⟩
          rw [hx64, ix.2] at hc
          by_cases e : c = x26_1.toNatClampNeg
          · rw [lei, show (32 : Int32).toInt = 32 from rfl] at c63
            rw [e]
            have q := q60.1
            omega
          · exact z26 c (by omega) ho
      · skip
        refine h _ _ ?_
        · refine and_5 ?_ (fun o9 => ?_)  -- q39
          · exact ⟨ρ, fun _ _ => rfl, F36, S36.1, A36, G36.1, ⟨eb36, ew36, ec36⟩, fun z => absurd sl36 z, K36⟩
          · rw [lei, show (32 : Int32).toInt = 32 from rfl] at c63
            rw [ew36] at q60 c55
            refine Or.inr (Or.inr ⟨rfl, bg_y15 KN wg36 (c := x26_1.toNatClampNeg) (by omega) c55 ?_⟩)
            have q := q60.1
            omega

end
section
set_option maxHeartbeats 1600000
/-! solve's answer, by the tables alone -/
noncomputable def sv15 (σ : rS) (s : Nat) : Int32 := @ite Int32 (bg15 σ) (Classical.propDecidable _) (-2) (@ite Int32 (nf15 σ s) (Classical.propDecidable _) (-3) 0)
theorem sv_215 {σ : rS} {s : Nat} (b : bg15 σ) : sv15 σ s = -2 := if_pos b
theorem sv_315 {σ : rS} {s : Nat} (b : ¬ bg15 σ) (n : nf15 σ s) : sv15 σ s = -3 := by
  unfold sv15
  rw [if_neg b, if_pos n]
/-- where all visits fit, none of another solution doesn't -/
theorem sv_015 {σ : rS} {s : Nat} {V : Nat → Rat} (h : pOK σ) (hs : s = (σ.1 70).toNatClampNeg) (b : ¬ bg15 σ) (E : vE15 (pR15 σ s) s (cnE σ) V) (ft : ∀ k, k < s → ftW8 (V k)) : sv15 σ s = 0 := by
  unfold sv15
  rw [if_neg b, if_neg ?_]
  rintro ⟨V', S, E', j, j1, j2, j3, j4⟩
  have G := gP_15 h hs
  have q := un_15 G.1 G.2.1 G.2.2 E E' j j1 j3 j2
  exact j4 (by rw [← q]; exact ft j j1)
theorem sx_15 {σ τ : rS} {s : Nat} {v : Int32} (h : pOK σ) (hs : s = (σ.1 70).toNatClampNeg) (x : sX15 σ τ s v) : v = sv15 σ s := by
  rcases x with ⟨e, b, V, v1, v2, v3⟩ | ⟨e, b, n⟩ | ⟨e, b⟩
  · rw [sv_015 h hs b v2 v3]; exact e
  · rw [sv_315 b n]; exact e
  · rw [sv_215 b]; exact e
theorem fx_15 {κ : zS} {a n : Nat} {σ : rS} {v : Int32} (h : pOK σ) (hs : n = (σ.1 70).toNatClampNeg) (x : fX15 κ a n σ v) : v = sv15 σ n := by
  rcases x with ⟨e, b, V, v1, v2, v3⟩ | ⟨e, b, V, S, n1, j, j1, j2, j3, j4⟩ | ⟨e, b⟩
  · rw [sv_015 h hs b v2 (fun k hk => f2_t15.mp (v3 k hk))]; exact e
  · rw [sv_315 b ⟨V, S, n1, j, j1, j2, j3, fun z => j4 (f2_t15.mpr z)⟩]; exact e
  · rw [sv_215 b]; exact e
/-- solve, of the reference -/
noncomputable def sw15 (σ : rS) : Int32 := sv15 σ (σ.1 70).toNatClampNeg
def sc15 (σ : rS) : Prop := σ.1 69 ≠ 0
def XQ15 (σ σ' : rS) (v : Int32) : Prop := (sc15 σ ∧ σ'.1 0 = 0 ∧ v = sw15 σ) ∨ (¬ sc15 σ ∧ σ'.1 0 = 1)
theorem XQ_15 {σ σ' : rS} {v : Int32} (h : pOK σ) (x : XV15 σ σ' (σ.1 70).toNatClampNeg v) : XQ15 σ σ' v := by
  rcases x with ⟨z, e, _⟩ | ⟨z, e, x, _⟩
  · exact Or.inr ⟨fun y => y z, e⟩
  · exact Or.inl ⟨z, e, sx_15 h rfl x⟩

end
section
set_option maxHeartbeats 1600000
/-! a play, of both sides: what is alike, and its statements -/
def SM21 (w : Nat) (e : E5) (σ : rS) : Prop := ∀ i, i < w → e.2.1 701 i = σ.2.2.1 57 i
def CU21 (cu e : E5) : Prop := (∀ g, g < 600 → e.1 g = cu.1 g) ∧ ∀ g, g < 600 → e.2.1 g = cu.2.1 g
theorem cu_m21 {cu e e' : E5} {σ σ' : rS} (h : CU21 cu e) (k : FM6 e e' σ σ') : CU21 cu e' := ⟨fun g q => (k.1.1 g (Or.inl q)).trans (h.1 g q), fun g q => (k.1.2.1 g q).trans (h.2 g q)⟩
def PL21 (nv w s : Nat) (cu e : E5) (σ : rS) (h : Int32) : Prop := (CF6 nv s w e σ ∧ CU21 cu e) ∧ e.1 711 = h ∧ SM21 w e σ ∧ ((h = 0 ∧ ∃ d, 0 < d ∧ MT6 nv w s d e σ) ∨ (h = 1 ∧ e.1 712 = σ.1 61) ∨ (h = 2 ∧ e.1 713 = σ.1 61) ∨ h = 3)
def KF21 (σ σ' : rS) : Prop := (∀ g, 69 ≤ g → σ'.1 g = σ.1 g) ∧ (∀ g, g ≤ 45 ∨ 69 ≤ g → σ'.2.2.1 g = σ.2.2.1 g) ∧ σ'.2.2.2 = σ.2.2.2
def QW21 (σ1 σ2 : rS) : Prop := (∀ g, g ≠ 108 → g ≠ 109 → σ2.1 g = σ1.1 g) ∧ (∀ g, g ≠ 84 → g ≠ 90 → g ≠ 91 → σ2.2.2.1 g = σ1.2.2.1 g) ∧ σ2.2.2.2 = σ1.2.2.2
section
variable {nv s w d : Nat} {cu e e' : E5} {σ σ' σ1 σ2 σ9 : rS} {r h : Int32}
theorem sm_m21 (M : MB6 nv w s d e σ) : SM21 w e σ := M.2.2.1
theorem pl_o21 (C : CF6 nv s w e σ) (U : CU21 cu e) (O : OU6 nv w s e σ r) (hr : r = 0 ∨ r = 1) : PL21 nv w s cu e σ r := by
  obtain ⟨o1, o2⟩ := O
  rcases o2 with ⟨q, d, d0, M, A⟩ | ⟨q, q2, q3, _⟩ | ⟨q, _⟩ | q
  · exact ⟨⟨C, U⟩, o1, sm_m21 M, Or.inl ⟨q, d, d0, M, A⟩⟩
  · exact ⟨⟨C, U⟩, o1, q3, Or.inr (Or.inl ⟨q, q2⟩)⟩
  · rw [q] at hr; exact absurd hr (by decide)
  · rw [q] at hr; exact absurd hr (by decide)
/-- a statement done -/
theorem pa_21 (P : PL21 nv w s cu e σ 0) : ∃ e' σ' r d, f5_Ma_act e = .inl (e', ()) ∧ g5_act σ = (σ', r) ∧ (CE6 nv s w e' σ' ∧ CU21 cu e') ∧ KF21 σ σ' ∧ e'.1 714 = (if r = 2 then 0 else σ'.1 62) ∧ (0 < d ∧ MT6 nv w s d e σ) ∧ ((e'.1 715 = -1 ∧ (r ≠ 4 ∧ r ≠ 5) ∧ PL21 nv w s cu e' σ' r) ∨ ((r = 4 ∨ r = 5) ∧ AW6 nv w d e' σ' r ∧ e'.1 714 = 0 ∧ MT6 nv w s d e' σ' ∧ ME6 e e' (siU σ 11 0) σ')) := by
  obtain ⟨⟨C, U⟩, h711, _, D⟩ := P
  obtain ⟨d, d0, M, A⟩ : ∃ d, 0 < d ∧ MT6 nv w s d e σ := by
    rcases D with ⟨_, q⟩ | ⟨q, _⟩ | ⟨q, _⟩ | q
    · exact q
    · exact absurd q (by decide)
    · exact absurd q (by decide)
    · exact absurd q (by decide)
  obtain ⟨T, X, Bk, N, Z, na, f, ⟨h1, h2⟩, h3, h4, h5, ⟨h6, h7, h8, h9⟩, h10, h11, h12⟩ := id C
  obtain ⟨e', σ', r, u1, u2, u3, u4, u5⟩ := act_6 (σ := siU σ 11 0) h1 h2 h3 (MB_116 M) d0 (show AT6 w s d e (siU σ 11 0) from A) h9 h711 h10 h11 h4 h5
  rw [act_116] at u2
  have C' : CE6 nv s w e' σ' := CE_w6 (σ := siU σ 11 0) C (FMw_6 u3)
  have U' : CU21 cu e' := cu_m21 U u3
  have K : KF21 σ σ' := ⟨fun g q => (u3.2.1 g (by omega)).trans (by rw [si1, if_neg (by omega)]), fun g q => u3.2.2.1 g q, u3.2.2.2⟩
  rcases u4 with ⟨q5, q⟩ | ⟨q, q2, q3⟩
  · rcases q with ⟨b1, b2, b3, d', b4, b5, b6⟩ | ⟨b1, b2, b3, b4, b5, _⟩ | ⟨b1, b2, b3, b4, _, d', b6⟩ | ⟨b1, b2, b3, d', b6⟩
    · exact ⟨e', σ', r, d, u1, u2, ⟨C', U'⟩, K, by rw [b1, if_neg (by decide)]; exact b3, ⟨d0, M, A⟩, Or.inl ⟨q5, ⟨by rw [b1]; decide, by rw [b1]; decide⟩, ⟨CF_e6 C', U'⟩, b2.trans b1.symm, sm_m21 b5, Or.inl ⟨b1, d', b4, b5, b6⟩⟩⟩
    · exact ⟨e', σ', r, d, u1, u2, ⟨C', U'⟩, K, by rw [b1, if_neg (by decide)]; exact b3, ⟨d0, M, A⟩, Or.inl ⟨q5, ⟨by rw [b1]; decide, by rw [b1]; decide⟩, ⟨CF_e6 C', U'⟩, b2.trans b1.symm, b5, Or.inr (Or.inl ⟨b1, b4⟩)⟩⟩
    · exact ⟨e', σ', r, d, u1, u2, ⟨C', U'⟩, K, by rw [b1, if_pos rfl]; exact b4, ⟨d0, M, A⟩, Or.inl ⟨q5, ⟨by rw [b1]; decide, by rw [b1]; decide⟩, ⟨CF_e6 C', U'⟩, b2.trans b1.symm, sm_m21 b6.1, Or.inr (Or.inr (Or.inl ⟨b1, b3⟩))⟩⟩
    · exact ⟨e', σ', r, d, u1, u2, ⟨C', U'⟩, K, by rw [b1, if_neg (by decide)]; exact b3, ⟨d0, M, A⟩, Or.inl ⟨q5, ⟨by rw [b1]; decide, by rw [b1]; decide⟩, ⟨CF_e6 C', U'⟩, b2.trans b1.symm, sm_m21 b6.1, Or.inr (Or.inr (Or.inr b1))⟩⟩
  · have r45 : r = 4 ∨ r = 5 := q.1.elim (fun y => Or.inl y.1) (fun y => Or.inr y.1)
    refine ⟨e', σ', r, d, u1, u2, ⟨C', U'⟩, K, ?_, ⟨d0, M, A⟩, Or.inr ⟨r45, q, q2, q3, u5 r45⟩⟩
    rw [if_neg (fun y => by rw [y] at r45; exact absurd r45 (by decide))]
    exact q.2.2.1
/-- what was drawn or chosen is taken -/
theorem ps_21 {i : Nat} (C : CE6 nv s w e σ1) (U : CU21 cu e) (d0 : 0 < d) (W : AW6 nv w d e σ1 r) (M : MT6 nv w s d e σ1) (Q : QW21 σ1 σ2) (hi : (i : Int) < (e.1 716).toInt) : ∃ e' σ' r', f5_Ma_settle (Int32.ofNat i) e = .inl (e', ()) ∧ g5_get (Int32.ofNat i) σ2 = (σ', r') ∧ PL21 nv w s cu e' σ' r' ∧ e'.1 714 = e.1 714 ∧ (∀ g, g ≠ 58 → g ≠ 61 → σ'.1 g = σ2.1 g) ∧ (∀ g, g ≠ 57 → g ≠ 59 → g ≠ 60 → σ'.2.2.1 g = σ2.2.2.1 g) ∧ σ'.2.2.2 = σ2.2.2.2 := by
  obtain ⟨_, w711, _, _, ⟨n, n1, n2, n3, n4⟩, t, t1, t2⟩ := W
  have C2 : CE6 nv s w e σ2 := CE_w6 C ⟨⟨fun _ _ => rfl, fun _ _ => rfl, rfl⟩, fun g q => Q.1 g (by omega) (by omega), fun g q => Q.2.1 g (by omega) (by omega) (by omega), Q.2.2⟩
  have M2 : MT6 nv w s d e σ2 := MT_e6 M ⟨⟨rfl, rfl, rfl, rfl, rfl⟩, Q.1 58 (by decide) (by decide), fun g q => Q.2.1 g (by omega) (by omega) (by omega)⟩
  obtain ⟨T, X, Bk, N, Z, na, f, ⟨h1, h2⟩, h3, h4, h5, h6, h7⟩ := id C2
  rw [n2, ofn_i (by omega)] at hi
  obtain ⟨e', σ', r', u1, u2, u3, u4, ⟨u5, u6⟩, u7, u8, u9⟩ := set_6 h1.1.2.2.2 h1.1.2.2.1 h3 M2.1 d0 M2.2 w711 n1 (show i < n by omega) n2 (fun k hk => by rw [Q.2.1 64 (by decide) (by decide) (by decide), Q.2.1 65 (by decide) (by decide) (by decide)]; exact n4 k hk) t1 (by rw [Q.1 67 (by decide) (by decide)]; exact t2)
  have C3 : CE6 nv s w e' σ' := CE_w6 C2 (FMw_6 u3)
  exact ⟨e', σ', r', u1, u2, pl_o21 (CF_e6 C3) (cu_m21 U u3) u4 u9, u5 714 (Or.inr (Or.inl (by decide))), u7, u8, u3.2.2.2⟩
/-- a told draw that there is not -/
theorem pf_21 (C : CE6 nv s w e σ1) (U : CU21 cu e) (M : MT6 nv w s d e σ1) (Q : QW21 σ1 σ2) : PL21 nv w s cu (fl6 711 2 (fl6 713 6 e)) (siU σ2 61 6) 2 := by
  have C2 : CE6 nv s w e σ2 := CE_w6 C ⟨⟨fun _ _ => rfl, fun _ _ => rfl, rfl⟩, fun g q => Q.1 g (by omega) (by omega), fun g q => Q.2.1 g (by omega) (by omega) (by omega), Q.2.2⟩
  have F : FM6 e (fl6 711 2 (fl6 713 6 e)) σ2 (siU σ2 61 6) := ⟨⟨fun g q => (fl_o6 (show g ≠ 711 by omega)).trans (fl_o6 (show g ≠ 713 by omega)), fun _ _ => rfl, rfl⟩, fun g q => by rw [si1, if_neg (by omega)], fun _ _ => rfl, rfl⟩
  refine ⟨⟨CF_e6 (CE_w6 C2 (FMw_6 F)), cu_m21 U F⟩, fl_s6, fun i hi => ?_, Or.inr (Or.inr (Or.inl ⟨rfl, ?_⟩))⟩
  · show e.2.1 701 i = σ2.2.2.1 57 i
    rw [Q.2.1 57 (by decide) (by decide) (by decide)]
    exact sm_m21 M.1 i hi
  · rw [fl_o6 (by decide), fl_s6, si1, if_pos rfl]
end
/-! ways by numbers -/
theorem ws_e21 {w w' : Nat → Int32} : ∀ {n : Nat}, (∀ i, i < n → w i = w' i) → wsum w n = wsum w' n
  | 0, _ => rfl
  | n + 1, h => by
    show wsum w n + (w n).toInt = wsum w' n + (w' n).toInt
    rw [ws_e21 (fun i hi => h i (by omega)), h n (by omega)]
theorem fw_u21 {w : Nat → Int32} {n i j : Nat} {r : Int} (hw : ∀ i, i < n → 0 ≤ (w i).toInt) (h : fw21 w n r i) (k : fw21 w n r j) : i = j := by
  obtain ⟨a1, a2, a3⟩ := h
  obtain ⟨b1, b2, b3⟩ := k
  rcases Nat.lt_trichotomy i j with c | c | c
  · have m := wsum_mono (r := w) (m := i + 1) (n := j) (fun k hk => hw k (by omega)) (by omega)
    omega
  · exact c
  · have m := wsum_mono (r := w) (m := j + 1) (n := i) (fun k hk => hw k (by omega)) (by omega)
    omega
theorem fw_e21 {w w' : Nat → Int32} {n i : Nat} {r : Int} (h : ∀ i, i < n → w i = w' i) (k : fw21 w n r i) : fw21 w' n r i := by
  obtain ⟨a1, a2, a3⟩ := k
  refine ⟨a1, ?_, ?_⟩
  · rw [← ws_e21 (fun j hj => h j (by omega))]; exact a2
  · rw [← ws_e21 (n := i + 1) (fun j hj => h j (by omega))]; exact a3
/-! a state looked up -/
def FD21 (κ : zS) (h : Nat) (K : Nat → Int32) (L v : Int32) : Prop := (v = -1 ∧ (zI κ hoTotal h).toInt = 0) ∨ ∃ j, j < 2048 ∧ hkW9 κ h 2048 K L j ∧ ((v = -1 ∧ zA κ (zR κ hoTable h) (hs9 2048 K L j).toNatClampNeg = 0) ∨ (0 ≤ v.toInt ∧ v.toInt < (zI κ hoTotal h).toInt ∧ hk9 κ h K L.toInt v.toNatClampNeg ∧ (zA κ (zR κ hoTable h) (hs9 2048 K L j).toNatClampNeg).toInt = v.toInt + 1))
theorem fnd_21 {κ : zS} {h w s n d : Nat} {K : Nat → Int32} {v : Int32} {σ : rS} (S : SH6 κ h w s n σ) (KS : KS6 w s d (σ.2.2.1 30) K (key6 d σ)) (h58 : σ.1 58 = Int32.ofNat d) (h70 : σ.1 70 = Int32.ofNat n) (HT : HT6 n σ) (P : FD21 κ h K (Int32.ofNat (w + 9 * d)) v) : ∃ τ, g5_stateNow σ = (τ, v) ∧ OR6 84 σ τ ∧ (v = -1 ∨ ∃ g, v = Int32.ofNat g ∧ g < n ∧ KQ6 σ g (key6 d σ)) := by
  obtain ⟨S1, S2, S3, S4⟩ := S
  have d12 := KS.1.2.1
  have d0 := KS.1.1
  have w34 := KS.1.2.2.1
  obtain ⟨τ1, a1, a2, a3⟩ := pack_6 d12 h58
  have h70' : τ1.1 70 = Int32.ofNat n := by rw [a2.1]; exact h70
  have HT1 : HT6 n τ1 := fun j hj => by
    rw [a2.2.2.1 74 (by decide), a2.2.2.1 73 (by decide)]
    exact HT j hj
  have eh : hh6 (τ1.2.2.1 84) 143 = hh6 (key6 d σ) 143 := hh_e6 a3
  have kq : ∀ j, KQ6 τ1 j (τ1.2.2.1 84) ↔ KQ6 σ j (key6 d σ) := fun j => KQ_o6 (a2.2.2.1 73 (by decide)) a3
  have eN : g5_stateNow σ = g5_stateNow_7 fu5 (hh6 (key6 d σ) 143) 0 τ1 := by
    unfold g5_stateNow
    rw [a1, pm_e5]
  have s7 := sn7_6 (by omega) h70' HT1 n fu5 0 (by omega) (by unfold fu5; omega)
  rw [eh] at s7
  have up : ∀ g, g < n → KQ6 σ g (key6 d σ) → hkS9 κ h 2048 K (Int32.ofNat (w + 9 * d)) g := fun g hg q => by
    obtain ⟨dg, Kg, a, b⟩ := S4 g hg
    obtain ⟨u1, u2⟩ := (KS_e6 a KS).mp q
    rw [u1] at b u2
    exact hkS_e6 (by omega) u2 b
  rcases s7 with ⟨g, _, g2, g3, _, g5⟩ | ⟨g1, g2⟩
  · have g5 : g5_stateNow_7 fu5 (hh6 (key6 d σ) 143) 0 τ1 = (τ1, Int32.ofNat g) := g5
    have g3' := (kq g).mp g3
    obtain ⟨k1, j, j1, j2, j3⟩ := up g g2 g3'
    have ev : v = Int32.ofNat g := by
      rcases P with ⟨_, z⟩ | ⟨j', p1, p2, p3⟩
      · rw [S2, ofn_i (by omega)] at z
        omega
      · rcases Nat.lt_trichotomy j j' with c | c | c
        · exfalso
          have y := (p2 j c).2
          rw [j3, show ((g : Int) + 1 - 1).toNat = g by omega] at y
          exact y k1
        · rw [← c] at p3
          rcases p3 with ⟨_, z⟩ | ⟨v0, _, _, z⟩
          · rw [z, t0i] at j3
            omega
          · refine Int32.toInt_inj.mp ?_
            rw [ofn_i (by omega)]
            omega
        · exfalso
          have y := j2 j' c
          rcases p3 with ⟨_, z⟩ | ⟨v0, v1, v2, z⟩
          · exact y.1 z
          · have y2 := y.2
            have kv := cnk v0
            rw [z, show (v.toInt + 1 - 1).toNat = v.toNatClampNeg by omega] at y2
            exact y2 v2
    exact ⟨τ1, by rw [eN, ev]; exact g5, a2, Or.inr ⟨g, ev, g2, g3'⟩⟩
  · have g2 : g5_stateNow_7 fu5 (hh6 (key6 d σ) 143) 0 τ1 = (τ1, -1) := g2
    have ev : v = -1 := by
      rcases P with ⟨z, _⟩ | ⟨j', p1, p2, ⟨z, _⟩ | ⟨v0, v1, v2, _⟩⟩
      · exact z
      · exact z
      · exfalso
        have kv := cnk v0
        rw [S2, ofn_i (by omega)] at v1
        obtain ⟨dg, Kg, a, b⟩ := S4 v.toNatClampNeg (by omega)
        have dg12 := a.1.2.1
        obtain ⟨u1, u2⟩ := hk_u6 (by omega) (by omega) b.1 v2
        exact g1 v.toNatClampNeg (Nat.zero_le _) (by omega) ((kq _).mpr ((KS_e6 a KS).mpr ⟨by omega, u2⟩))
    exact ⟨τ1, by rw [eN, ev]; exact g2, a2, Or.inl ev⟩
/-! as many ways as nexts -/
theorem k5_21 {T : T5} {Bk nv na j z : Nat} {e : E5} {r30 r31 r32 r39 : Nat → Int32} (h : stm6 T Bk nv na e r30 r31 r32 r39 j z) : r30 j = 5 ↔ e.2.1 506 (11 * j) = 5 := by
  obtain ⟨b, x, pc, _, _, _, _, _, _, h7⟩ := h
  rcases h7 with ⟨q1, q2, _⟩ | ⟨_, _, _, ⟨q1, q2, _⟩ | ⟨q1, q2, _⟩ | ⟨q1, q2, _⟩ | ⟨q1, q2, _⟩ | ⟨q1, q2, _⟩⟩ | ⟨q1, q2, _⟩ | ⟨q1, q2, _⟩
  · rw [q1, q2]; decide
  · rw [q1, q2]; decide
  · rw [q1, q2]; decide
  · rw [q1, q2]; decide
  · rw [q1, q2]
  · rw [q1, q2]
  · rw [q1, q2]
  · rw [q2]
/-- a state that chooses has no more nexts than ways, whenever a run comes to it -/
def TW21 (nv s w : Nat) (cu : E5) (σ : rS) : Prop := ∀ k, k < (σ.1 70).toNatClampNeg → σ.2.2.1 81 k ≠ 0 → ∃ σo, CR7 nv s w cu σo ∧ (∀ i, i < 143 → σo.2.2.1 73 (143 * k + i) = σ.2.2.1 73 (143 * k + i)) ∧ ∃ σ5, g5_act (g5_unpack (Int32.ofNat k) σo) = (σ5, 5) ∧ (σ.2.2.1 76 (k + 1)).toInt - (σ.2.2.1 76 k).toInt ≤ (σ5.1 63).toInt
theorem wb_21 {nv s w d k : Nat} {cu e e' : E5} {σ σ9 : rS} (P : CF6 nv s w e σ) (U : CU21 cu e) (h711 : e.1 711 = 0) (d0 : 0 < d) (M : MT6 nv w s d e σ) (TW : TW21 nv s w cu σ9) (n1 : (σ9.1 70).toNatClampNeg ≤ 1000) (hk : k < (σ9.1 70).toNatClampNeg) (h81 : σ9.2.2.1 81 k ≠ 0) (h73 : σ.2.2.1 73 = σ9.2.2.1 73) (KQ : KQ6 σ k (key6 d σ)) (z : f5_Ma_act e = .inl (e', ())) : (σ9.2.2.1 76 (k + 1)).toInt - (σ9.2.2.1 76 k).toInt ≤ (e'.1 716).toInt := by
  obtain ⟨σo, c7, h73o, σ5, g5, le⟩ := TW k hk h81
  obtain ⟨T, X, Bk, N, Z, na, f, ⟨h1, h2⟩, h3, h4, h5, ⟨h6, h7, h8, h9⟩, h10, h11, h12⟩ := id P
  obtain ⟨T', X', Bk', N', Z', na', f', ⟨i1, i2⟩, i3, i4, i5, ⟨i6, i7, i8⟩, i9, i10, i11⟩ := CR_76 c7 U.1 U.2 ⟨h10, h11, h12⟩
  obtain ⟨MB, AT⟩ := M
  have KS := KS_m6 MB d0 AT
  have est : s ≤ 150 := h3.1.2.2.2.1.2
  have q5 : ∀ j, j < s → σ.2.2.1 30 j = 5 → σo.2.2.1 30 j = 5 := fun j hj q => by
    obtain ⟨z1, _, y1⟩ := h3.2.2.1 j hj
    obtain ⟨z2, _, y2⟩ := i3.2.2.1 j hj
    exact (k5_21 y2).mpr ((k5_21 y1).mp q)
  have KS2 : KS6 w s d (σo.2.2.1 30) (e.2.1 701) (fun i => σo.2.2.1 73 (143 * k + i)) := by
    have y := KS_q6 (q' := fun i => σo.2.2.1 73 (143 * k + i)) KS (fun i hi => by
      show σo.2.2.1 73 (143 * k + i) = _
      rw [h73o i hi, ← h73]
      exact KQ i hi)
    obtain ⟨y1, y2, y3, y4, y5, y6, y7, y8⟩ := y
    refine ⟨y1, y2, y3, y4, y5, y6, fun c hc => ?_, y8⟩
    obtain ⟨j, j1, j2, j3⟩ := y7 c hc
    exact ⟨j, j1, j2, q5 j j1 j3⟩
  obtain ⟨τ, t1, t2, t3, t4, t5, t6⟩ := KS_l6 (by omega) h7 KS2 MB.1.1 MB.2.1.1 MB.2.1.2.2.2.1 MB.2.1.2.2.2.2 (fun i _ => rfl)
  have FW : FMw6 e e (siU σo 11 0) (siU τ 11 0) := ⟨⟨fun _ _ => rfl, fun _ _ => rfl, rfl⟩, fun g q => by
    rw [si1, si1]
    by_cases c : g = 11
    · rw [if_pos c, if_pos c]
    · rw [if_neg c, if_neg c]
      exact t4 g (by omega), fun g q => t5 g (by omega) (by omega) (by omega), t6⟩
  have F2 := FN_w6 i3 FW
  have sx : sx5 (siU τ 11 0) = X' := by
    rw [← i4]
    unfold sx5
    show (τ.2.2.1 5, τ.2.2.1 6, τ.2.2.1 7, τ.2.2.1 9, τ.2.2.2 8) = _
    rw [t5 5 (by decide) (by decide) (by decide), t5 6 (by decide) (by decide) (by decide), t5 7 (by decide) (by decide) (by decide), t5 9 (by decide) (by decide) (by decide), t6]
  obtain ⟨e2, σ2, r, u1, u2, u3, u4, u5⟩ := act_6 (σ := siU τ 11 0) i1 i2 F2 (MB_116 t2) d0 (show AT6 w s d e (siU τ 11 0) from t3) i8 h711 h10 h11 sx (fun j hj => by
    show ∃ n, n ≤ 4 ∧ τ.2.2.1 26 j = Int32.ofNat n
    rw [t5 26 (by decide) (by decide) (by decide)]
    exact i5 j hj)
  rw [act_116, ← t1, g5] at u2
  have e1 : σ5 = σ2 := congrArg Prod.fst u2
  have e3 : r = 5 := (congrArg Prod.snd u2).symm
  have e4 : e2 = e' := congrArg Prod.fst (Sum.inl.inj (u1.symm.trans z))
  rcases u4 with ⟨_, q⟩ | ⟨⟨_, _, _, _, ⟨n, n1, n2, n3, _⟩, _⟩, _⟩
  · exact absurd (Or.inr e3) (AE_r6 q)
  · rw [e4] at n2
    rw [n2, ← n3, ← e1]
    exact le
/-! the statements of a play, along its trace -/
def TRF21 (a : Int32) (σ9 : rS) (N : Nat) (tr : Nat → rS × Int32) (v : Int32) : Prop := (∃ σ0 r0, BG21 σ9 σ0 r0 ∧ TR21 a σ0 r0 N tr) ∧ FI21 a (tr N).1 v (tr N).2
def KT21 (σ9 σ : rS) : Prop := (∀ g, g = 69 ∨ g = 70 ∨ g = 104 ∨ g = 113 → σ.1 g = σ9.1 g) ∧ ∀ g, g = 30 ∨ g = 73 ∨ g = 74 ∨ g = 76 ∨ g = 81 ∨ g = 83 ∨ g = 105 → σ.2.2.1 g = σ9.2.2.1 g
def AL21 (nv w s : Nat) (cu : E5) (σ9 : rS) (e : E5) (x : Int64) (n dr : Int32) (gn : Int64) (p : rS × Int32) : Prop := PL21 nv w s cu e p.1 p.2 ∧ (p.1.1 108 = n ∧ p.1.1 109 = dr ∧ p.1.2.1 110 = gn ∧ (σ9.1 113 ≠ 0 → p.1.2.1 112 = x)) ∧ KT21 σ9 p.1
def WB21 (σ9 : rS) (e : E5) (σ1 : rS) (d : Nat) : Prop := ∀ k, k < (σ9.1 70).toNatClampNeg → KQ6 σ1 k (key6 d σ1) → σ9.2.2.1 81 k ≠ 0 → (σ9.2.2.1 76 (k + 1)).toInt - (σ9.2.2.1 76 k).toInt ≤ (e.1 716).toInt
def MW21 (nv w s : Nat) (cu : E5) (σ9 : rS) (e : E5) (x : Int64) (n dr : Int32) (gn : Int64) (r : Int32) (p : rS × Int32) : Prop := ∃ σ1 d, 0 < d ∧ (CE6 nv s w e σ1 ∧ CU21 cu e) ∧ AW6 nv w d e σ1 r ∧ e.1 714 = 0 ∧ MT6 nv w s d e σ1 ∧ acQ r σ1 ∧ KT21 σ9 σ1 ∧ (σ1.1 108 = n ∧ σ1.1 109 = dr ∧ σ1.2.1 110 = gn ∧ (σ9.1 113 ≠ 0 → σ1.2.1 112 = x)) ∧ (r = 4 → DS21 (ac21 σ1 r) p.1 p.2) ∧ (r = 5 → CS21 (ac21 σ1 r) p.1 p.2 ∧ ∀ k, p.1.2.1 k = (ac21 σ1 r).2.1 k) ∧ (σ9.1 69 ≠ 0 → WB21 σ9 e σ1 d)
theorem kt_f21 {σ9 σ σ' : rS} (h : KT21 σ9 σ) (hf : ∀ g, g = 69 ∨ g = 70 ∨ g = 104 ∨ g = 113 → σ'.1 g = σ.1 g) (hr : ∀ g, g = 30 ∨ g = 73 ∨ g = 74 ∨ g = 76 ∨ g = 81 ∨ g = 83 ∨ g = 105 → σ'.2.2.1 g = σ.2.2.1 g) : KT21 σ9 σ' := ⟨fun g q => (hf g q).trans (h.1 g q), fun g q => (hr g q).trans (h.2 g q)⟩
section
variable {nv s w k N : Nat} {cu e e' : E5} {σ9 : rS} {a n dr v : Int32} {x gn : Int64} {tr : Nat → rS × Int32} {p : rS × Int32}
theorem it_21 (F : TRF21 a σ9 N tr v) (kN : k ≤ N) (h0 : (tr k).2 = 0) (h8 : (tr k).1.1 108 = n) (na : n ≠ a) : k + 1 ≤ N ∧ SP21 (tr k).1 (tr (k + 1)).1 (tr (k + 1)).2 := by
  obtain ⟨⟨σ0, r0, _, _, t1⟩, fi⟩ := F
  by_cases c : k = N
  · exfalso
    rw [← c, h0] at fi
    rcases fi with ⟨q, _⟩ | ⟨_, q, _⟩ | ⟨q, _⟩
    · exact absurd q (by decide)
    · exact na (h8.symm.trans q)
    · exact q rfl
  · have z := t1 k (by omega)
    exact ⟨by omega, z.2.2⟩
/-- a statement of both sides -/
theorem ia_21 (F : TRF21 a σ9 N tr v) (kN : k ≤ N) (A : AL21 nv w s cu σ9 e x n dr gn (tr k)) (h0 : e.1 711 = 0) (na : n ≠ a) (z : f5_Ma_act e = .inl (e', ())) (n1 : (σ9.1 70).toNatClampNeg ≤ 1000) (TW : σ9.1 69 ≠ 0 → TW21 nv s w cu σ9) : k + 1 ≤ N ∧ ((e'.1 715 = -1 ∧ AL21 nv w s cu σ9 e' x (n + 1) dr (gn + (e'.1 714).toInt64) (tr (k + 1))) ∨ (e'.1 715 = 3 ∧ MW21 nv w s cu σ9 e' x n dr gn 4 (tr (k + 1))) ∨ (e'.1 715 = 4 ∧ MW21 nv w s cu σ9 e' x n dr gn 5 (tr (k + 1)))) := by
  obtain ⟨P, ⟨b1, b2, b3, b4⟩, K⟩ := A
  have t0 : (tr k).2 = 0 := P.2.1.symm.trans h0
  obtain ⟨kN1, σs, rs, s1, s2, s3, s4⟩ := it_21 F kN t0 b1 na
  rw [t0] at P
  obtain ⟨e2, σ1, r, d, u1, u2, ⟨C, U⟩, KF, u714, ⟨d0, M⟩, u5⟩ := pa_21 P
  have ee : e2 = e' := congrArg Prod.fst (Sum.inl.inj (u1.symm.trans z))
  have es : σs = σ1 := congrArg Prod.fst (s1.symm.trans u2)
  have er : rs = r := congrArg Prod.snd (s1.symm.trans u2)
  rw [ee] at C U u714 u5
  rw [es, er] at s2 s4
  rw [es] at s3
  have K1 : KT21 σ9 σ1 := kt_f21 K (fun g q => KF.1 g (by omega)) (fun g q => KF.2.1 g (by omega))
  have f108 : σ1.1 108 = n := (KF.1 108 (by omega)).trans b1
  have f109 : σ1.1 109 = dr := (KF.1 109 (by omega)).trans b2
  have f110 : σ1.2.1 110 = gn := (s3 110).trans b3
  have f112 : σ9.1 113 ≠ 0 → σ1.2.1 112 = x := fun q => (s3 112).trans (b4 q)
  refine ⟨kN1, ?_⟩
  rcases u5 with ⟨q1, ⟨q2, q3⟩, q4⟩ | ⟨q1, q2, q3, q4, q5⟩
  · left
    refine ⟨q1, ?_⟩
    obtain ⟨y1, y2⟩ : (tr (k + 1)).1 = ac21 σ1 r ∧ (tr (k + 1)).2 = r := by
      rcases s4 with ⟨y, _⟩ | ⟨y, _⟩ | ⟨_, _, y⟩
      · exact absurd y q2
      · exact absurd y q3
      · exact y
    obtain ⟨⟨p1, p2⟩, p3, p4, p5⟩ := q4
    have hfl : ∀ g, g ≠ 108 → (ac21 σ1 r).1 g = σ1.1 g := fun g q => by
      unfold ac21
      show (siU σ1 108 (σ1.1 108 + 1)).1 g = _
      rw [si1, if_neg q]
    unfold AL21
    rw [y1, y2]
    refine ⟨⟨⟨CF_w6 p1 ⟨⟨fun _ _ => rfl, fun _ _ => rfl, rfl⟩, fun g q => hfl g (by omega), fun _ _ => rfl, rfl⟩, p2⟩, p3, p4, ?_⟩, ⟨?_, (hfl 109 (by decide)).trans f109, ?_, fun q => f112 q⟩, kt_f21 K1 (fun g q => hfl g (by omega)) (fun _ _ => rfl)⟩
    · rcases p5 with ⟨c1, d', c2, c3⟩ | ⟨c1, c2⟩ | ⟨c1, c2⟩ | c1
      · exact Or.inl ⟨c1, d', c2, MT_e6 c3 ⟨⟨rfl, rfl, rfl, rfl, rfl⟩, hfl 58 (by decide), fun _ _ => rfl⟩⟩
      · exact Or.inr (Or.inl ⟨c1, c2.trans (hfl 61 (by decide)).symm⟩)
      · exact Or.inr (Or.inr (Or.inl ⟨c1, c2.trans (hfl 61 (by decide)).symm⟩))
      · exact Or.inr (Or.inr (Or.inr c1))
    · show (siU σ1 108 (σ1.1 108 + 1)).1 108 = _
      rw [si1, if_pos rfl, f108]
    · show σ1.2.1 110 + (if r = 2 then 0 else (σ1.1 62).toInt64) = _
      rw [f110, u714]
      by_cases c : r = 2
      · rw [if_pos c, if_pos c]; rfl
      · rw [if_neg c, if_neg c]
  · have key : key6 d σ1 = key6 d (tr k).1 := key_o6 (q5.2.2 57 (by omega)) (q5.2.2 59 (by omega)) (q5.2.2 60 (by omega))
    have WB : σ9.1 69 ≠ 0 → WB21 σ9 e' σ1 d := fun y j hj hq h81 => by
      rw [key] at hq
      refine wb_21 P.1.1 P.1.2 h0 d0 M (TW y) n1 hj h81 (K.2 73 (by omega)) (fun i hi => ?_) z
      rw [← KF.2.1 73 (by omega)]
      exact hq i hi
    right
    rcases q2.1 with ⟨y, y2⟩ | ⟨y, y2⟩
    · left
      rw [y] at q2 s2 s4
      refine ⟨y2, σ1, d, d0, ⟨C, U⟩, q2, q3, q4, s2, K1, ⟨f108, f109, f110, f112⟩, fun _ => ?_, fun c => absurd c (by decide), WB⟩
      rcases s4 with ⟨_, c⟩ | ⟨c, _⟩ | ⟨c, _⟩
      · exact c
      · exact absurd c (by decide)
      · exact absurd rfl c
    · right
      rw [y] at q2 s2 s4
      refine ⟨y2, σ1, d, d0, ⟨C, U⟩, q2, q3, q4, s2, K1, ⟨f108, f109, f110, f112⟩, fun c => absurd c (by decide), fun _ => ?_, WB⟩
      rcases s4 with ⟨c, _⟩ | ⟨_, c⟩ | ⟨_, c, _⟩
      · exact absurd c (by decide)
      · exact c
      · exact absurd rfl c
/-- the counters behind a draw or a choice -/
theorem qw_a21 {σ1 : rS} {r : Int32} : QW21 σ1 (ac21 σ1 r) := ⟨fun g q _ => by
  show (siU σ1 108 (σ1.1 108 + 1)).1 g = _
  rw [si1, if_neg q], fun _ _ _ _ => rfl, rfl⟩
theorem qw_t21 {a b c : rS} (h : QW21 a b) (g : QW21 b c) : QW21 a c := ⟨fun k x y => (g.1 k x y).trans (h.1 k x y), fun k x y z => (g.2.1 k x y z).trans (h.2.1 k x y z), g.2.2.trans h.2.2⟩
theorem ac_g21 {σ1 : rS} {r : Int32} (h : (σ1.1 62) = 0) : (ac21 σ1 r).2.1 110 = σ1.2.1 110 := by
  show σ1.2.1 110 + (if r = 2 then 0 else (σ1.1 62).toInt64) = _
  rw [h]
  have z : (if r = 2 then (0 : Int64) else (0 : Int32).toInt64) = 0 := by
    by_cases c : r = 2
    · rw [if_pos c]
    · rw [if_neg c]; rfl
  rw [z]
  exact Int64.add_zero _
end

end
section
set_option maxHeartbeats 1600000
/-! the class: a row looked up, a way drawn -/
theorem Ho_find_c2 {C : zC} {n0 : Nat} {a0 : Nat} {a1 : Nat} {a2 : Int32} {κ : zS} {Q : Int32 → zS → Prop} (W : zW C n0 κ) (Ta0 : zT κ a0 = 6) (Ta1 : zT κ a1 = 20) (M D S : Nat) (hp : hoI κ a0 M D S ∧ hoP M D S ∧ hoU9 κ a0 S ∧ 0 ≤ a2.toInt ∧ a2.toInt ≤ zN κ a1) (h : ∀ (v : Int32), ((v = -1 ∧ (zI κ hoTotal a0).toInt = 0) ∨ ∃ j, j < S ∧ hkW9 κ a0 S (zA κ a1) a2 j ∧ ((v = -1 ∧ zA κ (zR κ hoTable a0) (hs9 S (zA κ a1) a2 j).toNatClampNeg = 0) ∨ (0 ≤ v.toInt ∧ v.toInt < (zI κ hoTotal a0).toInt ∧ hk9 κ a0 (zA κ a1) a2.toInt v.toNatClampNeg ∧ (zA κ (zR κ hoTable a0) (hs9 S (zA κ a1) a2 j).toNatClampNeg).toInt = v.toInt + 1))) → Q v κ) : zRun C 2 mHo_find [.ref a0, .ref a1, .int a2] κ (oI Q noX) := by
  refine Ho_find_run W Ta0 Ta1 ?_
  replace W := W.lo (Nat.le_trans W.1.2.1 W.1.2.2) (Nat.le_refl (zn κ))
  unfold w_Ho_find_0
  obtain ⟨H, P, U, h0, hl⟩ := hp
  have B := hoP_b P
  have tN := W.n (ty_hoTable W Ta0)
  have nN := W.n Ta1
  refine ⟨fun c1 => ?_, fun c1 => ?_⟩
  · skip
    refine h _ ?_
    · left
      refine ⟨rfl, ?_⟩
      rcases H.2.2.2 with z | z
      · exact z.2.2
      · have e : zN κ (zR κ hoTable a0) = S := z.1
        rw [e] at c1
        have y := congrArg Int32.toInt c1
        rw [ofn_i (by omega), t0i] at y
        omega
  · skip
    have A := hoI_A H (Or.inr (fun e => c1 (by have e9 : zN κ (zR κ hoTable a0) = 0 := e; rw [e9]; rfl)))
    refine ⟨fun c2 => ?_, fun c2 => ?_⟩
    · skip
      intro T3
      intro T4
      refine Ho_slotOf_c2 W T3 T4 M D S ?_ (fun r5 q7 => ?_)
      · exact ⟨A, P, H.2.1.1, H.2.1.2, H.2.2.1.2, hl, U, h0⟩  -- p2
      intro W8
      intro M9
      refine ⟨?_, ?_⟩
      · rw [inb_iff, show zN κ (zR κ hoTable a0) = S from A.1]; exact q7.1  -- b3
      refine h _ ?_
      · obtain ⟨⟨y0, y1⟩, j, j1, j2, j3, j4⟩ := q7
        have z := A.2.2.2.2.2 r5.toNatClampNeg (by have := cnk y0; omega)
        have tM := H.2.1.2
        have e : (zA κ (zR κ hoTable a0) r5.toNatClampNeg - 1).toInt = (zA κ (zR κ hoTable a0) r5.toNatClampNeg).toInt - 1 := by rw [sub_i (by rw [t1i]; omega) (by rw [t1i]; omega), t1i]
        right
        refine ⟨j, j1, j3, ?_⟩
        rw [← j2]
        by_cases c : zA κ (zR κ hoTable a0) r5.toNatClampNeg = 0
        · left
          refine ⟨?_, c⟩
          rw [c]
          rfl
        · right
          have n : (zA κ (zR κ hoTable a0) r5.toNatClampNeg).toInt ≠ 0 := fun q => c (Int32.toInt_inj.mp q)
          have k9 := cnk (x := zA κ (zR κ hoTable a0) r5.toNatClampNeg - 1) (by rw [e]; omega)
          have nn : (zA κ (zR κ hoTable a0) r5.toNatClampNeg - 1).toNatClampNeg = ((zA κ (zR κ hoTable a0) r5.toNatClampNeg).toInt - 1).toNat := by omega
          refine ⟨by rw [e]; omega, by rw [e]; omega, ?_, by rw [e]; omega⟩
          rw [nn]
          exact j4.resolve_left c
    · skip
      refine h _ ?_
      · rw [lei, ofn_i nN] at c2
        omega

theorem At_chosen_c2 {C : zC} {n0 : Nat} {a0 : Nat} {a1 : Nat} {κ : zS} {Q : Int32 → zS → Prop} (W : zW C n0 κ) (Ta0 : zT κ a0 = 3) (Ta1 : zT κ a1 = 7)  (hp : atH κ a0 ∧ (zI κ atExplored a0 ≠ 0 → atM κ a0) ∧ (zI κ atExplored a0 ≠ 0 → hoU9 κ (zR κ atStates a0) 2048 ∧ 0 ≤ (zI κ maShared a1 + zI κ maOpen a1 * 9).toInt ∧ (zI κ maShared a1 + zI κ maOpen a1 * 9).toInt ≤ zN κ (zR κ maMemory a1))) (h : ∀ (v : Int32), ((zI κ atExplored a0 = 0 → v = 0) ∧ (zI κ atExplored a0 ≠ 0 → ∃ k, FD21 κ (zR κ atStates a0) (zA κ (zR κ maMemory a1)) (zI κ maShared a1 + zI κ maOpen a1 * 9) k ∧ v = (if k = -1 then 0 else if zI κ maWays a1 ≤ zA κ (zR κ atPlan a0) k.toNatClampNeg then 0 else zA κ (zR κ atPlan a0) k.toNatClampNeg))) → Q v κ) : zRun C 3 mAt_chosen [.ref a0, .ref a1] κ (oI Q noX) := by
  refine At_chosen_run W Ta0 Ta1 ?_
  replace W := W.lo (Nat.le_trans W.1.2.1 W.1.2.2) (Nat.le_refl (zn κ))
  unfold w_At_chosen_0
  obtain ⟨h1, h2, h3⟩ := hp
  have tT := h1.1.2.1.2
  have hj26 : ∀ (l0 : Nat) (l1 : Nat) (s0 : Int32) (τ : zS), zW C (zn κ) τ → zT τ l0 = 3 → zT τ l1 = 7 → (κ = τ ∧ a0 = l0 ∧ a1 = l1 ∧ (zI κ atExplored a0 = 0 → s0 = -1) ∧ (zI κ atExplored a0 ≠ 0 → FD21 κ (zR κ atStates a0) (zA κ (zR κ maMemory a1)) (zI κ maShared a1 + zI κ maOpen a1 * 9) s0)) → w_At_chosen_26 C (zn κ) Q  l0 l1 s0 τ := by
    rintro _ _ y26_s0 _ W26 T26_0 T26_1 ⟨rfl, rfl, rfl, j26⟩
    unfold w_At_chosen_26
    refine ⟨fun c1 => ?_, fun c1 => ?_⟩
    · skip
      refine h _ ?_
      · exact ⟨fun _ => rfl, fun z => ⟨y26_s0, j26.2 z, by rw [if_pos c1]⟩⟩  -- q1
    · skip
      have ex : zI κ atExplored a0 ≠ 0 := fun z => c1 (j26.1 z)
      have fd := j26.2 ex
      have bd : 0 ≤ y26_s0.toInt ∧ y26_s0.toInt < 1000 := by
        rcases fd with ⟨z, _⟩ | ⟨j, _, _, ⟨z, _⟩ | ⟨v0, v1, _⟩⟩
        · exact absurd z c1
        · exact absurd z c1
        · exact ⟨v0, by omega⟩
      have L := (h2 ex).2.2.2.1
      refine ⟨?_, ?_⟩
      · rw [inb_iff]; omega  -- b2
      refine ⟨fun c2 => ?_, fun c2 => ?_⟩
      · skip
        refine h _ ?_
        · exact ⟨fun z => absurd z ex, fun _ => ⟨y26_s0, fd, by rw [if_neg c1, if_pos c2]⟩⟩  -- q3
      · skip
        refine ⟨?_, ?_⟩
        · rw [inb_iff]; omega  -- b4
        refine h _ ?_
        · exact ⟨fun z => absurd z ex, fun _ => ⟨y26_s0, fd, by rw [if_neg c1, if_neg c2]⟩⟩  -- q5
  refine ⟨fun c3 => ?_, fun c3 => ?_⟩
  · skip
    refine hj26 _ _ _ _ W ?_ ?_ ?_
    · exact Ta0  -- t6
    · exact Ta1  -- t7
    · exact ⟨rfl, rfl, rfl, fun _ => rfl, fun z => absurd c3 z⟩  -- k8
  · skip
    intro T4
    refine Ma_length_c W T4  (fun r5 q7 => ?_)
    intro W8
    intro M9
    intro T10
    intro T11
    refine Ho_find_c2 W8 T10 T11 1000 142 2048 ?_ (fun r12 q14 => ?_)
    · have y := h3 c3
      rw [q7]
      exact ⟨h1.1, hP1, y.1, y.2⟩
    intro W15
    intro M16
    refine hj26 _ _ _ _ W15 ?_ ?_ ?_
    · exact Ta0  -- t10
    · exact Ta1  -- t11
    · refine ⟨rfl, rfl, rfl, fun z => absurd z c3, fun _ => ?_⟩
      rw [← q7]
      exact q14

theorem Ma_wayAt_c2 {C : zC} {n0 : Nat} {a0 : Nat} {a1 : Int64} {κ : zS} {Q : Int32 → zS → Prop} (W : zW C n0 κ) (Ta0 : zT κ a0 = 7)  (hp : maL κ a0 ∧ (zI κ maWays a0).toInt ≤ 64 ∧ (0 < (zI κ maTotal a0).toInt ∧ (zI κ maTotal a0).toInt ≤ 8000000) ∧ (0 ≤ a1.toInt ∧ a1.toInt < 2147483648) ∧ (∀ i : Nat, (i : Int) < (zI κ maWays a0).toInt → 0 ≤ (zA κ (zR κ maWeights a0) i).toInt ∧ (zA κ (zR κ maWeights a0) i).toInt ≤ 1000000) ∧ (zI κ maTotal a0).toInt = wsum (zA κ (zR κ maWeights a0)) ((zI κ maWays a0).toInt).toNat) (h : ∀ (v : Int32), (0 ≤ v.toInt ∧ fw21 (zA κ (zR κ maWeights a0)) ((zI κ maWays a0).toInt).toNat (a1.toInt % (zI κ maTotal a0).toInt) v.toNatClampNeg) → Q v κ) : zRun C 0 mMa_wayAt [.ref a0, .long a1] κ (oI Q noX) := by
  refine Ma_wayAt_run W Ta0 ?_
  replace W := W.lo (Nat.le_trans W.1.2.1 W.1.2.2) (Nat.le_refl (zn κ))
  unfold w_Ma_wayAt_0
  obtain ⟨H, p0, ⟨t0, t1⟩, ⟨r0, r1⟩, hw, ht⟩ := hp
  have B := H.2.2.2.2
  have w0 : 0 ≤ (zI κ maWays a0).toInt := by
    by_cases c : 0 ≤ (zI κ maWays a0).toInt
    · exact c
    · have z : ((zI κ maWays a0).toInt).toNat = 0 := by omega
      rw [z] at ht
      have z0 : wsum (zA κ (zR κ maWeights a0)) 0 = 0 := rfl
      omega
  have m0 := Int.emod_nonneg a1.toInt (by omega : (zI κ maTotal a0).toInt ≠ 0)
  have m1 := Int.emod_lt_of_pos a1.toInt t0
  have hm : ∀ m, m ≤ ((zI κ maWays a0).toInt).toNat → 0 ≤ wsum (zA κ (zR κ maWeights a0)) m ∧ wsum (zA κ (zR κ maWeights a0)) m ≤ (zI κ maTotal a0).toInt := fun m q => by
    refine ⟨?_, ?_⟩
    · exact wsum_mono (m := 0) (fun i hi => (hw i (by omega)).1) (Nat.zero_le _)
    · rw [ht]
      exact wsum_mono (fun i hi => (hw i (by omega)).1) q
  have hj18 : ∀ (l0 : Nat) (s0 : Int64) (τ : zS), zW C (zn κ) τ → zT τ l0 = 7 → (κ = τ ∧ a0 = l0 ∧ s0.toInt = a1.toInt % (zI κ maTotal a0).toInt) → w_Ma_wayAt_18 C (zn κ) Q  l0 s0 τ := by
    rintro _ y18_s0 _ W18 T18_0 ⟨rfl, rfl, j18⟩
    unfold w_Ma_wayAt_18
    unfold w_Ma_wayAt_25
    refine ⟨fun n l0 l3 l5 l7 τ => n = ((zI κ maWays a0).toInt - l7.toInt).toNat ∧ (κ = τ ∧ a0 = l0 ∧ 0 ≤ l7.toInt ∧ l7.toInt ≤ (zI κ maWays a0).toInt ∧ l3.toInt = a1.toInt % (zI κ maTotal a0).toInt ∧ l5.toInt = wsum (zA κ (zR κ maWeights a0)) l7.toNatClampNeg ∧ l5.toInt ≤ l3.toInt), ⟨_, rfl, ?_⟩, ?_⟩
    · refine ⟨rfl, rfl, by decide, w0, j18, rfl, ?_⟩
      rw [j18]
      exact m0
    rintro n25 _ x25_3 x25_5 x25_7 _ W25 T25_0 ⟨hn25, rfl, rfl, i25⟩
    obtain ⟨k0, k1, k2, k3, k4⟩ := i25
    have kk := cnk k0
    refine ⟨fun c1 => ?_, fun c1 => ?_⟩
    · skip
      refine h _ ?_
      · rw [lei] at c1
        have e : x25_7.toNatClampNeg = ((zI κ maWays a0).toInt).toNat := by omega
        rw [e, ← ht] at k3
        omega
    · skip
      have d1 : x25_7.toInt < (zI κ maWays a0).toInt := by rw [lei] at c1; omega
      have e1 := inc_i (x := x25_7) (y := zI κ maWays a0) k0 d1
      have wk := hw x25_7.toNatClampNeg (by omega)
      have b5 := hm x25_7.toNatClampNeg (by omega)
      have hs : wsum (zA κ (zR κ maWeights a0)) (x25_7.toNatClampNeg + 1) = wsum (zA κ (zR κ maWeights a0)) x25_7.toNatClampNeg + (zA κ (zR κ maWeights a0) x25_7.toNatClampNeg).toInt := rfl
      have cs : (x25_7 + 1).toNatClampNeg = x25_7.toNatClampNeg + 1 := by have := cnk (x := x25_7 + 1) (by rw [e1]; omega); omega
      refine ⟨?_, ?_⟩
      · rw [inb_iff]; omega  -- b3
      intro x2 hx2
      refine ⟨fun c3 => ?_, fun c3 => ?_⟩
      · skip
        intro x4 hx4
        refine ⟨_, ?_, rfl, ?_⟩
        · rw [hn25, hx4, e1]; omega  -- d4
        · have s2 : x2.toInt = wsum (zA κ (zR κ maWeights a0)) (x25_7.toNatClampNeg + 1) := by
            rw [hx2, hs]
            exact l64_add k3 (Int32.toInt_toInt64 _) b5.1 (by omega) wk.1 (by omega)
          have le := Int64.le_iff_toInt_le.mp ((lg_cmp_le _ _).mp c3)
          exact ⟨rfl, rfl, by rw [hx4, e1]; omega, by rw [hx4, e1]; omega, k2, by rw [hx4, cs]; exact s2, le⟩
      · skip
        refine h _ ?_
        · have s2 : x2.toInt = wsum (zA κ (zR κ maWeights a0)) (x25_7.toNatClampNeg + 1) := by
            rw [hx2, hs]
            exact l64_add k3 (Int32.toInt_toInt64 _) b5.1 (by omega) wk.1 (by omega)
          have le : ¬ x2 ≤ x25_3 := fun z => c3 ((lg_cmp_le _ _).mpr z)
          have lt : x25_3.toInt < x2.toInt := by
            rw [Int64.le_iff_toInt_le] at le
            omega
          exact ⟨k0, by omega, by omega, by omega⟩
  refine ⟨fun c5 => ?_, fun c5 => ?_⟩
  · skip
    refine hj18 _ _ _ W ?_ ?_
    · exact Ta0  -- t7
    · rw [lei, t0i] at c5
      omega
  · skip
    refine ⟨?_, ?_⟩
    · intro e
      have e9 := congrArg Int64.toInt e
      rw [Int32.toInt_toInt64] at e9
      have z9 : (0 : Int64).toInt = 0 := rfl
      rw [z9] at e9
      omega
    refine hj18 _ _ _ W ?_ ?_
    · exact Ta0  -- t10
    · refine ⟨rfl, rfl, ?_⟩
      rw [mod_e21 r0 r1 (by rw [Int32.toInt_toInt64]; exact t0) (by rw [Int32.toInt_toInt64]; exact t1), Int32.toInt_toInt64]

/-- a way drawn, whatever the ways are -/
theorem Ma_wayAt_c3 {C : zC} {n0 : Nat} {a0 : Nat} {a1 : Int64} {κ : zS} {Q : Int32 → zS → Prop} (W : zW C n0 κ) (Ta0 : zT κ a0 = 7)  (hp : maL κ a0 ∧ (zI κ maWays a0).toInt ≤ 64) (h : ∀ (v : Int32), ((0 ≤ v.toInt ∧ (v = 0 ∨ v.toInt < (zI κ maWays a0).toInt)) ∧ (((0 < (zI κ maTotal a0).toInt ∧ (zI κ maTotal a0).toInt ≤ 8000000) ∧ (0 ≤ a1.toInt ∧ a1.toInt < 2147483648) ∧ (∀ i : Nat, (i : Int) < (zI κ maWays a0).toInt → 0 ≤ (zA κ (zR κ maWeights a0) i).toInt ∧ (zA κ (zR κ maWeights a0) i).toInt ≤ 1000000) ∧ (zI κ maTotal a0).toInt = wsum (zA κ (zR κ maWeights a0)) (zI κ maWays a0).toInt.toNat) → 0 ≤ v.toInt ∧ fw21 (zA κ (zR κ maWeights a0)) (zI κ maWays a0).toInt.toNat (a1.toInt % (zI κ maTotal a0).toInt) v.toNatClampNeg)) → Q v κ) : zRun C 0 mMa_wayAt [.ref a0, .long a1] κ (oI Q noX) := by
  by_cases P : ((0 < (zI κ maTotal a0).toInt ∧ (zI κ maTotal a0).toInt ≤ 8000000) ∧ (0 ≤ a1.toInt ∧ a1.toInt < 2147483648) ∧ (∀ i : Nat, (i : Int) < (zI κ maWays a0).toInt → 0 ≤ (zA κ (zR κ maWeights a0) i).toInt ∧ (zA κ (zR κ maWeights a0) i).toInt ≤ 1000000) ∧ (zI κ maTotal a0).toInt = wsum (zA κ (zR κ maWeights a0)) (zI κ maWays a0).toInt.toNat)
  · refine Ma_wayAt_c2 W Ta0 ⟨hp.1, hp.2, P⟩ (fun v q => h v ⟨⟨q.1, Or.inr ?_⟩, fun _ => q⟩)
    have z := q.2.1
    have k := cnk q.1
    omega
  · exact Ma_wayAt_c W Ta0 hp (fun v q => h v ⟨q, fun z => absurd z P⟩)

end
section
set_option maxHeartbeats 1600000
/-! a play, of both sides: choices, draws, its beginning and its end -/
theorem sl_s21 {σ : rS} {k : Nat} {x : Int64} : (slU σ k x).2.1 k = x := if_pos rfl
theorem sl_o21 {σ : rS} {k j : Nat} {x : Int64} (h : j ≠ k) : (slU σ k x).2.1 j = σ.2.1 j := if_neg h
/-- the plan takes nexts that there are -/
def PB21 (σ : rS) : Prop := ∀ k, k < (σ.1 70).toNatClampNeg → (σ.2.2.1 81 k = 0 → σ.2.2.1 83 k = 0) ∧ (σ.2.2.1 81 k ≠ 0 → 0 ≤ (σ.2.2.1 83 k).toInt ∧ (σ.2.2.1 83 k).toInt < (σ.2.2.1 76 (k + 1)).toInt - (σ.2.2.1 76 k).toInt)
/-- what the plan takes, of the class -/
def CV21 (κ : zS) (t m : Nat) (v : Int32) : Prop := (zI κ atExplored t = 0 → v = 0) ∧ (zI κ atExplored t ≠ 0 → ∃ k, FD21 κ (zR κ atStates t) (zA κ (zR κ maMemory m)) (zI κ maShared m + zI κ maOpen m * 9) k ∧ v = (if k = -1 then 0 else if zI κ maWays m ≤ zA κ (zR κ atPlan t) k.toNatClampNeg then 0 else zA κ (zR κ atPlan t) k.toNatClampNeg))
/-- what was explored, of both sides, as plays need it -/
def EX21 (κ : zS) (t w s : Nat) (σ9 : rS) : Prop := (zI κ atExplored t = 0 ↔ σ9.1 69 = 0) ∧ (σ9.1 69 ≠ 0 → ∃ n, SH6 κ (zR κ atStates t) w s n σ9 ∧ σ9.1 70 = Int32.ofNat n ∧ HT6 n σ9 ∧ (∀ k, k < n → zA κ (zR κ atPlan t) k = σ9.2.2.1 83 k) ∧ PB21 σ9)
section
variable {nv s w t m : Nat} {cu e e' : E5} {κ : zS} {σ9 : rS} {a n dr v : Int32} {x gn : Int64} {p : rS × Int32}
theorem ln_21 {w d : Nat} (hw : w ≤ 34) (hd : d ≤ 12) : Int32.ofNat w + Int32.ofNat d * 9 = Int32.ofNat (w + 9 * d) := by
  have l9 : (9 : Int32).toInt = 9 := rfl
  have ld := ofn_i (n := d) (by omega)
  have lw := ofn_i (n := w) (by omega)
  have m9 : (Int32.ofNat d * 9).toInt = 9 * (d : Int) := by
    rw [mul_i (by rw [ld, l9]; omega) (by rw [ld, l9]; omega), ld, l9]
    omega
  refine Int32.toInt_inj.mp ?_
  rw [add_i (by rw [lw, m9]; omega) (by rw [lw, m9]; omega), lw, m9, ofn_i (by omega)]
  omega
/-- a choice of both sides -/
theorem ic_21 (M : MW21 nv w s cu σ9 (am6 κ m) x n dr gn 5 p) (E : EX21 κ t w s σ9) (V : CV21 κ t m v) (z : f5_Ma_settle v (am6 κ m) = .inl (e', ())) : AL21 nv w s cu σ9 e' x (n + 1) dr (gn + (e'.1 714).toInt64) p := by
  obtain ⟨σ1, d, d0, ⟨C, U⟩, AW, q714, MT, acq, K, ⟨f1, f2, f3, f4⟩, _, h5, WB⟩ := M
  obtain ⟨⟨τ, k, cj, g⟩, h2⟩ := h5 rfl
  have s62 : σ1.1 62 = 0 := AW.2.2.1.symm.trans q714
  obtain ⟨nw, nw1, nw2, nw3, _⟩ := AW.2.2.2.2.1
  have nwi : ((am6 κ m).1 716).toInt = (nw : Int) := by rw [nw2, ofn_i (by omega)]
  have nw0 : 1 ≤ nw := by
    rcases acq with ⟨q, _⟩ | q | q | q | ⟨q, _⟩ | ⟨_, _, _, q, _⟩
    · exact absurd q (by decide)
    · exact absurd q (by decide)
    · exact absurd q (by decide)
    · exact absurd q (by decide)
    · exact absurd q (by decide)
    · rw [nw3, lei, ofn_i (by omega), t1i] at q
      omega
  have mw : zI κ maWays m = Int32.ofNat nw := (am_i6 (f := 716) (by decide)).symm.trans nw2
  have fin : ∀ i : Nat, i < nw → v = Int32.ofNat i → g5_get (Int32.ofNat i) τ = (p.1, p.2) → (τ.1 = (ac21 σ1 5).1 ∧ (∀ j, j ≠ 84 → τ.2.2.1 j = σ1.2.2.1 j) ∧ τ.2.2.2 = σ1.2.2.2) → AL21 nv w s cu σ9 e' x (n + 1) dr (gn + (e'.1 714).toInt64) p := fun i hi ev g Q => by
    have QW : QW21 σ1 τ := ⟨fun j j1 j2 => by rw [Q.1]; exact (qw_a21 (r := 5)).1 j j1 j2, fun j j1 _ _ => Q.2.1 j j1, Q.2.2⟩
    obtain ⟨e2, σ2, r2, u1, u2, u3, u4, u5, u6, u7⟩ := ps_21 (i := i) C U d0 AW MT QW (by rw [nwi]; omega)
    rw [ev, u1] at z
    have ee : e2 = e' := congrArg Prod.fst (Sum.inl.inj z)
    have e1 : σ2 = p.1 := congrArg Prod.fst (u2.symm.trans g)
    have e3 : r2 = p.2 := congrArg Prod.snd (u2.symm.trans g)
    rw [ee] at u3 u4
    rw [e1, e3] at u3
    rw [e1] at u5 u6
    refine ⟨u3, ⟨?_, ?_, ?_, fun y => ?_⟩, kt_f21 K (fun j q => (u5 j (by omega) (by omega)).trans (QW.1 j (by omega) (by omega))) (fun j q => (u6 j (by omega) (by omega) (by omega)).trans (Q.2.1 j (by omega)))⟩
    · rw [u5 108 (by decide) (by decide), Q.1]
      show (siU σ1 108 (σ1.1 108 + 1)).1 108 = _
      rw [si1, if_pos rfl, f1]
    · rw [u5 109 (by decide) (by decide), Q.1]
      show (siU σ1 108 (σ1.1 108 + 1)).1 109 = _
      rw [si1, if_neg (by decide), f2]
    · rw [h2 110, ac_g21 s62, f3, u4, q714]
      exact (Int64.add_zero _).symm
    · rw [h2 112]
      exact f4 y
  by_cases ex : σ9.1 69 = 0
  · have cv := V.1 (E.1.mpr ex)
    rcases cj with ⟨_, c2, c3⟩ | ⟨c1, _⟩
    · rw [c3, if_pos rfl] at g
      exact fin 0 (by omega) cv g (by rw [c2]; exact ⟨rfl, fun _ _ => rfl, rfl⟩)
    · exact absurd ((K.1 69 (by omega)).trans ex) c1
  · obtain ⟨n0, S, e70, HT, PL, PB⟩ := E.2 ex
    obtain ⟨k', FD, cv⟩ := V.2 (fun y => ex (E.1.mp y))
    have n1000 : n0 ≤ 1000 := S.2.2.1
    have K30 := K.2 30 (by omega)
    have K73 := K.2 73 (by omega)
    have K74 := K.2 74 (by omega)
    have K83 := K.2 83 (by omega)
    have MB := MT.1
    have KS := KS_m6 MT.1 d0 MT.2
    have hL : zI κ maShared m + zI κ maOpen m * 9 = Int32.ofNat (w + 9 * d) := by
      rw [show zI κ maShared m = Int32.ofNat w from (am_i6 (f := 702) (by decide)).symm.trans MB.1.1, show zI κ maOpen m = Int32.ofNat d from (am_i6 (f := 703) (by decide)).symm.trans MB.2.1.1]
      exact ln_21 MB.1.2.2.1 MB.2.1.2.2.1
    rw [hL, ← (am_rw6 (κ := κ) (m := m) (f := 701) (by decide)).1] at FD
    have S' : SH6 κ (zR κ atStates t) w s n0 (ac21 σ1 5) := SH_h6 HS_r6 S K30 K73
    have HT' : HT6 n0 (ac21 σ1 5) := fun j hj => by
      show σ1.2.2.1 74 j = hh6 (fun i => σ1.2.2.1 73 (143 * j + i)) 143
      rw [K73, K74]
      exact HT j hj
    obtain ⟨τ', y1, y2, y3⟩ := fnd_21 (σ := ac21 σ1 5) S' (show KS6 w s d ((ac21 σ1 5).2.2.1 30) ((am6 κ m).2.1 701) (key6 d (ac21 σ1 5)) by rw [show key6 d (ac21 σ1 5) = key6 d σ1 from key_o6 rfl rfl rfl]; exact KS) (by rw [(qw_a21 (r := 5)).1 58 (by decide) (by decide)]; exact MB.2.1.2.1) (by rw [(qw_a21 (r := 5)).1 70 (by decide) (by decide), K.1 70 (by omega)]; exact e70) HT' FD
    rcases cj with ⟨c1, _⟩ | ⟨_, c2⟩
    · exact absurd (by rw [(qw_a21 (r := 5)).1 69 (by decide) (by decide), K.1 69 (by omega)] at c1; exact c1) ex
    · have et : τ = τ' := congrArg Prod.fst (c2.symm.trans y1)
      have ek : k = k' := congrArg Prod.snd (c2.symm.trans y1)
      rw [← ek] at cv y3
      have Q : τ.1 = (ac21 σ1 5).1 ∧ (∀ j, j ≠ 84 → τ.2.2.1 j = σ1.2.2.1 j) ∧ τ.2.2.2 = σ1.2.2.2 := by
        rw [et]
        exact ⟨y2.1, fun j hj => y2.2.2.1 j hj, y2.2.2.2⟩
      by_cases km : k = -1
      · rw [if_pos km] at g cv
        exact fin 0 (by omega) cv g Q
      · rw [if_neg km] at g cv
        obtain ⟨gi, q1, q2, q3⟩ := y3.resolve_left km
        have cg : k.toNatClampNeg = gi := by rw [q1]; exact cl_5 (by omega)
        have g83 : (ac21 σ1 5).2.2.1 83 k.toNatClampNeg = σ9.2.2.1 83 gi := by
          rw [cg]
          show σ1.2.2.1 83 gi = _
          rw [K83]
        rw [g83] at g
        rw [cg, PL gi q2, mw] at cv
        have n70 : (σ9.1 70).toNatClampNeg = n0 := by rw [e70]; exact cl_5 (by omega)
        obtain ⟨pb1, pb2⟩ := PB gi (by rw [n70]; exact q2)
        by_cases c81 : σ9.2.2.1 81 gi = 0
        · have z83 := pb1 c81
          rw [z83] at g cv
          have cv0 : v = 0 := by
            rw [cv]
            by_cases y : Int32.ofNat nw ≤ 0
            · rw [if_pos y]
            · rw [if_neg y]
          exact fin 0 (by omega) cv0 g Q
        · obtain ⟨b1, b2⟩ := pb2 c81
          have wb := WB ex gi (by rw [n70]; exact q2) (fun i hi => q3 i hi) c81
          rw [nwi] at wb
          have cv1 : v = σ9.2.2.1 83 gi := by
            rw [cv, if_neg (by rw [lei, ofn_i (by omega)]; omega)]
          have ei : σ9.2.2.1 83 gi = Int32.ofNat (σ9.2.2.1 83 gi).toInt.toNat := Int32.toInt_inj.mp (by rw [ofn_i (by omega)]; omega)
          rw [ei] at g
          exact fin (σ9.2.2.1 83 gi).toInt.toNat (by omega) (cv1.trans ei) g Q
/-- what is known of the way drawn -/
def HW21 (σ9 : rS) (e : E5) (x : Int64) (dr : Int32) (y : Int32) : Prop := (σ9.1 113 ≠ 0 → 0 ≤ y ∧ fw21 (e.2.1 719) (e.1 716).toInt.toNat (sh21 (sd21 x) % (e.1 717).toInt) y.toNatClampNeg) ∧ (σ9.1 113 = 0 → dr ≠ σ9.1 104 ∧ y = σ9.2.2.1 105 dr.toNatClampNeg)
/-- a draw of both sides -/
theorem id_21 {y : Int32} (M : MW21 nv w s cu σ9 e x n dr gn 4 p) (H : HW21 σ9 e x dr y) : (0 ≤ y.toInt ∧ y.toInt < (e.1 716).toInt → ∀ e', f5_Ma_settle y e = .inl (e', ()) → AL21 nv w s cu σ9 e' (sd21 x) (n + 1) (dr + 1) (gn + (e'.1 714).toInt64) p) ∧ (¬ (0 ≤ y.toInt ∧ y.toInt < (e.1 716).toInt) → AL21 nv w s cu σ9 (fl6 711 2 (fl6 713 6 e)) (sd21 x) (n + 1) dr (gn + ((fl6 711 2 (fl6 713 6 e)).1 714).toInt64) p) := by
  obtain ⟨σ1, d, d0, ⟨C, U⟩, AW, q714, MT, acq, K, ⟨f1, f2, f3, f4⟩, h4, _, _⟩ := M
  obtain ⟨σ2, i, dw, ds⟩ := h4 rfl
  have s62 : σ1.1 62 = 0 := AW.2.2.1.symm.trans q714
  obtain ⟨nw, nw1, nw2, nw3, nw4⟩ := AW.2.2.2.2.1
  have nwi : (e.1 716).toInt = (nw : Int) := by rw [nw2, ofn_i (by omega)]
  have oW1 : oW σ1 := by
    rcases acq with ⟨q, _⟩ | q | q | q | ⟨_, _, _, q⟩ | ⟨q, _⟩
    · exact absurd q (by decide)
    · exact absurd q (by decide)
    · exact absurd q (by decide)
    · exact absurd q (by decide)
    · exact q
    · exact absurd q (by decide)
  have c63 : (σ1.1 63).toNatClampNeg = nw := by rw [nw3]; exact cl_5 (by omega)
  have a63 : (ac21 σ1 4).1 63 = Int32.ofNat nw := ((qw_a21 (r := 4)).1 63 (by decide) (by decide)).trans nw3
  have a66 : (ac21 σ1 4).1 66 = e.1 717 := ((qw_a21 (r := 4)).1 66 (by decide) (by decide)).trans AW.2.2.2.1.symm
  have a108 : (ac21 σ1 4).1 108 = n + 1 := by
    show (siU σ1 108 (σ1.1 108 + 1)).1 108 = _
    rw [si1, if_pos rfl, f1]
  have a109 : (ac21 σ1 4).1 109 = dr := by
    show (siU σ1 108 (σ1.1 108 + 1)).1 109 = _
    rw [si1, if_neg (by decide), f2]
  have a113 : (ac21 σ1 4).1 113 = σ9.1 113 := ((qw_a21 (r := 4)).1 113 (by decide) (by decide)).trans (K.1 113 (by omega))
  have a104 : (ac21 σ1 4).1 104 = σ9.1 104 := ((qw_a21 (r := 4)).1 104 (by decide) (by decide)).trans (K.1 104 (by omega))
  have td : td21 (ac21 σ1 4) = σ9.2.2.1 105 dr.toNatClampNeg := by
    unfold td21
    rw [a109]
    show σ1.2.2.1 105 _ = _
    rw [K.2 105 (by omega)]
  have g110 := ac_g21 (r := 4) s62
  -- the reference draws the same way
  have same : (σ2.1 = (ac21 σ1 4).1 ∧ σ2.2.2 = (ac21 σ1 4).2.2 ∧ σ2.2.1 110 = gn ∧ (σ9.1 113 ≠ 0 → σ2.2.1 112 = sd21 x)) ∧ ((0 ≤ y.toInt ∧ y.toInt < (nw : Int) ∧ i = y) ∨ (¬ (0 ≤ y.toInt ∧ y.toInt < (nw : Int)) ∧ i = -2)) := by
    rcases dw with ⟨q1, q2, q3, q4⟩ | ⟨q1, q2, q3⟩
    · rw [a113] at q1
      obtain ⟨h1, h2⟩ := H.1 q1
      have x1 : (ac21 σ1 4).2.1 112 = x := f4 q1
      rw [x1] at q2 q4
      rw [a63, cl_5 (by omega), a66] at q4
      rw [nwi, Int.toNat_natCast] at h2
      have h3 : fw21 (σ1.2.2.1 65) nw (sh21 (sd21 x) % (e.1 717).toInt) y.toNatClampNeg := fw_e21 (fun k hk => (nw4 k hk).2) h2
      have eq := fw_u21 (fun k hk => by have z := (oW1.2.2.1 k (by rw [c63]; exact hk)).1; rw [lei, t0i] at z; exact z) q4 h3
      rw [lei, t0i] at q3 h1
      have k1 := cnk q3
      have k2 := cnk h1
      have yb := h3.1
      refine ⟨⟨by rw [q2]; rfl, by rw [q2]; rfl, ?_, fun _ => ?_⟩, Or.inl ⟨h1, by omega, Int32.toInt_inj.mp (by omega)⟩⟩
      · rw [q2, sl_o21 (by decide), g110, f3]
      · rw [q2, sl_s21]
    · rw [a113] at q1
      obtain ⟨h1, h2⟩ := H.2 q1
      rw [a109, a104, td, ← h2, a63] at q3
      have bnd : (0 ≤ y ∧ y < Int32.ofNat nw) ↔ (0 ≤ y.toInt ∧ y.toInt < (nw : Int)) := by
        rw [lei, lti, t0i, ofn_i (by omega)]
      refine ⟨⟨by rw [q2], by rw [q2], by rw [q2, g110, f3], fun c => absurd q1 c⟩, ?_⟩
      rcases q3 with ⟨c, _⟩ | ⟨_, ⟨c1, c2, c3⟩ | ⟨c1, c2⟩⟩
      · exact absurd c h1
      · obtain ⟨z1, z2⟩ := bnd.mp ⟨c1, c2⟩
        exact Or.inl ⟨z1, z2, c3⟩
      · exact Or.inr ⟨fun z => c1 (bnd.mpr z), c2⟩
  obtain ⟨⟨s1, s2, s3, s4⟩, s5⟩ := same
  have QW2 : QW21 σ1 σ2 := ⟨fun j j1 j2 => by rw [s1]; exact (qw_a21 (r := 4)).1 j j1 j2, fun j _ _ _ => by rw [s2]; rfl, by rw [s2]; rfl⟩
  refine ⟨fun hy e' z => ?_, fun hn => ?_⟩
  · rw [nwi] at hy
    obtain ⟨y0, y1, iy⟩ : 0 ≤ y.toInt ∧ y.toInt < (nw : Int) ∧ i = y := s5.resolve_right (fun c => c.1 hy)
    have n1 : i ≠ -1 := fun c => by
      rw [iy] at c
      rw [c] at y0
      exact absurd y0 (by decide)
    have n2 : i ≠ -2 := fun c => by
      rw [iy] at c
      rw [c] at y0
      exact absurd y0 (by decide)
    obtain ⟨σ3, nu, _, _, g, gl⟩ : ∃ σ3, nu21 (siU σ2 109 (σ2.1 109 + 1)) σ3 ∧ nV σ3 17 = nV (ac21 σ1 4) 17 * ((ac21 σ1 4).2.2.1 65 i.toNatClampNeg).toInt.toNat ∧ nV σ3 18 = nV (ac21 σ1 4) 18 * ((ac21 σ1 4).1 66).toInt.toNat ∧ g5_get i σ3 = (p.1, p.2) ∧ ∀ k, p.1.2.1 k = σ3.2.1 k := by
      rcases ds with ⟨c, _⟩ | ⟨c, _⟩ | ⟨_, _, c⟩
      · exact absurd c n1
      · exact absurd c n2
      · exact c
    have ei : y = Int32.ofNat y.toInt.toNat := Int32.toInt_inj.mp (by rw [ofn_i (by omega)]; omega)
    have Q3 : QW21 σ1 σ3 := ⟨fun j j1 j2 => by rw [nu.1, si1, if_neg j2]; exact QW2.1 j j1 j2, fun j j1 j2 j3 => by rw [nu.2.2.1 j j2 j3]; exact QW2.2.1 j j1 j2 j3, nu.2.2.2.trans QW2.2.2⟩
    obtain ⟨e2, σ4, r2, u1, u2, u3, u4, u5, u6, u7⟩ := ps_21 (i := y.toInt.toNat) C U d0 AW MT Q3 (by rw [nwi]; omega)
    rw [ei, u1] at z
    rw [iy, ei] at g
    have ee : e2 = e' := congrArg Prod.fst (Sum.inl.inj z)
    have e1 : σ4 = p.1 := congrArg Prod.fst (u2.symm.trans g)
    have e3 : r2 = p.2 := congrArg Prod.snd (u2.symm.trans g)
    rw [ee] at u3 u4
    rw [e1, e3] at u3
    rw [e1] at u5 u6
    refine ⟨u3, ⟨?_, ?_, ?_, fun c => ?_⟩, kt_f21 K (fun j q => (u5 j (by omega) (by omega)).trans (Q3.1 j (by omega) (by omega))) (fun j q => (u6 j (by omega) (by omega) (by omega)).trans (Q3.2.1 j (by omega) (by omega) (by omega)))⟩
    · rw [u5 108 (by decide) (by decide), nu.1, si1, if_neg (by decide), s1]
      exact a108
    · rw [u5 109 (by decide) (by decide), nu.1, si1, if_pos rfl, s1, a109]
    · rw [gl 110, nu.2.1]
      show σ2.2.1 110 = _
      rw [s3, u4, q714]
      exact (Int64.add_zero _).symm
    · rw [gl 112, nu.2.1]
      exact s4 c
  · rw [nwi] at hn
    have i2 : i = -2 := (s5.resolve_left (fun c => hn ⟨c.1, c.2.1⟩)).2
    have g : g5_fail 6 σ2 = (p.1, p.2) := by
      rcases ds with ⟨c, _⟩ | ⟨_, c⟩ | ⟨_, c, _⟩
      · rw [i2] at c; exact absurd c (by decide)
      · exact c
      · exact absurd i2 c
    have gf : g5_fail 6 σ2 = (siU σ2 61 6, 2) := rfl
    have e1 : p.1 = siU σ2 61 6 := (congrArg Prod.fst (gf.symm.trans g)).symm
    have e3 : p.2 = 2 := (congrArg Prod.snd (gf.symm.trans g)).symm
    unfold AL21
    rw [e1, e3]
    refine ⟨pf_21 C U MT QW2, ⟨?_, ?_, ?_, fun c => s4 c⟩, kt_f21 K (fun j q => by rw [si1, if_neg (by omega)]; exact QW2.1 j (by omega) (by omega)) (fun j q => QW2.2.1 j (by omega) (by omega) (by omega))⟩
    · rw [si1, if_neg (by decide), s1]; exact a108
    · rw [si1, if_neg (by decide), s1]; exact a109
    · show σ2.2.1 110 = _
      rw [s3, fl_o6 (by decide), fl_o6 (by decide), q714]
      exact (Int64.add_zero _).symm
/-- what a play leaves, of both sides -/
def FZ21 (w : Nat) (e : E5) (dn dr : Int32) (gn : Int64) (σ : rS) (v : Int32) : Prop := e.1 711 = v ∧ (v = 1 → e.1 712 = σ.1 61) ∧ (v = 2 → e.1 713 = σ.1 61) ∧ (σ.1 108 = dn ∧ σ.1 109 = dr ∧ σ.2.1 110 = gn) ∧ SM21 w e σ
/-- no draw is told any more -/
theorem ie_21 {N k : Nat} {tr : Nat → rS × Int32} (F : TRF21 a σ9 N tr v) (kN : k + 1 ≤ N) (M : MW21 nv w s cu σ9 e x n dr gn 4 (tr (k + 1))) (h3 : σ9.1 113 = 0) (hd : dr = σ9.1 104) : FZ21 w e n dr gn (tr N).1 v := by
  obtain ⟨σ1, d, d0, ⟨C, U⟩, AW, q714, MT, acq, K, ⟨f1, f2, f3, f4⟩, h4, _, _⟩ := M
  obtain ⟨σ2, i, dw, ds⟩ := h4 rfl
  have s62 : σ1.1 62 = 0 := AW.2.2.1.symm.trans q714
  have a109 : (ac21 σ1 4).1 109 = dr := by
    show (siU σ1 108 (σ1.1 108 + 1)).1 109 = _
    rw [si1, if_neg (by decide), f2]
  have a108 : (ac21 σ1 4).1 108 = n + 1 := by
    show (siU σ1 108 (σ1.1 108 + 1)).1 108 = _
    rw [si1, if_pos rfl, f1]
  have a113 : (ac21 σ1 4).1 113 = σ9.1 113 := ((qw_a21 (r := 4)).1 113 (by decide) (by decide)).trans (K.1 113 (by omega))
  have a104 : (ac21 σ1 4).1 104 = σ9.1 104 := ((qw_a21 (r := 4)).1 104 (by decide) (by decide)).trans (K.1 104 (by omega))
  obtain ⟨q2, qi⟩ : σ2 = ac21 σ1 4 ∧ i = -1 := by
    rcases dw with ⟨q1, _⟩ | ⟨_, q2, q3⟩
    · rw [a113] at q1; exact absurd h3 q1
    · rw [a109, a104] at q3
      rcases q3 with ⟨_, c⟩ | ⟨c, _⟩
      · exact ⟨q2, c⟩
      · exact absurd hd c
  obtain ⟨p1, p2⟩ : (tr (k + 1)).1 = siU σ2 108 (σ2.1 108 - 1) ∧ (tr (k + 1)).2 = 5 := by
    rcases ds with ⟨_, c⟩ | ⟨c, _⟩ | ⟨c, _⟩
    · exact c
    · rw [qi] at c; exact absurd c (by decide)
    · exact absurd qi c
  obtain ⟨⟨σ0, r0, _, _, t1⟩, fi⟩ := F
  have eN : k + 1 = N := by
    by_cases c : k + 1 = N
    · exact c
    · have y := (t1 (k + 1) (by omega)).1
      rw [p2] at y
      exact absurd y (by decide)
  rw [← eN, p2] at fi
  have v0 : v = 0 := by
    rcases fi with ⟨_, c⟩ | ⟨c, _⟩ | ⟨_, c, _⟩
    · exact c
    · exact absurd c (by decide)
    · exact absurd rfl c
  rw [← eN, p1, q2, v0]
  refine ⟨AW.2.1, fun c => absurd c (by decide), fun c => absurd c (by decide), ⟨?_, ?_, ?_⟩, fun j hj => sm_m21 MT.1 j hj⟩
  · rw [si1, if_pos rfl, a108]
    exact Int32.add_sub_cancel n 1
  · rw [si1, if_neg (by decide)]; exact a109
  · show (ac21 σ1 4).2.1 110 = _
    rw [ac_g21 s62, f3]
/-- a play ends -/
theorem iz_21 {N k : Nat} {tr : Nat → rS × Int32} (F : TRF21 a σ9 N tr v) (kN : k ≤ N) (A : AL21 nv w s cu σ9 e x n dr gn (tr k)) (h : ¬ e.1 711 = 0 ∨ n = a) : FZ21 w e n dr gn (tr N).1 v := by
  obtain ⟨P, ⟨b1, b2, b3, _⟩, K⟩ := A
  obtain ⟨⟨σ0, r0, _, _, t1⟩, fi⟩ := F
  obtain ⟨_, p2, p3, p4⟩ := P
  have eN : k = N := by
    by_cases c : k = N
    · exact c
    · have y := t1 k (by omega)
      rcases h with h | h
      · exact absurd (p2.trans y.1) h
      · exact absurd (b1.trans h) y.2.1
  rw [← eN] at fi ⊢
  have h03 : (tr k).2 = 0 ∨ (tr k).2 = 1 ∨ (tr k).2 = 2 ∨ (tr k).2 = 3 := by
    rcases p4 with ⟨c, _⟩ | ⟨c, _⟩ | ⟨c, _⟩ | c
    · exact Or.inl c
    · exact Or.inr (Or.inl c)
    · exact Or.inr (Or.inr (Or.inl c))
    · exact Or.inr (Or.inr (Or.inr c))
  have ev : v = (tr k).2 := by
    rcases fi with ⟨c, _⟩ | ⟨c, _, c2⟩ | ⟨_, _, c⟩
    · rw [c] at h03; exact absurd h03 (by decide)
    · rw [c, c2]
    · exact c
  refine ⟨p2.trans ev.symm, fun c => ?_, fun c => ?_, ⟨b1, b2, b3⟩, p3⟩
  · rw [ev] at c
    rcases p4 with ⟨q, _⟩ | ⟨_, q⟩ | ⟨q, _⟩ | q
    · rw [c] at q; exact absurd q (by decide)
    · exact q
    · rw [c] at q; exact absurd q (by decide)
    · rw [c] at q; exact absurd q (by decide)
  · rw [ev] at c
    rcases p4 with ⟨q, _⟩ | ⟨q, _⟩ | ⟨_, q⟩ | q
    · rw [c] at q; exact absurd q (by decide)
    · rw [c] at q; exact absurd q (by decide)
    · exact q
    · rw [c] at q; exact absurd q (by decide)
/-- a play begins -/
theorem ib_21 {N : Nat} {tr : Nat → rS × Int32} {e0 e1 : E5} (R : CR6 nv s w e0 σ9) (U : CU21 cu e0) (B : BG6 e0 e1) (z : f5_Ma_proceed e1 = .inl (e, ())) (hx : σ9.1 113 ≠ 0 → σ9.2.1 112 = x) (F : TRF21 a σ9 N tr v) : AL21 nv w s cu σ9 e x 0 0 0 (tr 0) := by
  obtain ⟨⟨σ0, r0, ⟨σi, nu, _, _, gb, gl⟩, t0, _⟩, _⟩ := F
  obtain ⟨T, X, Bk, N', Z, na, f, ⟨h1, h2⟩, h3, h4, h5, ⟨h6, h7, h8⟩, h9, h10, h11⟩ := R
  have fi : ∀ g, g ≠ 0 → g ≠ 108 → g ≠ 109 → σi.1 g = σ9.1 g := fun g g0 g1 g2 => by
    rw [nu.1]
    show (siU (siU (siU σ9 0 0) 108 0) 109 0).1 g = _
    rw [si1, if_neg g2, si1, if_neg g1, si1, if_neg g0]
  have ri : ∀ g, g ≠ 90 → g ≠ 91 → σi.2.2.1 g = σ9.2.2.1 g := fun g g1 g2 => nu.2.2.1 g g1 g2
  have li : σi.2.2.2 = σ9.2.2.2 := nu.2.2.2
  have Fi : FN6 T Bk N' nv na f s e0 (siU σi 11 0) := FN_v6 h3 ⟨⟨fun _ _ => rfl, fun _ _ => rfl, rfl⟩, fun g q => by
    rw [si1, si1]
    by_cases c : g = 11
    · rw [if_pos c, if_pos c]
    · rw [if_neg c, if_neg c]; exact fi g (by omega) (by omega) (by omega), fun g q => ri g (by omega) (by omega), li⟩
  obtain ⟨e', σ', r, u1, u2, u3, u4, ⟨u5, u6, u7, u8⟩, u9, u10, u11⟩ := bgn_6 h1.1.2.2.2 h1.1.2.2.1 Fi h8 h7 h11 B
  have ee : e' = e := congrArg Prod.fst (Sum.inl.inj (u1.symm.trans z))
  have es : σ' = σ0 := congrArg Prod.fst (u2.symm.trans gb)
  have er : r = r0 := congrArg Prod.snd (u2.symm.trans gb)
  rw [ee] at u3 u5 u6 u7 u8
  rw [es, er] at u3
  rw [es] at u4 u9 u10 u11
  rw [er] at u4
  have F2 : FN6 T Bk N' nv na f s e (siU σ0 11 0) := FN_v6 Fi ⟨⟨u6, fun g q => u7 g (by omega), u8⟩, fun g q => by
    rw [si1, si1]
    by_cases c : g = 11
    · rw [if_pos c, if_pos c]
    · rw [if_neg c, if_neg c]; exact u9 g c (by omega) (by omega), fun g q => u10 g (by omega) (by omega) (by omega), u11⟩
  have r45 : ∀ g, g ≤ 45 → σ0.2.2.1 g = σ9.2.2.1 g := fun g q => (u10 g (by omega) (by omega) (by omega)).trans (ri g (by omega) (by omega))
  have C : CF6 nv s w e σ0 := by
    refine ⟨T, X, Bk, N', Z, na, f, ⟨h1, h2⟩, F2, ?_, fun k hk => by show ∃ n, n ≤ 4 ∧ σ0.2.2.1 26 k = Int32.ofNat n; rw [r45 26 (by decide)]; exact h5 k hk, ⟨u5, h6, h7, by rw [u6 511 (by decide)]; exact h8⟩, by rw [u8]; exact ⟨h9, h10, h11⟩⟩
    rw [← h4]
    unfold sx5
    show (σ0.2.2.1 5, σ0.2.2.1 6, σ0.2.2.1 7, σ0.2.2.1 9, σ0.2.2.2 8) = _
    rw [r45 5 (by decide), r45 6 (by decide), r45 7 (by decide), r45 9 (by decide), u11, li]
  rw [t0]
  refine ⟨pl_o21 C ⟨fun g q => (u6 g q).trans (U.1 g q), fun g q => (u7 g (by omega)).trans (U.2 g q)⟩ u3 (u4.elim Or.inl (fun y => Or.inr y.1)), ⟨?_, ?_, ?_, fun c => ?_⟩, fun g q => (u9 g (by omega) (by omega) (by omega)).trans (fi g (by omega) (by omega) (by omega)), fun g q => (u10 g (by omega) (by omega) (by omega)).trans (ri g (by omega) (by omega))⟩
  · show σ0.1 108 = 0
    rw [u9 108 (by decide) (by decide) (by decide), nu.1]
    show (siU (siU (siU σ9 0 0) 108 0) 109 0).1 108 = _
    rw [si1, if_neg (by decide), si1, if_pos rfl]
  · show σ0.1 109 = 0
    rw [u9 109 (by decide) (by decide) (by decide), nu.1]
    show (siU (siU (siU σ9 0 0) 108 0) 109 0).1 109 = _
    rw [si1, if_pos rfl]
  · show σ0.2.1 110 = 0
    rw [gl 110, nu.2.1, sl_s21]
  · show σ0.2.1 112 = x
    rw [gl 112, nu.2.1]
    exact hx c
end
/-- the ways of a draw -/
theorem wp_21 {nv s w : Nat} {cu e : E5} {σ9 : rS} {n dr : Int32} {x gn : Int64} {p : rS × Int32} (M : MW21 nv w s cu σ9 e x n dr gn 4 p) : (0 < (e.1 717).toInt ∧ (e.1 717).toInt ≤ 8000000) ∧ (∀ i : Nat, (i : Int) < (e.1 716).toInt → 0 ≤ (e.2.1 719 i).toInt ∧ (e.2.1 719 i).toInt ≤ 1000000) ∧ (e.1 717).toInt = wsum (e.2.1 719) (e.1 716).toInt.toNat := by
  obtain ⟨σ1, d, d0, _, AW, _, _, acq, _⟩ := M
  obtain ⟨nw, nw1, nw2, nw3, nw4⟩ := AW.2.2.2.2.1
  have nwi : (e.1 716).toInt = (nw : Int) := by rw [nw2, ofn_i (by omega)]
  have oW1 : oW σ1 := by
    rcases acq with ⟨q, _⟩ | q | q | q | ⟨_, _, _, q⟩ | ⟨q, _⟩
    · exact absurd q (by decide)
    · exact absurd q (by decide)
    · exact absurd q (by decide)
    · exact absurd q (by decide)
    · exact q
    · exact absurd q (by decide)
  have c63 : (σ1.1 63).toNatClampNeg = nw := by rw [nw3]; exact cl_5 (by omega)
  obtain ⟨_, _, o3, o4, o5, o6⟩ := oW1
  rw [c63] at o3 o4
  have l1m : (1000000 : Int32).toInt = 1000000 := rfl
  have l8m : (8000000 : Int32).toInt = 8000000 := rfl
  rw [lti, t0i] at o5
  rw [lei, l8m] at o6
  rw [nwi, AW.2.2.2.1, Int.toNat_natCast]
  refine ⟨⟨o5, o6⟩, fun i hi => ?_, ?_⟩
  · have y := o3 i (by omega)
    rw [lei, lei, t0i, l1m] at y
    rw [(nw4 i (by omega)).2]
    exact y
  · rw [o4]
    exact ws_e21 (fun i hi => (nw4 i hi).2.symm)
/-! the class's loop: what is alike on its way -/
/-- before a play -/
def GP21 (nv s w : Nat) (κ : zS) (a : Nat) (byT : Int32) (seed : Int64) (most : Int32) (σ9 : rS) : Prop := CR7 nv s w (cu7 κ (zR κ chCode a)) σ9 ∧ (byT = 0 ↔ σ9.1 113 ≠ 0) ∧ (σ9.1 113 ≠ 0 → σ9.2.1 112 = seed) ∧ (σ9.1 113 = 0 → (σ9.1 104 = zI κ chTolds a ∧ 0 ≤ (zI κ chTolds a).toInt) ∧ ∀ j, j < (zI κ chTolds a).toNatClampNeg → zA κ (zR κ chTold a) j = σ9.2.2.1 105 j) ∧ EX21 κ (zR κ chAtlas a) w s σ9 ∧ (σ9.1 69 ≠ 0 → TW21 nv s w (cu7 κ (zR κ chCode a)) σ9) ∧ (σ9.1 70).toNatClampNeg ≤ 1000 ∧ 0 ≤ most.toInt
def HD21 (nv s w : Nat) (cu : E5) (a : Int32) (σ9 : rS) (e : E5) (x : Int64) (dn dr : Int32) (gn : Int64) (n : Int32) : Prop := (dn = n ∧ 0 ≤ n.toInt ∧ n.toInt ≤ a.toInt) ∧ ∀ N tr v', TRF21 a σ9 N tr v' → n.toNatClampNeg ≤ N ∧ AL21 nv w s cu σ9 e x n dr gn (tr n.toNatClampNeg)
def JA21 (nv s w : Nat) (cu : E5) (a : Int32) (σ9 : rS) (e : E5) (x : Int64) (dn dr : Int32) (gn : Int64) (n : Int32) : Prop := (dn = n ∧ 0 ≤ n.toInt ∧ n.toInt < a.toInt) ∧ ∀ N tr v', TRF21 a σ9 N tr v' → n.toNatClampNeg + 1 ≤ N ∧ AL21 nv w s cu σ9 e x (n + 1) dr (gn + (e.1 714).toInt64) (tr (n.toNatClampNeg + 1))
def JM21 (nv s w : Nat) (cu : E5) (a : Int32) (σ9 : rS) (e : E5) (x : Int64) (dn dr : Int32) (gn : Int64) (n r : Int32) : Prop := (dn = n ∧ 0 ≤ n.toInt ∧ n.toInt < a.toInt) ∧ ∀ N tr v', TRF21 a σ9 N tr v' → n.toNatClampNeg + 1 ≤ N ∧ MW21 nv w s cu σ9 e x n dr gn r (tr (n.toNatClampNeg + 1))
def JW21 (nv s w : Nat) (cu : E5) (a : Int32) (σ9 : rS) (e : E5) (x : Int64) (dn dr : Int32) (gn : Int64) (n y : Int32) : Prop := (dn = n ∧ 0 ≤ n.toInt ∧ n.toInt < a.toInt) ∧ ∃ x0, x = sd21 x0 ∧ ∀ N tr v', TRF21 a σ9 N tr v' → n.toNatClampNeg + 1 ≤ N ∧ MW21 nv w s cu σ9 e x0 n dr gn 4 (tr (n.toNatClampNeg + 1)) ∧ HW21 σ9 e x0 dr y
section
variable {nv s w : Nat} {cu e e' : E5} {σ9 : rS} {a dn dr n : Int32} {x gn : Int64}
/-- a statement, in the class's loop -/
theorem ja_21 (H : HD21 nv s w cu a σ9 e x dn dr gn n) (h0 : e.1 711 = 0) (ha : ¬ a.toInt ≤ n.toInt) (z : f5_Ma_act e = .inl (e', ())) (n1 : (σ9.1 70).toNatClampNeg ≤ 1000) (TW : σ9.1 69 ≠ 0 → TW21 nv s w cu σ9) : (dn = n ∧ 0 ≤ n.toInt ∧ n.toInt < a.toInt) ∧ (∀ N tr v', TRF21 a σ9 N tr v' → n.toNatClampNeg + 1 ≤ N ∧ ((e'.1 715 = -1 ∧ AL21 nv w s cu σ9 e' x (n + 1) dr (gn + (e'.1 714).toInt64) (tr (n.toNatClampNeg + 1))) ∨ (e'.1 715 = 3 ∧ MW21 nv w s cu σ9 e' x n dr gn 4 (tr (n.toNatClampNeg + 1))) ∨ (e'.1 715 = 4 ∧ MW21 nv w s cu σ9 e' x n dr gn 5 (tr (n.toNatClampNeg + 1))))) := by
  obtain ⟨⟨h1, h2, h3⟩, hA⟩ := H
  refine ⟨⟨h1, h2, by omega⟩, fun N tr v' F => ?_⟩
  obtain ⟨k, A⟩ := hA N tr v' F
  exact ia_21 F k A h0 (fun q => ha (by rw [q]; exact Int.le_refl _)) z n1 TW
end

end
