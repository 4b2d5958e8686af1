section
set_option maxHeartbeats 1600000
/-! the class: the best plan by values -/
theorem So_makePlanz_q6 {C : zC} {n0 : Nat} {a0 : Nat} {κ : zS} {Q : Int32 → zS → Prop} (W : zW C n0 κ) (Ta0 : zT κ a0 = 12) (ρ : Nat → Nat) (n9 : Nat) (hA9 : zI κ atRings (zR κ soAtlas a0) ≤ 0 → ∀ x, x < n9 → ¬ Tr (el8 κ (zR κ soAtlas a0) 0 n9) x x) (hG9 : gnW8 (tcW8 κ (zR κ soAtlas a0)) n9) (hp : soR9 ρ κ a0 ∧ ((weU κ (zR κ soWeb a0) ∨ weM κ (zR κ soWeb a0)) ∧ weL κ (zR κ soWeb a0)) ∧ atW κ (zR κ soAtlas a0) n9 ∧ ((zN κ (zR κ soTaken a0)) = 0 ∨ (zN κ (zR κ soTaken a0)) = 1000)) (h : ∀ (v : Int32) (κ' : zS), ((mpP9 ρ κ κ' a0 n9 v) ∧ (mkW8 κ κ' a0 n9 v)) → Q v κ') : zRun C 8 mSo_makePlan [.ref a0] κ (oI Q noX) := by
  refine So_makePlanz_run W Ta0 ?_
  replace W := W.lo (Nat.le_trans W.1.2.1 W.1.2.2) (Nat.le_refl (zn κ))
  unfold w_So_makePlanz_0
  obtain ⟨S0, ⟨U0, L0⟩, A0, T0⟩ := hp
  have tw := ty_soWeb W Ta0
  have tb := ty_soAtlas W Ta0
  have hh76 : ∀ (l0 : Nat) (l1 : Int32) (τ : zS), zW C (zn κ) τ → zT τ l0 = 12 → ((a0 = l0 ∧ (∃ ρ' P, mpJ9 ρ κ τ a0 n9 ρ' ∧ wsI9 ρ' τ a0 n9 P ∧ 0 < P ∧ P ≤ pD9 l1.toNatClampNeg) ∧ 0 ≤ l1.toInt ∧ l1.toInt ≤ n9) ∧ lpW8 κ τ a0 n9 l1.toNatClampNeg) → w_So_makePlanz_76 C (zn κ) Q  l0 l1 τ := by
    intro z0 z1 τi Wi _ hinit
    unfold w_So_makePlanz_76
    refine ⟨fun n l0 l1 τ => n = ((n9 : Int) - l1.toInt).toNat ∧ ((a0 = l0 ∧ (∃ ρ' P, mpJ9 ρ κ τ a0 n9 ρ' ∧ wsI9 ρ' τ a0 n9 P ∧ 0 < P ∧ P ≤ pD9 l1.toNatClampNeg) ∧ 0 ≤ l1.toInt ∧ l1.toInt ≤ n9) ∧ lpW8 κ τ a0 n9 l1.toNatClampNeg), ⟨_, rfl, hinit⟩, ?_⟩
    clear hinit
    rintro n76 _ x76_1 κ76 W76 T76_0 ⟨hn76, ⟨rfl, i76⟩, hE⟩
    obtain ⟨⟨ρ1, P1, J1, V1, P10, P11⟩, l11, l12⟩ := i76
    have hn := J1.2.2.1.1.2.1.2
    have ea := J1.2.2.2.2.2.2.2.1.1
    have ew := J1.2.2.2.2.2.2.2.1.2.1
    have tot : (zI κ76 weTotal (zR κ76 soWeb a0)).toInt = (n9 : Int) := by rw [ew]; exact J1.2.2.1.1.2.1.1
    have L76 := hE
    have kx0 := cnk l11
    have fix : ∀ k, k < n9 → wmW8 κ a0 n9 k = wsW8 (tcW8 κ (zR κ soAtlas a0)) (wmW8 κ a0 n9) k := fun k hk => fx_w8 A0 (hA9 hE.1.1) hk
    have hj141 : ∀ (l0 : Nat) (l1 : Int32) (s0 : Int32) (τ : zS), zW C (zn κ) τ → zT τ l0 = 12 → ((a0 = l0 ∧ (s0 ≠ 0 → ∃ ρ' P, mpJ9 ρ κ τ a0 n9 ρ' ∧ wsI9 ρ' τ a0 n9 P ∧ 0 < P ∧ P ≤ pD9 (l1.toNatClampNeg + 1)) ∧ (∃ ρ', mpJ9 ρ κ τ a0 n9 ρ') ∧ 0 ≤ l1.toInt ∧ l1.toInt < n9 ∧ x76_1 = l1) ∧ (s0 ≠ 0 → lpW8 κ τ a0 n9 (l1.toNatClampNeg + 1)) ∧ (s0 = 0 → (zI κ atRings (zR κ soAtlas a0) ≤ 0 ∧ kpW8 κ τ a0) ∧ ∃ k, k < n9 ∧ ¬ f2W8 (wmW8 κ a0 n9 k))) → w_So_makePlanz_141 C (zn κ) Q (fun (l0' : Nat) (l1' : Int32) (τ : zS) => ∃ k < n76, (fun (n : Nat) (l0 : Nat) (l1 : Int32) (τ : zS) => n = ((n9 : Int) - l1.toInt).toNat ∧ ((a0 = l0 ∧ (∃ ρ' P, mpJ9 ρ κ τ a0 n9 ρ' ∧ wsI9 ρ' τ a0 n9 P ∧ 0 < P ∧ P ≤ pD9 l1.toNatClampNeg) ∧ 0 ≤ l1.toInt ∧ l1.toInt ≤ n9) ∧ lpW8 κ τ a0 n9 l1.toNatClampNeg)) k l0' l1' τ) l0 l1 s0 τ := by
      rintro _ y141_1 y141_s0 τ141 W141 T141_0 ⟨⟨rfl, j141⟩, hE⟩
      unfold w_So_makePlanz_141
      obtain ⟨k1, k2, l31, l32, l33⟩ := j141
      subst l33
      have ix := cn1 l31 (by omega)
      refine ⟨fun c1 => ?_, fun c1 => ?_⟩
      · skip
        intro x2 hx2
        refine lp_b5 ?_ (fun d9 => ⟨rfl, ?_⟩)
        · rw [hx2, ix.2, hn76]; omega  -- d1
        · refine and_5 ?_ (fun o9 => ?_)  -- i2
          · obtain ⟨ρ2, P2, J2, V2, P20, P21⟩ := k1 c1
            exact ⟨rfl, ⟨ρ2, P2, J2, V2, P20, by rw [hx2, ix.1]; exact P21⟩, by rw [hx2, ix.2]; omega, by rw [hx2, ix.2]; omega⟩
          · rw [hx2, ix.1]
            exact hE.1 c1
      · skip
        refine h _ _ ?_
        · refine and_5 ?_ (fun o9 => ?_)  -- q3
          · obtain ⟨ρ2, J2⟩ := k2
            exact mp_p9 J2
          · obtain ⟨z1, z2⟩ := hE.2 c1
            obtain ⟨ρ2, J2⟩ := k2
            exact Or.inr ⟨z1.1, Or.inl ⟨rfl, z2, z1.2, J2.2.2.2.2.2.2.1⟩⟩
    have hj128 : ∀ (l0 : Nat) (l1 : Int32) (l2 : Int32) (τ : zS), zW C (zn κ) τ → zT τ l0 = 12 → ((a0 = l0 ∧ τ = ua κ76 (zR κ76 soTaken a0) l2.toNatClampNeg 0 ∧ (0 ≤ l2.toInt ∧ l2.toInt < n9) ∧ l1.toInt < n9 ∧ x76_1 = l1) ∧ l2.toNatClampNeg = odC8 κ κ76 a0 x76_1.toNatClampNeg ∧ ((tcW8 κ (zR κ soAtlas a0)) 6 l2.toNatClampNeg ≠ 0 ∨ loW8 (tcW8 κ (zR κ soAtlas a0)) (l2.toNatClampNeg + 1) = loW8 (tcW8 κ (zR κ soAtlas a0)) l2.toNatClampNeg + 1)) → w_So_makePlanz_128 C (zn κ) Q (fun (l0' : Nat) (l1' : Int32) (τ : zS) => ∃ k < n76, (fun (n : Nat) (l0 : Nat) (l1 : Int32) (τ : zS) => n = ((n9 : Int) - l1.toInt).toNat ∧ ((a0 = l0 ∧ (∃ ρ' P, mpJ9 ρ κ τ a0 n9 ρ' ∧ wsI9 ρ' τ a0 n9 P ∧ 0 < P ∧ P ≤ pD9 l1.toNatClampNeg) ∧ 0 ≤ l1.toInt ∧ l1.toInt ≤ n9) ∧ lpW8 κ τ a0 n9 l1.toNatClampNeg)) k l0' l1' τ) l0 l1 l2 τ := by
      rintro _ y128_1 y128_2 τ128 W128 T128_0 ⟨⟨rfl, j128⟩, hE⟩
      unfold w_So_makePlanz_128
      intro T3
      obtain ⟨e, hl2, hl1, hx⟩ := j128
      subst hx
      have kk := cnk hl2.1
      have U := mp_u9 W76 T76_0 J1 V1 (k := y128_2.toNatClampNeg) (by omega) e
      obtain ⟨⟨L9, hk9⟩, tz9, ea9, ec9, Tw9, Tb9⟩ := lp_c8 W76 T76_0 J1 V1 L76 (by omega) hE.1 e
      have hv9 : (∀ y, eW8 (tcW8 τ128 (zR τ128 soAtlas a0)) y128_2.toNatClampNeg y → rqW8 τ128 (wU9 τ128 a0 y) (wmW8 κ a0 n9 y)) ∧ rqW8 τ128 (wU9 τ128 a0 y128_2.toNatClampNeg) 0 ∧ zA τ128 (zR τ128 soTaken a0) y128_2.toNatClampNeg = 0 := by
        refine ⟨fun y z => ?_, ?_, tz9⟩
        · rw [ec9, hk9] at z
          exact lp_b8 L9 (by omega) z
        · rw [hk9]
          exact L9.2.2.2 _ (Nat.le_refl _) (by omega)
      refine So_findWorth_q6 W128 T3 ρ1 n9 P1 (wmW8 κ a0 n9) hv9 ?_ (fun r4 κ_5 q6 => ?_)
      · exact ⟨U.1, hn, ⟨hl2.1, hl2.2, U.2.1.2.2.2.1.1⟩, U.2.2.1, U.2.2.2.1⟩  -- p4
      obtain ⟨q6, z9⟩ := q6
      have zf := z9
      intro W7
      intro M8
      obtain ⟨nbv, ⟨Zf, Nf, Sf⟩, lf, tkf, wf, uf⟩ := q6
      have Jf := mp_s9 W128 T128_0 U.2.1 Zf (fun r h => fwR9_v h) ⟨Nf, Sf⟩ lf tkf.1
      refine hj141 _ _ _ _ W7 ?_ ?_
      · exact Zf.t T128_0 (by decide)  -- t5
      · refine and_5 ?_ (fun o9 => ?_)  -- k6
        · exact ⟨rfl, fun z => ⟨ρ1, P1, Jf, wf z, P10, Nat.le_trans P11 (pD9_l (by omega))⟩, ⟨ρ1, Jf⟩, by omega, hl1, rfl⟩
        · have hk : y128_2.toNatClampNeg < n9 := by omega
          have G := lp_g8 W128 Tw9 Tb9 hn U.1.1.1 U.1.2.2.1 L9 (by omega) hk9 Zf (fun j _ z => fw_k8 z) uf (fun i hi => by rw [tkf.1]; exact tkf.2.2 i hi)
          have fw := fw_w8 (V := wmW8 κ a0 n9) hG9 hk hE.2
          have eg : zA τ128 (zR τ128 atGains (zR τ128 soAtlas a0)) y128_2.toNatClampNeg = (tcW8 κ (zR κ soAtlas a0)) 5 y128_2.toNatClampNeg := congrFun (congrFun ec9 5) _
          rw [ec9, eg, fw.1, fw.2, ← fix _ hk] at zf
          exact ⟨fun z => lp_s8 L9.2.1 hk9 G ⟨by rw [uf]; exact zf.2.1, zf.1.mp z, by rw [tkf.1]; exact zf.2.2⟩, fun z => ⟨G.1, _, hk, fun y => (zf.1.mpr y) z⟩⟩
    refine ⟨fun c9 => ?_, fun c9 => ?_⟩
    · skip
      refine ⟨?_, ?_⟩
      · have kt := cnk (x := zI κ76 weTotal (zR κ76 soWeb a0)) (by omega)
        have q := J1.2.2.2.1.1
        refine ⟨by decide, by decide, by rw [lei, t0i, tot]; omega, ?_, ?_⟩
        · show 0 + (zI κ76 weTotal (zR κ76 soWeb a0)).toNatClampNeg ≤ _
          omega
        · show 0 + (zI κ76 weTotal (zR κ76 soWeb a0)).toNatClampNeg ≤ _
          rw [ea, J1.2.2.1.2.2.1.2.2.2.1]
          omega
      intro κ_10 hκ_10
      intro W11
      intro κ_12 hκ_12
      intro W13
      intro κ_14 hκ_14
      intro W15
      refine h _ _ ?_
      · refine and_5 ?_ (fun o9 => ?_)  -- q8
        · exact mp_e9 W76 T76_0 J1 hκ_10 hκ_12 hκ_14
        · have kt := cnk (x := zI κ76 weTotal (zR κ76 soWeb a0)) (by omega)
          rw [lei, tot] at c9
          exact lp_e8 W76 T76_0 J1 V1 L76 (by omega) (by omega) hκ_10 hκ_12 hκ_14
    · skip
      rw [lei, tot] at c9
      have kx := cnk l11
      have wM := J1.2.2.1.1.1.1
      have kO := (J1.2.2.1.2.1.2.2.1 x76_1.toNatClampNeg (by omega)).1
      refine ⟨?_, ?_⟩
      · rw [ew, inb_iff, wM.2.2.2.2.2.1]; omega  -- b9
      intro x16 hx16
      rw [ew] at hx16
      rw [← hx16] at kO
      have kk := cnk kO.1
      refine ⟨?_, ?_⟩
      · have q := J1.2.2.2.1.1
        rw [inb_iff]; omega
      intro κ_17 hκ_17
      intro W18
      have U := mp_u9 W76 T76_0 J1 V1 (k := x16.toNatClampNeg) (by omega) hκ_17
      have A7 := U.1.2.1.1
      have T17 : zT κ_17 a0 = 12 := by rw [hκ_17]; exact T76_0
      have hk0 : x16.toNatClampNeg = odC8 κ κ76 a0 x76_1.toNatClampNeg := by
        show _ = (zA κ76 (zR κ76 weOrder (zR κ soWeb a0)) x76_1.toNatClampNeg).toNatClampNeg
        rw [hx16]
      obtain ⟨⟨L9, hk9⟩, tz9, ea9, et9, Tw9, Tb9⟩ := lp_c8 W76 T76_0 J1 V1 L76 (by omega) hk0 hκ_17
      have hk17 : x16.toNatClampNeg < n9 := by omega
      refine ⟨?_, ?_⟩
      · rw [inb_iff, A7.1.2.2.2.2.1]; omega  -- b11
      refine ⟨fun c19 => ?_, fun c19 => ?_⟩
      · skip
        refine hj128 _ _ _ _ W18 ?_ ?_
        · exact T17  -- t12
        · refine and_5 ?_ (fun o9 => ⟨hk0, Or.inl (fun z => c19 ((congrFun (congrFun et9 6) _).trans z))⟩)  -- k13
          exact ⟨rfl, hκ_17, kO, by omega, rfl⟩
      · skip
        intro T20
        refine At_waysOf_c W18 T20  ?_ (fun r21 q23 => ?_)
        · exact ⟨A7.1.1, kO.1, by omega⟩  -- p14
        intro W24
        intro M25
        obtain ⟨_, _, ⟨s1, s2⟩, ec9, _⟩ := A7.2.2.2.2.2 x16.toNatClampNeg (by omega)
        rw [ec9 c19] at s1 s2
        have hv9 : ∀ y, eW8 (tcW8 κ_17 (zR κ_17 soAtlas a0)) x16.toNatClampNeg y → rqW8 κ_17 (wU9 κ_17 a0 y) (wmW8 κ a0 n9 y) := fun y z => by
          rw [et9, hk9] at z
          exact lp_b8 L9 (by omega) z
        have w19 := wo_8 (κ := κ_17) (a := zR κ_17 soAtlas a0) A7 hk17
        rw [et9] at w19
        refine ⟨fun c26 => ?_, fun c26 => ?_⟩
        · skip
          intro T27
          refine So_mixWorths_q6 W24 T27 ρ1 n9 P1 (wmW8 κ a0 n9) hv9 ?_ (fun r28 κ_29 q30 => ?_)
          · exact ⟨U.1, hn, kO, ⟨P10, pD9_b P11 (by omega)⟩, s1, s2⟩  -- p15
          obtain ⟨q30, z9⟩ := q30
          have zm := z9
          intro W31
          intro M32
          obtain ⟨nbv, ⟨Zf, Nf, Sf⟩, lf, wf, uf⟩ := q30
          have Zg : zF (pwF9 ρ1 (voR9 (104 + 8 * x16.toNatClampNeg)) (zR κ_17 soCalc a0) a0) κ_17 κ_29 := Zf.mono (fun f b z => Or.inl z)
          have Jf := mp_s9 W24 T17 U.2.1 Zg (fun r h => voR9_v h) ⟨Nf, Sf⟩ lf (soF_r9 Zf (by decide)).1
          refine hj141 _ _ _ _ W31 ?_ ?_
          · exact Zf.t T17 (by decide)  -- t16
          · refine and_5 ?_ (fun o9 => ?_)  -- k17
            · exact ⟨rfl, fun z => ⟨ρ1, _, Jf, wf z, Nat.mul_pos P10 (by omega), Nat.le_trans (Nat.mul_le_mul P11 (by omega)) (Nat.le_of_eq pD9_s)⟩, ⟨ρ1, Jf⟩, by omega, by omega, rfl⟩
            · have G := lp_g8 W24 Tw9 Tb9 hn U.1.1.1 U.1.2.2.1 L9 (by omega) hk9 Zg (fun j _ z => vo_k8 z) uf (fun i _ => congrFun (Zf.row W24 (show zr soTaken = some 20 by decide +kernel) (by decide) T17 so_t8).1 i)
              have mx := mx_w8 (V := wmW8 κ a0 n9) hG9 hk17 ((congrFun (congrFun et9 6) _).symm.trans c19) (fun z => c26 (q23.trans (w19.mpr z)))
              have e3 : zA κ_17 (zR κ_17 atWeights (zR κ_17 soAtlas a0)) = (tcW8 κ (zR κ soAtlas a0)) 3 := congrFun et9 3
              have e4 : zA κ_17 (zR κ_17 atTotals (zR κ_17 soAtlas a0)) = (tcW8 κ (zR κ soAtlas a0)) 4 := congrFun et9 4
              rw [et9, e3, e4, mx.1, ← fix _ hk17] at zm
              exact ⟨fun z => lp_s8 L9.2.1 hk9 G ⟨by rw [uf]; exact zm.2 z, zm.1.mp z, by rw [(Zf.row W24 (show zr soTaken = some 20 by decide +kernel) (by decide) T17 so_t8).1, tz9, mx.2]⟩, fun z => ⟨G.1, _, hk17, fun y => (zm.1.mpr y) z⟩⟩
        · skip
          refine hj128 _ _ _ _ W24 ?_ ?_
          · exact T17  -- t18
          · refine and_5 ?_ (fun o9 => ⟨hk0, Or.inr (w19.mp (q23.symm.trans c26))⟩)  -- k19
            exact ⟨rfl, hκ_17, kO, by omega, rfl⟩
  refine ⟨fun c33 => ?_, fun c33 => ?_⟩
  · skip
    intro T34
    intro T35
    refine We_weave_q6 W T34 T35 n9 ?_ (fun κ_36 q37 => ?_)
    · exact ⟨U0, L0, A0⟩  -- p20
    obtain ⟨q37, z9⟩ := q37
    have zW := z9
    obtain ⟨Zw, G36, A36⟩ := q37
    have no : ∀ (t f w : Nat), zT κ w = t → t ≠ 14 → ¬ objF (zR κ soWeb a0) f w := fun t f w ht h14 z => by
      rw [show w = zR κ soWeb a0 from z, tw] at ht
      exact h14 ht.symm
    have S36 := rs_h9 W Ta0 S0 Zw (fun f w h => no 8 f w h (by decide)) (fun f w h => no 11 f w h (by decide)) (fun f w h => no 4 f w h (by decide)) (fun f _ _ => no 12 f a0 Ta0 (by decide))
    have T36 : zT κ_36 a0 = 12 := Zw.t Ta0 (by decide)
    have ew36 : zR κ_36 soWeb a0 = zR κ soWeb a0 := S36.2 soWeb (by decide) (by decide)
    have eb36 : zR κ_36 soAtlas a0 = zR κ soAtlas a0 := S36.2 soAtlas (by decide) (by decide)
    have ec36 : zR κ_36 soCalc a0 = zR κ soCalc a0 := S36.2 soCalc (by decide) (by decide)
    have V36 : ∀ i P, vsI9 ρ κ a0 i P → vsI9 ρ κ_36 a0 i P := fun i P V => vs_h9 W Ta0 Zw (fun f w h => no 8 f w h (by decide)) (fun f w h => no 11 f w h (by decide)) (fun f w h => no 3 f w h (by decide)) (fun f => no 12 f a0 Ta0 (by decide)) V
    have tk36 : (zN κ_36 (zR κ_36 soTaken a0)) = (zN κ (zR κ soTaken a0)) := by rw [S36.2 soTaken (by decide) (by decide)]; exact Zw.l (ty_soTaken W Ta0)
    intro W38
    intro M39
    intro T40
    refine We_knot_q6 W38 T40 n9 ?_ (fun κ_41 q42 => ?_)
    · rw [ew36]
      exact ⟨G36.1.1, G36.2.1, G36.2.2.1, G36.1.2.2.2⟩
    obtain ⟨q42, z9⟩ := q42
    have zK := z9
    have od9 : odW8 (tcW8 κ (zR κ soAtlas a0)) n9 (qN8 (zA κ_41 (zR κ_41 weOrder (zR κ soWeb a0)))) := by
      rw [ew36] at zK q42
      have Tw6 : zT κ_36 (zR κ soWeb a0) = 14 := by rw [← ew36]; exact T40
      have ar : ∀ f, f = atSorts ∨ f = atChooses ∨ f = atFirsts ∨ f = atPlan → zA κ_36 (zR κ_36 f (zR κ soAtlas a0)) = zA κ (zR κ f (zR κ soAtlas a0)) := fun f hf => (at_E W tw tb Zw (f := f) (by rcases hf with e | e | e | e <;> rw [e] <;> decide)).2.1
      have le : el8 κ_36 (zR κ soAtlas a0) 0 n9 = el8 κ (zR κ soAtlas a0) 0 n9 := el_E8 (ar atFirsts (by decide)) (lkD_E (p := 0) W tw tb Zw)
      exact od_k8 A0 q42.2 zK.1 zK.2 zW.2 (tjE_8 G36.2.2.1) le ⟨by rw [q42.1.2.1]; exact kn_r W38 Tw6 q42.1 (f := weFirsts) (by decide) (by decide), by rw [q42.1.2.1]; exact kn_r W38 Tw6 q42.1 (f := weTargets) (by decide) (by decide)⟩ (hA9 c33)
    intro W43
    intro M44
    intro T45
    rw [ew36] at q42 T40
    obtain ⟨Kn, KN⟩ := q42
    have tb36 : zT κ_36 (zR κ soAtlas a0) = 3 := by rw [← eb36]; exact ty_soAtlas W38 T36
    have Zk : zF (objF (zR κ soWeb a0)) κ_36 κ_41 := Kn.1.mono (fun f x z => z.1)
    have no2 : ∀ (t f w : Nat), zT κ_36 w = t → t ≠ 14 → ¬ objF (zR κ soWeb a0) f w := fun t f w ht h14 z => by
      rw [show w = zR κ soWeb a0 from z, T40] at ht
      exact h14 ht.symm
    have S41 := rs_h9 W38 T36 S36.1 Zk (fun f w h => no2 8 f w h (by decide)) (fun f w h => no2 11 f w h (by decide)) (fun f w h => no2 4 f w h (by decide)) (fun f _ _ => no2 12 f a0 T36 (by decide))
    have G41 := weG_K9 W38 T40 tb36 Kn G36
    have A41 := atW_E W38 T40 tb36 Zk A36
    have T41 : zT κ_41 a0 = 12 := Zk.t T36 (by decide)
    have ew41 : zR κ_41 soWeb a0 = zR κ soWeb a0 := by rw [S41.2 soWeb (by decide) (by decide)]; exact ew36
    have eb41 : zR κ_41 soAtlas a0 = zR κ soAtlas a0 := by rw [S41.2 soAtlas (by decide) (by decide)]; exact eb36
    have ec41 : zR κ_41 soCalc a0 = zR κ soCalc a0 := by rw [S41.2 soCalc (by decide) (by decide)]; exact ec36
    have V41 : ∀ i P, vsI9 ρ κ a0 i P → vsI9 ρ κ_41 a0 i P := fun i P V => vs_h9 W38 T36 Zk (fun f w h => no2 8 f w h (by decide)) (fun f w h => no2 11 f w h (by decide)) (fun f w h => no2 3 f w h (by decide)) (fun f => no2 12 f a0 T36 (by decide)) (V36 i P V)
    have tk41 : (zN κ_41 (zR κ_41 soTaken a0)) = (zN κ (zR κ soTaken a0)) := by
      rw [S41.2 soTaken (by decide) (by decide), ← tk36]
      exact Zk.l (ty_soTaken W38 T36)
    have hn := G41.2.1.2
    have sl41 : zI κ_41 soSolved a0 = zI κ soSolved a0 := (Zk.i (no2 12 _ a0 T36 (by decide))).trans (Zw.i (no 12 _ a0 Ta0 (by decide)))
    have pl41 : zI κ_41 soPlanned a0 = zI κ soPlanned a0 := (Zk.i (no2 12 _ a0 T36 (by decide))).trans (Zw.i (no 12 _ a0 Ta0 (by decide)))
    have F41 : zF (mpF9 ρ κ a0) κ κ_41 := (Zw.mono (fun f b z => Or.inr (Or.inl z))).tr (Zk.mono (fun f b z => Or.inr (Or.inl z)))
    have mn41 := F41.2.2.2.2.2.2
    have K41 : zK9 κ κ_41 a0 := (zK_w9 W Ta0 (ty_soWeb W Ta0) Zw).tr (zK_w9 W38 T36 T40 Zk)
    have tot := G41.2.1.1
    rw [← ew41] at tot
    refine So_fresh_c W43 T45 ρ a0 104 soWorths ?_ (fun r46 κ_47 q48 => ?_)
    · exact ⟨S41.1.1, T41, ⟨Or.inr rfl, Or.inr rfl, W43.o (show zr soWorths = some 25 by decide +kernel) (by decide) T41, fun _ => rfl⟩, S41.1.2.2.2.2.1.1, S41.1.2.2.2.2.1.2, ⟨by omega, by omega⟩⟩  -- p22
    intro W49
    intro M50
    intro T51
    have wo := fr_o9 (f9 := soWorths) (s := a0) (τ := κ_47) W43 (ty_soWorths W43 T41) T41 (W43.o (show zr soWorths = some 25 by decide +kernel) (by decide) T41) (Exists.choose_spec (Exists.choose_spec q48.1)).1 (Exists.choose_spec (Exists.choose_spec q48.1)).2.2.2.2.1.1
    refine ⟨?_, ?_⟩
    · rcases wo with y | y
      · exact Or.inr y.1
      · exact Or.inl y.1
    intro κ_52 hκ_52
    intro W53
    obtain ⟨Z52, K52, ρ8, h8, R8, V8, ⟨t8, n8⟩, vs8⟩ := fr_q9 (n := n9) W43 W49 W53 T41 S41.1 ⟨tot, hn⟩ q48.1 q48.2 hκ_52
    have T52 : zT κ_52 a0 = 12 := Z52.t T41 (by decide)
    have fv8 := frF9_v (ρ := ρ) (κ := κ_41) (s := a0) (Or.inr (rfl : soWorths = soWorths))
    have nf : ∀ f, f = soAtlas ∨ f = soWeb ∨ f = soCalc ∨ f = soSolved ∨ f = soPlanned → ¬ frF9 ρ κ_41 soWorths a0 f a0 := fun f hf z => by
      have la := (W43.2.1 a0 (by rw [T41]; decide)).2
      rcases z with z | z | z | z
      · rcases z with ⟨_, z | z | z⟩ | ⟨_, z | z | z | z⟩ <;> (rw [z] at hf; exact absurd hf (by decide))
      · rw [z.1] at hf; exact absurd hf (by decide)
      · rw [z] at hf; exact absurd hf (by decide)
      · omega
    have ea8 : zR κ_52 soAtlas a0 = zR κ soAtlas a0 := (Z52.r (nf _ (Or.inl rfl))).trans eb41
    have ew8 : zR κ_52 soWeb a0 = zR κ soWeb a0 := (Z52.r (nf _ (Or.inr (Or.inl rfl)))).trans ew41
    have ec8 : zR κ_52 soCalc a0 = zR κ soCalc a0 := (Z52.r (nf _ (Or.inr (Or.inr (Or.inl rfl))))).trans ec41
    have sl8 : zI κ_52 soSolved a0 = zI κ soSolved a0 := (Z52.i (nf _ (Or.inr (Or.inr (Or.inr (Or.inl rfl)))))).trans sl41
    have pl8 : zI κ_52 soPlanned a0 = zI κ soPlanned a0 := (Z52.i (nf _ (Or.inr (Or.inr (Or.inr (Or.inr rfl)))))).trans pl41
    have tw41 : zT κ_41 (zR κ soWeb a0) = 14 := by rw [← ew41]; exact ty_soWeb W43 T41
    have tb41 : zT κ_41 (zR κ soAtlas a0) = 3 := by rw [← eb41]; exact ty_soAtlas W43 T41
    have G8 := weG_v9 W43 fv8 Z52 tw41 tb41 G41
    have K8 := weKn_v9 W43 fv8 Z52 tw41 KN
    have A8 := atW_v9 W43 fv8 Z52 tb41 A41
    have F52 : zF (mpF9 ρ κ a0) κ κ_52 := F41.tr (Z52.mono (fun f b z => by
      rcases z with z | z | z | z
      · rcases z with z | z
        · exact Or.inl (Or.inl ⟨trivial, z.2⟩)
        · exact Or.inr (Or.inr (Or.inr (Or.inr (Or.inr (Or.inl z.1)))))
      · exact Or.inr (Or.inr (Or.inl ⟨z.2, Or.inr (Or.inr (Or.inr z.1))⟩))
      · exact Or.inr (Or.inr (Or.inr (Or.inr (Or.inl z))))
      · exact Or.inr (Or.inr (Or.inr (Or.inr (Or.inr (Or.inr (by omega))))))))
    have h8' : ∀ b, b < zn κ → ρ8 b = ρ b := fun b hb => h8 b (by omega)
    have tk8 : (zN κ_52 (zR κ_52 soTaken a0)) = (zN κ (zR κ soTaken a0)) := by rw [t8, n8]; exact tk41
    have tot8 : (zI κ_52 weTotal (zR κ_52 soWeb a0)).toInt = (n9 : Int) := by rw [ew8]; exact G8.2.1.1
    have T8 : (zN κ_52 (zR κ_52 soTaken a0)) = 0 ∨ (zN κ_52 (zR κ_52 soTaken a0)) = 1000 := by rw [tk8]; exact T0
    refine ⟨fun c54 => ?_, fun c54 => ?_⟩
    · skip
      refine hh76 _ _ _ W53 (by assumption) ?_
      · refine and_5 ?_ (fun o9 => ?_)  -- j24
        · rw [lei, tot8, ofn_i (by rcases T8 with y | y <;> rw [y] <;> decide)] at c54
          exact ⟨rfl, ⟨ρ8, 1, ⟨⟨h8', F52⟩, R8, ⟨G8, K8, A8⟩, ⟨by omega, T8⟩, fun i P hi V => vs8 i P hi (V41 i P V), ⟨V8.1, fun k hk => ⟨_, (V8.2 k hk).1⟩⟩, ⟨sl8, pl8⟩, ⟨ea8, ew8, ec8⟩, K41.tr K52⟩, V8, by decide, pD9_p⟩, by decide, by rw [t0i]; omega⟩
        · have t41 := tc_E8 W (ty_soAtlas W Ta0) tw Zw
          have t42 := tc_E8 W38 tb36 T40 Zk
          have t52 := tc_v8 W43 tb41 fv8 Z52
          have wo9 := (we_v9 W43 fv8 Z52 tw41 (f := weOrder) (by decide)).2.1
          have oe : odC8 κ κ_52 a0 = qN8 (zA κ_41 (zR κ_41 weOrder (zR κ soWeb a0))) := by unfold odC8; rw [wo9]
          have od : odW8 (tcW8 κ (zR κ soAtlas a0)) n9 (odC8 κ κ_52 a0) := by rw [oe]; exact od9
          exact ⟨⟨c33, t52.1.trans (t42.1.trans t41.1), t52.2.trans (t42.2.trans t41.2)⟩, od, fun i hi _ => absurd hi (Nat.not_lt_zero _), fun i _ hi => w0_8 q48.1 hκ_52 (by have := od.1 i hi; have := cnk (x := zI κ_41 weTotal (zR κ_41 soWeb a0)) (by omega); omega)⟩
    · skip
      refine ⟨?_, ?_⟩
      · exact ⟨by decide, by decide⟩  -- b25
      intro κ_55 hκ_55
      intro W56
      refine ⟨?_, ?_⟩
      · rw [hκ_55]; exact if_pos rfl  -- b26
      intro κ_57 hκ_57
      intro W58
      rw [lei, tot8, ofn_i (by rcases T8 with y | y <;> rw [y] <;> decide)] at c54
      have l0 : (zN κ_52 (zR κ_52 soTaken a0)) = 0 := by
        rcases T8 with y | y
        · exact y
        · omega
      have n1k : (1000 : Int32).toNatClampNeg = 1000 := by decide
      rw [n1k] at hκ_55
      have G := we_gr (f := soTaken) (c := a0) W53 (show zr soTaken = some 20 by decide +kernel) (by decide) T52 hκ_55 hκ_57 (by rw [l0]; decide) (by rw [l0]; decide)
      have T57 : zT κ_57 a0 = 12 := G.1.t T52 (by decide)
      have n57 : zN κ_57 (zR κ_57 soTaken a0) = 1000 := by rw [G.2.2.2.1]; exact G.2.2.2.2.1
      have nt : ∀ (t f w : Nat), zT κ_52 w = t → t ≠ 12 → ¬ (f = soTaken ∧ w = a0) := fun t f w ht h12 z => by
        rw [z.2, T52] at ht
        exact h12 ht.symm
      have Z57 : zF (pwF9 ρ8 (fun _ => False) (zR κ_52 soCalc a0) a0) κ_52 κ_57 := G.1.mono (fun f b z => Or.inr z)
      have ls := (nuB_z (c := 0) W53 (ty_soLess W53 T52) G.1 (fun z => absurd z.1 (by decide)) (fun z => absurd z.1 (by decide))).2.2.1
      have I7 : soI ρ8 κ_57 a0 := so_x9 W53 T52 R8.1.2 G.1 (fun f b z => Or.inr ⟨by rw [z.1]; decide, by rw [z.1]; decide⟩) (fun _ _ => rfl)
      obtain ⟨r1, r2, r3, r4, r5⟩ := pw_r9 W53 T52 R8 Z57 (fun r h => h.elim) ⟨nm_h9 W53 R8.1.1 G.1 (fun f w h => nt 8 f w h (by decide)) (fun f w h => nt 11 f w h (by decide)), I7⟩ (by rw [ls]; exact R8.2.2.2.2.2.2)
      have V7 := (ws_g9 W53 T52 G.1 (fun f w h => nt 8 f w h (by decide)) (fun f w h => nt 11 f w h (by decide)) (fun z => absurd z.1 (by decide)) V8).1
      have tw52 : zT κ_52 (zR κ soWeb a0) = 14 := by rw [← ew8]; exact ty_soWeb W53 T52
      have tb52 : zT κ_52 (zR κ soAtlas a0) = 3 := by rw [← ea8]; exact ty_soAtlas W53 T52
      have F57 : zF (mpF9 ρ κ a0) κ κ_57 := F52.tr (G.1.mono (fun f b z => Or.inr (Or.inr (Or.inl ⟨z.2, Or.inr (Or.inr (Or.inl z.1))⟩))))
      refine hh76 _ _ _ W58 (by assumption) ?_
      · refine and_5 ?_ (fun o9 => ?_)  -- j27
        · exact ⟨rfl, ⟨ρ8, 1, ⟨⟨h8', F57⟩, r1, ⟨weG_v9 W53 pwF9_v Z57 tw52 tb52 G8, weKn_v9 W53 pwF9_v Z57 tw52 K8, atW_v9 W53 pwF9_v Z57 tb52 A8⟩, ⟨by rw [n57]; exact hn, Or.inr n57⟩, fun i P hi V => r3 i P hi (vs8 i P hi (V41 i P V)), ⟨V7.1, fun k hk => ⟨_, (V7.2 k hk).1⟩⟩, ⟨(r2 soSolved (by decide) (by decide)).2.trans sl8, (r2 soPlanned (by decide) (by decide)).2.trans pl8⟩, ⟨(r2 soAtlas (by decide) (by decide)).1.trans ea8, (r2 soWeb (by decide) (by decide)).1.trans ew8, (r2 soCalc (by decide) (by decide)).1.trans ec8⟩, (K41.tr K52).tr (zK_pw9 W53 T52 Z57)⟩, V7, by decide, pD9_p⟩, by decide, by rw [t0i]; omega⟩
        · have t41 := tc_E8 W (ty_soAtlas W Ta0) tw Zw
          have t42 := tc_E8 W38 tb36 T40 Zk
          have t52 := tc_v8 W43 tb41 fv8 Z52
          have t57 := tc_v8 W53 tb52 pwF9_v Z57
          have wo9 := (we_v9 W43 fv8 Z52 tw41 (f := weOrder) (by decide)).2.1
          have wo7 := (we_v9 W53 pwF9_v Z57 tw52 (f := weOrder) (by decide)).2.1
          have oe : odC8 κ κ_57 a0 = qN8 (zA κ_41 (zR κ_41 weOrder (zR κ soWeb a0))) := by unfold odC8; rw [wo7, wo9]
          have od : odW8 (tcW8 κ (zR κ soAtlas a0)) n9 (odC8 κ κ_57 a0) := by rw [oe]; exact od9
          have U7 := (ws_g9 W53 T52 G.1 (fun f w h => nt 8 f w h (by decide)) (fun f w h => nt 11 f w h (by decide)) (fun z => absurd z.1 (by decide)) V8).2
          refine ⟨⟨c33, t57.1.trans (t52.1.trans (t42.1.trans t41.1)), t57.2.trans (t52.2.trans (t42.2.trans t41.2))⟩, od, fun i hi _ => absurd hi (Nat.not_lt_zero _), fun i _ hi => ?_⟩
          have l := od.1 i hi
          have q := w0_8 q48.1 hκ_52 (j := odC8 κ κ_57 a0 i) (by have := cnk (x := zI κ_41 weTotal (zR κ_41 soWeb a0)) (by omega); omega)
          rw [U7]
          exact rq_p8 W53 R8.1.1 Z57 (V8.2 _ l).2.1 (ws_r9 (by omega)) ⟨id, id, id⟩ q
  · skip
    refine h _ _ ?_
    · refine and_5 ?_ (fun o9 => Or.inl ⟨c33, rfl, rfl⟩)  -- q28
      exact ⟨ρ, ⟨fun _ _ => rfl, zF.rf⟩, S0, ⟨⟨U0, L0⟩, A0⟩, T0, Or.inl (fun _ _ _ V => V), Or.inr rfl, Or.inl ⟨rfl, rfl⟩, ⟨rfl, rfl, rfl⟩, zK9.rf⟩

end
section
set_option maxHeartbeats 1600000
/-! the reference: what draws or chooses gains nothing -/
theorem mv_n8 {v : Int32} {P : Prop} (q : (v = 0 ∧ P) ∨ v = 1) : ¬ (v = 4 ∨ v = 5) := by
  rcases q with ⟨q, _⟩ | q <;> rw [q] <;> decide
theorem act_n8 {C : rCx} (hC : cOK C) (B T : Int32) {σ : rS}  {Q : Int32 → rS → Prop} (hp : rI σ B T ∧ csF σ) (h : ∀ (v : Int32) (σ' : rS), ((frG rnF rnR σ σ' ∧ acQ v σ') ∧ ((v = 4 ∨ v = 5 → σ'.1 62 = 0))) → Q v σ') : cI C 9 m_act [.ref (co C)] σ Q := by
  refine m_act_run hC ?_
  unfold w_act_0
  obtain ⟨hI, hc⟩ := hp
  have hj81 : ∀ (l1 : Int32) (l2 : Int32) (τ : rS), ((acI σ τ B T l1 l2) ∧ τ.1 62 = 0) → w_act_81 C Q  l1 l2 τ := by
    rintro y81_1 y81_2 τ81 ⟨j81, hE⟩
    unfold w_act_81
    obtain ⟨y1, y2, y3, y4, y5, y6, y7⟩ := j81
    have s0 : 0 ≤ y81_1 := by rw [y4]; exact y3.2.2.1
    have s1 : y81_1 < τ81.1 19 := by rw [y4]; exact y3.2.2.2
    have bb : 0 ≤ y81_1 ∧ y81_1 < 150 := ⟨s0, s150 y2.1 s1⟩
    refine ⟨fun c1 => ?_, fun c1 => ?_⟩
    · skip
      refine ⟨fun c2 => ?_, fun c2 => ?_⟩
      · skip
        refine ⟨ib_150.mpr ?_, ?_⟩
        · clear h; exact bb  -- b1
        refine work_c hC B T ?_ (fun r3 σ_4 q5 => ?_)
        · clear h; exact ⟨y2, xO_w (st_x (m1_st y2 s0 s1) (by rw [← y5]; exact c1) (by rw [← y5]; exact c2) (by rw [← y5]; exact y6))⟩  -- p2
        have f4 : frG rnF rnR τ81 σ_4 := xR_n q5.1
        have F4 : frG rnF rnR σ σ_4 := frG_tr y1 f4
        have I4 : rI σ_4 B T := rI_fr y2.1 f4
        have c4 : csF σ_4 := csF_o y3 (q5.1.2.2.1 59 (by decide)) (q5.1.2.2.1 30 (by decide)) (q5.1.1 19 (by decide)) (q5.1.1 58 (by decide))
        have s4 : y81_1 < σ_4.1 19 := by rw [q5.1.1 19 (by decide)]; exact s1
        have mv : ∀ a : Int32, (a ≠ -1 → 0 ≤ a ∧ a < σ_4.1 19) → rI σ_4 B T ∧ 1 ≤ σ_4.1 58 ∧ σ_4.1 58 ≤ 12 ∧ csL σ_4 (σ_4.1 58 - 1) ∧ (a ≠ -1 → 0 ≤ a ∧ a < σ_4.1 19) := fun a ha => ⟨I4, c4.1.1, c4.1.2, c4.2.1, ha⟩
        have fin : ∀ (v : Int32) (υ : rS), frG [58, 61] [57, 59, 60] σ_4 υ ∧ ((v = 0 ∧ csF υ) ∨ v = 1) → frG rnF rnR σ υ ∧ acQ v υ := fun v υ q => ⟨frG_tr F4 (frG_mono q.1 (by decide) (by decide)), ac_mv q.2⟩
        refine ⟨fun c6 => ?_, fun c6 => ?_⟩
        · skip
          refine ⟨fun c7 => ?_, fun c7 => ?_, fun c7 => ?_, fun c7 => ?_, fun c7 => ?_, fun c7 => ?_⟩
          · skip
            refine store_c hC  ?_ (fun σ_8 q9 => ?_)
            · clear h; rw [q5.1.1 67 (by decide)]
              exact pl_st (y7 (by rw [y5]; exact st_12 (m1_st y2 s0 s1) (by rw [← y5]; exact c1) (by rw [← y5]; exact c2) (by rw [← y5]; exact y6) (by rw [← y5]; exact c7))) c4.1.1 c4.1.2
            refine ⟨ib_150.mpr ?_, ?_⟩
            · clear h; exact bb  -- b4
            have f8 : frG rnF rnR σ_4 σ_8 := frG_S q9 (by decide) (by decide)
            have I8 : rI σ_8 B T := rI_fr I4 f8
            have c8 : csF σ_8 := csF_o c4 (q9.2.2.1 59 (by decide) (by decide)) (q9.2.2.1 30 (by decide) (by decide)) (q9.1 19) (q9.1 58)
            refine moveTo_c hC B T ?_ (fun r10 σ_11 q12 => ?_)
            · clear h; exact ⟨I8, c8.1.1, c8.1.2, c8.2.1, fun z => fl_b I8 s0 (by rw [q9.1 19]; exact s4) z⟩  -- p5
            refine h _ _ ?_
            · refine and_5 ?_ (fun o9 => fun z => absurd z (mv_n8 q12.2))  -- q6
              clear h; exact ⟨frG_tr F4 (frG_tr f8 (frG_mono q12.1 (by decide) (by decide))), ac_mv q12.2⟩
          · skip
            refine ⟨fun c13 => ?_, fun c13 => ?_⟩
            · skip
              refine ⟨ib_150.mpr ?_, ?_⟩
              · clear h; exact bb  -- b7
              refine ⟨fun c14 => ?_, fun c14 => ?_⟩
              · skip
                refine ⟨ib_150.mpr ?_, ?_⟩
                · clear h; exact bb  -- b8
                refine moveTo_c hC B T ?_ (fun r15 σ_16 q17 => ?_)
                · clear h; exact mv _ (fun z => fl_b I4 s0 s4 z)  -- p9
                refine h _ _ ?_
                · refine and_5 ?_ (fun o9 => fun z => absurd z (mv_n8 q17.2))  -- q10
                  clear h; exact fin _ _ q17
              · skip
                refine ⟨ib_150.mpr ?_, ?_⟩
                · clear h; exact bb  -- b11
                refine moveTo_c hC B T ?_ (fun r18 σ_19 q20 => ?_)
                · clear h; exact mv _ (fun z => lk_b I4 s0 s4 (Or.inr rfl) z)  -- p12
                refine h _ _ ?_
                · refine and_5 ?_ (fun o9 => fun z => absurd z (mv_n8 q20.2))  -- q13
                  clear h; exact fin _ _ q20
            · skip
              refine ⟨ib_150.mpr ?_, ?_⟩
              · clear h; exact bb  -- b14
              refine ⟨fun c21 => ?_, fun c21 => ?_⟩
              · skip
                refine ⟨ib_150.mpr ?_, ?_⟩
                · clear h; exact bb  -- b15
                refine moveTo_c hC B T ?_ (fun r22 σ_23 q24 => ?_)
                · clear h; exact mv _ (fun z => fl_b I4 s0 s4 z)  -- p16
                refine h _ _ ?_
                · refine and_5 ?_ (fun o9 => fun z => absurd z (mv_n8 q24.2))  -- q17
                  clear h; exact fin _ _ q24
              · skip
                refine ⟨ib_150.mpr ?_, ?_⟩
                · clear h; exact bb  -- b18
                refine moveTo_c hC B T ?_ (fun r25 σ_26 q27 => ?_)
                · clear h; exact mv _ (fun z => lk_b I4 s0 s4 (Or.inl rfl) z)  -- p19
                refine h _ _ ?_
                · refine and_5 ?_ (fun o9 => fun z => absurd z (mv_n8 q27.2))  -- q20
                  clear h; exact fin _ _ q27
          · skip
            refine ⟨fun c28 => ?_, fun c28 => ?_⟩
            · skip
              refine ⟨ib_150.mpr ?_, ?_⟩
              · clear h; exact bb  -- b21
              refine ⟨fun c29 => ?_, fun c29 => ?_⟩
              · skip
                refine moveTo_c hC B T ?_ (fun r30 σ_31 q32 => ?_)
                · clear h; exact mv _ (fun _ => ⟨s0, s4⟩)  -- p22
                refine h _ _ ?_
                · refine and_5 ?_ (fun o9 => fun z => absurd z (mv_n8 q32.2))  -- q23
                  clear h; exact fin _ _ q32
              · skip
                refine ⟨ib_150.mpr ?_, ?_⟩
                · clear h; exact bb  -- b24
                refine moveTo_c hC B T ?_ (fun r33 σ_34 q35 => ?_)
                · clear h; exact mv _ (fun z => lk_b I4 s0 s4 (Or.inl rfl) z)  -- p25
                refine h _ _ ?_
                · refine and_5 ?_ (fun o9 => fun z => absurd z (mv_n8 q35.2))  -- q26
                  clear h; exact fin _ _ q35
            · skip
              refine ⟨ib_150.mpr ?_, ?_⟩
              · clear h; exact bb  -- b27
              refine moveTo_c hC B T ?_ (fun r36 σ_37 q38 => ?_)
              · clear h; exact mv _ (fun z => fl_b I4 s0 s4 z)  -- p28
              refine h _ _ ?_
              · refine and_5 ?_ (fun o9 => fun z => absurd z (mv_n8 q38.2))  -- q29
                clear h; exact fin _ _ q38
          · skip
            refine leave_c hC B T ?_ (fun r39 σ_40 q41 => ?_)
            · clear h; exact ⟨I4, c4.1.1, c4.1.2, c4.2.1⟩  -- p30
            refine h _ _ ?_
            · refine and_5 ?_ (fun o9 => fun z => absurd z (mv_n8 q41.2))  -- q31
              clear h; exact fin _ _ q41
          · skip
            refine ⟨fun c42 => ?_, fun c42 => ?_⟩
            · skip
              refine ⟨ib_150.mpr ?_, ?_⟩
              · clear h; exact bb  -- b32
              refine moveTo_c hC B T ?_ (fun r43 σ_44 q45 => ?_)
              · clear h; exact mv _ (fun z => fl_b I4 s0 s4 z)  -- p33
              refine h _ _ ?_
              · refine and_5 ?_ (fun o9 => fun z => absurd z (mv_n8 q45.2))  -- q34
                clear h; exact fin _ _ q45
            · skip
              refine h _ _ ?_
              · refine and_5 ?_ (fun o9 => fun z => absurd z (by decide))  -- q35
                clear h; exact ⟨F4, Or.inr (Or.inr (Or.inr (Or.inl rfl)))⟩
          · skip
            intro σ_46 hσ_46
            refine ⟨ib_150.mpr ?_, ?_⟩
            · clear h; exact bb  -- b36
            have f46 : frG rnF rnR σ_4 σ_46 := by rw [hσ_46]; exact frG_0 (by decide)
            have I46 : rI σ_46 B T := rI_fr I4 f46
            have e46 : ∀ k, k ≠ 62 → σ_46.1 k = σ_4.1 k := fun k hk => by rw [hσ_46, si1, if_neg hk]
            have c46 : csF σ_46 := csF_o c4 (by rw [hσ_46, si2]) (by rw [hσ_46, si2]) (e46 19 (by decide)) (e46 58 (by decide))
            refine moveTo_c hC B T ?_ (fun r47 σ_48 q49 => ?_)
            · clear h; exact ⟨I46, c46.1.1, c46.1.2, c46.2.1, fun z => fl_b I46 s0 (by rw [e46 19 (by decide)]; exact s4) z⟩  -- p37
            refine h _ _ ?_
            · refine and_5 ?_ (fun o9 => fun z => absurd z (mv_n8 q49.2))  -- q38
              clear h; exact ⟨frG_tr F4 (frG_tr f46 (frG_mono q49.1 (by decide) (by decide))), ac_mv q49.2⟩
        · skip
          refine fail_c hC  (fun r50 σ_51 q52 => ?_)
          refine h _ _ ?_
          · refine and_5 ?_ (fun o9 => fun z => absurd z (by rw [q52.2]; decide))  -- q39
            clear h; exact ⟨frG_tr F4 (frG_61 q52.1 (by decide)), Or.inr (Or.inr (Or.inl q52.2))⟩
      · skip
        refine choose_c hC B T ?_ (fun r53 σ_54 q55 => ?_)
        · clear h; exact ⟨y2, s0, s1, by rw [← y5]; exact c2⟩  -- p40
        refine h _ _ ?_
        · refine and_5 ?_ (fun o9 => fun _ => (q55.1.1 62 (by decide)).trans hE)  -- q41
          clear h; refine ⟨frG_tr y1 (frG_mono q55.1 (by decide) (by decide)), ?_⟩
          rcases q55.2 with z | ⟨z, z1, z2, z3⟩
          · exact Or.inr (Or.inr (Or.inl z))
          · exact Or.inr (Or.inr (Or.inr (Or.inr (Or.inr ⟨z, csF_o y3 (q55.1.2.2.1 59 (by decide)) (q55.1.2.2.1 30 (by decide)) (q55.1.1 19 (by decide)) (q55.1.1 58 (by decide)), by rw [q55.1.1 67 (by decide)]; exact y7 (by rw [c2]; decide), z1, z2, z3⟩))))
    · skip
      refine draw_c hC B T ?_ (fun r56 σ_57 q58 => ?_)
      · clear h; exact ⟨y2, s0, s1, by rw [← y5]; exact c1⟩  -- p42
      refine h _ _ ?_
      · refine and_5 ?_ (fun o9 => fun _ => (q58.1.1 62 (by decide)).trans hE)  -- q43
        clear h; refine ⟨frG_tr y1 (frG_mono q58.1 (by decide) (by decide)), ?_⟩
        rcases q58.2 with z | ⟨z, z1⟩
        · exact Or.inr (Or.inr (Or.inl z))
        · exact Or.inr (Or.inr (Or.inr (Or.inr (Or.inl ⟨z, csF_o y3 (q58.1.2.2.1 59 (by decide)) (q58.1.2.2.1 30 (by decide)) (q58.1.1 19 (by decide)) (q58.1.1 58 (by decide)), by rw [q58.1.1 67 (by decide)]; exact y7 (by rw [c1]; decide), z1⟩))))
  refine ⟨ib_12.mpr ?_, ?_⟩
  · clear h; exact c_m1 hc.1.1 hc.1.2  -- b44
  intro x59 hx59
  intro σ_60 hσ_60
  intro σ_61 hσ_61
  intro σ_62 hσ_62
  intro σ_63 hσ_63
  intro σ_64 hσ_64
  have s64 : σ_64.2 = σ.2 := by rw [hσ_64, si2, hσ_63, si2, hσ_62, si2, hσ_61, si2, hσ_60, si2]
  have e64 : ∀ k, k ≠ 11 → k ≠ 13 → k ≠ 47 → k ≠ 46 → k ≠ 62 → σ_64.1 k = σ.1 k := fun k z1 z2 z3 z4 z5 => by rw [hσ_64, si1, if_neg z5, hσ_63, si1, if_neg z4, hσ_62, si1, if_neg z3, hσ_61, si1, if_neg z2, hσ_60, si1, if_neg z1]
  have f64 : frG rnF rnR σ σ_64 := ⟨fun k z => e64 k (fun e => z (by rw [e]; decide)) (fun e => z (by rw [e]; decide)) (fun e => z (by rw [e]; decide)) (fun e => z (by rw [e]; decide)) (fun e => z (by rw [e]; decide)), fun k => by rw [s64], fun k _ => by rw [s64], fun k j => by rw [s64]⟩
  have v11 : σ_64.1 11 = 0 := by rw [hσ_64, si1, if_neg (by decide), hσ_63, si1, if_neg (by decide), hσ_62, si1, if_neg (by decide), hσ_61, si1, if_neg (by decide), hσ_60, si1, if_pos rfl]
  have v13 : σ_64.1 13 = 0 := by rw [hσ_64, si1, if_neg (by decide), hσ_63, si1, if_neg (by decide), hσ_62, si1, if_neg (by decide), hσ_61, si1, if_pos rfl]
  have v47 : σ_64.1 47 = 0 := by rw [hσ_64, si1, if_neg (by decide), hσ_63, si1, if_neg (by decide), hσ_62, si1, if_pos rfl]
  have v46 : σ_64.1 46 = 1 := by rw [hσ_64, si1, if_neg (by decide), hσ_63, si1, if_pos rfl]
  have e58 := e64 58 (by decide) (by decide) (by decide) (by decide) (by decide)
  have e19 := e64 19 (by decide) (by decide) (by decide) (by decide) (by decide)
  have m64 : m1 σ_64 B T := ⟨rI_fr hI f64, v46, by rw [e58]; exact hc.1, v11, v47, v13⟩
  have c64 : csF σ_64 := csF_o hc (by rw [s64]) (by rw [s64]) e19 e58
  have x64 : x59 = rd σ_64 59 (σ_64.1 58 - 1) := by rw [hx59, rd, s64, e58]
  have s0 : 0 ≤ x59 := by rw [x64]; exact c64.2.2.1
  have s1 : x59 < σ_64.1 19 := by rw [x64]; exact c64.2.2.2
  refine ⟨ib_150.mpr ?_, ?_⟩
  · clear h; exact ⟨s0, s150 m64.1 s1⟩  -- b45
  intro x65 hx65
  refine ⟨fun c66 => ?_, fun c66 => ?_⟩
  · skip
    refine ⟨fun c67 => ?_, fun c67 => ?_⟩
    · skip
      refine hj81 _ _ _ ?_
      · refine and_5 ?_ (fun o9 => by rw [hσ_64, si1, if_pos rfl])  -- k46
        clear h; exact ⟨f64, m64, c64, x64, hx65, c66, fun z => absurd c67 z⟩
    · skip
      refine findPlace_c hC B T ?_ (fun σ_68 q69 => ?_)
      · clear h; exact ⟨m64, s0, s1, by rw [rd, ← hx65]; exact c66, by rw [rd, ← hx65]; exact c67⟩  -- p47
      refine ⟨fun c70 => ?_, fun c70 => ?_⟩
      · skip
        refine hj81 _ _ _ ?_
        · refine and_5 ?_ (fun o9 => ?_)  -- k48
          · clear h; obtain ⟨w1, w2⟩ := q69.2.2 (le0 c70 q69.2.1)
            exact ⟨frG_tr f64 (frG_mono q69.1 (by decide) (by decide)), w1, csF_o c64 (q69.1.2.2.1 59 (by decide)) (q69.1.2.2.1 30 (by decide)) (q69.1.1 19 (by decide)) (q69.1.1 58 (by decide)), by rw [rd, q69.1.2.2.1 59 (by decide), q69.1.1 58 (by decide)]; exact x64, by rw [rd, q69.1.2.2.1 30 (by decide)]; exact hx65, c66, fun _ => w2⟩
          · clear o9
            rw [q69.1.1 62 (by decide), hσ_64, si1, if_pos rfl]
      · skip
        refine fail_c hC  (fun r71 σ_72 q73 => ?_)
        refine h _ _ ?_
        · refine and_5 ?_ (fun o9 => fun z => absurd z (by rw [q73.2]; decide))  -- q49
          clear h; exact ⟨frG_tr f64 (frG_tr (frG_mono q69.1 (by decide) (by decide)) (frG_61 q73.1 (by decide))), Or.inr (Or.inr (Or.inl q73.2))⟩
  · skip
    refine call_c hC B T ?_ (fun r74 σ_75 q76 => ?_)
    · clear h; exact ⟨m64, c64, x64, by rw [rd, ← hx65]; exact c66⟩  -- p50
    refine h _ _ ?_
    · refine and_5 ?_ (fun o9 => fun z => absurd z (by
rcases q76.2 with ⟨y, _⟩ | y | y <;> rw [y] <;> decide))  -- q51
      clear h; refine ⟨frG_tr f64 (frG_mono q76.1 (by decide) (by decide)), ?_⟩
      rcases q76.2 with z | z | z
      · exact Or.inl z
      · exact Or.inr (Or.inl z)
      · exact Or.inr (Or.inr (Or.inl z))

end
section
set_option maxHeartbeats 1600000
/-! the reference: a state that gains has one next, and doesn't choose -/
def gnR8 (σ : rS) (k : Nat) : Prop := σ.2.2.1 82 k ≠ 0 → σ.2.2.1 81 k = 0 ∧ σ.2.2.1 76 (k + 1) = σ.2.2.1 76 k + 1
def otR8 (σ τ : rS) (k : Nat) : Prop := (∀ j, j ≠ k → τ.2.2.1 82 j = σ.2.2.1 82 j ∧ τ.2.2.1 81 j = σ.2.2.1 81 j) ∧ ∀ j, j ≠ k → j ≠ k + 1 → τ.2.2.1 76 j = σ.2.2.1 76 j
theorem ot_f8 {σ τ υ : rS} {k : Nat} (h : otR8 σ τ k) (h1 : υ.2.2.1 82 = τ.2.2.1 82) (h2 : υ.2.2.1 81 = τ.2.2.1 81) (h3 : υ.2.2.1 76 = τ.2.2.1 76) : otR8 σ υ k := by
  unfold otR8
  rw [h1, h2, h3]
  exact h
theorem ws_g8 {r : Nat → Int32} : ∀ {n : Nat}, (∀ i, i < n → 1 ≤ r i) → (n : Int) ≤ wsum r n
  | 0, _ => by
    show (0 : Int) ≤ 0
    decide
  | n + 1, h => by
    have e := ws_g8 (r := r) (n := n) (fun i hi => h i (by omega))
    have q := h n (by omega)
    rw [lei, t1i] at q
    show _ ≤ wsum r n + (r n).toInt
    omega
theorem w1_n8 {τ : rS} {f : Int32} (h0 : 0 ≤ f) (h1 : f < τ.1 72) (h2 : wOf (τ.2.2.1 79) f.toNatClampNeg ((τ.1 72).toNatClampNeg - f.toNatClampNeg) = 1) (h3 : ∀ i, f.toNatClampNeg ≤ i → i < (τ.1 72).toNatClampNeg → 1 ≤ τ.2.2.1 79 i) (h4 : τ.1 72 ≤ 20000) : τ.1 72 = f + 1 := by
  have g := ws_g8 (r := fun j => τ.2.2.1 79 (f.toNatClampNeg + j)) (n := (τ.1 72).toNatClampNeg - f.toNatClampNeg) (fun i hi => h3 _ (by omega) (by omega))
  rw [show wsum (fun j => τ.2.2.1 79 (f.toNatClampNeg + j)) ((τ.1 72).toNatClampNeg - f.toNatClampNeg) = 1 from h2] at g
  rw [lei, t0i] at h0
  rw [lti] at h1
  rw [lei, show (20000 : Int32).toInt = 20000 from rfl] at h4
  have c0 := cnk h0
  have c1 := cnk (x := τ.1 72) (by omega)
  refine Int32.toInt_inj.mp ?_
  rw [add_i (by rw [t1i]; omega) (by rw [t1i]; omega), t1i]
  omega
theorem expand_n8 {C : rCx} (hC : cOK C) (B T : Int32) {σ : rS} {a1 : Int32} {Q : Int32 → rS → Prop} (hp : exV σ B T a1 ∧ a1 < σ.1 70) (h : ∀ (v : Int32) (σ' : rS), ((frG exFR9 exRr σ σ' ∧ exKR9 σ σ' B T ∧ nb v ∧ (v ≠ 0 → exV σ' B T (a1 + 1))) ∧ ((v ≠ 0 → gnR8 σ' a1.toNatClampNeg ∧ σ'.2.2.1 76 a1.toNatClampNeg = σ.1 72) ∧ otR8 σ σ' a1.toNatClampNeg)) → Q v σ') : cI C 10 m_expand [.ref (co C), .int a1] σ Q := by
  refine m_expand_run hC ?_
  unfold w_expand_0
  obtain ⟨⟨hI, hR, hrow, hnx, hk, hst, hz, hns⟩, hlt⟩ := hp
  have k1 : a1 < 1000 := Int32.lt_of_lt_of_le hlt (Int32.le_trans hR.1.2.1 hR.1.2.2)
  have hj176 : ∀ (l1 : Int32) (l4 : Int32) (τ : rS), ((l1 = a1 ∧ frG exFR9 exRr σ τ ∧ exKR9 σ τ B T ∧ nb l4 ∧ (l4 ≠ 0 → ∃ h, (h < 4 ∨ ouV h τ) ∧ (h < 4 ∨ h = 4 ∨ h = 5) ∧ exU τ a1 (σ.1 72) h (τ.1 63))) ∧ (l4 ≠ 0 → τ.2.2.1 82 a1.toNatClampNeg ≠ 0 → τ.2.2.1 81 a1.toNatClampNeg = 0 ∧ τ.1 72 = σ.1 72 + 1) ∧ otR8 σ τ a1.toNatClampNeg) → w_expand_176 C Q  l1 l4 τ := by
    rintro y176_1 y176_4 τ176 ⟨j176, hE⟩
    unfold w_expand_176
    obtain ⟨e1, jf, jK, jn, jU⟩ := j176
    have kk := k1001 hk.1 k1
    refine ⟨ib_1001.mpr ?_, ?_⟩
    · clear h; rw [e1]; exact ⟨kk.1, kk.2.1⟩  -- b1
    intro σ_1 hσ_1
    refine ⟨?_, h _ _ ?_⟩
    · clear h; exact jn  -- b2
    · refine and_5 ?_ (fun o9 => ?_)  -- q3
      · clear h; have e11 : ∀ k, σ_1.1 k = τ176.1 k := fun k => by rw [hσ_1, ri1]
        have r11 : ∀ k, k ≠ 76 → σ_1.2.2.1 k = τ176.2.2.1 k := fun k hk => by rw [hσ_1, ri3 hk]
        have r76 : σ_1.2.2.1 76 = upd (τ176.2.2.1 76) (a1 + 1).toNatClampNeg (τ176.1 72) := by rw [hσ_1, ri_row, e1]
        have f1 : frG exFR9 exRr τ176 σ_1 := by rw [hσ_1]; exact frG_1 (by decide)
        have K1 : exKR9 σ σ_1 B T := exK_o jK f1 (e11 70) (e11 71) (e11 72) (r11 73 (by decide))
        refine ⟨frG_tr jf f1, K1, jn, fun z => ?_⟩
        obtain ⟨hw, ou, hh, U⟩ := jU z
        have U1 := U.1
        obtain ⟨w1, w2, w3, w4, w5, w6⟩ := U1
        have ra : ∀ j : Int32, 0 ≤ j → j ≠ a1 + 1 → rd σ_1 76 j = rd τ176 76 j := fun j j0 jn => by rw [rd, r76, upd_ne (cn_d j0 kk.1 jn)]
        have rb : rd σ_1 76 (a1 + 1) = τ176.1 72 := by rw [rd, r76, upd_eq]
        refine ⟨K1.1, K1.2.1, K1.2.2.2, fun i hi => ?_, ⟨kk.1, ?_⟩, fun j j0 j1 => ?_, fun y => absurd y kk.2.2.2.2.2, fun _ => by rw [rb, e11]⟩
        · rw [e11] at hi
          exact nx_mono (w1 i hi) (by rw [r11 77 (by decide)]) (by rw [r11 78 (by decide)]) (by rw [e11]; exact Int32.le_refl _) (by rw [e11]; exact Int32.le_refl _)
        · exact Int32.le_trans (k_s hk.1 hlt (Int32.le_trans hR.1.2.1 hR.1.2.2)) K1.2.2.1.1
        · rcases l1k hk.1 k1 j1 with y | y
          · rw [y]
            exact st_new U ou hh (by rw [ra a1 hk.1 kk.2.2.2.2.1]; exact w3) rb (e11 72) (r11 79 (by decide)) (by rw [rd, r11 80 (by decide)]) (by rw [rd, r11 81 (by decide)])
          · have x := j_kn j0 k1 y
            exact stOK_m (w2 j j0 y).1 (ra j j0 x.1) (ra (j + 1) x.2.2.1 x.2.1) (by rw [rd, r11 80 (by decide)]) (by rw [rd, r11 81 (by decide)]) (by rw [e11]; exact Int32.le_refl _) (fun i _ => by rw [r11 79 (by decide)])
      · clear o9
        have r11 : ∀ k, k ≠ 76 → σ_1.2.2.1 k = τ176.2.2.1 k := fun k hk => by rw [hσ_1, ri3 hk]
        have kk := k1001 hk.1 k1
        have ks : (a1 + 1).toNatClampNeg = a1.toNatClampNeg + 1 := cn_succ hk.1 (Int32.lt_trans k1 (by decide))
        have r76 : ∀ j, σ_1.2.2.1 76 j = if j = a1.toNatClampNeg + 1 then τ176.1 72 else τ176.2.2.1 76 j := fun j => by rw [hσ_1, ri34, if_pos rfl, e1, ks]
        refine ⟨fun z => ⟨?_, ?_⟩, ⟨fun j hj => by rw [r11 82 (by decide), r11 81 (by decide)]; exact hE.2.1 j hj, fun j h1 h2 => by rw [r76, if_neg h2]; exact hE.2.2 j h1 h2⟩⟩
        rotate_left
        · obtain ⟨_, _, _, U⟩ := jU z
          have f0 : τ176.2.2.1 76 a1.toNatClampNeg = σ.1 72 := U.1.2.2.1
          rw [r76, if_neg (by omega)]
          exact f0
        intro y
        rw [r11 82 (by decide)] at y
        have w := hE.1 z y
        obtain ⟨_, _, _, U⟩ := jU z
        have f0 : τ176.2.2.1 76 a1.toNatClampNeg = σ.1 72 := U.1.2.2.1
        rw [r11 81 (by decide), r76, if_pos rfl, r76, if_neg (by omega), f0]
        exact w
  have hh106 : ∀ (l1 : Int32) (l2 : Int32) (l3 : Int32) (l4 : Int32) (l5 : Int32) (τ : rS), ((l1 = a1 ∧ frG exFR9 exRr σ τ ∧ exKR9 σ τ B T ∧ l2 = σ.1 72 ∧ nb l4 ∧ 0 ≤ l5 ∧ l5 ≤ 64 ∧ (l3 < 4 ∨ l3 = 4 ∨ l3 = 5) ∧ (¬ l3 < 4 → ouV l3 τ ∧ l5 ≤ τ.1 63) ∧ (l4 ≠ 0 → exU τ a1 (σ.1 72) l3 l5)) ∧ (¬ l3 < 4 → τ.2.2.1 82 a1.toNatClampNeg = 0) ∧ otR8 σ τ a1.toNatClampNeg) → w_expand_106 C Q  l1 l2 l3 l4 l5 τ := by
    intro z1 z2 z3 z4 z5 τi hinit
    unfold w_expand_106
    refine ⟨fun n l1 l2 l3 l4 l5 τ => n = (64 - l5).toNatClampNeg ∧ ((l1 = a1 ∧ frG exFR9 exRr σ τ ∧ exKR9 σ τ B T ∧ l2 = σ.1 72 ∧ nb l4 ∧ 0 ≤ l5 ∧ l5 ≤ 64 ∧ (l3 < 4 ∨ l3 = 4 ∨ l3 = 5) ∧ (¬ l3 < 4 → ouV l3 τ ∧ l5 ≤ τ.1 63) ∧ (l4 ≠ 0 → exU τ a1 (σ.1 72) l3 l5)) ∧ (¬ l3 < 4 → τ.2.2.1 82 a1.toNatClampNeg = 0) ∧ otR8 σ τ a1.toNatClampNeg), ⟨_, rfl, hinit⟩, ?_⟩
    clear hinit
    rintro n106 x106_1 x106_2 x106_3 x106_4 x106_5 σ106 ⟨hn106, i106, hE⟩
    have hj164 : ∀ (l1 : Int32) (l2 : Int32) (l3 : Int32) (l5 : Int32) (s1 : Int32) (s2 : Int32) (s3 : Int32) (τ : rS), ((l1 = a1 ∧ frG exFR9 exRr σ τ ∧ exKR9 σ τ B T ∧ l2 = σ.1 72 ∧ l3 = x106_3 ∧ l5 = x106_5 ∧ ¬ x106_3 < 4 ∧ ouV x106_3 τ ∧ ¬ τ.1 63 ≤ x106_5 ∧ exU τ a1 (σ.1 72) x106_3 x106_5 ∧ ((s1 = 0 ∧ csF τ) ∨ s1 = 1) ∧ s2 = rd τ 65 x106_5 ∧ ¬ s2 ≤ 0 ∧ (x106_3 = 5 → s3 = 0)) ∧ (¬ x106_3 < 4 → τ.2.2.1 82 a1.toNatClampNeg = 0) ∧ otR8 σ τ a1.toNatClampNeg) → w_expand_164 C Q (fun l1' l2' l3' l4' l5' τ => ∃ k < n106, (fun n l1 l2 l3 l4 l5 τ => n = (64 - l5).toNatClampNeg ∧ ((l1 = a1 ∧ frG exFR9 exRr σ τ ∧ exKR9 σ τ B T ∧ l2 = σ.1 72 ∧ nb l4 ∧ 0 ≤ l5 ∧ l5 ≤ 64 ∧ (l3 < 4 ∨ l3 = 4 ∨ l3 = 5) ∧ (¬ l3 < 4 → ouV l3 τ ∧ l5 ≤ τ.1 63) ∧ (l4 ≠ 0 → exU τ a1 (σ.1 72) l3 l5)) ∧ (¬ l3 < 4 → τ.2.2.1 82 a1.toNatClampNeg = 0) ∧ otR8 σ τ a1.toNatClampNeg)) k l1' l2' l3' l4' l5' τ) l1 l2 l3 l5 s1 s2 s3 τ := by
      rintro y164_1 y164_2 y164_3 y164_5 y164_s1 y164_s2 y164_s3 τ164 ⟨j164, hE⟩
      unfold w_expand_164
      obtain ⟨e1, g1, g2, g3, g4, g5, g6, g7, g8, g9, ga, gb, gc, gd⟩ := j164
      have x50 : 0 ≤ x106_5 := i106.2.2.2.2.2.1
      have u := up_n x50 g8 g7.2.2.1
      have u64 := up_n x50 (Int32.not_le.mpr u.2.2.2.2.2) (by decide : (64 : Int32) ≤ 64)
      have x51 : x106_5 < 1000000 := Int32.lt_trans u.2.2.2.2.2 (by decide)
      have es : wsum (τ164.2.2.1 65) (x106_5 + 1).toNatClampNeg = wsum (τ164.2.2.1 65) x106_5.toNatClampNeg + y164_s2.toInt := by rw [cn_succ x50 x51, gb]; rfl
      have ws : wsum (τ164.2.2.1 65) (x106_5 + 1).toNatClampNeg ≤ 8000000 := Int.le_trans (wsum_mono (fun i hi => t0 (g7.2.2.2.1 i hi)) (cn_l u.2.2.2.1 u.2.2.1)) g7.2.2.2.2.2.1
      refine addNext_c hC  ?_ (fun r2 σ_3 q4 => ?_)
      · clear h; refine ⟨g2.2.1, ?_, fun z => ?_, by rw [g3]; exact g9.1.2.2.2.2.1, by rw [g3]; exact g9.1.2.2.2.1, pos1 gc, by rw [g3]; exact g9.1.2.2.2.2.2, by rw [g3, (g9.2.2.2 g6).1, ← es]; exact ws⟩
        · rcases ga with y | y
          · exact Or.inl y.1
          · exact Or.inr (Or.inl y)
        · rcases ga with y | y
          · exact y.2
          · exact absurd (z.symm.trans y) (by decide)
      intro x5 hx5
      refine lp_b5 (cn_lt2 hn106 ?_ ?_) (fun d9 => ⟨rfl, ?_⟩)
      · clear h; rw [hx5, g5]; exact u64.1  -- d5
      · clear h; rw [hx5, g5]; exact u64.2.1  -- d6
      · refine and_5 ?_ (fun o9 => ?_)  -- i7
        · clear h; refine ⟨e1, frG_tr g1 (frG_mono q4.1 (by decide) (by decide)), exK_an g2 q4.1 q4.2.1 q4.2.2.1 q4.2.2.2.1, g3, q4.2.2.2.2.1, by rw [hx5, g5]; exact u64.2.2.1, by rw [hx5, g5]; exact u64.2.2.2.1, by rw [g4]; exact i106.2.2.2.2.2.2.2.1, fun z => ⟨by rw [g4]; exact ou_o g7 (q4.1.1 67 (by decide)) (q4.1.1 63 (by decide)) (q4.1.1 66 (by decide)) (q4.1.2.2.1 65 (by decide)), by rw [hx5, g5, q4.1.1 63 (by decide)]; exact u.2.2.2.1⟩, fun z => ?_⟩
          have A := q4.2.2.2.2.2 z
          rw [g3] at A
          rw [g4, hx5, g5]
          have U4 := g9.2.2.2 g6
          refine ⟨exW_an g9.1 q4.1 q4.2.2.1 A, by rw [rd, q4.1.2.2.1 81 (by decide)]; exact g9.2.1, fun y => absurd y g6, fun _ => ⟨?_, fun h4 => ?_, fun h5 => ?_⟩⟩
          · rw [A.2.2.2.2.1, U4.1, q4.1.2.2.1 65 (by decide), es]
          · rw [rd, q4.1.2.2.1 80 (by decide), q4.1.1 66 (by decide)]; exact U4.2.1 h4
          · rw [A.2.2.2.2.2.2 (gd h5)]; exact fx1 (U4.2.2 h5)
        · clear o9
          rw [g4]
          exact ⟨fun n => by rw [q4.1.2.2.1 82 (by decide)]; exact hE.1 n, ot_f8 hE.2 (q4.1.2.2.1 82 (by decide)) (q4.1.2.2.1 81 (by decide)) (q4.1.2.2.1 76 (by decide))⟩
    obtain ⟨e1, o1, o2, o3, o4, o5, o6, o7, o8, o9⟩ := i106
    refine ⟨fun c6 => ?_, fun c6 => ?_⟩
    · skip
      refine hj176 _ _ _ ?_
      · refine and_5 ?_ (fun o9 => ?_)  -- k8
        · clear h; exact ⟨e1, o1, o2, o4, fun z => ⟨x106_3, Or.inl c6, o7, exU_lt (o9 z) c6⟩⟩
        · clear o9
          refine ⟨fun z _ => ?_, hE.2⟩
          have U := o9 z
          have w := U.2.2.1 c6
          have a81 := U.2.1
          rw [if_neg (fun y => by rw [y] at c6; exact absurd c6 (by decide))] at a81
          exact ⟨a81, w1_n8 U.1.2.2.2.2.1 w.1 w.2.2 U.1.2.2.2.2.2 (Int32.le_trans o2.2.1.2.2.2 (by decide))⟩
    · skip
      refine ⟨fun c7 => ?_, fun c7 => ?_⟩
      · skip
        refine hj176 _ _ _ ?_
        · refine and_5 ?_ (fun o9 => ⟨fun _ y => absurd (hE.1 c6) y, hE.2⟩)  -- k9
          clear h; have e : x106_5 = σ106.1 63 := Int32.le_antisymm (o8 c6).2 c7
          refine ⟨e1, o1, o2, o4, fun z => ⟨x106_3, Or.inr (o8 c6).1, o7, ?_⟩⟩
          have w := o9 z
          rw [e] at w
          exact w
      · skip
        refine ⟨fun c8 => ?_, fun c8 => ?_⟩
        · skip
          refine hj176 _ _ _ ?_
          · refine and_5 ?_ (fun o9 => ⟨fun z => absurd c8 z, hE.2⟩)  -- k10
            clear h; exact ⟨e1, o1, o2, o4, fun z => absurd c8 z⟩
        · skip
          have ou := (o8 c6).1
          have u := up_n o5 c7 ou.2.2.1
          have u64 := up_n o5 (Int32.not_le.mpr u.2.2.2.2.2) (by decide : (64 : Int32) ≤ 64)
          have lt5 := cn_lt o5 u.2.2.2.2.1
          have U := o9 c8
          have U4 := U.2.2.2 c6
          refine ⟨ib_64.mpr ?_, ?_⟩
          · clear h; exact ⟨o5, u.2.2.2.2.2⟩  -- b11
          refine ⟨fun c9 => ?_, fun c9 => ?_⟩
          · skip
            intro x10 hx10
            refine lp_b5 (cn_lt2 hn106 ?_ ?_) (fun d9 => ⟨rfl, ?_⟩)
            · clear h; rw [hx10]; exact u64.1  -- d12
            · clear h; rw [hx10]; exact u64.2.1  -- d13
            · refine and_5 ?_ (fun o9 => hE)  -- i14
              clear h; rw [hx10]
              have w0 : σ106.2.2.1 65 x106_5.toNatClampNeg = 0 := le0 c9 (ou.2.2.2.1 _ lt5)
              refine ⟨e1, o1, o2, o3, o4, u64.2.2.1, u64.2.2.2.1, o7, fun z => ⟨ou, u.2.2.2.1⟩, fun z => ⟨U.1, U.2.1, fun y => absurd y c6, fun y => ⟨?_, U4.2.1, fun h5 => ?_⟩⟩⟩
              · rw [cn_succ o5 (Int32.lt_trans u.2.2.2.2.2 (by decide))]
                show _ = wsum (σ106.2.2.1 65) x106_5.toNatClampNeg + (σ106.2.2.1 65 x106_5.toNatClampNeg).toInt
                rw [w0, Int32.toInt_zero, Int.add_zero]
                exact U4.1
              · have := (ou.2.2.2.2.2.2.2 h5).2 _ lt5
                rw [w0] at this
                exact absurd this (by decide)
          · skip
            refine unpack_c hC  ?_ (fun σ_11 q12 => ?_)
            · clear h; rw [e1]; exact ⟨hk.1, k1, o2.2.2.2 a1 hk.1 (Int32.lt_of_lt_of_le hlt o2.2.2.1.1)⟩  -- p15
            have f11 : frG exFR9 exRr σ106 σ_11 := frG_mono q12.1 (by decide) (by decide)
            have K11 : exKR9 σ σ_11 B T := exK_o o2 f11 (q12.1.1 70 (by decide)) (q12.1.1 71 (by decide)) (q12.1.1 72 (by decide)) (q12.1.2.2.1 73 (by decide))
            refine get_c hC B T ?_ (fun r13 σ_14 q15 => ?_)
            · clear h; exact ⟨K11.1, q12.2, by rw [q12.1.1 67 (by decide)]; exact ou.1, o5, u.2.2.2.2.2⟩  -- p16
            have f15 : frG exFR9 exRr σ_11 σ_14 := frG_mono q15.1 (by decide) (by decide)
            have K14 : exKR9 σ σ_14 B T := exK_o K11 f15 (q15.1.1 70 (by decide)) (q15.1.1 71 (by decide)) (q15.1.1 72 (by decide)) (q15.1.2.2.1 73 (by decide))
            have ff : ∀ k, k = 63 ∨ k = 66 ∨ k = 67 ∨ k = 70 ∨ k = 71 ∨ k = 72 → σ_14.1 k = σ106.1 k := fun k hk => by
              rw [q15.1.1 k (by rcases hk with rfl | rfl | rfl | rfl | rfl | rfl <;> decide), q12.1.1 k (by rcases hk with rfl | rfl | rfl | rfl | rfl | rfl <;> decide)]
            have rr : ∀ k, k = 65 ∨ k = 76 ∨ k = 77 ∨ k = 78 ∨ k = 79 ∨ k = 80 ∨ k = 81 → σ_14.2.2.1 k = σ106.2.2.1 k := fun k hk => by
              rw [q15.1.2.2.1 k (by rcases hk with rfl | rfl | rfl | rfl | rfl | rfl | rfl <;> decide), q12.1.2.2.1 k (by rcases hk with rfl | rfl | rfl | rfl | rfl | rfl | rfl <;> decide)]
            have fin : ∀ s3 : Int32, (x106_3 = 5 → s3 = 0) → x106_1 = a1 ∧ frG exFR9 exRr σ σ_14 ∧ exKR9 σ σ_14 B T ∧ x106_2 = σ.1 72 ∧ x106_3 = x106_3 ∧ x106_5 = x106_5 ∧ ¬ x106_3 < 4 ∧ ouV x106_3 σ_14 ∧ ¬ σ_14.1 63 ≤ x106_5 ∧ exU σ_14 a1 (σ.1 72) x106_3 x106_5 ∧ ((r13 = 0 ∧ csF σ_14) ∨ r13 = 1) ∧ σ_14.2.2.1 65 x106_5.toNatClampNeg = rd σ_14 65 x106_5 ∧ ¬ σ_14.2.2.1 65 x106_5.toNatClampNeg ≤ 0 ∧ (x106_3 = 5 → s3 = 0) := fun s3 h3 => ⟨e1, frG_tr o1 (frG_tr f11 f15), K14, o3, rfl, rfl, c6, ou_o ou (ff 67 (by decide)) (ff 63 (by decide)) (ff 66 (by decide)) (rr 65 (by decide)), by rw [ff 63 (by decide)]; exact c7, exU_o U k1 (ff 66 (by decide)) (ff 70 (by decide)) (ff 71 (by decide)) (ff 72 (by decide)) rr, q15.2, rfl, by rw [rr 65 (by decide)]; exact c9, h3⟩
            refine ⟨ib_64.mpr ?_, ?_⟩
            · clear h; exact ⟨o5, u.2.2.2.2.2⟩  -- b17
            refine ⟨fun c16 => ?_, fun c16 => ?_⟩
            · skip
              refine hj164 _ _ _ _ _ _ _ _ ?_
              · refine and_5 ?_ (fun o9 => ⟨fun n => by rw [q15.1.2.2.1 82 (by decide), q12.1.2.2.1 82 (by decide)]; exact hE.1 n, ot_f8 hE.2 ((q15.1.2.2.1 82 (by decide)).trans (q12.1.2.2.1 82 (by decide))) ((q15.1.2.2.1 81 (by decide)).trans (q12.1.2.2.1 81 (by decide))) ((q15.1.2.2.1 76 (by decide)).trans (q12.1.2.2.1 76 (by decide)))⟩)  -- k18
                clear h; exact fin _ (fun _ => rfl)
            · skip
              refine hj164 _ _ _ _ _ _ _ _ ?_
              · refine and_5 ?_ (fun o9 => ⟨fun n => by rw [q15.1.2.2.1 82 (by decide), q12.1.2.2.1 82 (by decide)]; exact hE.1 n, ot_f8 hE.2 ((q15.1.2.2.1 82 (by decide)).trans (q12.1.2.2.1 82 (by decide))) ((q15.1.2.2.1 81 (by decide)).trans (q12.1.2.2.1 81 (by decide))) ((q15.1.2.2.1 76 (by decide)).trans (q12.1.2.2.1 76 (by decide)))⟩)  -- k19
                clear h; exact fin _ (fun z => absurd (c16.symm.trans z) (by decide))
  have hj84 : ∀ (l1 : Int32) (l2 : Int32) (l3 : Int32) (s1 : Int32) (s2 : Int32) (τ : rS), ((l1 = a1 ∧ frG exFR9 exRr σ τ ∧ exKR9 σ τ B T ∧ l2 = σ.1 72 ∧ s1 = a1 ∧ acQ l3 τ ∧ exWR9 τ a1 (σ.1 72) ∧ τ.1 72 = σ.1 72 ∧ rd τ 81 a1 = (if l3 = 5 then 1 else 0) ∧ (l3 < 4 → s2 = 1) ∧ (l3 = 4 → s2 = τ.1 66)) ∧ (l3 = 4 ∨ l3 = 5 → τ.2.2.1 82 a1.toNatClampNeg = 0) ∧ otR8 σ τ a1.toNatClampNeg) → w_expand_84 C Q  l1 l2 l3 s1 s2 τ := by
    rintro y84_1 y84_2 y84_3 y84_s1 y84_s2 τ84 ⟨j84, hE⟩
    unfold w_expand_84
    obtain ⟨e1, g1, g2, g3, g4, g5, g6, g7, g8, g9, ga⟩ := j84
    refine ⟨ib_1000.mpr ?_, ?_⟩
    · clear h; rw [g4]; exact ⟨hk.1, k1⟩  -- b20
    intro σ_17 hσ_17
    have e17 : ∀ k, σ_17.1 k = τ84.1 k := fun k => by rw [hσ_17, ri1]
    have r17 : ∀ k, k ≠ 80 → σ_17.2.2.1 k = τ84.2.2.1 k := fun k hk => by rw [hσ_17, ri3 hk]
    have r80 : σ_17.2.2.1 80 = upd (τ84.2.2.1 80) a1.toNatClampNeg y84_s2 := by rw [hσ_17, ri_row, g4]
    have f17 : frG exFR9 exRr τ84 σ_17 := by rw [hσ_17]; exact frG_1 (by decide)
    have K17 : exKR9 σ σ_17 B T := exK_o g2 f17 (e17 70) (e17 71) (e17 72) (r17 73 (by decide))
    have W17 : exWR9 σ_17 a1 (σ.1 72) := exW_o g6 k1 (e17 70) (e17 71) (e17 72) (r17 76 (by decide)) (r17 77 (by decide)) (r17 78 (by decide)) (r17 79 (by decide)) (fun j j0 j1 => by rw [rd, r80, upd_ne (cn_d j0 hk.1 (j_k j0 j1 k1).2.2.1)]) (fun j _ _ => by rw [rd, r17 81 (by decide)])
    have v80 : rd σ_17 80 a1 = y84_s2 := by rw [rd, r80, upd_eq]
    have c72 : σ_17.1 72 = σ.1 72 := (e17 72).trans g7
    have v81 : rd σ_17 81 a1 = (if y84_3 = 5 then 1 else 0) := by rw [rd, r17 81 (by decide)]; exact g8
    have A17 : acQ y84_3 σ_17 := ac_o g5 (fun k _ => e17 k) (fun k hk => r17 k (by rcases hk with rfl | rfl | rfl <;> decide))
    have a3 := ac_3 A17
    refine ⟨fun c18 => ?_, fun c18 => ?_⟩
    · skip
      refine hh106 _ _ _ _ _ _ ?_
      · refine and_5 ?_ (fun o9 => ⟨fun n => by rw [r17 82 (by decide)]; exact hE.1 (a3.1.resolve_left n), ot_f8 hE.2 (r17 82 (by decide)) (r17 81 (by decide)) (r17 76 (by decide))⟩)  -- j21
        clear h; have n4 : ¬ y84_3 < 4 := Int32.not_lt.mpr c18
        refine ⟨e1, frG_tr g1 f17, K17, g3, nb_1, by decide, by decide, a3.1, fun z => ⟨ou_of A17 z, Int32.le_trans (by decide) (ou_of A17 z).2.1⟩, fun _ => ⟨W17, v81, fun y => absurd y n4, fun _ => ⟨by rw [wOf_0 (by rw [c72])]; rfl, fun h4 => by rw [v80, ga h4, e17], fun h5 => by rw [c72]; exact fx0⟩⟩⟩
    · skip
      refine addNext_c hC  ?_ (fun r19 σ_20 q21 => ?_)
      · clear h; refine ⟨K17.2.1, (a3.2 c18).1, (a3.2 c18).2, by rw [g3]; exact hR.2.2.1, by rw [g3, c72]; exact Int32.le_refl _, by decide, fun i a b => ?_, ?_⟩
        · rw [g3] at a
          rw [c72] at b
          omega
        · rw [g3, wOf_0 (by rw [c72])]; decide
      refine hh106 _ _ _ _ _ _ ?_
      · refine and_5 ?_ (fun o9 => ⟨fun n => absurd (nle4.mp c18) n, ot_f8 hE.2 ((q21.1.2.2.1 82 (by decide)).trans (r17 82 (by decide))) ((q21.1.2.2.1 81 (by decide)).trans (r17 81 (by decide))) ((q21.1.2.2.1 76 (by decide)).trans (r17 76 (by decide)))⟩)  -- j23
        clear h; have lt4 : y84_3 < 4 := nle4.mp c18
        refine ⟨e1, frG_tr g1 (frG_tr f17 (frG_mono q21.1 (by decide) (by decide))), exK_an K17 q21.1 q21.2.1 q21.2.2.1 q21.2.2.2.1, g3, q21.2.2.2.2.1, by decide, by decide, a3.1, fun z => absurd lt4 z, fun z => ?_⟩
        have A := q21.2.2.2.2.2 z
        rw [g3] at A
        refine ⟨exW_an W17 q21.1 q21.2.2.1 A, by rw [rd, q21.1.2.2.1 81 (by decide)]; exact v81, fun _ => ⟨A.2.2.2.2.2.1, ?_, ?_⟩, fun y => absurd lt4 y⟩
        · rw [rd, q21.1.2.2.1 80 (by decide)]; exact v80.trans (g9 lt4)
        · rw [A.2.2.2.2.1, wOf_0 (by rw [c72])]; rfl
  have hj56 : ∀ (l1 : Int32) (l2 : Int32) (l3 : Int32) (s1 : Int32) (s2 : Int32) (τ : rS), ((l1 = a1 ∧ frG exFR9 exRr σ τ ∧ exKR9 σ τ B T ∧ l2 = σ.1 72 ∧ s1 = a1 ∧ acQ l3 τ ∧ exWR9 τ a1 (σ.1 72) ∧ τ.1 72 = σ.1 72 ∧ rd τ 81 a1 = (if l3 = 5 then 1 else 0)) ∧ (l3 = 4 ∨ l3 = 5 → s2 = 0) ∧ otR8 σ τ a1.toNatClampNeg) → w_expand_56 C Q  l1 l2 l3 s1 s2 τ := by
    rintro y56_1 y56_2 y56_3 y56_s1 y56_s2 τ56 ⟨j56, hE⟩
    unfold w_expand_56
    obtain ⟨e1, g1, g2, g3, g4, g5, g6, g7, g8⟩ := j56
    refine ⟨ib_1000.mpr ?_, ?_⟩
    · clear h; rw [g4]; exact ⟨hk.1, k1⟩  -- b24
    intro σ_22 hσ_22
    have e22 : ∀ k, σ_22.1 k = τ56.1 k := fun k => by rw [hσ_22, ri1]
    have r22 : ∀ k, k ≠ 82 → σ_22.2.2.1 k = τ56.2.2.1 k := fun k hk => by rw [hσ_22, ri3 hk]
    have f22 : frG exFR9 exRr τ56 σ_22 := by rw [hσ_22]; exact frG_1 (by decide)
    have fin : ∀ s2 : Int32, (y56_3 < 4 → s2 = 1) → (y56_3 = 4 → s2 = σ_22.1 66) → y56_1 = a1 ∧ frG exFR9 exRr σ σ_22 ∧ exKR9 σ σ_22 B T ∧ y56_2 = σ.1 72 ∧ y56_1 = a1 ∧ acQ y56_3 σ_22 ∧ exWR9 σ_22 a1 (σ.1 72) ∧ σ_22.1 72 = σ.1 72 ∧ rd σ_22 81 a1 = (if y56_3 = 5 then 1 else 0) ∧ (y56_3 < 4 → s2 = 1) ∧ (y56_3 = 4 → s2 = σ_22.1 66) := fun s2 h1 h2 => ⟨e1, frG_tr g1 f22, exK_o g2 f22 (e22 70) (e22 71) (e22 72) (r22 73 (by decide)), g3, e1, ac_o g5 (fun k _ => e22 k) (fun k hk => r22 k (by rcases hk with rfl | rfl | rfl <;> decide)), exW_o g6 k1 (e22 70) (e22 71) (e22 72) (r22 76 (by decide)) (r22 77 (by decide)) (r22 78 (by decide)) (r22 79 (by decide)) (fun j _ _ => by rw [rd, r22 80 (by decide)]) (fun j _ _ => by rw [rd, r22 81 (by decide)]), (e22 72).trans g7, by rw [rd, r22 81 (by decide)]; exact g8, h1, h2⟩
    refine ⟨fun c23 => ?_, fun c23 => ?_⟩
    · skip
      refine ⟨fun c24 => ?_, fun c24 => ?_⟩
      · skip
        refine hj84 _ _ _ _ _ _ ?_
        · refine and_5 ?_ (fun o9 => ?_)  -- k25
          · clear h; exact fin _ (fun _ => rfl) (fun z => absurd z c23)
          · clear o9
            have r82 : ∀ j, σ_22.2.2.1 82 j = if j = a1.toNatClampNeg then y56_s2 else τ56.2.2.1 82 j := fun j => by rw [hσ_22, ri34, if_pos rfl, g4]
            exact ⟨fun z => by rw [r82, if_pos rfl]; exact hE.1 z, fun j hj => ⟨by rw [r82, if_neg hj]; exact (hE.2.1 j hj).1, by rw [r22 81 (by decide)]; exact (hE.2.1 j hj).2⟩, fun j h1 h2 => by rw [r22 76 (by decide)]; exact hE.2.2 j h1 h2⟩
      · skip
        refine hj84 _ _ _ _ _ _ ?_
        · refine and_5 ?_ (fun o9 => ?_)  -- k26
          · clear h; exact fin _ (fun z => by rw [c24] at z; exact absurd z (by decide)) (fun z => absurd z c23)
          · clear o9
            have r82 : ∀ j, σ_22.2.2.1 82 j = if j = a1.toNatClampNeg then y56_s2 else τ56.2.2.1 82 j := fun j => by rw [hσ_22, ri34, if_pos rfl, g4]
            exact ⟨fun z => by rw [r82, if_pos rfl]; exact hE.1 z, fun j hj => ⟨by rw [r82, if_neg hj]; exact (hE.2.1 j hj).1, by rw [r22 81 (by decide)]; exact (hE.2.1 j hj).2⟩, fun j h1 h2 => by rw [r22 76 (by decide)]; exact hE.2.2 j h1 h2⟩
    · skip
      refine hj84 _ _ _ _ _ _ ?_
      · refine and_5 ?_ (fun o9 => ?_)  -- k27
        · clear h; exact fin _ (fun z => by rw [c23] at z; exact absurd z (by decide)) (fun _ => rfl)
        · clear o9
          have r82 : ∀ j, σ_22.2.2.1 82 j = if j = a1.toNatClampNeg then y56_s2 else τ56.2.2.1 82 j := fun j => by rw [hσ_22, ri34, if_pos rfl, g4]
          exact ⟨fun z => by rw [r82, if_pos rfl]; exact hE.1 z, fun j hj => ⟨by rw [r82, if_neg hj]; exact (hE.2.1 j hj).1, by rw [r22 81 (by decide)]; exact (hE.2.1 j hj).2⟩, fun j h1 h2 => by rw [r22 76 (by decide)]; exact hE.2.2 j h1 h2⟩
  have hj37 : ∀ (l1 : Int32) (l2 : Int32) (l3 : Int32) (s1 : Int32) (s2 : Int32) (τ : rS), ((l1 = a1 ∧ frG exFR9 exRr σ τ ∧ exKR9 σ τ B T ∧ l2 = σ.1 72 ∧ s1 = a1 ∧ acQ l3 τ ∧ exWR9 τ a1 (σ.1 72) ∧ τ.1 72 = σ.1 72 ∧ s2 = (if l3 = 5 then 1 else 0)) ∧ (l3 = 4 ∨ l3 = 5 → τ.1 62 = 0) ∧ otR8 σ τ a1.toNatClampNeg) → w_expand_37 C Q  l1 l2 l3 s1 s2 τ := by
    rintro y37_1 y37_2 y37_3 y37_s1 y37_s2 τ37 ⟨j37, hE⟩
    unfold w_expand_37
    obtain ⟨e1, g1, g2, g3, g4, g5, g6, g7, g8⟩ := j37
    refine ⟨ib_1000.mpr ?_, ?_⟩
    · clear h; rw [g4]; exact ⟨hk.1, k1⟩  -- b28
    intro σ_25 hσ_25
    have e25 : ∀ k, σ_25.1 k = τ37.1 k := fun k => by rw [hσ_25, ri1]
    have r25 : ∀ k, k ≠ 81 → σ_25.2.2.1 k = τ37.2.2.1 k := fun k hk => by rw [hσ_25, ri3 hk]
    have r81 : σ_25.2.2.1 81 = upd (τ37.2.2.1 81) a1.toNatClampNeg (if y37_3 = 5 then 1 else 0) := by rw [hσ_25, ri_row, g4, g8, vbo]
    have f25 : frG exFR9 exRr τ37 σ_25 := by rw [hσ_25]; exact frG_1 (by decide)
    have fin : y37_1 = a1 ∧ frG exFR9 exRr σ σ_25 ∧ exKR9 σ σ_25 B T ∧ y37_2 = σ.1 72 ∧ y37_1 = a1 ∧ acQ y37_3 σ_25 ∧ exWR9 σ_25 a1 (σ.1 72) ∧ σ_25.1 72 = σ.1 72 ∧ rd σ_25 81 a1 = (if y37_3 = 5 then 1 else 0) := ⟨e1, frG_tr g1 f25, exK_o g2 f25 (e25 70) (e25 71) (e25 72) (r25 73 (by decide)), g3, e1, ac_o g5 (fun k _ => e25 k) (fun k hk => r25 k (by rcases hk with rfl | rfl | rfl <;> decide)), exW_o g6 k1 (e25 70) (e25 71) (e25 72) (r25 76 (by decide)) (r25 77 (by decide)) (r25 78 (by decide)) (r25 79 (by decide)) (fun j _ _ => by rw [rd, r25 80 (by decide)]) (fun j j0 j1 => by rw [rd, r81, upd_ne (cn_d j0 hk.1 (j_k j0 j1 k1).2.2.1)]), (e25 72).trans g7, by rw [rd, r81, upd_eq]⟩
    refine ⟨fun c26 => ?_, fun c26 => ?_⟩
    · skip
      refine hj56 _ _ _ _ _ _ ?_
      · refine and_5 ?_ (fun o9 => ?_)  -- k29
        · clear h; exact fin
        · clear o9
          refine ⟨fun z => by rw [e25]; exact hE.1 z, fun j hj => ⟨by rw [r25 82 (by decide)]; exact (hE.2.1 j hj).1, ?_⟩, fun j h1 h2 => by rw [r25 76 (by decide)]; exact hE.2.2 j h1 h2⟩
          rw [r81]
          show (if j = a1.toNatClampNeg then _ else τ37.2.2.1 81 j) = _
          rw [if_neg hj]
          exact (hE.2.1 j hj).2
    · skip
      refine hj56 _ _ _ _ _ _ ?_
      · refine and_5 ?_ (fun o9 => ?_)  -- k30
        · clear h; exact fin
        · clear o9
          refine ⟨fun _ => rfl, fun j hj => ⟨by rw [r25 82 (by decide)]; exact (hE.2.1 j hj).1, ?_⟩, fun j h1 h2 => by rw [r25 76 (by decide)]; exact hE.2.2 j h1 h2⟩
          rw [r81]
          show (if j = a1.toNatClampNeg then _ else τ37.2.2.1 81 j) = _
          rw [if_neg hj]
          exact (hE.2.1 j hj).2
  intro x27 hx27
  refine ⟨ib_1001.mpr ?_, ?_⟩
  · clear h; exact ⟨hk.1, (k1001 hk.1 k1).2.2.1⟩  -- b31
  intro σ_28 hσ_28
  have e28 : ∀ k, σ_28.1 k = σ.1 k := fun k => by rw [hσ_28, ri1]
  have r28 : ∀ k, k ≠ 76 → σ_28.2.2.1 k = σ.2.2.1 k := fun k hk => by rw [hσ_28, ri3 hk]
  have f28 : frG exFR9 exRr σ σ_28 := by rw [hσ_28]; exact frG_1 (by decide)
  have K0 : exKR9 σ σ B T := ⟨hI, hR, ⟨Int32.le_refl _, Int32.le_refl _, Int32.le_refl _⟩, hrow⟩
  have K28 : exKR9 σ σ_28 B T := exK_o K0 f28 (e28 70) (e28 71) (e28 72) (r28 73 (by decide))
  have W28 : exWR9 σ_28 a1 (σ.1 72) := exW_0 ⟨hI, hR, hrow, hnx, hk, hst, hz, hns⟩ k1 (e28 70) (e28 71) (e28 72) (by rw [hσ_28, ri_row, hx27]) (fun k hk => r28 k (by rcases hk with rfl | rfl | rfl | rfl | rfl <;> decide))
  refine unpack_c hC  ?_ (fun σ_29 q30 => ?_)
  · clear h; exact ⟨hk.1, k1, K28.2.2.2 a1 hk.1 (by rw [e28]; exact hlt)⟩  -- p32
  have f29 : frG exFR9 exRr σ_28 σ_29 := frG_mono q30.1 (by decide) (by decide)
  have K29 : exKR9 σ σ_29 B T := exK_o K28 f29 (q30.1.1 70 (by decide)) (q30.1.1 71 (by decide)) (q30.1.1 72 (by decide)) (q30.1.2.2.1 73 (by decide))
  refine act_n8 hC B T ?_ (fun r31 σ_32 q33 => ?_)
  · clear h; exact ⟨K29.1, q30.2⟩  -- p33
  obtain ⟨q33, za⟩ := q33
  have f32 : frG exFR9 exRr σ_29 σ_32 := frG_mono q33.1 (by decide) (by decide)
  have K32 : exKR9 σ σ_32 B T := exK_o K29 f32 (q33.1.1 70 (by decide)) (q33.1.1 71 (by decide)) (q33.1.1 72 (by decide)) (q33.1.2.2.1 73 (by decide))
  have ff : ∀ k, k = 70 ∨ k = 71 ∨ k = 72 → σ_32.1 k = σ_28.1 k := fun k hk => by
    rw [q33.1.1 k (by rcases hk with rfl | rfl | rfl <;> decide), q30.1.1 k (by rcases hk with rfl | rfl | rfl <;> decide)]
  have rr : ∀ k, k = 76 ∨ k = 77 ∨ k = 78 ∨ k = 79 ∨ k = 80 ∨ k = 81 → σ_32.2.2.1 k = σ_28.2.2.1 k := fun k hk => by
    rw [q33.1.2.2.1 k (by rcases hk with rfl | rfl | rfl | rfl | rfl | rfl <;> decide), q30.1.2.2.1 k (by rcases hk with rfl | rfl | rfl | rfl | rfl | rfl <;> decide)]
  have W32 : exWR9 σ_32 a1 (σ.1 72) := exW_o W28 k1 (ff 70 (by decide)) (ff 71 (by decide)) (ff 72 (by decide)) (rr 76 (by decide)) (rr 77 (by decide)) (rr 78 (by decide)) (rr 79 (by decide)) (fun j _ _ => by rw [rd, rr 80 (by decide)]) (fun j _ _ => by rw [rd, rr 81 (by decide)])
  have fin : ∀ s2 : Int32, s2 = (if r31 = 5 then 1 else 0) → a1 = a1 ∧ frG exFR9 exRr σ σ_32 ∧ exKR9 σ σ_32 B T ∧ x27 = σ.1 72 ∧ a1 = a1 ∧ acQ r31 σ_32 ∧ exWR9 σ_32 a1 (σ.1 72) ∧ σ_32.1 72 = σ.1 72 ∧ s2 = (if r31 = 5 then 1 else 0) := fun s2 h2 => ⟨rfl, frG_tr f28 (frG_tr f29 f32), K32, hx27, rfl, q33.2, W32, (ff 72 (by decide)).trans (e28 72), h2⟩
  refine ⟨fun c34 => ?_, fun c34 => ?_⟩
  · skip
    refine hj37 _ _ _ _ _ _ ?_
    · refine and_5 ?_ (fun o9 => ?_)  -- k34
      · clear h; exact fin _ (by rw [if_neg c34])
      · clear o9
        have ot28 : otR8 σ σ_28 a1.toNatClampNeg := ⟨fun j _ => by rw [r28 82 (by decide), r28 81 (by decide)]; exact ⟨rfl, rfl⟩, fun j h1 h2 => by rw [hσ_28, ri34, if_pos rfl, if_neg h1]⟩
        exact ⟨za, ot_f8 ot28 ((q33.1.2.2.1 82 (by decide)).trans (q30.1.2.2.1 82 (by decide))) ((q33.1.2.2.1 81 (by decide)).trans (q30.1.2.2.1 81 (by decide))) ((q33.1.2.2.1 76 (by decide)).trans (q30.1.2.2.1 76 (by decide)))⟩
  · skip
    refine hj37 _ _ _ _ _ _ ?_
    · refine and_5 ?_ (fun o9 => ?_)  -- k35
      · clear h; exact fin _ (by rw [if_pos c34])
      · clear o9
        have ot28 : otR8 σ σ_28 a1.toNatClampNeg := ⟨fun j _ => by rw [r28 82 (by decide), r28 81 (by decide)]; exact ⟨rfl, rfl⟩, fun j h1 h2 => by rw [hσ_28, ri34, if_pos rfl, if_neg h1]⟩
        exact ⟨za, ot_f8 ot28 ((q33.1.2.2.1 82 (by decide)).trans (q30.1.2.2.1 82 (by decide))) ((q33.1.2.2.1 81 (by decide)).trans (q30.1.2.2.1 81 (by decide))) ((q33.1.2.2.1 76 (by decide)).trans (q30.1.2.2.1 76 (by decide)))⟩

end
section
set_option maxHeartbeats 1600000
/-! the reference: explore: what gains has one next; the plan takes 0 everywhere -/
theorem gn_o8 {σ τ : rS} {k j : Nat} (h : gnR8 σ j) (o : otR8 σ τ k) (hj : j < k) (e : τ.2.2.1 76 k = σ.2.2.1 76 k) : gnR8 τ j := by
  unfold gnR8
  rw [(o.1 j (by omega)).1, (o.1 j (by omega)).2, o.2 j (by omega) (by omega)]
  by_cases c : j + 1 = k
  · rw [c, e, ← c]
    exact h
  · rw [o.2 (j + 1) c (by omega)]
    exact h
theorem gn_f8 {σ τ : rS} {j : Nat} (h : gnR8 σ j) (h1 : τ.2.2.1 82 = σ.2.2.1 82) (h2 : τ.2.2.1 81 = σ.2.2.1 81) (h3 : τ.2.2.1 76 = σ.2.2.1 76) : gnR8 τ j := by
  unfold gnR8
  rw [h1, h2, h3]
  exact h
theorem explore_n8 {C : rCx} (hC : cOK C)  {σ : rS} {a1 : Int32} {Q : Int32 → rS → Prop} (hp : tyAll σ ∧ (σ.1 14 ≠ 0 → ∃ T, progOK σ (σ.1 3) T) ∧ exP σ) (h : ∀ (v : Int32) (σ' : rS), ((frM xpF xpR σ σ' ∧ exP σ' ∧ tyAll σ' ∧ (σ'.1 14 ≠ 0 → ∃ T, progOK σ' (σ'.1 3) T) ∧ (((∀ k, k ≠ 0 → σ'.1 k = σ.1 k) ∧ σ'.2 = σ.2) ∨ (σ'.1 94 = 0 ∧ σ'.1 114 = 0))) ∧ ((σ'.1 0 = 0 → σ'.1 69 ≠ 0 → ∀ k, k < (σ'.1 70).toNatClampNeg → gnR8 σ' k ∧ σ'.2.2.1 83 k = 0))) → Q v σ') : cI C 11 m_explore [.ref (co C), .int a1] σ Q := by
  refine m_explore_run hC ?_
  unfold w_explore_0
  obtain ⟨hT, hP, hX⟩ := hp
  have hT' : ∃ T, σ.1 14 ≠ 0 → rI σ (σ.1 3) T := by
    by_cases z : σ.1 14 = 0
    · exact ⟨0, fun y => absurd z y⟩
    · obtain ⟨T, g⟩ := hP z
      exact ⟨T, fun _ => ⟨hT, g⟩⟩
  obtain ⟨T, hI⟩ := hT'
  have ft : ∀ υ, frM xpF xpR σ υ → tyAll υ ∧ (υ.1 14 ≠ 0 → ∃ T, progOK υ (υ.1 3) T) := fun υ f => ⟨ty_M hT f (by decide) (by decide), fun z => ⟨T, by rw [f.1 3 (by decide)]; exact (rI_M (hI (by rw [← f.1 14 (by decide)]; exact z)) f (by decide) (by decide)).2⟩⟩
  have hj136 : ∀ (l2 : Int32) (τ : rS), ((frM xpF xpR σ τ ∧ rI τ (σ.1 3) T ∧ exRR9 τ ∧ nb l2 ∧ τ.1 94 = 0 ∧ τ.1 114 = 0 ∧ τ.1 88 = σ.1 88 ∧ (l2 ≠ 0 → exV τ (σ.1 3) T (τ.1 70))) ∧ (l2 ≠ 0 → ∀ j, j < (τ.1 70).toNatClampNeg → gnR8 τ j)) → w_explore_136 C Q  l2 τ := by
    rintro y136_2 τ136 ⟨j136, hE⟩
    unfold w_explore_136
    obtain ⟨g1, g2, g3, g4, g5, g6, g7, g8⟩ := j136
    refine ⟨?_, ?_⟩
    · clear h; exact g4  -- b1
    intro σ_1 hσ_1
    refine ⟨fun c2 => ?_, fun c2 => ?_⟩
    · skip
      unfold w_explore_164
      refine ⟨fun n l3 τ => n = (τ.1 70 - l3).toNatClampNeg ∧ ((frM xpF xpR σ τ ∧ 0 ≤ l3 ∧ l3 ≤ τ.1 70 ∧ τ.1 94 = 0 ∧ τ.1 114 = 0 ∧ exV τ (σ.1 3) T (τ.1 70) ∧ ∀ j : Int32, 0 ≤ j → j < l3 → rd τ 83 j = 0) ∧ (∀ j, j < (τ.1 70).toNatClampNeg → gnR8 τ j) ∧ ∀ j, j < l3.toNatClampNeg → τ.2.2.1 83 j = 0), ⟨_, rfl, ?_⟩, ?_⟩
      · refine and_5 ?_ (fun o9 => ?_)  -- j2
        · clear h; have e1 : ∀ k, k ≠ 69 → σ_1.1 k = τ136.1 k := fun k hk => by rw [hσ_1, si1, if_neg hk]
          have V := g8 c2
          rw [e1 70 (by decide)]
          exact ⟨frM_tr g1 (by rw [hσ_1]; exact frM_0 (by decide)), by decide, V.2.1.1.1, by rw [e1 94 (by decide)]; exact g5, by rw [e1 114 (by decide)]; exact g6, exV_o V e1 (fun k _ => by rw [hσ_1, si2]), fun j j0 j1 => absurd j1 (Int32.not_lt.mpr j0)⟩
        · clear o9
          have e1 : ∀ k, k ≠ 69 → σ_1.1 k = τ136.1 k := fun k hk => by rw [hσ_1, si1, if_neg hk]
          have e2 : ∀ k, σ_1.2.2.1 k = τ136.2.2.1 k := fun k => by rw [hσ_1, si2]
          exact ⟨fun j hj => gn_f8 (hE c2 j (by rw [e1 70 (by decide)] at hj; exact hj)) (e2 82) (e2 81) (e2 76), fun j hj => absurd hj (Nat.not_lt_zero _)⟩
      rintro n164 x164_3 σ164 ⟨hn164, i164, hE⟩
      obtain ⟨w1, w2, w3, w4, w5, w6, w7⟩ := i164
      refine ⟨fun c3 => ?_, fun c3 => ?_⟩
      · skip
        refine findRings_c hC  ?_ (fun σ_4 q5 => ?_)
        · clear h; exact exO_V w6  -- p3
        refine h _ _ ?_
        · refine and_5 ?_ (fun o9 => ?_)  -- q4
          · clear h; have e : x164_3 = σ164.1 70 := Int32.le_antisymm w3 c3
            rw [e] at w7
            have F : frM xpF xpR σ σ_4 := frM_tr w1 (frM_mono q5.1 (by decide) (by decide))
            have e70 : σ_4.1 70 = σ164.1 70 := q5.1.1 70 (by decide)
            have rr : ∀ k, k ≠ 87 → σ_4.2.2.1 k = σ164.2.2.1 k := fun k hk => q5.1.2.2.1 k (fun z => hk (by simpa using z))
            refine ⟨F, ⟨exO_o (exO_V w6) (fun k hk => q5.1.1 k (by rcases hk with rfl | rfl | rfl <;> decide)) (fun k hk => rr k (by omega)), fun j j0 j1 => ?_, fun j j0 j1 => ?_, q5.2.1, fun z a ha t => ?_⟩, (ft _ F).1, (ft _ F).2, Or.inr ⟨by rw [q5.1.1 94 (by decide)]; exact w4, by rw [q5.1.1 114 (by decide)]; exact w5⟩⟩
            · rw [e70] at j1
              obtain ⟨r1, r2, r3, -⟩ := w6.2.2.1 j j0 j1
              unfold rowR
              simp only [rd]
              rw [rr 73 (by decide)]
              exact ⟨r1, r2, fun c c0 c1 => ⟨(r3 c c0 c1).1, s150 w6.1 (r3 c c0 c1).2⟩⟩
            · rw [e70] at j1
              have sj := (w6.2.2.2.2.2.1 j j0 j1).1
              have p := w7 j j0 j1
              simp only [rd] at p sj ⊢
              rw [rr 83 (by decide), rr 76 (by decide), p]
              exact ⟨fun _ => rfl, fun _ => ⟨by decide, sub_pos sj.1 sj.2.1⟩⟩
            · rw [e70] at ha
              exact q5.2.2 z a ha (Tr_congr (fun a b e => (edN_o (fun k hk => rr k (by omega)) (by decide)).mp e) t)
          · clear o9
            have e : x164_3 = σ164.1 70 := Int32.le_antisymm w3 c3
            have e70 : σ_4.1 70 = σ164.1 70 := q5.1.1 70 (by decide)
            have rr : ∀ k, k ≠ 87 → σ_4.2.2.1 k = σ164.2.2.1 k := fun k hk => q5.1.2.2.1 k (fun z => hk (by simpa using z))
            intro _ _ k hk
            rw [e70] at hk
            exact ⟨gn_f8 (hE.1 k hk) (rr 82 (by decide)) (rr 81 (by decide)) (rr 76 (by decide)), by rw [rr 83 (by decide)]; exact hE.2 k (by rw [e]; exact hk)⟩
      · skip
        have u := uk w2 c3 (Int32.le_trans w6.2.1.1.2.1 w6.2.1.1.2.2)
        refine ⟨ib_1000.mpr ?_, ?_⟩
        · clear h; exact ⟨w2, u.2.2.2.2.2⟩  -- b5
        intro σ_6 hσ_6
        intro x7 hx7
        refine lp_b5 (cn_lt2 hn164 ?_ ?_) (fun d9 => ⟨rfl, ?_⟩)
        · clear h; rw [hx7, hσ_6, ri1]; exact u.1  -- d6
        · clear h; rw [hx7, hσ_6, ri1]; exact u.2.1  -- d7
        · refine and_5 ?_ (fun o9 => ?_)  -- i8
          · clear h; have e6 : ∀ k, σ_6.1 k = σ164.1 k := fun k => by rw [hσ_6, ri1]
            rw [hx7, e6 70]
            refine ⟨frM_tr w1 (by rw [hσ_6]; exact frM_1 (by decide)), u.2.2.1, u.2.2.2.1, by rw [e6]; exact w4, by rw [e6]; exact w5, exV_o w6 (fun k _ => e6 k) (fun k hk => by rw [hσ_6, ri3 hk]), fun j j0 j1 => ?_⟩
            rw [rd, hσ_6, ri4]
            split
            · rfl
            · rename_i ne
              refine w7 j j0 ?_
              rcases l1k w2 u.2.2.2.2.2 j1 with z | z
              · exact absurd (by rw [z]) ne
              · exact z
          · clear o9
            have e6 : ∀ k, σ_6.1 k = σ164.1 k := fun k => by rw [hσ_6, ri1]
            have r6 : ∀ k, k ≠ 83 → σ_6.2.2.1 k = σ164.2.2.1 k := fun k hk => by rw [hσ_6, ri3 hk]
            have n0 := w2
            rw [lei, t0i] at n0
            have n1 := u.2.2.2.2.2
            rw [lti, show (1000 : Int32).toInt = 1000 from rfl] at n1
            refine ⟨fun j hj => gn_f8 (hE.1 j (by rw [e6 70] at hj; exact hj)) (r6 82 (by decide)) (r6 81 (by decide)) (r6 76 (by decide)), fun j hj => ?_⟩
            rw [hx7, (cn1 n0 (by omega)).1] at hj
            rw [hσ_6, ri4]
            split
            · rfl
            · rename_i ne
              exact hE.2 j (by omega)
    · skip
      intro σ_8 hσ_8
      intro σ_9 hσ_9
      intro σ_10 hσ_10
      refine h _ _ ?_
      · refine and_5 ?_ (fun o9 => fun _ z => absurd (by rw [hσ_10, si1, if_neg (by decide), hσ_9, si1, if_neg (by decide), hσ_8, si1, if_neg (by decide), hσ_1, si1, if_pos rfl]; exact c2) z)  -- q9
        clear h; have F : frM xpF xpR σ σ_10 := frM_tr g1 (frM_tr (by rw [hσ_1]; exact frM_0 (by decide) : frM xpF xpR τ136 σ_1) (by rw [hσ_10, hσ_9, hσ_8]; exact frM_tr (frM_tr (frM_0 (by decide)) (frM_0 (by decide))) (frM_0 (by decide))))
        have k : ∀ k, k ≠ 69 → k ≠ 70 → k ≠ 71 → k ≠ 72 → σ_10.1 k = τ136.1 k := fun k z1 z2 z3 z4 => by rw [hσ_10, si1, if_neg z4, hσ_9, si1, if_neg z3, hσ_8, si1, if_neg z2, hσ_1, si1, if_neg z1]
        exact ⟨F, exP_0 (by rw [hσ_10, si1, if_neg (by decide), hσ_9, si1, if_neg (by decide), hσ_8, si1, if_pos rfl]) (by rw [hσ_10, si1, if_neg (by decide), hσ_9, si1, if_pos rfl]) (by rw [hσ_10, si1, if_pos rfl]) (by rw [k 88 (by decide) (by decide) (by decide) (by decide), g7]; exact hX.2.2.2.1), (ft _ F).1, (ft _ F).2, Or.inr ⟨by rw [k 94 (by decide) (by decide) (by decide) (by decide)]; exact g5, by rw [k 114 (by decide) (by decide) (by decide) (by decide)]; exact g6⟩⟩
  have hh112 : ∀ (l2 : Int32) (l3 : Int32) (τ : rS), ((frM xpF xpR σ τ ∧ rI τ (σ.1 3) T ∧ exRR9 τ ∧ 0 ≤ l3 ∧ l3 ≤ 1000 ∧ nb l2 ∧ τ.1 94 = 0 ∧ τ.1 114 = 0 ∧ τ.1 88 = σ.1 88 ∧ (l2 ≠ 0 → exV τ (σ.1 3) T l3)) ∧ (l2 ≠ 0 → ∀ j, j < l3.toNatClampNeg → gnR8 τ j)) → w_explore_112 C Q  l2 l3 τ := by
    intro z2 z3 τi hinit
    unfold w_explore_112
    refine ⟨fun n l2 l3 τ => n = (1001 - l3).toNatClampNeg ∧ ((frM xpF xpR σ τ ∧ rI τ (σ.1 3) T ∧ exRR9 τ ∧ 0 ≤ l3 ∧ l3 ≤ 1000 ∧ nb l2 ∧ τ.1 94 = 0 ∧ τ.1 114 = 0 ∧ τ.1 88 = σ.1 88 ∧ (l2 ≠ 0 → exV τ (σ.1 3) T l3)) ∧ (l2 ≠ 0 → ∀ j, j < l3.toNatClampNeg → gnR8 τ j)), ⟨_, rfl, hinit⟩, ?_⟩
    clear hinit
    rintro n112 x112_2 x112_3 σ112 ⟨hn112, i112, hE⟩
    obtain ⟨v1, v2, v3, v4, v5, v6, v7, v8, v9, v10⟩ := i112
    refine ⟨fun c11 => ?_, fun c11 => ?_⟩
    · skip
      refine hj136 _ _ ?_
      · refine and_5 ?_ (fun o9 => ?_)  -- k10
        · clear h; refine ⟨v1, v2, v3, v6, v7, v8, v9, fun z => ?_⟩
          have V := v10 z
          have e : x112_3 = σ112.1 70 := Int32.le_antisymm V.2.2.2.2.1.2 c11
          rw [e] at V
          exact V
        · clear o9
          intro z j hj
          have e : x112_3 = σ112.1 70 := Int32.le_antisymm (v10 z).2.2.2.2.1.2 c11
          exact hE z j (by rw [e]; exact hj)
    · skip
      refine ⟨fun c12 => ?_, fun c12 => ?_⟩
      · skip
        refine hj136 _ _ ?_
        · refine and_5 ?_ (fun o9 => fun z => absurd c12 z)  -- k11
          clear h; exact ⟨v1, v2, v3, v6, v7, v8, v9, fun z => absurd c12 z⟩
      · skip
        refine expand_n8 hC (σ.1 3) T ?_ (fun r13 σ_14 q15 => ?_)
        · clear h; exact ⟨v10 c12, Int32.not_le.mp c11⟩  -- p12
        obtain ⟨q15, ze⟩ := q15
        intro x16 hx16
        have u := u1001 v4 (Int32.lt_of_lt_of_le (Int32.not_le.mp c11) (Int32.le_trans v3.1.2.1 v3.1.2.2))
        refine lp_b5 (cn_lt2 hn112 ?_ ?_) (fun d9 => ⟨rfl, ?_⟩)
        · clear h; rw [hx16]; exact u.1  -- d13
        · clear h; rw [hx16]; exact u.2.1  -- d14
        · refine and_5 ?_ (fun o9 => ?_)  -- i15
          · clear h; rw [hx16]; exact ⟨frM_tr v1 (frM_G q15.1 (by decide) (by decide)), q15.2.1.1, q15.2.1.2.1, u.2.2.1, u.2.2.2, q15.2.2.1, by rw [q15.1.1 94 (by decide)]; exact v7, by rw [q15.1.1 114 (by decide)]; exact v8, by rw [q15.1.1 88 (by decide)]; exact v9, q15.2.2.2⟩
          · clear o9
            intro z j hj
            have n0 := v4
            rw [lei, t0i] at n0
            have n1 := v5
            rw [lei, show (1000 : Int32).toInt = 1000 from rfl] at n1
            rw [hx16, (cn1 n0 (by omega)).1] at hj
            by_cases c : j = x112_3.toNatClampNeg
            · rw [c]; exact (ze.1 z).1
            · have c0 := cnk n0
              have ff : σ112.2.2.1 76 x112_3.toNatClampNeg = σ112.1 72 := (v10 c12).2.2.2.2.2.2.2 (by rw [lei, t1i]; omega)
              exact gn_o8 (hE c12 j (by omega)) ze.2 (by omega) ((ze.1 z).2.trans ff.symm)
  have hj28 : ∀ (l1 : Int32) (s1 : Int32) (τ : rS), ((σ = τ ∧ l1 = a1 ∧ (s1 ≤ 0 → σ.1 14 ≠ 0 ∧ 1 ≤ a1 ∧ a1 ≤ 1000)) ∧ True) → w_explore_28 C Q  l1 s1 τ := by
    rintro y28_1 y28_s1 _ ⟨⟨rfl, j28⟩, hE⟩
    unfold w_explore_28
    intro σ_17 hσ_17
    refine ⟨fun c18 => ?_, fun c18 => ?_⟩
    · skip
      intro σ_19 hσ_19
      intro σ_20 hσ_20
      intro σ_21 hσ_21
      intro σ_22 hσ_22
      intro σ_23 hσ_23
      intro σ_24 hσ_24
      refine begin_c hC (σ.1 3) T ?_ (fun r25 σ_26 q27 => ?_)
      · clear h; have e0 : σ_17.1 0 = y28_s1 := by rw [hσ_17, si1, if_pos rfl]
        have w := j28.2 (by rw [← e0]; exact c18)
        have F : frM xpF xpR σ σ_24 := by rw [hσ_24, hσ_23, hσ_22, hσ_21, hσ_20, hσ_19, hσ_17]; exact frM_tr (frM_tr (frM_tr (frM_tr (frM_tr (frM_tr (frM_0 (by decide)) (frM_0 (by decide))) (frM_0 (by decide))) (frM_0 (by decide))) (frM_0 (by decide))) (frM_0 (by decide))) (frM_0 (by decide))
        exact rI_M (hI w.1) F (by decide) (by decide)
      have e0 : σ_17.1 0 = y28_s1 := by rw [hσ_17, si1, if_pos rfl]
      have w := j28.2 (by rw [← e0]; exact c18)
      have F24 : frM xpF xpR σ σ_24 := by rw [hσ_24, hσ_23, hσ_22, hσ_21, hσ_20, hσ_19, hσ_17]; exact frM_tr (frM_tr (frM_tr (frM_tr (frM_tr (frM_tr (frM_0 (by decide)) (frM_0 (by decide))) (frM_0 (by decide))) (frM_0 (by decide))) (frM_0 (by decide))) (frM_0 (by decide))) (frM_0 (by decide))
      have I24 : rI σ_24 (σ.1 3) T := rI_M (hI w.1) F24 (by decide) (by decide)
      have v114 : σ_24.1 114 = 0 := by rw [hσ_24, si1, if_pos rfl]
      have v94 : σ_24.1 94 = 0 := by rw [hσ_24, si1, if_neg (by decide), hσ_23, si1, if_pos rfl]
      have v72 : σ_24.1 72 = 0 := by rw [hσ_24, si1, if_neg (by decide), hσ_23, si1, if_neg (by decide), hσ_22, si1, if_pos rfl]
      have v71 : σ_24.1 71 = 0 := by rw [hσ_24, si1, if_neg (by decide), hσ_23, si1, if_neg (by decide), hσ_22, si1, if_neg (by decide), hσ_21, si1, if_pos rfl]
      have v70 : σ_24.1 70 = 0 := by rw [hσ_24, si1, if_neg (by decide), hσ_23, si1, if_neg (by decide), hσ_22, si1, if_neg (by decide), hσ_21, si1, if_neg (by decide), hσ_20, si1, if_pos rfl]
      have v85 : σ_24.1 85 = a1 := by rw [hσ_24, si1, if_neg (by decide), hσ_23, si1, if_neg (by decide), hσ_22, si1, if_neg (by decide), hσ_21, si1, if_neg (by decide), hσ_20, si1, if_neg (by decide), hσ_19, si1, if_pos rfl]; exact j28.1
      have v88 : σ_24.1 88 = σ.1 88 := by rw [hσ_24, si1, if_neg (by decide), hσ_23, si1, if_neg (by decide), hσ_22, si1, if_neg (by decide), hσ_21, si1, if_neg (by decide), hσ_20, si1, if_neg (by decide), hσ_19, si1, if_neg (by decide), hσ_17, si1, if_neg (by decide)]
      have F26 : frM xpF xpR σ σ_26 := frM_tr F24 (frM_G q27.1 (by decide) (by decide))
      have I26 : rI σ_26 (σ.1 3) T := rI_fr I24 (frG_mono q27.1 (by decide) (by decide))
      have k26 : ∀ k, k ≠ 58 → k ≠ 61 → σ_26.1 k = σ_24.1 k := fun k z1 z2 => q27.1.1 k (by simp [z1, z2])
      refine ⟨fun c28 => ?_, fun c28 => ?_⟩
      · skip
        refine endingNumber_c hC  ?_ (fun r29 σ_30 q31 => ?_)
        · clear h; rw [k26 71 (by decide) (by decide), v71]; exact ⟨by decide, by decide⟩  -- p17
        have k30 : ∀ k, k ≠ 58 → k ≠ 61 → k ≠ 71 → σ_30.1 k = σ_24.1 k := fun k z1 z2 z3 => (q31.1.1 k (by simp [z3])).trans (k26 k z1 z2)
        have I30 : rI σ_30 (σ.1 3) T := rI_ex I26 (frG_mono q31.1 (by decide) (by decide))
        have R30 : exRR9 σ_30 := by
          unfold exRR9
          rw [k30 70 (by decide) (by decide) (by decide), k30 72 (by decide) (by decide) (by decide), k30 85 (by decide) (by decide) (by decide), v70, v72, v85]
          exact ⟨⟨by decide, Int32.le_trans (by decide) w.2.1, w.2.2⟩, ⟨q31.2.1.1, q31.2.1.2.2⟩, by decide, by decide⟩
        have fin : ∀ l2 : Int32, nb l2 → (l2 ≠ 0 → exV σ_30 (σ.1 3) T 0) → frM xpF xpR σ σ_30 ∧ rI σ_30 (σ.1 3) T ∧ exRR9 σ_30 ∧ (0 : Int32) ≤ 0 ∧ (0 : Int32) ≤ 1000 ∧ nb l2 ∧ σ_30.1 94 = 0 ∧ σ_30.1 114 = 0 ∧ σ_30.1 88 = σ.1 88 ∧ (l2 ≠ 0 → exV σ_30 (σ.1 3) T 0) := fun l2 h1 h2 => ⟨frM_tr F26 (frM_G q31.1 (by decide) (by decide)), I30, R30, by decide, by decide, h1, by rw [k30 94 (by decide) (by decide) (by decide)]; exact v94, by rw [k30 114 (by decide) (by decide) (by decide)]; exact v114, by rw [k30 88 (by decide) (by decide) (by decide)]; exact v88, h2⟩
        refine ⟨fun c32 => ?_, fun c32 => ?_⟩
        · skip
          refine hh112 _ _ _ ?_
          · refine and_5 ?_ (fun o9 => fun _ j hj => absurd hj (Nat.not_lt_zero _))  -- j18
            clear h; exact fin _ nb_0 (fun z => absurd rfl z)
        · skip
          refine hh112 _ _ _ ?_
          · refine and_5 ?_ (fun o9 => fun _ j hj => absurd hj (Nat.not_lt_zero _))  -- j19
            clear h; refine fin _ nb_1 (fun _ => exV_0 I30 R30 (by rw [k30 72 (by decide) (by decide) (by decide)]; exact v72) (fun j j0 j1 => ?_))
            rw [k30 70 (by decide) (by decide) (by decide), v70] at j1
            exact absurd j1 (Int32.not_lt.mpr j0)
      · skip
        refine stateNumber_c hC  ?_ (fun r33 σ_34 q35 => ?_)
        · clear h; refine ⟨?_, ?_, ?_, ?_⟩
          · rcases q27.2 with z | z
            · exact z.2
            · exact absurd (c28.symm.trans z) (by decide)
          · rw [k26 70 (by decide) (by decide), v70]; decide
          · rw [k26 70 (by decide) (by decide), k26 85 (by decide) (by decide), v70, v85]; exact Int32.le_trans (by decide) w.2.1
          · rw [k26 85 (by decide) (by decide), v85]; exact w.2.2
        have k34 : ∀ k, k ≠ 58 → k ≠ 61 → k ≠ 70 → σ_34.1 k = σ_24.1 k := fun k z1 z2 z3 => (q35.1.1 k (by simp [z3])).trans (k26 k z1 z2)
        have I34 : rI σ_34 (σ.1 3) T := rI_ex I26 (frG_mono q35.1 (by decide) (by decide))
        have R34 : exRR9 σ_34 := by
          have q := q35.2.1
          rw [k26 85 (by decide) (by decide), v85] at q
          unfold exRR9
          rw [k34 71 (by decide) (by decide) (by decide), k34 72 (by decide) (by decide) (by decide), k34 85 (by decide) (by decide) (by decide), v71, v72, v85]
          exact ⟨⟨q.1, q.2.2, w.2.2⟩, by decide, by decide⟩
        have fin : ∀ l2 : Int32, nb l2 → frM xpF xpR σ σ_34 ∧ rI σ_34 (σ.1 3) T ∧ exRR9 σ_34 ∧ (0 : Int32) ≤ 0 ∧ (0 : Int32) ≤ 1000 ∧ nb l2 ∧ σ_34.1 94 = 0 ∧ σ_34.1 114 = 0 ∧ σ_34.1 88 = σ.1 88 ∧ (l2 ≠ 0 → exV σ_34 (σ.1 3) T 0) := fun l2 h1 => ⟨frM_tr F26 (frM_G q35.1 (by decide) (by decide)), I34, R34, by decide, by decide, h1, by rw [k34 94 (by decide) (by decide) (by decide)]; exact v94, by rw [k34 114 (by decide) (by decide) (by decide)]; exact v114, by rw [k34 88 (by decide) (by decide) (by decide)]; exact v88, fun _ => exV_0 I34 R34 (by rw [k34 72 (by decide) (by decide) (by decide)]; exact v72) (fun j j0 j1 => q35.2.2.2.2 j j0 (by rw [k26 70 (by decide) (by decide), v70]; exact j0) j1)⟩
        refine ⟨fun c36 => ?_, fun c36 => ?_⟩
        · skip
          refine hh112 _ _ _ ?_
          · refine and_5 ?_ (fun o9 => fun _ j hj => absurd hj (Nat.not_lt_zero _))  -- j21
            clear h; exact fin _ nb_0
        · skip
          refine hh112 _ _ _ ?_
          · refine and_5 ?_ (fun o9 => fun _ j hj => absurd hj (Nat.not_lt_zero _))  -- j22
            clear h; exact fin _ nb_1
    · skip
      refine h _ _ ?_
      · refine and_5 ?_ (fun o9 => fun z => absurd (show σ_17.1 0 ≤ 0 by rw [z]; decide) c18)  -- q23
        clear h; have F : frM xpF xpR σ σ_17 := by rw [hσ_17]; exact frM_0 (by decide)
        exact ⟨F, exP_o hX (fun k hk => by rw [hσ_17, si1, if_neg (by omega)]) (fun k _ => by rw [hσ_17, si2]), (ft _ F).1, (ft _ F).2, Or.inl ⟨fun k hk => by rw [hσ_17, si1, if_neg hk], by rw [hσ_17, si2]⟩⟩
  refine ⟨fun c37 => ?_, fun c37 => ?_⟩
  · skip
    refine within_c hC  (fun r38 q40 => ?_)
    refine ⟨fun c41 => ?_, fun c41 => ?_⟩
    · skip
      refine hj28 _ _ _ ?_
      · refine and_5 ?_ (fun o9 => trivial)  -- k24
        clear h; exact ⟨rfl, rfl, fun _ => ⟨c37, q40.2.mp c41⟩⟩
    · skip
      refine hj28 _ _ _ ?_
      · refine and_5 ?_ (fun o9 => trivial)  -- k25
        clear h; exact ⟨rfl, rfl, fun z => absurd z (by decide)⟩
  · skip
    refine hj28 _ _ _ ?_
    · refine and_5 ?_ (fun o9 => trivial)  -- k26
      clear h; exact ⟨rfl, rfl, fun z => absurd z (by decide)⟩

end
section
set_option maxHeartbeats 1600000
/-! the reference: one run, two things said of it; what holds of what was explored -/
theorem cI_d8 {C : rCx} {d : Nat} {m : dM} {as : List Value} {σ : rS} {K1 K2 : Int32 → rS → Prop} (hC : cOK C) (h1 : cI C d m as σ K1) (h2 : cI C d m as σ K2) : cI C d m as σ (fun v σ' => K1 v σ' ∧ ∃ σ2, K2 v σ2 ∧ (∀ k, k < 126 → rT k = none → k ≠ 110 → k ≠ 112 → σ'.1 k = σ2.1 k) ∧ ∀ k t n, rT k = some (t, n) → t ≠ 2 → σ'.2.2.1 k = σ2.2.2.1 k) := by
  obtain ⟨x, σ1, ⟨n1, r1⟩, k1⟩ := h1
  obtain ⟨y, σ2, ⟨n2, r2⟩, k2⟩ := h2
  have e := Option.some.inj ((drun_le (Nat.le_max_left n1 n2) r1).symm.trans (drun_le (Nat.le_max_right n1 n2) r2))
  obtain ⟨e1, e2⟩ := Prod.mk.inj e
  obtain ⟨eh, _⟩ := Prod.mk.inj e2
  have ex : x = y := by
    have z := Option.some.inj e1
    injection z
  subst ex
  refine ⟨x, σ1, ⟨n1, r1⟩, k1, σ2, k2, fun k hk hr h0 h2 => ?_, fun k t n hr ht => ?_⟩
  · have a := (rH_obj (hb := C.2.2.2.1) (o := co C) (ad := cad C) (σ := σ1)).symm.trans ((congrFun (congrArg Prod.snd eh) (co C)).trans rH_obj)
    have b : rF (cad C) σ1 = rF (cad C) σ2 := (Prod.mk.inj (Sum.inr.inj (Option.some.inj a))).2
    have c := Option.some.inj ((rF_at (ad := cad C) (σ := σ1) hk).symm.trans ((congrArg (fun l : List Value => l[k]?) b).trans (rF_at hk)))
    have v : ∀ σ : rS, rV (cad C) σ k = .int (σ.1 k) := fun σ => by
      unfold rV
      rw [hr]
      exact (if_neg (by decide)).trans (if_neg (by omega))
    rw [v, v] at c
    injection c
  · have a := Option.some.inj ((rH_row hC (hb := C.2.2.2.1) (σ := σ1) hr).symm.trans ((congrFun (congrArg Prod.snd eh) (cad C k)).trans (rH_row hC hr)))
    unfold rRow at a
    rw [if_neg ht, if_neg ht] at a
    exact Sum.inl.inj (Prod.mk.inj (Prod.mk.inj (Sum.inl.inj a)).2).2
/-- gains stand where there is one next; the plan takes 0 -/
def GZ8 (σ' : rS) : Prop := σ'.1 0 = 0 → σ'.1 69 ≠ 0 → ∀ k, k < (σ'.1 70).toNatClampNeg → gnR8 σ' k ∧ σ'.2.2.1 83 k = 0
theorem explore_g8 {C : rCx} (hC : cOK C) {σ : rS} {a1 : Int32} {Q : Int32 → rS → Prop} (hp : tyAll σ ∧ (σ.1 14 ≠ 0 → ∃ T, progOK σ (σ.1 3) T) ∧ exP σ) (h : ∀ (v : Int32) (σ' : rS), ((frM xpF xpR σ σ' ∧ exP σ' ∧ tyAll σ' ∧ (σ'.1 14 ≠ 0 → ∃ T, progOK σ' (σ'.1 3) T) ∧ (((∀ k, k ≠ 0 → σ'.1 k = σ.1 k) ∧ σ'.2 = σ.2) ∨ (σ'.1 94 = 0 ∧ σ'.1 114 = 0))) ∧ (XS6 a1 σ σ' v ∧ GZ8 σ')) → Q v σ') : cI C 11 m_explore [.ref (co C), .int a1] σ Q := by
  obtain ⟨v, σ', r, q, σ2, ⟨_, g⟩, hf, hr⟩ := cI_d8 hC (explore_g5 (a1 := a1) hC hp (fun v σ' q => q)) (explore_n8 (a1 := a1) hC hp (fun v σ' q => q))
  refine ⟨v, σ', r, h v σ' ⟨q.1, q.2, fun z0 z1 k hk => ?_⟩⟩
  rw [hf 0 (by decide) (by decide +kernel) (by decide) (by decide)] at z0
  rw [hf 69 (by decide) (by decide +kernel) (by decide) (by decide)] at z1
  rw [hf 70 (by decide) (by decide +kernel) (by decide) (by decide)] at hk
  have y := g z0 z1 k hk
  rw [hr 83 0 1000 (by decide +kernel) (by decide)]
  exact ⟨gn_f8 y.1 (hr 82 0 1000 (by decide +kernel) (by decide)) (hr 81 3 1000 (by decide +kernel) (by decide)) (hr 76 0 1001 (by decide +kernel) (by decide)), y.2⟩
theorem st_z8 {σ : rS} (hO : exO σ) {x : Nat} (hx : x < (σ.1 70).toNatClampNeg) : (∀ i, (σ.2.2.1 76 x).toNatClampNeg ≤ i → i < (σ.2.2.1 76 (x + 1)).toNatClampNeg → 1 ≤ σ.2.2.1 79 i) ∧ (σ.2.2.1 81 x = 0 → (σ.2.2.1 80 x).toInt = wOf (σ.2.2.1 79) (σ.2.2.1 76 x).toNatClampNeg ((σ.2.2.1 76 (x + 1)).toNatClampNeg - (σ.2.2.1 76 x).toNatClampNeg)) := by
  have n1 := hO.1.2
  have n0 := hO.1.1
  rw [lei, t0i] at n0
  rw [lei, show (1000 : Int32).toInt = 1000 from rfl] at n1
  have cn := cnk n0
  have ex : (Int32.ofNat x).toNatClampNeg = x := cl_5 (by omega)
  have ei : (Int32.ofNat x).toInt = (x : Int) := ofn_i (by omega)
  have e0 : (0 : Int32) ≤ Int32.ofNat x := by rw [lei, t0i, ei]; omega
  have e1 : Int32.ofNat x < σ.1 70 := by rw [lti, ei]; omega
  have e2 : (Int32.ofNat x + 1).toNatClampNeg = x + 1 := by rw [(cn1 (by rw [ei]; omega) (by rw [ei]; omega)).1, ex]
  have s := hO.2.2.2.1 _ e0 e1
  simp only [stOK, rd, ex, e2] at s
  exact ⟨s.2.2.1, fun z => (s.2.2.2.1 z).1⟩
theorem gn_w8 {σ : rS} (hO : exO σ) (hG : ∀ k, k < (σ.1 70).toNatClampNeg → gnR8 σ k) : gnW8 (trW8 σ) (σ.1 70).toNatClampNeg := fun k hk => by
  obtain ⟨⟨a0, a1, a2⟩, _⟩ := lo_r8 hO hk
  obtain ⟨s1, s2⟩ := st_z8 hO hk
  have g := hG k hk
  have l0 := cnk a0
  have l1 := cnk (x := σ.2.2.1 76 (k + 1)) (by omega)
  refine ⟨fun c => ?_, fun e c => ?_, fun e => ?_⟩
  · show σ.2.2.1 82 k = 0
    exact Decidable.byContradiction (fun z => c (g z).1)
  · have e' : (σ.2.2.1 76 (k + 1)).toNatClampNeg = (σ.2.2.1 76 k).toNatClampNeg + 1 := e
    have t := s2 c
    rw [e', show (σ.2.2.1 76 k).toNatClampNeg + 1 - (σ.2.2.1 76 k).toNatClampNeg = 1 by omega] at t
    have t' : (σ.2.2.1 80 k).toInt = 0 + (σ.2.2.1 79 ((σ.2.2.1 76 k).toNatClampNeg + 0)).toInt := t
    rw [Nat.add_zero] at t'
    have w := s1 _ (Nat.le_refl _) (by omega)
    rw [lei, t1i] at w
    show (σ.2.2.1 79 (σ.2.2.1 76 k).toNatClampNeg).toInt = (σ.2.2.1 80 k).toInt ∧ 0 < (σ.2.2.1 80 k).toInt
    omega
  · show σ.2.2.1 82 k = 0
    refine Decidable.byContradiction (fun z => e ?_)
    have y := (g z).2
    show (σ.2.2.1 76 (k + 1)).toNatClampNeg = (σ.2.2.1 76 k).toNatClampNeg + 1
    rw [y]
    exact (cn1 a0 (by omega)).1
/-- what holds of what was explored, beyond the tables -/
def ZQ8 (σ : rS) : Prop := exO σ ∧ (0 ≤ σ.1 88 ∧ (σ.1 88 = 0 → ∀ x, x < (σ.1 70).toNatClampNeg → ¬ Tr (fun a b => a < (σ.1 70).toNatClampNeg ∧ eW8 (trW8 σ) a b) x x)) ∧ gnW8 (trW8 σ) (σ.1 70).toNatClampNeg
theorem ZQ_n8 {σ : rS} (hP : exP σ) (hG : ∀ k, k < (σ.1 70).toNatClampNeg → gnR8 σ k) : ZQ8 σ := ⟨hP.1, ⟨hP.2.2.2.1, fun z x hx t => hP.2.2.2.2 z x hx (Tr_congr (fun a b e => (eN_w8 hP.1 e.1).mp e.2) t)⟩, gn_w8 hP.1 hG⟩
theorem ZQ_k8 {σ τ : rS} (h : ZQ8 σ) (k : kT7 σ τ) : ZQ8 τ := by
  obtain ⟨f, r⟩ := k
  have e70 := f 70 (by decide)
  have et : trW8 τ = trW8 σ := tr_B8 (fun g q => r g (by rcases q with q | q | q | q | q | q | q <;> rw [q] <;> decide))
  obtain ⟨h1, h2, h3⟩ := h
  unfold ZQ8
  rw [e70, et, f 88 (by decide)]
  exact ⟨exO_o h1 (fun g q => f g (by rcases q with q | q | q <;> rw [q] <;> decide)) (fun g q => r g (by rcases q with q | q | q | q | q | q <;> rw [q] <;> decide)), h2, h3⟩
/-- explore, with what holds of what was explored -/
def XS7 (a1 : Int32) (σ σ' : rS) (v : Int32) : Prop := XS6 a1 σ σ' v ∧ (σ'.1 0 = 0 → σ'.1 69 ≠ 0 → ZQ8 σ' ∧ ∀ k, k < (σ'.1 70).toNatClampNeg → σ'.2.2.1 83 k = 0)
theorem explore_g7 {C : rCx} (hC : cOK C) {σ : rS} {a1 : Int32} {Q : Int32 → rS → Prop} (hp : tyAll σ ∧ (σ.1 14 ≠ 0 → ∃ T, progOK σ (σ.1 3) T) ∧ exP σ) (h : ∀ (v : Int32) (σ' : rS), ((frM xpF xpR σ σ' ∧ exP σ' ∧ tyAll σ' ∧ (σ'.1 14 ≠ 0 → ∃ T, progOK σ' (σ'.1 3) T) ∧ (((∀ k, k ≠ 0 → σ'.1 k = σ.1 k) ∧ σ'.2 = σ.2) ∨ (σ'.1 94 = 0 ∧ σ'.1 114 = 0))) ∧ XS7 a1 σ σ' v) → Q v σ') : cI C 11 m_explore [.ref (co C), .int a1] σ Q := explore_g8 hC hp (fun v σ' q => h v σ' ⟨q.1, q.2.1, fun z0 z1 => ⟨ZQ_n8 q.1.2.1 (fun k hk => (q.2.2 z0 z1 k hk).1), fun k hk => (q.2.2 z0 z1 k hk).2⟩⟩)
/-! best, by what it answers -/
def bc8 (σ : rS) : Prop := σ.1 69 ≠ 0
noncomputable def bv8 (σ : rS) : Int32 := if σ.1 88 = 0 then @ite Int32 (∀ k, k < (σ.1 70).toNatClampNeg → ftW8 (wbW8 σ k)) (Classical.propDecidable _) 0 (-3) else -2
def XO8 (σ σ' : rS) (v : Int32) : Prop := (bc8 σ ∧ σ'.1 0 = 0 ∧ v = bv8 σ) ∨ (¬ bc8 σ ∧ σ'.1 0 = 1)
theorem bv_28 {σ : rS} (h : ¬ σ.1 88 = 0) : bv8 σ = -2 := if_neg h
theorem bv_38 {σ : rS} (h : σ.1 88 = 0) (e : ∃ k, k < (σ.1 70).toNatClampNeg ∧ ¬ ftW8 (wbW8 σ k)) : bv8 σ = -3 := by
  unfold bv8
  rw [if_pos h, if_neg (fun z => by obtain ⟨k, k1, k2⟩ := e; exact k2 (z k k1))]
theorem bv_08 {σ : rS} (h : σ.1 88 = 0) (e : ∀ k, k < (σ.1 70).toNatClampNeg → ftW8 (wbW8 σ k)) : bv8 σ = 0 := by
  unfold bv8
  rw [if_pos h, if_pos e]
theorem XO_8 {σ σ' : rS} {v : Int32} (h : XB8 σ σ' v) : XO8 σ σ' v := by
  rcases h with ⟨z, e, _⟩ | ⟨z, e, h⟩
  · exact Or.inr ⟨fun y => y z, e⟩
  · refine Or.inl ⟨z, e, ?_⟩
    rcases h with ⟨h1, h2, _⟩ | ⟨h1, ⟨h2, h3, _⟩ | ⟨h2, h3, _⟩⟩
    · rw [bv_28 h1]; exact h2
    · rw [bv_38 h1 h3]; exact h2
    · rw [bv_08 h1 (fun k hk => (h3 k hk).2.1)]; exact h2
theorem n7_q8 {σ : rS} (h : exO σ) : (σ.1 70).toNatClampNeg ≤ 1000 := by
  have n1 := h.1.2
  have n0 := h.1.1
  rw [lei, t0i] at n0
  rw [lei, show (1000 : Int32).toInt = 1000 from rfl] at n1
  have cn := cnk n0
  omega
/-- the plan, of both sides -/
def PL8 (f : Nat → Int32) (σ : rS) : Prop := ∀ j, j < (σ.1 70).toNatClampNeg → f j = σ.2.2.1 83 j

end
section
set_option maxHeartbeats 1600000
/-! the reference: decide, decided by what they answer -/
def dc8 (σ : rS) (k c : Int32) : Prop := (σ.1 69 ≠ 0 ∧ 0 ≤ k ∧ k < σ.1 70) ∧ σ.2.2.1 81 k.toNatClampNeg ≠ 0 ∧ 0 ≤ c ∧ c < σ.2.2.1 76 (k + (1 : Int32)).toNatClampNeg - σ.2.2.1 76 k.toNatClampNeg
def dv8 (σ : rS) (k _c : Int32) : Int32 := σ.2.2.1 83 k.toNatClampNeg
def XD8 (k c : Int32) (σ σ' : rS) (v : Int32) : Prop := (dc8 σ k c ∧ σ'.1 0 = 0 ∧ v = dv8 σ k c) ∨ (¬ dc8 σ k c ∧ σ'.1 0 = 1)
/-- what the plan takes behind it -/
def XU8 (k c : Int32) (σ σ' : rS) : Prop := (dc8 σ k c → σ'.2.2.1 83 = upd (σ.2.2.1 83) k.toNatClampNeg c) ∧ (¬ dc8 σ k c → σ'.2.2.1 83 = σ.2.2.1 83)
/-- visits behind it: none -/
def XF16 (k c : Int32) (σ σ' : rS) : Prop := (dc8 σ k c → σ'.1 94 = 0) ∧ (¬ dc8 σ k c → σ'.1 94 = σ.1 94)
def gc8 (σ : rS) (k : Int32) : Prop := (σ.1 69 ≠ 0 ∧ 0 ≤ k ∧ k < σ.1 70) ∧ σ.2.2.1 81 k.toNatClampNeg ≠ 0
def gv8 (σ : rS) (k : Int32) : Int32 := σ.2.2.1 83 k.toNatClampNeg
def XG8 (k : Int32) (σ σ' : rS) (v : Int32) : Prop := (gc8 σ k ∧ σ'.1 0 = 0 ∧ v = gv8 σ k) ∨ (¬ gc8 σ k ∧ σ'.1 0 = 1)
theorem decide_g5 {C : rCx} (hC : cOK C)  {σ : rS} {a1 : Int32} {a2 : Int32} {Q : Int32 → rS → Prop} (hp : exP σ) (h : ∀ (v : Int32) (σ' : rS), ((frG [0, 94] [83] σ σ' ∧ exP σ' ∧ (frG [0] [] σ σ' ∨ σ'.1 94 = 0)) ∧ (XD8 a1 a2 σ σ' v ∧ XU8 a1 a2 σ σ' ∧ XF16 a1 a2 σ σ')) → Q v σ') : cI C 1 m_decide [.ref (co C), .int a1, .int a2] σ Q := by
  refine m_decide_run hC ?_
  unfold w_decide_0
  have hj46 : ∀ (l1 : Int32) (l2 : Int32) (s1 : Int32) (τ : rS), ((σ = τ ∧ l1 = a1 ∧ l2 = a2 ∧ (s1 ≤ 0 → 0 ≤ a1 ∧ a1 < σ.1 70 ∧ 0 ≤ a2 ∧ a2 < rd σ 76 (a1 + 1) - rd σ 76 a1 ∧ rd σ 81 a1 ≠ 0)) ∧ ((s1 = 0 ∧ dc8 σ a1 a2) ∨ (s1 = 1 ∧ ¬ dc8 σ a1 a2))) → w_decide_46 C Q  l1 l2 s1 τ := by
    rintro y46_1 y46_2 y46_s1 _ ⟨⟨rfl, j46⟩, hE⟩
    unfold w_decide_46
    intro σ_1 hσ_1
    have e0 : σ_1.1 0 = y46_s1 := by rw [hσ_1, si1, if_pos rfl]
    obtain ⟨e1, e2, jw⟩ := j46
    refine ⟨fun c2 => ?_, fun c2 => ?_⟩
    · skip
      refine ⟨ib_1000.mpr ?_, ?_⟩
      · clear h; have w := jw (by rw [← e0]; exact c2)
        rw [e1]; exact ⟨w.1, Int32.lt_of_lt_of_le w.2.1 hp.1.1.2⟩
      intro x3 hx3
      refine ⟨ib_1000.mpr ?_, ?_⟩
      · clear h; have w := jw (by rw [← e0]; exact c2)
        rw [e1]; exact ⟨w.1, Int32.lt_of_lt_of_le w.2.1 hp.1.1.2⟩
      intro σ_4 hσ_4
      intro σ_5 hσ_5
      refine h _ _ ?_
      · refine and_5 ?_ (fun o9 => ?_)  -- q3
        · clear h; have w := jw (by rw [← e0]; exact c2)
          have k5 : ∀ k, k ≠ 0 → k ≠ 94 → σ_5.1 k = σ.1 k := fun k z1 z2 => by rw [hσ_5, si1, if_neg z2, hσ_4, ri1, hσ_1, si1, if_neg z1]
          have r5 : ∀ k, k ≠ 83 → σ_5.2.2.1 k = σ.2.2.1 k := fun k hk => by rw [hσ_5, si2, hσ_4, ri3 hk, hσ_1, si2]
          have r83 : σ_5.2.2.1 83 = upd (σ.2.2.1 83) a1.toNatClampNeg a2 := by rw [hσ_5, si2, hσ_4, ri_row, hσ_1, si2, e1, e2]
          have e70 := k5 70 (by decide) (by decide)
          obtain ⟨h1, h2, h3, h4, h5⟩ := hp
          refine ⟨?_, ⟨exO_o h1 (fun k hk => k5 k (by omega) (by omega)) (fun k hk => r5 k (by omega)), fun j j0 j1 => ?_, fun j j0 j1 => ?_, by rw [k5 88 (by decide) (by decide)]; exact h4, fun z a ha t => ?_⟩, Or.inr (by rw [hσ_5, si1, if_pos rfl])⟩
          · rw [hσ_5, hσ_4, hσ_1]; exact frG_tr (frG_tr (frG_0 (by decide)) (frG_1 (by decide))) (frG_0 (by decide))
          · rw [e70] at j1
            have := h2 j j0 j1
            unfold rowR at this ⊢
            simp only [rd] at this ⊢
            rw [r5 73 (by decide)]; exact this
          · rw [e70] at j1
            simp only [rd]
            rw [r5 76 (by decide), r5 81 (by decide), r83]
            by_cases e : j.toNatClampNeg = a1.toNatClampNeg
            · have ej := cn_inj j0 w.1 e
              rw [e, upd_eq, ej]
              exact ⟨fun z => absurd z w.2.2.2.2, fun _ => ⟨w.2.2.1, w.2.2.2.1⟩⟩
            · rw [upd_ne e]; exact h3 j j0 j1
          · rw [k5 88 (by decide) (by decide)] at z
            rw [e70] at ha
            exact h5 z a ha (Tr_congr (fun a b e => edN_0 (fun k hk => r5 k (by omega)) (by decide) e) t)
        · clear o9
          rcases hE with ⟨z1, z2⟩ | ⟨z1, z2⟩
          · refine ⟨Or.inl ⟨z2, ?_, ?_⟩, ⟨fun _ => ?_, fun z => absurd z2 z⟩, fun _ => ?_, fun z => absurd z2 z⟩
            · rw [hσ_5, si1, if_neg (by decide), hσ_4, ri1]; exact e0.trans z1
            · rw [hx3, hσ_1, si2, e1]; rfl
            · rw [hσ_5, si2, hσ_4, ri_row, hσ_1, si2, e1, e2]
            · rw [hσ_5, si1, if_pos rfl]
          · rw [e0, z1] at c2; exact absurd c2 (by decide)
    · skip
      refine h _ _ ?_
      · refine and_5 ?_ (fun o9 => ?_)  -- q4
        · clear h; have F : frG [0] [] σ σ_1 := by rw [hσ_1]; exact frG_0 (by decide)
          exact ⟨frG_mono F (by decide) (by decide), exP_o hp (fun k hk => by rw [hσ_1, si1, if_neg (by omega)]) (fun k _ => by rw [hσ_1, si2]), Or.inl F⟩
        · clear o9
          rcases hE with ⟨z1, z2⟩ | ⟨z1, z2⟩
          · exact absurd (by rw [e0, z1]; decide) c2
          · exact ⟨Or.inr ⟨z2, e0.trans z1⟩, ⟨fun z => absurd z z2, fun _ => by rw [hσ_1, si2]⟩, fun z => absurd z z2, fun _ => by rw [hσ_1, si1, if_neg (by decide)]⟩
  refine isState_c hC  (fun r6 q8 => ?_)
  refine ⟨fun c9 => ?_, fun c9 => ?_⟩
  · skip
    refine hj46 _ _ _ _ ?_
    · refine and_5 ?_ (fun o9 => Or.inr ⟨rfl, fun z => q8.2.mpr z.1 c9⟩)  -- k5
      clear h; exact ⟨rfl, rfl, rfl, fun z => absurd z (by decide)⟩
  · skip
    have w := q8.2.mp c9
    have k1 := Int32.lt_of_lt_of_le w.2.2 hp.1.1.2
    have k := k1001 w.2.1 k1
    refine ⟨ib_1000.mpr ?_, ?_⟩
    · clear h; exact ⟨w.2.1, k1⟩  -- b6
    refine ⟨fun c10 => ?_, fun c10 => ?_⟩
    · skip
      refine hj46 _ _ _ _ ?_
      · refine and_5 ?_ (fun o9 => Or.inr ⟨rfl, fun z => z.2.1 c10⟩)  -- k7
        clear h; exact ⟨rfl, rfl, rfl, fun z => absurd z (by decide)⟩
    · skip
      refine ⟨fun c11 => ?_, fun c11 => ?_⟩
      · skip
        refine hj46 _ _ _ _ ?_
        · refine and_5 ?_ (fun o9 => Or.inr ⟨rfl, fun z => absurd c11 (Int32.not_lt.mpr z.2.2.1)⟩)  -- k8
          clear h; exact ⟨rfl, rfl, rfl, fun z => absurd z (by decide)⟩
      · skip
        refine ⟨ib_1001.mpr ?_, ?_⟩
        · clear h; exact ⟨k.1, k.2.1⟩  -- b9
        refine ⟨ib_1001.mpr ?_, ?_⟩
        · clear h; exact ⟨w.2.1, k.2.2.1⟩  -- b10
        refine ⟨fun c12 => ?_, fun c12 => ?_⟩
        · skip
          refine hj46 _ _ _ _ ?_
          · refine and_5 ?_ (fun o9 => Or.inl ⟨rfl, w, c10, Int32.not_lt.mp c11, c12⟩)  -- k11
            clear h; exact ⟨rfl, rfl, rfl, fun _ => ⟨w.2.1, w.2.2, Int32.not_lt.mp c11, c12, c10⟩⟩
        · skip
          refine hj46 _ _ _ _ ?_
          · refine and_5 ?_ (fun o9 => Or.inr ⟨rfl, fun z => c12 z.2.2.2⟩)  -- k12
            clear h; exact ⟨rfl, rfl, rfl, fun z => absurd z (by decide)⟩

theorem decided_g5 {C : rCx} (hC : cOK C)  {σ : rS} {a1 : Int32} {Q : Int32 → rS → Prop} (hp : exP σ) (h : ∀ (v : Int32) (σ' : rS), ((frG [0] [] σ σ') ∧ (XG8 a1 σ σ' v)) → Q v σ') : cI C 1 m_decided [.ref (co C), .int a1] σ Q := by
  refine m_decided_run hC ?_
  unfold w_decided_0
  have hj23 : ∀ (l1 : Int32) (s1 : Int32) (τ : rS), ((σ = τ ∧ l1 = a1 ∧ (s1 ≤ 0 → 0 ≤ a1 ∧ a1 < σ.1 70)) ∧ ((s1 = 0 ∧ gc8 σ a1) ∨ (s1 = 1 ∧ ¬ gc8 σ a1))) → w_decided_23 C Q  l1 s1 τ := by
    rintro y23_1 y23_s1 _ ⟨⟨rfl, j23⟩, hE⟩
    unfold w_decided_23
    intro σ_1 hσ_1
    have e0 : σ_1.1 0 = y23_s1 := by rw [hσ_1, si1, if_pos rfl]
    obtain ⟨e1, jw⟩ := j23
    refine ⟨fun c2 => ?_, fun c2 => ?_⟩
    · skip
      refine ⟨ib_1000.mpr ?_, ?_⟩
      · clear h; have w := jw (by rw [← e0]; exact c2)
        rw [e1]; exact ⟨w.1, Int32.lt_of_lt_of_le w.2 hp.1.1.2⟩
      refine h _ _ ?_
      · refine and_5 ?_ (fun o9 => ?_)  -- q2
        · clear h; rw [hσ_1]; exact frG_0 (by decide)
        · clear o9
          rcases hE with ⟨z1, z2⟩ | ⟨z1, z2⟩
          · exact Or.inl ⟨z2, e0.trans z1, by rw [hσ_1, si2, e1]; rfl⟩
          · rw [e0, z1] at c2; exact absurd c2 (by decide)
    · skip
      refine h _ _ ?_
      · refine and_5 ?_ (fun o9 => ?_)  -- q3
        · clear h; rw [hσ_1]; exact frG_0 (by decide)
        · clear o9
          rcases hE with ⟨z1, z2⟩ | ⟨z1, z2⟩
          · exact absurd (by rw [e0, z1]; decide) c2
          · exact Or.inr ⟨z2, e0.trans z1⟩
  refine isState_c hC  (fun r3 q5 => ?_)
  refine ⟨fun c6 => ?_, fun c6 => ?_⟩
  · skip
    refine hj23 _ _ _ ?_
    · refine and_5 ?_ (fun o9 => Or.inr ⟨rfl, fun z => q5.2.mpr z.1 c6⟩)  -- k4
      clear h; exact ⟨rfl, rfl, fun z => absurd z (by decide)⟩
  · skip
    have w := q5.2.mp c6
    refine ⟨ib_1000.mpr ?_, ?_⟩
    · clear h; exact ⟨w.2.1, Int32.lt_of_lt_of_le w.2.2 hp.1.1.2⟩  -- b5
    refine ⟨fun c7 => ?_, fun c7 => ?_⟩
    · skip
      refine hj23 _ _ _ ?_
      · refine and_5 ?_ (fun o9 => Or.inl ⟨rfl, w, c7⟩)  -- k6
        clear h; exact ⟨rfl, rfl, fun _ => w.2⟩
    · skip
      refine hj23 _ _ _ ?_
      · refine and_5 ?_ (fun o9 => Or.inr ⟨rfl, fun z => z.2 (by first | exact c7 | exact Decidable.byContradiction c7)⟩)  -- k7
        clear h; exact ⟨rfl, rfl, fun z => absurd z (by decide)⟩

end
