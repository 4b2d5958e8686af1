set_option maxHeartbeats 1600000
/-! the class: Solver's makePlan -/
theorem So_makePlanz_c {C : zC} {n0 : Nat} {a0 : Nat} {κ : zS} {Q : Int32 → zS → Prop} (W : zW C n0 κ) (Ta0 : zT κ a0 = 12) (ρ : Nat → Nat) (n9 : Nat) (hp : soR9 ρ κ a0 ∧ ((weU κ (zR κ soWeb a0) ∨ weM κ (zR κ soWeb a0)) ∧ weL κ (zR κ soWeb a0)) ∧ atW κ (zR κ soAtlas a0) n9 ∧ ((zN κ (zR κ soTaken a0)) = 0 ∨ (zN κ (zR κ soTaken a0)) = 1000)) (h : ∀ (v : Int32) (κ' : zS), (mpP9 ρ κ κ' a0 n9 v) → Q v κ') : zRun C 8 mSo_makePlan [.ref a0] κ (oI Q noX) := by
  refine So_makePlanz_run W Ta0 ?_
  replace W := W.lo (Nat.le_trans W.1.2.1 W.1.2.2) (Nat.le_refl (zn κ))
  unfold w_So_makePlanz_0
  obtain ⟨S0, ⟨U0, L0⟩, A0, T0⟩ := hp
  have tw := ty_soWeb W Ta0
  have tb := ty_soAtlas W Ta0
  have hh76 : ∀ (l0 : Nat) (l1 : Int32) (τ : zS), zW C (zn κ) τ → zT τ l0 = 12 → (a0 = l0 ∧ (∃ ρ' P, mpJ9 ρ κ τ a0 n9 ρ' ∧ wsI9 ρ' τ a0 n9 P ∧ 0 < P ∧ P ≤ pD9 l1.toNatClampNeg) ∧ 0 ≤ l1.toInt ∧ l1.toInt ≤ n9) → w_So_makePlanz_76 C (zn κ) Q  l0 l1 τ := by
    intro z0 z1 τi Wi _ hinit
    unfold w_So_makePlanz_76
    refine ⟨fun n l0 l1 τ => n = ((n9 : Int) - l1.toInt).toNat ∧ (a0 = l0 ∧ (∃ ρ' P, mpJ9 ρ κ τ a0 n9 ρ' ∧ wsI9 ρ' τ a0 n9 P ∧ 0 < P ∧ P ≤ pD9 l1.toNatClampNeg) ∧ 0 ≤ l1.toInt ∧ l1.toInt ≤ n9), ⟨_, rfl, hinit⟩, ?_⟩
    clear hinit
    rintro n76 _ x76_1 κ76 W76 T76_0 ⟨hn76, rfl, i76⟩
    obtain ⟨⟨ρ1, P1, J1, V1, P10, P11⟩, l11, l12⟩ := i76
    have hn := J1.2.2.1.1.2.1.2
    have ea := J1.2.2.2.2.2.2.2.1.1
    have ew := J1.2.2.2.2.2.2.2.1.2.1
    have tot : (zI κ76 weTotal (zR κ76 soWeb a0)).toInt = (n9 : Int) := by rw [ew]; exact J1.2.2.1.1.2.1.1
    have hj141 : ∀ (l0 : Nat) (l1 : Int32) (s0 : Int32) (τ : zS), zW C (zn κ) τ → zT τ l0 = 12 → (a0 = l0 ∧ (s0 ≠ 0 → ∃ ρ' P, mpJ9 ρ κ τ a0 n9 ρ' ∧ wsI9 ρ' τ a0 n9 P ∧ 0 < P ∧ P ≤ pD9 (l1.toNatClampNeg + 1)) ∧ (∃ ρ', mpJ9 ρ κ τ a0 n9 ρ') ∧ 0 ≤ l1.toInt ∧ l1.toInt < n9 ∧ x76_1 = l1) → w_So_makePlanz_141 C (zn κ) Q (fun (l0' : Nat) (l1' : Int32) (τ : zS) => ∃ k < n76, (fun (n : Nat) (l0 : Nat) (l1 : Int32) (τ : zS) => n = ((n9 : Int) - l1.toInt).toNat ∧ (a0 = l0 ∧ (∃ ρ' P, mpJ9 ρ κ τ a0 n9 ρ' ∧ wsI9 ρ' τ a0 n9 P ∧ 0 < P ∧ P ≤ pD9 l1.toNatClampNeg) ∧ 0 ≤ l1.toInt ∧ l1.toInt ≤ n9)) k l0' l1' τ) l0 l1 s0 τ := by
      rintro _ y141_1 y141_s0 τ141 W141 T141_0 ⟨rfl, j141⟩
      unfold w_So_makePlanz_141
      obtain ⟨k1, k2, l31, l32, l33⟩ := j141
      subst l33
      have ix := cn1 l31 (by omega)
      refine ⟨fun c1 => ?_, fun c1 => ?_⟩
      · skip
        intro x2 hx2
        refine ⟨_, ?_, rfl, ?_⟩
        · rw [hx2, ix.2, hn76]; omega  -- d1
        · obtain ⟨ρ2, P2, J2, V2, P20, P21⟩ := k1 c1
          exact ⟨rfl, ⟨ρ2, P2, J2, V2, P20, by rw [hx2, ix.1]; exact P21⟩, by rw [hx2, ix.2]; omega, by rw [hx2, ix.2]; omega⟩
      · skip
        refine h _ _ ?_
        · obtain ⟨ρ2, J2⟩ := k2
          exact mp_p9 J2
    have hj128 : ∀ (l0 : Nat) (l1 : Int32) (l2 : Int32) (τ : zS), zW C (zn κ) τ → zT τ l0 = 12 → (a0 = l0 ∧ τ = ua κ76 (zR κ76 soTaken a0) l2.toNatClampNeg 0 ∧ (0 ≤ l2.toInt ∧ l2.toInt < n9) ∧ l1.toInt < n9 ∧ x76_1 = l1) → w_So_makePlanz_128 C (zn κ) Q (fun (l0' : Nat) (l1' : Int32) (τ : zS) => ∃ k < n76, (fun (n : Nat) (l0 : Nat) (l1 : Int32) (τ : zS) => n = ((n9 : Int) - l1.toInt).toNat ∧ (a0 = l0 ∧ (∃ ρ' P, mpJ9 ρ κ τ a0 n9 ρ' ∧ wsI9 ρ' τ a0 n9 P ∧ 0 < P ∧ P ≤ pD9 l1.toNatClampNeg) ∧ 0 ≤ l1.toInt ∧ l1.toInt ≤ n9)) k l0' l1' τ) l0 l1 l2 τ := by
      rintro _ y128_1 y128_2 τ128 W128 T128_0 ⟨rfl, j128⟩
      unfold w_So_makePlanz_128
      intro T3
      obtain ⟨e, hl2, hl1, hx⟩ := j128
      subst hx
      have kk := cnk hl2.1
      have U := mp_u9 W76 T76_0 J1 V1 (k := y128_2.toNatClampNeg) (by omega) e
      refine So_findWorth_c W128 T3 ρ1 n9 P1 ?_ (fun r4 κ_5 q6 => ?_)
      · exact ⟨U.1, hn, ⟨hl2.1, hl2.2, U.2.1.2.2.2.1.1⟩, U.2.2.1, U.2.2.2.1⟩  -- p4
      intro W7
      intro M8
      obtain ⟨nbv, ⟨Zf, Nf, Sf⟩, lf, tkf, wf, uf⟩ := q6
      have Jf := mp_s9 W128 T128_0 U.2.1 Zf (fun r h => fwR9_v h) ⟨Nf, Sf⟩ lf tkf.1
      refine hj141 _ _ _ _ W7 ?_ ?_
      · exact Zf.t T128_0 (by decide)  -- t5
      · exact ⟨rfl, fun z => ⟨ρ1, P1, Jf, wf z, P10, Nat.le_trans P11 (pD9_l (by omega))⟩, ⟨ρ1, Jf⟩, by omega, hl1, rfl⟩  -- k6
    refine ⟨fun c9 => ?_, fun c9 => ?_⟩
    · skip
      refine ⟨?_, ?_⟩
      · have kt := cnk (x := zI κ76 weTotal (zR κ76 soWeb a0)) (by omega)
        have q := J1.2.2.2.1.1
        refine ⟨by decide, by decide, by rw [lei, t0i, tot]; omega, ?_, ?_⟩
        · show 0 + (zI κ76 weTotal (zR κ76 soWeb a0)).toNatClampNeg ≤ _
          omega
        · show 0 + (zI κ76 weTotal (zR κ76 soWeb a0)).toNatClampNeg ≤ _
          rw [ea, J1.2.2.1.2.2.1.2.2.2.1]
          omega
      intro κ_10 hκ_10
      intro W11
      intro κ_12 hκ_12
      intro W13
      intro κ_14 hκ_14
      intro W15
      refine h _ _ ?_
      · exact mp_e9 W76 T76_0 J1 hκ_10 hκ_12 hκ_14  -- q8
    · skip
      rw [lei, tot] at c9
      have kx := cnk l11
      have wM := J1.2.2.1.1.1.1
      have kO := (J1.2.2.1.2.1.2.2.1 x76_1.toNatClampNeg (by omega)).1
      refine ⟨?_, ?_⟩
      · rw [ew, inb_iff, wM.2.2.2.2.2.1]; omega  -- b9
      intro x16 hx16
      rw [ew] at hx16
      rw [← hx16] at kO
      have kk := cnk kO.1
      refine ⟨?_, ?_⟩
      · have q := J1.2.2.2.1.1
        rw [inb_iff]; omega
      intro κ_17 hκ_17
      intro W18
      have U := mp_u9 W76 T76_0 J1 V1 (k := x16.toNatClampNeg) (by omega) hκ_17
      have A7 := U.1.2.1.1
      have T17 : zT κ_17 a0 = 12 := by rw [hκ_17]; exact T76_0
      refine ⟨?_, ?_⟩
      · rw [inb_iff, A7.1.2.2.2.2.1]; omega  -- b11
      refine ⟨fun c19 => ?_, fun c19 => ?_⟩
      · skip
        refine hj128 _ _ _ _ W18 ?_ ?_
        · exact T17  -- t12
        · exact ⟨rfl, hκ_17, kO, by omega, rfl⟩  -- k13
      · skip
        intro T20
        refine At_waysOf_c W18 T20  ?_ (fun r21 q23 => ?_)
        · exact ⟨A7.1.1, kO.1, by omega⟩  -- p14
        intro W24
        intro M25
        obtain ⟨_, _, ⟨s1, s2⟩, ec9, _⟩ := A7.2.2.2.2.2 x16.toNatClampNeg (by omega)
        rw [ec9 c19] at s1 s2
        refine ⟨fun c26 => ?_, fun c26 => ?_⟩
        · skip
          intro T27
          refine So_mixWorths_c W24 T27 ρ1 n9 P1 ?_ (fun r28 κ_29 q30 => ?_)
          · exact ⟨U.1, hn, kO, ⟨P10, pD9_b P11 (by omega)⟩, s1, s2⟩  -- p15
          intro W31
          intro M32
          obtain ⟨nbv, ⟨Zf, Nf, Sf⟩, lf, wf, uf⟩ := q30
          have Zg : zF (pwF9 ρ1 (voR9 (104 + 8 * x16.toNatClampNeg)) (zR κ_17 soCalc a0) a0) κ_17 κ_29 := Zf.mono (fun f b z => Or.inl z)
          have Jf := mp_s9 W24 T17 U.2.1 Zg (fun r h => voR9_v h) ⟨Nf, Sf⟩ lf (soF_r9 Zf (by decide)).1
          refine hj141 _ _ _ _ W31 ?_ ?_
          · exact Zf.t T17 (by decide)  -- t16
          · exact ⟨rfl, fun z => ⟨ρ1, _, Jf, wf z, Nat.mul_pos P10 (by omega), Nat.le_trans (Nat.mul_le_mul P11 (by omega)) (Nat.le_of_eq pD9_s)⟩, ⟨ρ1, Jf⟩, by omega, by omega, rfl⟩  -- k17
        · skip
          refine hj128 _ _ _ _ W24 ?_ ?_
          · exact T17  -- t18
          · exact ⟨rfl, hκ_17, kO, by omega, rfl⟩  -- k19
  refine ⟨fun c33 => ?_, fun c33 => ?_⟩
  · skip
    intro T34
    intro T35
    refine We_weave_c W T34 T35 n9 ?_ (fun κ_36 q37 => ?_)
    · exact ⟨U0, L0, A0⟩  -- p20
    obtain ⟨Zw, G36, A36⟩ := q37
    have no : ∀ (t f w : Nat), zT κ w = t → t ≠ 14 → ¬ objF (zR κ soWeb a0) f w := fun t f w ht h14 z => by
      rw [show w = zR κ soWeb a0 from z, tw] at ht
      exact h14 ht.symm
    have S36 := rs_h9 W Ta0 S0 Zw (fun f w h => no 8 f w h (by decide)) (fun f w h => no 11 f w h (by decide)) (fun f w h => no 4 f w h (by decide)) (fun f _ _ => no 12 f a0 Ta0 (by decide))
    have T36 : zT κ_36 a0 = 12 := Zw.t Ta0 (by decide)
    have ew36 : zR κ_36 soWeb a0 = zR κ soWeb a0 := S36.2 soWeb (by decide) (by decide)
    have eb36 : zR κ_36 soAtlas a0 = zR κ soAtlas a0 := S36.2 soAtlas (by decide) (by decide)
    have ec36 : zR κ_36 soCalc a0 = zR κ soCalc a0 := S36.2 soCalc (by decide) (by decide)
    have V36 : ∀ i P, vsI9 ρ κ a0 i P → vsI9 ρ κ_36 a0 i P := fun i P V => vs_h9 W Ta0 Zw (fun f w h => no 8 f w h (by decide)) (fun f w h => no 11 f w h (by decide)) (fun f w h => no 3 f w h (by decide)) (fun f => no 12 f a0 Ta0 (by decide)) V
    have tk36 : (zN κ_36 (zR κ_36 soTaken a0)) = (zN κ (zR κ soTaken a0)) := by rw [S36.2 soTaken (by decide) (by decide)]; exact Zw.l (ty_soTaken W Ta0)
    intro W38
    intro M39
    intro T40
    refine We_knot_c W38 T40 n9 ?_ (fun κ_41 q42 => ?_)
    · rw [ew36]
      exact ⟨G36.1.1, G36.2.1, G36.2.2.1, G36.1.2.2.2⟩
    intro W43
    intro M44
    intro T45
    rw [ew36] at q42 T40
    obtain ⟨Kn, KN⟩ := q42
    have tb36 : zT κ_36 (zR κ soAtlas a0) = 3 := by rw [← eb36]; exact ty_soAtlas W38 T36
    have Zk : zF (objF (zR κ soWeb a0)) κ_36 κ_41 := Kn.1.mono (fun f x z => z.1)
    have no2 : ∀ (t f w : Nat), zT κ_36 w = t → t ≠ 14 → ¬ objF (zR κ soWeb a0) f w := fun t f w ht h14 z => by
      rw [show w = zR κ soWeb a0 from z, T40] at ht
      exact h14 ht.symm
    have S41 := rs_h9 W38 T36 S36.1 Zk (fun f w h => no2 8 f w h (by decide)) (fun f w h => no2 11 f w h (by decide)) (fun f w h => no2 4 f w h (by decide)) (fun f _ _ => no2 12 f a0 T36 (by decide))
    have G41 := weG_K9 W38 T40 tb36 Kn G36
    have A41 := atW_E W38 T40 tb36 Zk A36
    have T41 : zT κ_41 a0 = 12 := Zk.t T36 (by decide)
    have ew41 : zR κ_41 soWeb a0 = zR κ soWeb a0 := by rw [S41.2 soWeb (by decide) (by decide)]; exact ew36
    have eb41 : zR κ_41 soAtlas a0 = zR κ soAtlas a0 := by rw [S41.2 soAtlas (by decide) (by decide)]; exact eb36
    have ec41 : zR κ_41 soCalc a0 = zR κ soCalc a0 := by rw [S41.2 soCalc (by decide) (by decide)]; exact ec36
    have V41 : ∀ i P, vsI9 ρ κ a0 i P → vsI9 ρ κ_41 a0 i P := fun i P V => vs_h9 W38 T36 Zk (fun f w h => no2 8 f w h (by decide)) (fun f w h => no2 11 f w h (by decide)) (fun f w h => no2 3 f w h (by decide)) (fun f => no2 12 f a0 T36 (by decide)) (V36 i P V)
    have tk41 : (zN κ_41 (zR κ_41 soTaken a0)) = (zN κ (zR κ soTaken a0)) := by
      rw [S41.2 soTaken (by decide) (by decide), ← tk36]
      exact Zk.l (ty_soTaken W38 T36)
    have hn := G41.2.1.2
    have sl41 : zI κ_41 soSolved a0 = zI κ soSolved a0 := (Zk.i (no2 12 _ a0 T36 (by decide))).trans (Zw.i (no 12 _ a0 Ta0 (by decide)))
    have pl41 : zI κ_41 soPlanned a0 = zI κ soPlanned a0 := (Zk.i (no2 12 _ a0 T36 (by decide))).trans (Zw.i (no 12 _ a0 Ta0 (by decide)))
    have F41 : zF (mpF9 ρ κ a0) κ κ_41 := (Zw.mono (fun f b z => Or.inr (Or.inl z))).tr (Zk.mono (fun f b z => Or.inr (Or.inl z)))
    have mn41 := F41.2.2.2.2.2.2
    have K41 : zK9 κ κ_41 a0 := (zK_w9 W Ta0 (ty_soWeb W Ta0) Zw).tr (zK_w9 W38 T36 T40 Zk)
    have tot := G41.2.1.1
    rw [← ew41] at tot
    refine So_fresh_c W43 T45 ρ a0 104 soWorths ?_ (fun r46 κ_47 q48 => ?_)
    · exact ⟨S41.1.1, T41, ⟨Or.inr rfl, Or.inr rfl, W43.o (show zr soWorths = some 25 by decide +kernel) (by decide) T41, fun _ => rfl⟩, S41.1.2.2.2.2.1.1, S41.1.2.2.2.2.1.2, ⟨by omega, by omega⟩⟩  -- p22
    intro W49
    intro M50
    intro T51
    have wo := fr_o9 (f9 := soWorths) (s := a0) (τ := κ_47) W43 (ty_soWorths W43 T41) T41 (W43.o (show zr soWorths = some 25 by decide +kernel) (by decide) T41) (Exists.choose_spec (Exists.choose_spec q48.1)).1 (Exists.choose_spec (Exists.choose_spec q48.1)).2.2.2.2.1.1
    refine ⟨?_, ?_⟩
    · rcases wo with y | y
      · exact Or.inr y.1
      · exact Or.inl y.1
    intro κ_52 hκ_52
    intro W53
    obtain ⟨Z52, K52, ρ8, h8, R8, V8, ⟨t8, n8⟩, vs8⟩ := fr_q9 (n := n9) W43 W49 W53 T41 S41.1 ⟨tot, hn⟩ q48.1 q48.2 hκ_52
    have T52 : zT κ_52 a0 = 12 := Z52.t T41 (by decide)
    have fv8 := frF9_v (ρ := ρ) (κ := κ_41) (s := a0) (Or.inr (rfl : soWorths = soWorths))
    have nf : ∀ f, f = soAtlas ∨ f = soWeb ∨ f = soCalc ∨ f = soSolved ∨ f = soPlanned → ¬ frF9 ρ κ_41 soWorths a0 f a0 := fun f hf z => by
      have la := (W43.2.1 a0 (by rw [T41]; decide)).2
      rcases z with z | z | z | z
      · rcases z with ⟨_, z | z | z⟩ | ⟨_, z | z | z | z⟩ <;> (rw [z] at hf; exact absurd hf (by decide))
      · rw [z.1] at hf; exact absurd hf (by decide)
      · rw [z] at hf; exact absurd hf (by decide)
      · omega
    have ea8 : zR κ_52 soAtlas a0 = zR κ soAtlas a0 := (Z52.r (nf _ (Or.inl rfl))).trans eb41
    have ew8 : zR κ_52 soWeb a0 = zR κ soWeb a0 := (Z52.r (nf _ (Or.inr (Or.inl rfl)))).trans ew41
    have ec8 : zR κ_52 soCalc a0 = zR κ soCalc a0 := (Z52.r (nf _ (Or.inr (Or.inr (Or.inl rfl))))).trans ec41
    have sl8 : zI κ_52 soSolved a0 = zI κ soSolved a0 := (Z52.i (nf _ (Or.inr (Or.inr (Or.inr (Or.inl rfl)))))).trans sl41
    have pl8 : zI κ_52 soPlanned a0 = zI κ soPlanned a0 := (Z52.i (nf _ (Or.inr (Or.inr (Or.inr (Or.inr rfl)))))).trans pl41
    have tw41 : zT κ_41 (zR κ soWeb a0) = 14 := by rw [← ew41]; exact ty_soWeb W43 T41
    have tb41 : zT κ_41 (zR κ soAtlas a0) = 3 := by rw [← eb41]; exact ty_soAtlas W43 T41
    have G8 := weG_v9 W43 fv8 Z52 tw41 tb41 G41
    have K8 := weKn_v9 W43 fv8 Z52 tw41 KN
    have A8 := atW_v9 W43 fv8 Z52 tb41 A41
    have F52 : zF (mpF9 ρ κ a0) κ κ_52 := F41.tr (Z52.mono (fun f b z => by
      rcases z with z | z | z | z
      · rcases z with z | z
        · exact Or.inl (Or.inl ⟨trivial, z.2⟩)
        · exact Or.inr (Or.inr (Or.inr (Or.inr (Or.inr (Or.inl z.1)))))
      · exact Or.inr (Or.inr (Or.inl ⟨z.2, Or.inr (Or.inr (Or.inr z.1))⟩))
      · exact Or.inr (Or.inr (Or.inr (Or.inr (Or.inl z))))
      · exact Or.inr (Or.inr (Or.inr (Or.inr (Or.inr (Or.inr (by omega))))))))
    have h8' : ∀ b, b < zn κ → ρ8 b = ρ b := fun b hb => h8 b (by omega)
    have tk8 : (zN κ_52 (zR κ_52 soTaken a0)) = (zN κ (zR κ soTaken a0)) := by rw [t8, n8]; exact tk41
    have tot8 : (zI κ_52 weTotal (zR κ_52 soWeb a0)).toInt = (n9 : Int) := by rw [ew8]; exact G8.2.1.1
    have T8 : (zN κ_52 (zR κ_52 soTaken a0)) = 0 ∨ (zN κ_52 (zR κ_52 soTaken a0)) = 1000 := by rw [tk8]; exact T0
    refine ⟨fun c54 => ?_, fun c54 => ?_⟩
    · skip
      refine hh76 _ _ _ W53 (by assumption) ?_
      · rw [lei, tot8, ofn_i (by rcases T8 with y | y <;> rw [y] <;> decide)] at c54
        exact ⟨rfl, ⟨ρ8, 1, ⟨⟨h8', F52⟩, R8, ⟨G8, K8, A8⟩, ⟨by omega, T8⟩, fun i P hi V => vs8 i P hi (V41 i P V), ⟨V8.1, fun k hk => ⟨_, (V8.2 k hk).1⟩⟩, ⟨sl8, pl8⟩, ⟨ea8, ew8, ec8⟩, K41.tr K52⟩, V8, by decide, pD9_p⟩, by decide, by rw [t0i]; omega⟩
    · skip
      refine ⟨?_, ?_⟩
      · exact ⟨by decide, by decide⟩  -- b25
      intro κ_55 hκ_55
      intro W56
      refine ⟨?_, ?_⟩
      · rw [hκ_55]; exact if_pos rfl  -- b26
      intro κ_57 hκ_57
      intro W58
      rw [lei, tot8, ofn_i (by rcases T8 with y | y <;> rw [y] <;> decide)] at c54
      have l0 : (zN κ_52 (zR κ_52 soTaken a0)) = 0 := by
        rcases T8 with y | y
        · exact y
        · omega
      have n1k : (1000 : Int32).toNatClampNeg = 1000 := by decide
      rw [n1k] at hκ_55
      have G := we_gr (f := soTaken) (c := a0) W53 (show zr soTaken = some 20 by decide +kernel) (by decide) T52 hκ_55 hκ_57 (by rw [l0]; decide) (by rw [l0]; decide)
      have T57 : zT κ_57 a0 = 12 := G.1.t T52 (by decide)
      have n57 : zN κ_57 (zR κ_57 soTaken a0) = 1000 := by rw [G.2.2.2.1]; exact G.2.2.2.2.1
      have nt : ∀ (t f w : Nat), zT κ_52 w = t → t ≠ 12 → ¬ (f = soTaken ∧ w = a0) := fun t f w ht h12 z => by
        rw [z.2, T52] at ht
        exact h12 ht.symm
      have Z57 : zF (pwF9 ρ8 (fun _ => False) (zR κ_52 soCalc a0) a0) κ_52 κ_57 := G.1.mono (fun f b z => Or.inr z)
      have ls := (nuB_z (c := 0) W53 (ty_soLess W53 T52) G.1 (fun z => absurd z.1 (by decide)) (fun z => absurd z.1 (by decide))).2.2.1
      have I7 : soI ρ8 κ_57 a0 := so_x9 W53 T52 R8.1.2 G.1 (fun f b z => Or.inr ⟨by rw [z.1]; decide, by rw [z.1]; decide⟩) (fun _ _ => rfl)
      obtain ⟨r1, r2, r3, r4, r5⟩ := pw_r9 W53 T52 R8 Z57 (fun r h => h.elim) ⟨nm_h9 W53 R8.1.1 G.1 (fun f w h => nt 8 f w h (by decide)) (fun f w h => nt 11 f w h (by decide)), I7⟩ (by rw [ls]; exact R8.2.2.2.2.2.2)
      have V7 := (ws_g9 W53 T52 G.1 (fun f w h => nt 8 f w h (by decide)) (fun f w h => nt 11 f w h (by decide)) (fun z => absurd z.1 (by decide)) V8).1
      have tw52 : zT κ_52 (zR κ soWeb a0) = 14 := by rw [← ew8]; exact ty_soWeb W53 T52
      have tb52 : zT κ_52 (zR κ soAtlas a0) = 3 := by rw [← ea8]; exact ty_soAtlas W53 T52
      have F57 : zF (mpF9 ρ κ a0) κ κ_57 := F52.tr (G.1.mono (fun f b z => Or.inr (Or.inr (Or.inl ⟨z.2, Or.inr (Or.inr (Or.inl z.1))⟩))))
      refine hh76 _ _ _ W58 (by assumption) ?_
      · exact ⟨rfl, ⟨ρ8, 1, ⟨⟨h8', F57⟩, r1, ⟨weG_v9 W53 pwF9_v Z57 tw52 tb52 G8, weKn_v9 W53 pwF9_v Z57 tw52 K8, atW_v9 W53 pwF9_v Z57 tb52 A8⟩, ⟨by rw [n57]; exact hn, Or.inr n57⟩, fun i P hi V => r3 i P hi (vs8 i P hi (V41 i P V)), ⟨V7.1, fun k hk => ⟨_, (V7.2 k hk).1⟩⟩, ⟨(r2 soSolved (by decide) (by decide)).2.trans sl8, (r2 soPlanned (by decide) (by decide)).2.trans pl8⟩, ⟨(r2 soAtlas (by decide) (by decide)).1.trans ea8, (r2 soWeb (by decide) (by decide)).1.trans ew8, (r2 soCalc (by decide) (by decide)).1.trans ec8⟩, (K41.tr K52).tr (zK_pw9 W53 T52 Z57)⟩, V7, by decide, pD9_p⟩, by decide, by rw [t0i]; omega⟩  -- j27
  · skip
    refine h _ _ ?_
    · exact ⟨ρ, ⟨fun _ _ => rfl, zF.rf⟩, S0, ⟨⟨U0, L0⟩, A0⟩, T0, Or.inl (fun _ _ _ V => V), Or.inr rfl, Or.inl ⟨rfl, rfl⟩, ⟨rfl, rfl, rfl⟩, zK9.rf⟩  -- q28
