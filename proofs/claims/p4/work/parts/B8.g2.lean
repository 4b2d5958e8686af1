set_option maxHeartbeats 1600000
/-! the class: Tape's addToken -/
def tkJ (κ τ : zS) (a0 : Nat) : Prop := zF (objF a0) κ τ ∧ zI τ = zI κ ∧ taI τ a0 ∧ tokI τ a0 ∧ (zI κ taTotal a0).toInt < (zN τ (zR τ taKinds a0)) ∧ zR τ taBytes a0 = zR κ taBytes a0
abbrev taRf : List Nat := [taBytes, taKinds, taPlaces, taLengths]
theorem taRf_r : ∀ f, f ∈ taRf → (∃ t, zr f = some t ∧ 20 ≤ t) ∧ f / 100 = 13 := by
  intro f h
  simp only [List.mem_cons, List.not_mem_nil, or_false] at h
  rcases h with rfl | rfl | rfl | rfl
  · exact ⟨⟨21, by decide +kernel, by decide⟩, rfl⟩
  · exact ⟨⟨20, by decide +kernel, by decide⟩, rfl⟩
  · exact ⟨⟨20, by decide +kernel, by decide⟩, rfl⟩
  · exact ⟨⟨20, by decide +kernel, by decide⟩, rfl⟩
theorem taRf_n {C : zC} {n0 c f g : Nat} {κ : zS} (W : zW C n0 κ) (T : zT κ c = 13) (hf : f ∈ taRf) (hg : g ∈ taRf) (h : f ≠ g) : zR κ f c ≠ zR κ g c := by
  obtain ⟨⟨t, h1, h2⟩, h3⟩ := taRf_r f hf
  obtain ⟨⟨u, g1, g2⟩, g3⟩ := taRf_r g hg
  exact ow_ne W h1 h2 (T.trans h3.symm) g1 g2 (T.trans g3.symm) h
theorem Ta_addToken_c {C : zC} {n0 : Nat} {a0 : Nat} {a1 : Int32} {a2 : Int32} {a3 : Int32} {κ : zS} {Q : zS → Prop} (W : zW C n0 κ) (Ta0 : zT κ a0 = 13)  (hp : taI κ a0 ∧ tokI κ a0 ∧ (zI κ taTotal a0).toInt < 10245 ∧ 0 ≤ a2.toInt ∧ 0 ≤ a3.toInt ∧ a2.toInt + a3.toInt ≤ (zN κ (zR κ taBytes a0))) (h : ∀ (κ' : zS), (zF (objF a0) κ κ' ∧ taI κ' a0 ∧ tokI κ' a0 ∧ zI κ' taTotal a0 = zI κ taTotal a0 + 1 ∧ (∀ f, f ≠ taTotal → zI κ' f a0 = zI κ f a0) ∧ zR κ' taBytes a0 = zR κ taBytes a0) → Q κ') : zRun C 2 mTa_addToken [.ref a0, .int a1, .int a2, .int a3] κ (oV Q noX) := by
  refine Ta_addToken_run W Ta0 ?_
  replace W := W.lo (Nat.le_trans W.1.2.1 W.1.2.2) (Nat.le_refl (zn κ))
  unfold w_Ta_addToken_0
  obtain ⟨H, K, p0, p1, p2, p3⟩ := hp
  have B := H.1
  have B2 := H.2
  have oN := W.n (ty_taKinds W Ta0)
  have hj63 : ∀ (l0 : Nat) (l1 : Int32) (l2 : Int32) (l3 : Int32) (τ : zS), zW C (zn κ) τ → zT τ l0 = 13 → (a0 = l0 ∧ a1 = l1 ∧ a2 = l2 ∧ a3 = l3 ∧ tkJ κ τ a0) → w_Ta_addToken_63 C (zn κ) Q  l0 l1 l2 l3 τ := by
    rintro _ _ _ _ τ63 W63 T63_0 ⟨rfl, rfl, rfl, rfl, j63⟩
    unfold w_Ta_addToken_63
    obtain ⟨F, jI, J, jK, jl, jB⟩ := j63
    have D1 := J.1
    have D2 := J.2
    rw [jI] at D1 D2
    have kt := cnk B2.1
    refine ⟨?_, ?_⟩
    · rw [inb_iff, jI]; omega  -- b1
    intro κ_1 hκ_1
    intro W2
    refine ⟨?_, ?_⟩
    · rw [hκ_1, inb_iff]
      show 0 ≤ (zI τ63 taTotal a0).toInt ∧ (zI τ63 taTotal a0).toInt < ((zN τ63 (zR τ63 taPlaces a0) : Nat) : Int)
      rw [jI]; omega
    intro κ_3 hκ_3
    intro W4
    refine ⟨?_, ?_⟩
    · rw [hκ_3, hκ_1, inb_iff]
      show 0 ≤ (zI τ63 taTotal a0).toInt ∧ (zI τ63 taTotal a0).toInt < ((zN τ63 (zR τ63 taLengths a0) : Nat) : Int)
      rw [jI]; omega
    intro κ_5 hκ_5
    intro W6
    intro κ_7 hκ_7
    intro W8
    refine h _ ?_
    · have f1 : zF (objF a0) τ63 κ_1 := by rw [hκ_1]; exact zF_ua (by rw [ow_taKinds W63 T63_0])
      have T1 := f1.t T63_0 (by decide)
      have f3 : zF (objF a0) κ_1 κ_3 := by rw [hκ_3]; exact zF_ua (by rw [ow_taPlaces W2 T1])
      have T3 := f3.t T1 (by decide)
      have f5 : zF (objF a0) κ_3 κ_5 := by rw [hκ_5]; exact zF_ua (by rw [ow_taLengths W4 T3])
      have f7 : zF (objF a0) κ_5 κ_7 := by rw [hκ_7]; exact zF_ui rfl
      have i1 : zI κ_1 = zI κ := by rw [hκ_1]; exact jI
      have i3 : zI κ_3 = zI κ := by rw [hκ_3]; exact i1
      have i5 : zI κ_5 = zI κ := by rw [hκ_5]; exact i3
      have r1 : zR κ_1 = zR τ63 := by rw [hκ_1]; rfl
      have r3 : zR κ_3 = zR τ63 := by rw [hκ_3]; exact r1
      have r7 : zR κ_7 = zR τ63 := by rw [hκ_7, hκ_5]; exact r3
      have n7 : zN κ_7 = zN τ63 := by rw [hκ_7, hκ_5, hκ_3, hκ_1]; rfl
      have is : zI κ_7 taTotal a0 = zI κ taTotal a0 + 1 := by
        rw [hκ_7]
        refine (if_pos ⟨rfl, rfl⟩).trans ?_
        rw [i5]
      have io : ∀ f, f ≠ taTotal → zI κ_7 f a0 = zI κ f a0 := fun f hf => by
        rw [hκ_7]
        exact (if_neg (fun z => hf z.1)).trans (congrFun (congrFun i5 f) a0)
      have ts : (zI κ_7 taTotal a0).toInt = (zI κ taTotal a0).toInt + 1 := by rw [is, add_i (by rw [t1i]; omega) (by rw [t1i]; omega), t1i]
      have xp : zA κ_7 (zR τ63 taPlaces a0) = upd (zA τ63 (zR τ63 taPlaces a0)) (zI κ taTotal a0).toNatClampNeg a2 := by
        have e7 : zA κ_7 = zA κ_5 := by rw [hκ_7]; rfl
        have e5 : zA κ_5 (zR τ63 taPlaces a0) = zA κ_3 (zR τ63 taPlaces a0) := by
          rw [hκ_5, r3]
          exact if_neg (taRf_n W63 T63_0 (by decide) (by decide) (by decide))
        rw [e7, e5, hκ_3, r1, i1]
        refine (if_pos rfl).trans ?_
        have e1 : zA κ_1 (zR τ63 taPlaces a0) = zA τ63 (zR τ63 taPlaces a0) := by rw [hκ_1]; exact if_neg (taRf_n W63 T63_0 (by decide) (by decide) (by decide))
        show upd (zA κ_1 (zR τ63 taPlaces a0)) _ _ = _
        rw [e1]
      have xl : zA κ_7 (zR τ63 taLengths a0) = upd (zA τ63 (zR τ63 taLengths a0)) (zI κ taTotal a0).toNatClampNeg a3 := by
        have e7 : zA κ_7 = zA κ_5 := by rw [hκ_7]; rfl
        rw [e7, hκ_5, r3, i3]
        refine (if_pos rfl).trans ?_
        have e3 : zA κ_3 (zR τ63 taLengths a0) = zA τ63 (zR τ63 taLengths a0) := by
          rw [hκ_3, r1]
          refine (if_neg (taRf_n W63 T63_0 (by decide) (by decide) (by decide))).trans ?_
          rw [hκ_1]
          exact if_neg (taRf_n W63 T63_0 (by decide) (by decide) (by decide))
        show upd (zA κ_3 (zR τ63 taLengths a0)) _ _ = _
        rw [e3]
      have lb : zN τ63 (zR τ63 taBytes a0) = zN κ (zR κ taBytes a0) := by rw [jB]; exact F.l (ty_taBytes W Ta0)
      refine ⟨(((F.tr f1).tr f3).tr f5).tr f7, ?_, fun i hi => ?_, is, io, by rw [r7]; exact jB⟩
      · unfold taI
        rw [r7, n7, ts, io taLength (by decide)]
        exact ⟨D1, by omega, by omega, D2.2.2⟩
      · rw [r7, n7] at hi
        rw [r7, n7, xp, xl]
        have g := jK i hi
        show 0 ≤ Int32.toInt (if i = _ then a2 else _) ∧ 0 ≤ Int32.toInt (if i = _ then a3 else _) ∧ Int32.toInt (if i = _ then a2 else _) + Int32.toInt (if i = _ then a3 else _) ≤ _
        by_cases z : i = (zI κ taTotal a0).toNatClampNeg
        · rw [if_pos z, if_pos z]; omega
        · rw [if_neg z, if_neg z]; exact g
  refine ⟨fun c9 => ?_, fun c9 => ?_⟩
  · skip
    refine hj63 _ _ _ _ _ W ?_ ?_
    · exact Ta0  -- t5
    · rw [lti, ofn_i oN] at c9
      exact ⟨rfl, rfl, rfl, rfl, zF.rf, rfl, H, K, c9, rfl⟩
  · skip
    intro T10
    have d9 : (zI κ taTotal a0).toInt = zN κ (zR κ taKinds a0) := by rw [lti, ofn_i oN] at c9; omega
    have e2 : (zI κ taTotal a0 * 2).toInt = (zI κ taTotal a0).toInt * 2 := by rw [mul_i (by rw [t2i]; omega) (by rw [t2i]; omega), t2i]
    have kn := cnk (x := zI κ taTotal a0 * 2) (by omega)
    refine Ar_copyOf_c W T10  ?_ (fun r11 κ_12 q13 => ?_)
    · exact ⟨⟨by rw [lei, t0i]; omega, by omega⟩, fun e => by
        have e9 := congrArg Int32.toInt e
        rw [ofn_i oN] at e9
        omega⟩
    intro W14
    intro M15
    intro T16
    refine ⟨?_, ?_⟩
    · rw [q13.1]; exact q13.2.2.1  -- b8
    intro κ_17 hκ_17
    intro W18
    intro T19
    have h1 : κ_17 = uo κ_12 taKinds a0 (zn κ) := by rw [hκ_17, q13.1]
    obtain ⟨F1, u1, u2, u3, u4, u5, -⟩ := gr_f (f := taKinds) W (by decide +kernel) (by decide) Ta0 (by decide) q13.2 h1 (by omega) (by omega)
    have T17 := F1.t Ta0 (by decide)
    have rp : zR κ_17 taPlaces a0 = zR κ taPlaces a0 := u2 taPlaces a0 (fun z => absurd z.1 (by decide))
    have np := u5 _ _ (ty_taPlaces W Ta0)
    have pN := W18.n (ty_taPlaces W18 T17)
    rw [u1]
    refine Ar_copyOf_c W18 T19  ?_ (fun r20 κ_21 q22 => ?_)
    · exact ⟨⟨by rw [lei, t0i]; omega, by omega⟩, fun e => by
        have e9 := congrArg Int32.toInt e
        rw [ofn_i pN, rp, np.1] at e9
        omega⟩
    intro W23
    intro M24
    intro T25
    refine ⟨?_, ?_⟩
    · rw [q22.1]; exact q22.2.2.1  -- b10
    intro κ_26 hκ_26
    intro W27
    intro T28
    have h2 : κ_26 = uo κ_21 taPlaces a0 (zn κ_17) := by rw [hκ_26, q22.1]
    obtain ⟨F2, v1, v2, v3, v4, v5, v6, v7⟩ := gr_f (f := taPlaces) W18 (by decide +kernel) (by decide) T17 (by decide) q22.2 h2 (by rw [rp, np.1]; omega) (by rw [rp, np.1]; omega)
    have T26 := F2.t T17 (by decide)
    have rl1 : zR κ_17 taLengths a0 = zR κ taLengths a0 := u2 taLengths a0 (fun z => absurd z.1 (by decide))
    have rl2 : zR κ_26 taLengths a0 = zR κ_17 taLengths a0 := v2 taLengths a0 (fun z => absurd z.1 (by decide))
    have nl1 := u5 _ _ (ty_taLengths W Ta0)
    have nl2 := v5 _ _ (ty_taLengths W18 T17)
    have lN := W27.n (ty_taLengths W27 T26)
    have ln : zN κ_26 (zR κ_26 taLengths a0) = zN κ (zR κ taLengths a0) := by rw [rl2, nl2.1, rl1, nl1.1]
    rw [v1, u1]
    refine Ar_copyOf_c W27 T28  ?_ (fun r29 κ_30 q31 => ?_)
    · exact ⟨⟨by rw [lei, t0i]; omega, by omega⟩, fun e => by
        have e9 := congrArg Int32.toInt e
        rw [ofn_i lN, ln] at e9
        omega⟩
    intro W32
    intro M33
    intro T34
    refine ⟨?_, ?_⟩
    · rw [q31.1]; exact q31.2.2.1  -- b12
    intro κ_35 hκ_35
    intro W36
    have h3 : κ_35 = uo κ_30 taLengths a0 (zn κ_26) := by rw [hκ_35, q31.1]
    obtain ⟨F3, w1, w2, w3, w4, w5, w6, w7⟩ := gr_f (f := taLengths) W27 (by decide +kernel) (by decide) T26 (by decide) q31.2 h3 (by rw [ln]; omega) (by rw [ln]; omega)
    have FF : zF (objF a0) κ κ_35 := ((F1.mono (fun _ _ z => z.2)).tr (F2.mono (fun _ _ z => z.2))).tr (F3.mono (fun _ _ z => z.2))
    refine hj63 _ _ _ _ _ W36 ?_ ?_
    · exact FF.t Ta0 (by decide)  -- t13
    · have ii : zI κ_35 = zI κ := w1.trans (v1.trans u1)
      have kB : zR κ_35 taBytes a0 = zR κ taBytes a0 := (w2 taBytes a0 (fun z => absurd z.1 (by decide))).trans ((v2 taBytes a0 (fun z => absurd z.1 (by decide))).trans (u2 taBytes a0 (fun z => absurd z.1 (by decide))))
      have kK : zR κ_35 taKinds a0 = zn κ := (w2 taKinds a0 (fun z => absurd z.1 (by decide))).trans ((v2 taKinds a0 (fun z => absurd z.1 (by decide))).trans u3)
      have kP : zR κ_35 taPlaces a0 = zn κ_17 := (w2 taPlaces a0 (fun z => absurd z.1 (by decide))).trans v3
      have tK : zT κ_17 (zn κ) = 20 := by rw [← u3]; exact ty_taKinds W18 T17
      have tP : zT κ_26 (zn κ_17) = 20 := by rw [← v3]; exact ty_taPlaces W27 T26
      have nK : zN κ_35 (zn κ) = (zI κ taTotal a0 * 2).toNatClampNeg := ((w5 _ _ (F2.t tK (by decide))).1).trans (((v5 _ _ tK).1).trans u4)
      have nP : zN κ_35 (zn κ_17) = (zI κ taTotal a0 * 2).toNatClampNeg := ((w5 _ _ tP).1).trans v4
      have nB : zN κ_35 (zR κ taBytes a0) = zN κ (zR κ taBytes a0) := FF.l (ty_taBytes W Ta0)
      have aP : ∀ i, i < (zI κ taTotal a0 * 2).toNatClampNeg → zA κ_35 (zn κ_17) i = zA κ (zR κ taPlaces a0) i ∧ i < zN κ (zR κ taPlaces a0) ∨ zA κ_35 (zn κ_17) i = 0 ∧ zN κ (zR κ taPlaces a0) ≤ i := fun i hi => by
        rw [(w5 _ _ tP).2]
        by_cases z : i < zN κ (zR κ taPlaces a0)
        · left
          refine ⟨?_, z⟩
          rw [v6 i hi (by rw [rp, np.1]; exact z), rp, np.2]
        · right
          exact ⟨v7 i (by rw [rp, np.1]; omega), by omega⟩
      have aL : ∀ i, i < (zI κ taTotal a0 * 2).toNatClampNeg → zA κ_35 (zn κ_26) i = zA κ (zR κ taLengths a0) i ∧ i < zN κ (zR κ taLengths a0) ∨ zA κ_35 (zn κ_26) i = 0 ∧ zN κ (zR κ taLengths a0) ≤ i := fun i hi => by
        by_cases z : i < zN κ (zR κ taLengths a0)
        · left
          refine ⟨?_, z⟩
          rw [w6 i hi (by rw [ln]; exact z), rl2, nl2.2, rl1, nl1.2]
        · right
          exact ⟨w7 i (by rw [ln]; omega), by omega⟩
      refine ⟨rfl, rfl, rfl, rfl, FF, ii, ?_, fun i hi => ?_, by rw [kK, nK]; omega, kB⟩
      · unfold taI
        rw [ii, kB, kK, kP, w3, nB, nK, nP, w4]
        exact ⟨B, B2.1, by omega, rfl, rfl, by omega, by omega⟩
      · rw [kK, nK] at hi
        rw [kP, w3, kB, nB]
        rcases aP i hi with ⟨e, z⟩ | ⟨e, z⟩
        · rcases aL i hi with ⟨e3, z3⟩ | ⟨e3, z3⟩
          · rw [e, e3]; exact K i (by omega)
          · omega
        · rcases aL i hi with ⟨e3, z3⟩ | ⟨e3, z3⟩
          · omega
          · rw [e, e3, t0i]; omega
