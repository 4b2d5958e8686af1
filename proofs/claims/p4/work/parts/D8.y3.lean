set_option maxHeartbeats 1600000
/-! the class: Solver's findVisits -/
/-- powers that nobody should work out -/
def pD9 (e : Nat) : Nat := 8000000 ^ e
theorem pD9_l {m n : Nat} (h : m ≤ n) : pD9 m ≤ pD9 n := Nat.pow_le_pow_right (by decide) h
theorem pD9_p {m : Nat} : 0 < pD9 m := Nat.pow_pos (by decide)
theorem pD9_s {m : Nat} : pD9 m * 8000000 = pD9 (m + 1) := (Nat.pow_succ 8000000 m).symm
theorem pD9_a {m n : Nat} : pD9 m * pD9 n = pD9 (m + n) := (Nat.pow_add 8000000 m n).symm
theorem pD9_b {P e : Nat} (h : P ≤ pD9 e) (he : e ≤ 2000) : P < pB9 1490 := P2000_9 h he
theorem dd_9 {x : Int32} {n : Nat} (h0 : 0 ≤ x.toInt) (hn : n = (x.toInt + 1).toNat) : ((x + -1).toInt + 1).toNat < n ∧ -1 ≤ (x + -1).toInt ∧ ((x + -1).toInt + 1).toNat = x.toNatClampNeg ∧ (x + -1).toInt < x.toInt := by
  have k := cnk h0
  rw [dm_9 h0, hn]
  omega
theorem So_findVisitz_c {C : zC} {n0 : Nat} {a0 : Nat} {κ : zS} {Q : Int32 → zS → Prop} (W : zW C n0 κ) (Ta0 : zT κ a0 = 12) (ρ : Nat → Nat) (n9 : Nat) (hp : soR9 ρ κ a0 ∧ ((weU κ (zR κ soWeb a0) ∨ weM κ (zR κ soWeb a0)) ∧ weL κ (zR κ soWeb a0)) ∧ atW κ (zR κ soAtlas a0) n9) (h : ∀ (v : Int32) (κ' : zS), (fvP9 ρ κ κ' a0 n9) → Q v κ') : zRun C 8 mSo_findVisits [.ref a0] κ (oI Q noX) := by
  refine So_findVisitz_run W Ta0 ?_
  replace W := W.lo (Nat.le_trans W.1.2.1 W.1.2.2) (Nat.le_refl (zn κ))
  unfold w_So_findVisitz_0
  obtain ⟨S0, ⟨U0, L0⟩, A0⟩ := hp
  have tw := ty_soWeb W Ta0
  have tb := ty_soAtlas W Ta0
  have hj129 : ∀ (l0 : Nat) (τ : zS), zW C (zn κ) τ → zT τ l0 = 12 → (a0 = l0 ∧ ∃ ρ', fvJ9 ρ κ τ a0 n9 ρ' ∧ vsI9 ρ' τ a0 n9 1) → w_So_findVisitz_129 C (zn κ) Q  l0 τ := by
    rintro _ τ129 W129 T129_0 ⟨rfl, j129⟩
    unfold w_So_findVisitz_129
    intro x1 hx1
    obtain ⟨ρ1, J1, V1⟩ := j129
    have X1 := J1.2.2.2.1
    have kK := X1.2.1.1
    have hn := X1.1.2.1.2
    have hx : x1.toInt = (zI τ129 weKnots (zR τ129 soWeb a0)).toInt - 1 := by
      rw [hx1]
      have q := sub_i (x := zI τ129 weKnots (zR τ129 soWeb a0)) (y := 1) (by rw [t1i]; omega) (by rw [t1i]; omega)
      rw [t1i] at q
      exact q
    unfold w_So_findVisitz_139
    refine ⟨fun n l0 l1 τ => n = (l1.toInt + 1).toNat ∧ (a0 = l0 ∧ (∃ ρ' P, fvJ9 ρ κ τ a0 n9 ρ' ∧ vsI9 ρ' τ a0 n9 P ∧ 0 < P ∧ P ≤ pD9 (2 * (n9 - ((zA τ (zR τ weKnotFirsts (zR τ soWeb a0)) (l1.toInt + 1).toNat).toInt).toNat))) ∧ -1 ≤ l1.toInt ∧ l1.toInt < (zI τ weKnots (zR τ soWeb a0)).toInt), ⟨_, rfl, ?_⟩, ?_⟩
    · exact ⟨rfl, ⟨ρ1, 1, J1, V1, by decide, pD9_p⟩, by omega, by omega⟩  -- j1
    rintro n139 _ x139_1 κ139 W139 T139_0 ⟨hn139, rfl, i139⟩
    obtain ⟨⟨ρ1, P1, J1, V1, P10, P11⟩, l11, l12⟩ := i139
    have X1 := J1.2.2.2.1
    have hn := X1.1.2.1.2
    have wM := X1.1.1.1
    have kK := X1.2.1.1
    have PB : P1 < pB9 1490 := pD9_b P11 (by omega)
    have hj214 : ∀ (l0 : Nat) (l1 : Int32) (l2 : Int32) (τ : zS), zW C (zn κ) τ → zT τ l0 = 12 → (a0 = l0 ∧ ((l2 ≠ 0 → ∃ ρ' P, fvJ9 ρ κ τ a0 n9 ρ' ∧ vsI9 ρ' τ a0 n9 P ∧ 0 < P ∧ P ≤ pD9 (2 * (n9 - ((zA τ (zR τ weKnotFirsts (zR τ soWeb a0)) l1.toNatClampNeg).toInt).toNat))) ∧ (l2 = 0 → ∃ ρ', fvJ9 ρ κ τ a0 n9 ρ') ∧ zI τ weKnots (zR τ soWeb a0) = zI κ139 weKnots (zR κ139 soWeb a0)) ∧ 0 ≤ l1.toInt ∧ x139_1 = l1) → w_So_findVisitz_214 C (zn κ) Q (fun (l0' : Nat) (l1' : Int32) (τ : zS) => ∃ k < n139, (fun (n : Nat) (l0 : Nat) (l1 : Int32) (τ : zS) => n = (l1.toInt + 1).toNat ∧ (a0 = l0 ∧ (∃ ρ' P, fvJ9 ρ κ τ a0 n9 ρ' ∧ vsI9 ρ' τ a0 n9 P ∧ 0 < P ∧ P ≤ pD9 (2 * (n9 - ((zA τ (zR τ weKnotFirsts (zR τ soWeb a0)) (l1.toInt + 1).toNat).toInt).toNat))) ∧ -1 ≤ l1.toInt ∧ l1.toInt < (zI τ weKnots (zR τ soWeb a0)).toInt)) k l0' l1' τ) l0 l1 l2 τ := by
      rintro _ y214_1 y214_2 τ214 W214 T214_0 ⟨rfl, j214⟩
      unfold w_So_findVisitz_214
      obtain ⟨⟨k1, k2, k3⟩, l31, l33⟩ := j214
      subst l33
      have hm := dd_9 l31 hn139
      refine ⟨fun c2 => ?_, fun c2 => ?_⟩
      · skip
        intro x3 hx3
        refine ⟨_, ?_, rfl, ?_⟩
        · rw [hx3]; exact hm.1  -- d2
        · obtain ⟨ρ2, P2, J2, V2, P20, P21⟩ := k1 c2
          refine ⟨rfl, ⟨ρ2, P2, J2, V2, P20, ?_⟩, by rw [hx3]; exact hm.2.1, by rw [hx3, k3]; exact Int.lt_trans hm.2.2.2 l12⟩
          rw [hx3, hm.2.2.1]
          exact P21
      · skip
        refine h _ _ ?_
        · obtain ⟨ρ2, J2⟩ := k2 c2
          exact fv_p9 J2
    refine ⟨fun c4 => ?_, fun c4 => ?_⟩
    · skip
      intro κ_5 hκ_5
      intro W6
      refine h _ _ ?_
      · obtain ⟨j1, j2, j3, j4, j5, j6, j7, j8, j9, j10, j11⟩ := J1
        have F5 : zF (fvF9 ρ κ a0) κ139 κ_5 := by
          rw [hκ_5]
          exact zF_ui (Or.inr (Or.inr (Or.inl ⟨rfl, Or.inl rfl⟩)))
        have Zs : zF (fun f b => f = soSolved ∧ b = a0) κ139 κ_5 := by
          rw [hκ_5]
          exact zF_ui ⟨rfl, rfl⟩
        have nt : ∀ (t f w : Nat), zT κ139 w = t → t ≠ 12 → ¬ (f = soSolved ∧ w = a0) := fun t f w ht h12 z => by
          rw [z.2, T139_0] at ht
          exact h12 ht.symm
        have R5 := rs_h9 W139 T139_0 j3 Zs (fun f w h => nt 8 f w h (by decide)) (fun f w h => nt 11 f w h (by decide)) (fun f w h => nt 4 f w h (by decide)) (fun f h1 _ z => h1 z.1)
        have er : zR κ_5 = zR κ139 := by rw [hκ_5]; rfl
        have eA : zA κ_5 = zA κ139 := by rw [hκ_5]; rfl
        have eN : zN κ_5 = zN κ139 := by rw [hκ_5]; rfl
        have eQ : zQ κ_5 = zQ κ139 := by rw [hκ_5]; rfl
        have V5 : frV9 (zn κ139) (fun f b => f = soSolved ∧ b = a0) := fun f b z => by
          rw [z.1]
          exact Or.inr (Or.inr (Or.inr (Or.inr (Or.inl (by decide)))))
        have tb1 := ty_soAtlas W139 T139_0
        have A5 := atW_v9 W139 V5 Zs tb1 X1.2.2.1
        refine ⟨ρ1, j1, j2.tr F5, R5.1, by rw [← j8]; exact A5, ?_, ⟨by rw [er]; exact j8, by rw [er]; exact j9, by rw [er]; exact j10⟩, fun _ => ⟨P1, fun k hk => ?_, ⟨P10, PB⟩, by rw [er, eN]; exact X1.2.2.2⟩, j11.tr (zK_z9 W139 T139_0 Zs (fun b _ z => absurd z.1 (by decide)) (fun z => absurd z.1 (by decide)) (fun z => absurd z.1 (by decide)) (fun z => absurd z.1 (by decide)))⟩
        · have q := X1.1.1
          rw [j9] at q
          unfold weM weL
          rw [er, eN]
          exact q
        · have q := V1 k hk
          have vu : vU9 κ_5 a0 k = vU9 κ139 a0 k := by unfold vU9; rw [er, eQ]
          have sg : ∀ u, zI κ_5 raSign u = zI κ139 raSign u := fun u => by rw [hκ_5]; rfl
          have nn : ∀ u, nuN κ_5 u = nuN κ139 u := fun u => by
            unfold nuN
            rw [er, eA]
            have l : zI κ_5 nuLength u = zI κ139 nuLength u := by rw [hκ_5]; rfl
            rw [l]
          unfold vsK9 dvN9 dvA at q ⊢
          rw [vu, er, eQ, eA, sg, nn, nn]
          exact q
    · skip
      rw [lti, t0i] at c4
      have kl := cnk (x := x139_1) (by omega)
      have kA := X1.2.1.2.1 x139_1.toNatClampNeg (by omega)
      have kO := (X1.2.1.2.2.1 ((zA κ139 (zR κ139 weKnotFirsts (zR κ139 soWeb a0)) x139_1.toNatClampNeg).toInt).toNat (by omega)).1
      have kf := cnk kA.1
      have e26 : ((zA κ139 (zR κ139 weKnotFirsts (zR κ139 soWeb a0)) x139_1.toNatClampNeg).toInt).toNat = (zA κ139 (zR κ139 weKnotFirsts (zR κ139 soWeb a0)) x139_1.toNatClampNeg).toNatClampNeg := by omega
      rw [e26] at kO
      have ko := cnk kO.1
      rw [show (x139_1.toInt + 1).toNat = x139_1.toNatClampNeg + 1 by omega] at P11
      refine ⟨?_, ?_⟩
      · rw [inb_iff, wM.2.2.2.1]; omega  -- b6
      refine ⟨?_, ?_⟩
      · rw [inb_iff, wM.2.2.2.2.2.1]; omega  -- b7
      refine ⟨?_, ?_⟩
      · rw [inb_iff, wM.2.2.1]; omega  -- b8
      refine ⟨fun c7 => ?_, fun c7 => ?_⟩
      · skip
        refine hj214 _ _ _ _ W139 ?_ ?_
        · exact T139_0  -- t9
        · refine ⟨rfl, ⟨fun _ => ⟨ρ1, P1, J1, V1, P10, Nat.le_trans P11 (pD9_l (by omega))⟩, fun z => absurd z (by decide), rfl⟩, by omega, rfl⟩  -- k10
      · skip
        intro T8
        refine We_isRing_c W139 T8 n9 ?_ (fun r9 q11 => ?_)
        · exact ⟨wM, hn, X1.2.1, ⟨by omega, l12⟩, X1.1.2.2.1, X1.1.1.2.2.2⟩  -- p11
        intro W12
        intro M13
        refine ⟨fun c14 => ?_, fun c14 => ?_⟩
        · skip
          refine ⟨?_, ?_⟩
          · rw [inb_iff, wM.2.2.2.1]; omega  -- b12
          refine ⟨?_, ?_⟩
          · rw [inb_iff, wM.2.2.2.2.2.1]; omega  -- b13
          intro T15
          refine So_visitOne_c W12 T15 ρ1 n9 P1 ?_ (fun r16 κ_17 q18 => ?_)
          · exact ⟨J1.2.2.1.1, X1, V1, kO, ⟨P10, Nat.lt_of_lt_of_le PB (pB9_l (by decide))⟩, J1.2.2.1.2.2.2.2.2.2⟩  -- p14
          intro W19
          intro M20
          obtain ⟨nbv, ⟨Zv, Nv, Sv⟩, lv, kv⟩ := q18
          have R1 := J1.2.2.1
          have Ev : rgE9 (fun _ => True) ρ1 κ139 κ_17 a0 ρ1 := rg_so9 W139 T139_0 R1.2.1 R1.2.2.1 Zv (fun _ _ => trivial) ⟨Nv, Sv⟩
          have Jv := fv_s9 W139 T139_0 J1 Ev (Nat.lt_of_le_of_lt lv R1.2.2.2.2.2.2) (soF_r9 Zv (by decide)).1
          have wv := rg_w9 W139 T139_0 Ev X1
          have T17 : zT κ_17 a0 = 12 := Zv.t T139_0 (by decide)
          refine hj214 _ _ _ _ W19 ?_ ?_
          · exact T17  -- t15
          · refine ⟨rfl, ⟨fun z => ⟨ρ1, P1 * dvN9 κ139 (zR κ139 soAtlas a0) (zA κ139 (zR κ139 weOrder (zR κ139 soWeb a0)) (zA κ139 (zR κ139 weKnotFirsts (zR κ139 soWeb a0)) x139_1.toNatClampNeg).toNatClampNeg).toNatClampNeg, Jv, fun k hk => ?_, Nat.mul_pos P10 dvN9_p, ?_⟩, fun _ => ⟨ρ1, Jv⟩, wv.2.2.2.1⟩, by omega, rfl⟩
            · obtain ⟨q1, q2, q3⟩ := V1 k hk
              obtain ⟨e3, e4⟩ := vU9_f W139 T139_0 Zv
              have ea : zR κ_17 soAtlas a0 = zR κ139 soAtlas a0 := (soF_r9 Zv (by decide)).1
              have dd := dvA_f9 W139 soF_fr Zv (ty_soAtlas W139 T139_0) k
              have dN : dvN9 κ_17 (zR κ139 soAtlas a0) k = dvN9 κ139 (zR κ139 soAtlas a0) k := by unfold dvN9; rw [dd]
              rw [e3, e4, ea, dN]
              refine ⟨q1, q2, ?_⟩
              by_cases y : k = (zA κ139 (zR κ139 weOrder (zR κ139 soWeb a0)) (zA κ139 (zR κ139 weKnotFirsts (zR κ139 soWeb a0)) x139_1.toNatClampNeg).toNatClampNeg).toNatClampNeg
              · rw [y]
                exact kv z
              · refine vsK9_m (Nat.dvd_mul_right _ _) (vsK9_f W139 R1.1.1 Zv q2 (vs_r9 (by omega)) ⟨by unfold voR9; omega, by unfold voR9; omega, by unfold voR9; omega⟩ q3)
            · have d9 : dvN9 κ139 (zR κ139 soAtlas a0) (zA κ139 (zR κ139 weOrder (zR κ139 soWeb a0)) (zA κ139 (zR κ139 weKnotFirsts (zR κ139 soWeb a0)) x139_1.toNatClampNeg).toNatClampNeg).toNatClampNeg ≤ 8000000 := by
                have d := dv_9 X1 (k := (zA κ139 (zR κ139 weOrder (zR κ139 soWeb a0)) (zA κ139 (zR κ139 weKnotFirsts (zR κ139 soWeb a0)) x139_1.toNatClampNeg).toNatClampNeg).toNatClampNeg) (by omega)
                unfold dvN9
                split <;> omega
              refine Nat.le_trans (Nat.mul_le_mul P11 d9) ?_
              rw [pD9_s, wv.2.2.1]
              exact pD9_l (by omega)
        · skip
          intro T21
          refine So_visitRing_c W12 T21 ρ1 n9 P1 ((zA κ139 (zR κ139 weKnotFirsts (zR κ139 soWeb a0)) x139_1.toNatClampNeg).toInt).toNat (((zA κ139 (zR κ139 weKnotFirsts (zR κ139 soWeb a0)) (x139_1.toNatClampNeg + 1)).toInt).toNat - ((zA κ139 (zR κ139 weKnotFirsts (zR κ139 soWeb a0)) x139_1.toNatClampNeg).toInt).toNat) ?_ (fun r22 κ_23 q24 => ?_)
          · have sz := J1.2.2.2.2.2.1 x139_1.toNatClampNeg (by omega) c7
            have R1 := J1.2.2.1
            exact ⟨⟨R1.1, R1.2.1, R1.2.2.1⟩, X1, V1, J1.2.2.2.2.1, ⟨by omega, l12⟩, ⟨by omega, by omega, by omega⟩, ⟨P10, PB⟩, R1.2.2.2.2.2.2⟩
          intro W25
          intro M26
          obtain ⟨nbv, ρ2, Ev, lv, er, kv⟩ := q24
          have Jv := fv_s9 W139 T139_0 J1 Ev lv er
          have wv := rg_w9 W139 T139_0 Ev X1
          have T23 : zT κ_23 a0 = 12 := Ev.2.2.2.2.t T139_0 (by decide)
          refine hj214 _ _ _ _ W25 ?_ ?_
          · exact T23  -- t18
          · refine ⟨rfl, ⟨fun z => ?_, fun _ => ⟨ρ2, Jv⟩, wv.2.2.2.1⟩, by omega, rfl⟩
            have ex : 2 * (n9 - ((zA κ139 (zR κ139 weKnotFirsts (zR κ139 soWeb a0)) (x139_1.toNatClampNeg + 1)).toInt).toNat) + 2 * (((zA κ139 (zR κ139 weKnotFirsts (zR κ139 soWeb a0)) (x139_1.toNatClampNeg + 1)).toInt).toNat - ((zA κ139 (zR κ139 weKnotFirsts (zR κ139 soWeb a0)) x139_1.toNatClampNeg).toInt).toNat) ≤ 2 * (n9 - ((zA κ139 (zR κ139 weKnotFirsts (zR κ139 soWeb a0)) x139_1.toNatClampNeg).toInt).toNat) := by omega
            obtain ⟨Q9, ⟨q1, q2⟩, q3⟩ := kv z
            refine ⟨ρ2, P1 * Q9, Jv, q3, Nat.mul_pos P10 q1, ?_⟩
            rw [wv.2.2.1]
            refine Nat.le_trans (Nat.mul_le_mul P11 q2) ?_
            exact Nat.le_trans (Nat.le_of_eq pD9_a) (pD9_l ex)
  intro κ_27 hκ_27
  intro W28
  intro T29
  intro T30
  have Zs : zF (fun f b => f = soSolved ∧ b = a0) κ κ_27 := by
    rw [hκ_27]
    exact zF_ui ⟨rfl, rfl⟩
  have V27 : frV9 (zn κ) (fun f b => f = soSolved ∧ b = a0) := fun f b z => by
    rw [z.1]
    exact Or.inr (Or.inr (Or.inr (Or.inr (Or.inl (by decide)))))
  have A27 := atW_v9 W V27 Zs tb A0
  have er27 : zR κ_27 = zR κ := by rw [hκ_27]; rfl
  have nt : ∀ (t f w : Nat), zT κ w = t → t ≠ 12 → ¬ (f = soSolved ∧ w = a0) := fun t f w ht h12 z => by
    rw [z.2, Ta0] at ht
    exact h12 ht.symm
  have S27 := rs_h9 W Ta0 S0 Zs (fun f w h => nt 8 f w h (by decide)) (fun f w h => nt 11 f w h (by decide)) (fun f w h => nt 4 f w h (by decide)) (fun f h1 _ z => h1 z.1)
  have T27 : zT κ_27 a0 = 12 := Zs.t Ta0 (by decide)
  refine We_weave_c W28 T29 T30 n9 ?_ (fun κ_31 q32 => ?_)
  · rw [er27]
    refine ⟨?_, ?_, A27⟩
    · rw [hκ_27]; exact U0
    · rw [hκ_27]; exact L0
  rw [er27] at q32 T29 T30
  obtain ⟨Zw, G31, A31⟩ := q32
  have no : ∀ (t f w : Nat), zT κ_27 w = t → t ≠ 14 → ¬ objF (zR κ soWeb a0) f w := fun t f w ht h14 z => by
    rw [show w = zR κ soWeb a0 from z, T29] at ht
    exact h14 ht.symm
  have S31 := rs_h9 W28 T27 S27.1 Zw (fun f w h => no 8 f w h (by decide)) (fun f w h => no 11 f w h (by decide)) (fun f w h => no 4 f w h (by decide)) (fun f _ _ => no 12 f a0 T27 (by decide))
  have T31 : zT κ_31 a0 = 12 := Zw.t T27 (by decide)
  have ew31 : zR κ_31 soWeb a0 = zR κ soWeb a0 := by rw [S31.2 soWeb (by decide) (by decide), er27]
  have eb31 : zR κ_31 soAtlas a0 = zR κ soAtlas a0 := by rw [S31.2 soAtlas (by decide) (by decide), er27]
  have ec31 : zR κ_31 soCalc a0 = zR κ soCalc a0 := by rw [S31.2 soCalc (by decide) (by decide), er27]
  intro W33
  intro M34
  intro T35
  refine We_knot_c W33 T35 n9 ?_ (fun κ_36 q37 => ?_)
  · rw [ew31]
    exact ⟨G31.1.1, G31.2.1, G31.2.2.1, G31.1.2.2.2⟩
  intro W38
  intro M39
  rw [ew31] at q37 T35
  obtain ⟨Kn, KN⟩ := q37
  have tb31 : zT κ_31 (zR κ soAtlas a0) = 3 := by rw [← eb31]; exact ty_soAtlas W33 T31
  have Zk : zF (objF (zR κ soWeb a0)) κ_31 κ_36 := Kn.1.mono (fun f x z => z.1)
  have no2 : ∀ (t f w : Nat), zT κ_31 w = t → t ≠ 14 → ¬ objF (zR κ soWeb a0) f w := fun t f w ht h14 z => by
    rw [show w = zR κ soWeb a0 from z, T35] at ht
    exact h14 ht.symm
  have S36 := rs_h9 W33 T31 S31.1 Zk (fun f w h => no2 8 f w h (by decide)) (fun f w h => no2 11 f w h (by decide)) (fun f w h => no2 4 f w h (by decide)) (fun f _ _ => no2 12 f a0 T31 (by decide))
  have G36 := weG_K9 W33 T35 tb31 Kn G31
  have A36 := atW_E W33 T35 tb31 Zk A31
  have T36 : zT κ_36 a0 = 12 := Zk.t T31 (by decide)
  have ew36 : zR κ_36 soWeb a0 = zR κ soWeb a0 := by rw [S36.2 soWeb (by decide) (by decide)]; exact ew31
  have eb36 : zR κ_36 soAtlas a0 = zR κ soAtlas a0 := by rw [S36.2 soAtlas (by decide) (by decide)]; exact eb31
  have ec36 : zR κ_36 soCalc a0 = zR κ soCalc a0 := by rw [S36.2 soCalc (by decide) (by decide)]; exact ec31
  have hn := G36.2.1.2
  have kK := KN.1
  have sl36 : zI κ_36 soSolved a0 = 0 := by
    rw [Zk.i (no2 12 _ a0 T31 (by decide)), Zw.i (no 12 _ a0 T27 (by decide)), hκ_27]
    exact if_pos ⟨rfl, rfl⟩
  have F36 : zF (fvF9 ρ κ a0) κ κ_36 := ((Zs.mono (fun f b z => Or.inr (Or.inr (Or.inl ⟨z.2, Or.inl z.1⟩)))).tr (Zw.mono (fun f b z => Or.inr (Or.inl z)))).tr (Zk.mono (fun f b z => Or.inr (Or.inl z)))
  have K36 : zK9 κ κ_36 a0 := ((zK_z9 W Ta0 Zs (fun b _ z => absurd z.1 (by decide)) (fun z => absurd z.1 (by decide)) (fun z => absurd z.1 (by decide)) (fun z => absurd z.1 (by decide))).tr (zK_w9 W28 T27 T29 Zw)).tr (zK_w9 W33 T31 T35 Zk)
  have wM36 := G36.1.1
  have mn36 := F36.2.2.2.2.2.2
  unfold w_So_findVisitz_26
  refine ⟨fun n l0 l1 τ => n = ((zI κ_36 weKnots (zR κ_36 soWeb a0)).toInt - l1.toInt).toNat ∧ (a0 = l0 ∧ κ_36 = τ ∧ (0 ≤ l1.toInt ∧ l1.toInt ≤ (zI κ_36 weKnots (zR κ_36 soWeb a0)).toInt) ∧ ∀ c : Nat, (c : Int) < l1.toInt → zA κ_36 (zR κ_36 weOpen (zR κ_36 soWeb a0)) (zA κ_36 (zR κ_36 weOrder (zR κ_36 soWeb a0)) (zA κ_36 (zR κ_36 weKnotFirsts (zR κ_36 soWeb a0)) c).toNatClampNeg).toNatClampNeg ≠ 0 → (zA κ_36 (zR κ_36 weKnotFirsts (zR κ_36 soWeb a0)) (c + 1)).toInt - (zA κ_36 (zR κ_36 weKnotFirsts (zR κ_36 soWeb a0)) c).toInt ≤ 32), ⟨_, rfl, ?_⟩, ?_⟩
  · exact ⟨rfl, rfl, ⟨by decide, by rw [ew36, t0i]; exact kK.1⟩, fun c hc => by rw [t0i] at hc; omega⟩  -- j22
  rintro n26 _ x26_1 κ26 W26 T26_0 ⟨hn26, rfl, i26⟩
  obtain ⟨e26, l26, z26⟩ := i26
  subst e26
  have kl := cnk l26.1
  refine ⟨fun c40 => ?_, fun c40 => ?_⟩
  · skip
    intro T41
    refine So_fresh_c W26 T41 ρ a0 100 soVisits ?_ (fun r42 κ_43 q44 => ?_)
    · have tot := G36.2.1.1
      rw [← ew36] at tot
      exact ⟨S36.1.1, T36, ⟨Or.inl rfl, Or.inl rfl, W26.o (show zr soVisits = some 25 by decide +kernel) (by decide) T26_0, fun z => absurd z (by decide)⟩, S36.1.2.2.2.1.1, S36.1.2.2.2.1.2, ⟨by omega, by omega⟩⟩
    intro W45
    intro M46
    intro T47
    have tot := G36.2.1.1
    rw [← ew36] at tot
    have wo := fr_o9 (f9 := soVisits) (s := a0) (τ := κ_43) W26 (ty_soVisits W26 T26_0) T26_0 (W26.o (show zr soVisits = some 25 by decide +kernel) (by decide) T26_0) (Exists.choose_spec (Exists.choose_spec q44.1)).1 (Exists.choose_spec (Exists.choose_spec q44.1)).2.2.2.2.1.1
    refine ⟨?_, ?_⟩
    · rcases wo with y | y
      · exact Or.inr y.1
      · exact Or.inl y.1
    intro κ_48 hκ_48
    intro W49
    obtain ⟨Z48, K48, ρ8, h8, R8, V8, L8⟩ := fr_r9 (n := n9) W26 W45 W49 T26_0 S36.1 ⟨tot, hn⟩ q44.1 q44.2 hκ_48
    have T48 : zT κ_48 a0 = 12 := Z48.t T26_0 (by decide)
    have fv8 := frF9_v (ρ := ρ) (κ := κ_36) (s := a0) (Or.inl (rfl : soVisits = soVisits))
    have nf : ∀ f, f = soAtlas ∨ f = soWeb ∨ f = soCalc ∨ f = soSolved → ¬ frF9 ρ κ_36 soVisits a0 f a0 := fun f hf z => by
      have la := (W26.2.1 a0 (by rw [T26_0]; decide)).2
      rcases z with z | z | z | z
      · rcases z with ⟨_, z | z | z⟩ | ⟨_, z | z | z | z⟩ <;> (rw [z] at hf; exact absurd hf (by decide))
      · rw [z.1] at hf; exact absurd hf (by decide)
      · rw [z] at hf; exact absurd hf (by decide)
      · omega
    have ea8 : zR κ_48 soAtlas a0 = zR κ soAtlas a0 := (Z48.r (nf _ (Or.inl rfl))).trans eb36
    have ew8 : zR κ_48 soWeb a0 = zR κ soWeb a0 := (Z48.r (nf _ (Or.inr (Or.inl rfl)))).trans ew36
    have ec8 : zR κ_48 soCalc a0 = zR κ soCalc a0 := (Z48.r (nf _ (Or.inr (Or.inr (Or.inl rfl))))).trans ec36
    have tw36 : zT κ_36 (zR κ soWeb a0) = 14 := by rw [← ew36]; exact ty_soWeb W26 T26_0
    have tb36 : zT κ_36 (zR κ soAtlas a0) = 3 := by rw [← eb36]; exact ty_soAtlas W26 T26_0
    have X8 : svX9 κ_48 a0 n9 := by
      unfold svX9
      rw [ew8, ea8]
      exact ⟨weG_v9 W26 fv8 Z48 tw36 tb36 G36, weKn_v9 W26 fv8 Z48 tw36 KN, atW_v9 W26 fv8 Z48 tb36 A36, L8⟩
    have g8 := fun f hf => we_v9 W26 fv8 Z48 tw36 (f := f) hf
    have ix8 : zI κ_48 weKnots (zR κ soWeb a0) = zI κ_36 weKnots (zR κ soWeb a0) := Z48.i (frV9_n W26 fv8 tw36 (by decide))
    rw [lei] at c40
    have sz8 : ∀ c : Nat, (c : Int) < (zI κ_48 weKnots (zR κ_48 soWeb a0)).toInt → zA κ_48 (zR κ_48 weOpen (zR κ_48 soWeb a0)) (zA κ_48 (zR κ_48 weOrder (zR κ_48 soWeb a0)) (zA κ_48 (zR κ_48 weKnotFirsts (zR κ_48 soWeb a0)) c).toNatClampNeg).toNatClampNeg ≠ 0 → (zA κ_48 (zR κ_48 weKnotFirsts (zR κ_48 soWeb a0)) (c + 1)).toInt - (zA κ_48 (zR κ_48 weKnotFirsts (zR κ_48 soWeb a0)) c).toInt ≤ 32 := by
      rw [ew8, ix8, (g8 weOpen (by decide)).2.1, (g8 weOrder (by decide)).2.1, (g8 weKnotFirsts (by decide)).2.1]
      rw [ew36] at z26 c40
      exact fun c hc => z26 c (by omega)
    have sl8 : zI κ_48 soSolved a0 = 0 := (Z48.i (nf _ (Or.inr (Or.inr (Or.inr rfl))))).trans sl36
    have F48 : zF (fvF9 ρ κ a0) κ κ_48 := F36.tr (Z48.mono (fun f b z => by
      rcases z with z | z | z | z
      · rcases z with z | z
        · exact Or.inl (Or.inl ⟨trivial, z.2⟩)
        · exact Or.inr (Or.inr (Or.inr (Or.inr (Or.inl z.1))))
      · exact Or.inr (Or.inr (Or.inl ⟨z.2, Or.inr (Or.inr (Or.inr z.1))⟩))
      · exact Or.inr (Or.inr (Or.inr (Or.inl z)))
      · exact Or.inr (Or.inr (Or.inr (Or.inr (Or.inr (by omega)))))))
    have h8' : ∀ b, b < zn κ → ρ8 b = ρ b := fun b hb => h8 b (by omega)
    have tot8 : (zI κ_48 weTotal (zR κ_48 soWeb a0)).toInt = (n9 : Int) := X8.1.2.1.1
    refine ⟨fun c50 => ?_, fun c50 => ?_⟩
    · skip
      refine hj129 _ _ W49 ?_ ?_
      · exact T48  -- t25
      · rw [lei, tot8, ofn_i (by rcases R8.2.2.2.2.2.1 with y | y <;> rw [y] <;> decide)] at c50
        exact ⟨rfl, ρ8, ⟨h8', F48, R8, X8, by omega, sz8, sl8, ea8, ew8, ec8, K36.tr K48⟩, V8⟩
    · skip
      refine ⟨?_, ?_⟩
      · exact ⟨by decide, by decide⟩  -- b27
      intro κ_51 hκ_51
      intro W52
      refine ⟨?_, ?_⟩
      · rw [hκ_51]; exact if_pos rfl  -- b28
      intro κ_53 hκ_53
      intro W54
      rw [lei, tot8, ofn_i (by rcases R8.2.2.2.2.2.1 with y | y <;> rw [y] <;> decide)] at c50
      have l0 : (zN κ_48 (zR κ_48 soRows a0)) = 0 := by
        rcases R8.2.2.2.2.2.1 with y | y
        · exact y
        · omega
      have n1k : (1000 : Int32).toNatClampNeg = 1000 := by decide
      rw [n1k] at hκ_51
      have G := we_gr (f := soRows) (c := a0) W49 (show zr soRows = some 20 by decide +kernel) (by decide) T48 hκ_51 hκ_53 (by rw [l0]; decide) (by rw [l0]; decide)
      have E : rgE9 (fun _ => False) ρ8 κ_48 κ_53 a0 ρ8 := rg_rn9 W49 T48 R8.1.1 R8.1.2 R8.2.1 R8.2.2.1 G.1
      have n53 : zN κ_53 (zR κ_53 soRows a0) = 1000 := by rw [G.2.2.2.1]; exact G.2.2.2.2.1
      have X3 := rg_x9 W49 T48 E X8
      have w3 := rg_w9 W49 T48 E X8
      have wo3 := (we_f9 W49 rgF9_fr E.2.2.2.2 (ty_soWeb W49 T48) (f := weOpen) (by decide)).2.1
      have nl3 := rg_n9 (c := 0) W49 (ty_soLess W49 T48) E (fun z => z)
      have V3 := rg_v9 W49 T48 R8.1.1 hn (fun _ _ _ z => z) E V8
      have F53 : zF (fvF9 ρ κ a0) κ κ_53 := F48.tr (G.1.mono (fun f b z => Or.inr (Or.inr (Or.inl ⟨z.2, Or.inr (Or.inr (Or.inl z.1))⟩))))
      have R3 := rs_rg9 W49 T48 R8 E (by rw [nl3.2.1]; exact R8.2.2.2.2.2.2) (Or.inr n53)
      have e3 := fun f hf => rg_r9 W49 T48 E (f := f) hf
      refine hj129 _ _ W54 ?_ ?_
      · exact G.1.t T48 (by decide)  -- t29
      · refine ⟨rfl, ρ8, ⟨h8', F53, R3, X3.1, by rw [n53]; exact hn, ?_, (e3 soSolved (by decide)).2.trans sl8, X3.2.2.1.trans ea8, X3.2.1.trans ew8, (e3 soCalc (by decide)).1.trans ec8, (K36.tr K48).tr E.2.2.2.1.2⟩, V3.1⟩
        rw [w3.2.2.1, w3.2.2.2.1, w3.1, X3.2.1, wo3]
        exact sz8
  · skip
    rw [lei] at c40
    have c40' := c40
    rw [ew36] at c40'
    have kA := KN.2.1 x26_1.toNatClampNeg (by omega)
    have kf := cnk kA.1
    have kO := (KN.2.2.1 (zA κ_36 (zR κ_36 weKnotFirsts (zR κ soWeb a0)) x26_1.toNatClampNeg).toNatClampNeg (by omega)).1
    have ix := cn1 (x := x26_1) l26.1 (by omega)
    refine ⟨?_, ?_⟩
    · rw [ew36, inb_iff, wM36.2.2.2.1]; omega  -- b31
    refine ⟨?_, ?_⟩
    · rw [ew36, inb_iff, wM36.2.2.2.2.2.1]; omega  -- b32
    refine ⟨?_, ?_⟩
    · rw [ew36, inb_iff, wM36.2.2.1]; omega  -- b33
    refine ⟨fun c55 => ?_, fun c55 => ?_⟩
    · skip
      intro x56 hx56
      refine ⟨_, ?_, rfl, ?_⟩
      · rw [hn26, hx56, ix.2]; omega  -- d34
      · refine ⟨rfl, rfl, ⟨by rw [hx56, ix.2]; omega, by rw [hx56, ix.2]; omega⟩, fun c hc ho => ?_⟩
        rw [hx56, ix.2] at hc
        by_cases e : c = x26_1.toNatClampNeg
        · rw [e] at ho
          exact absurd c55 ho
        · exact z26 c (by omega) ho
    · skip
      intro T57
      refine We_sizeOf_c W26 T57 n9 ?_ (fun r58 q60 => ?_)
      · rw [ew36]
        exact ⟨wM36, hn, KN, ⟨l26.1, by omega⟩⟩
      intro W61
      intro M62
      refine ⟨fun c63 => ?_, fun c63 => ?_⟩
      · skip
        intro x64 hx64
        refine ⟨_, ?_, rfl, ?_⟩
        · rw [hn26, hx64, ix.2]; omega  -- d37
        · refine ⟨rfl, rfl, ⟨by rw [hx64, ix.2]; omega, by rw [hx64, ix.2]; omega⟩, fun c hc ho => ?_⟩
          rw [hx64, ix.2] at hc
          by_cases e : c = x26_1.toNatClampNeg
          · rw [lei, show (32 : Int32).toInt = 32 from rfl] at c63
            rw [e]
            have q := q60.1
            omega
          · exact z26 c (by omega) ho
      · skip
        refine h _ _ ?_
        · exact ⟨ρ, fun _ _ => rfl, F36, S36.1, A36, G36.1, ⟨eb36, ew36, ec36⟩, fun z => absurd sl36 z, K36⟩  -- q39
