section
set_option maxHeartbeats 1600000
/-! the class: Solver's findVisits -/
/-- powers that nobody should work out -/
def pD9 (e : Nat) : Nat := 8000000 ^ e
theorem pD9_l {m n : Nat} (h : m ≤ n) : pD9 m ≤ pD9 n := Nat.pow_le_pow_right (by decide) h
theorem pD9_p {m : Nat} : 0 < pD9 m := Nat.pow_pos (by decide)
theorem pD9_s {m : Nat} : pD9 m * 8000000 = pD9 (m + 1) := (Nat.pow_succ 8000000 m).symm
theorem pD9_a {m n : Nat} : pD9 m * pD9 n = pD9 (m + n) := (Nat.pow_add 8000000 m n).symm
theorem pD9_b {P e : Nat} (h : P ≤ pD9 e) (he : e ≤ 2000) : P < pB9 1490 := P2000_9 h he
theorem dd_9 {x : Int32} {n : Nat} (h0 : 0 ≤ x.toInt) (hn : n = (x.toInt + 1).toNat) : ((x + -1).toInt + 1).toNat < n ∧ -1 ≤ (x + -1).toInt ∧ ((x + -1).toInt + 1).toNat = x.toNatClampNeg ∧ (x + -1).toInt < x.toInt := by
  have k := cnk h0
  rw [dm_9 h0, hn]
  omega
theorem So_findVisitz_c {C : zC} {n0 : Nat} {a0 : Nat} {κ : zS} {Q : Int32 → zS → Prop} (W : zW C n0 κ) (Ta0 : zT κ a0 = 12) (ρ : Nat → Nat) (n9 : Nat) (hp : soR9 ρ κ a0 ∧ ((weU κ (zR κ soWeb a0) ∨ weM κ (zR κ soWeb a0)) ∧ weL κ (zR κ soWeb a0)) ∧ atW κ (zR κ soAtlas a0) n9) (h : ∀ (v : Int32) (κ' : zS), (fvP9 ρ κ κ' a0 n9) → Q v κ') : zRun C 8 mSo_findVisits [.ref a0] κ (oI Q noX) := by
  refine So_findVisitz_run W Ta0 ?_
  replace W := W.lo (Nat.le_trans W.1.2.1 W.1.2.2) (Nat.le_refl (zn κ))
  unfold w_So_findVisitz_0
  obtain ⟨S0, ⟨U0, L0⟩, A0⟩ := hp
  have tw := ty_soWeb W Ta0
  have tb := ty_soAtlas W Ta0
  have hj129 : ∀ (l0 : Nat) (τ : zS), zW C (zn κ) τ → zT τ l0 = 12 → (a0 = l0 ∧ ∃ ρ', fvJ9 ρ κ τ a0 n9 ρ' ∧ vsI9 ρ' τ a0 n9 1) → w_So_findVisitz_129 C (zn κ) Q  l0 τ := by
    rintro _ τ129 W129 T129_0 ⟨rfl, j129⟩
    unfold w_So_findVisitz_129
    intro x1 hx1
    obtain ⟨ρ1, J1, V1⟩ := j129
    have X1 := J1.2.2.2.1
    have kK := X1.2.1.1
    have hn := X1.1.2.1.2
    have hx : x1.toInt = (zI τ129 weKnots (zR τ129 soWeb a0)).toInt - 1 := by
      rw [hx1]
      have q := sub_i (x := zI τ129 weKnots (zR τ129 soWeb a0)) (y := 1) (by rw [t1i]; omega) (by rw [t1i]; omega)
      rw [t1i] at q
      exact q
    unfold w_So_findVisitz_139
    refine ⟨fun n l0 l1 τ => n = (l1.toInt + 1).toNat ∧ (a0 = l0 ∧ (∃ ρ' P, fvJ9 ρ κ τ a0 n9 ρ' ∧ vsI9 ρ' τ a0 n9 P ∧ 0 < P ∧ P ≤ pD9 (2 * (n9 - ((zA τ (zR τ weKnotFirsts (zR τ soWeb a0)) (l1.toInt + 1).toNat).toInt).toNat))) ∧ -1 ≤ l1.toInt ∧ l1.toInt < (zI τ weKnots (zR τ soWeb a0)).toInt), ⟨_, rfl, ?_⟩, ?_⟩
    · exact ⟨rfl, ⟨ρ1, 1, J1, V1, by decide, pD9_p⟩, by omega, by omega⟩  -- j1
    rintro n139 _ x139_1 κ139 W139 T139_0 ⟨hn139, rfl, i139⟩
    obtain ⟨⟨ρ1, P1, J1, V1, P10, P11⟩, l11, l12⟩ := i139
    have X1 := J1.2.2.2.1
    have hn := X1.1.2.1.2
    have wM := X1.1.1.1
    have kK := X1.2.1.1
    have PB : P1 < pB9 1490 := pD9_b P11 (by omega)
    have hj214 : ∀ (l0 : Nat) (l1 : Int32) (l2 : Int32) (τ : zS), zW C (zn κ) τ → zT τ l0 = 12 → (a0 = l0 ∧ ((l2 ≠ 0 → ∃ ρ' P, fvJ9 ρ κ τ a0 n9 ρ' ∧ vsI9 ρ' τ a0 n9 P ∧ 0 < P ∧ P ≤ pD9 (2 * (n9 - ((zA τ (zR τ weKnotFirsts (zR τ soWeb a0)) l1.toNatClampNeg).toInt).toNat))) ∧ (l2 = 0 → ∃ ρ', fvJ9 ρ κ τ a0 n9 ρ') ∧ zI τ weKnots (zR τ soWeb a0) = zI κ139 weKnots (zR κ139 soWeb a0)) ∧ 0 ≤ l1.toInt ∧ x139_1 = l1) → w_So_findVisitz_214 C (zn κ) Q (fun (l0' : Nat) (l1' : Int32) (τ : zS) => ∃ k < n139, (fun (n : Nat) (l0 : Nat) (l1 : Int32) (τ : zS) => n = (l1.toInt + 1).toNat ∧ (a0 = l0 ∧ (∃ ρ' P, fvJ9 ρ κ τ a0 n9 ρ' ∧ vsI9 ρ' τ a0 n9 P ∧ 0 < P ∧ P ≤ pD9 (2 * (n9 - ((zA τ (zR τ weKnotFirsts (zR τ soWeb a0)) (l1.toInt + 1).toNat).toInt).toNat))) ∧ -1 ≤ l1.toInt ∧ l1.toInt < (zI τ weKnots (zR τ soWeb a0)).toInt)) k l0' l1' τ) l0 l1 l2 τ := by
      rintro _ y214_1 y214_2 τ214 W214 T214_0 ⟨rfl, j214⟩
      unfold w_So_findVisitz_214
      obtain ⟨⟨k1, k2, k3⟩, l31, l33⟩ := j214
      subst l33
      have hm := dd_9 l31 hn139
      refine ⟨fun c2 => ?_, fun c2 => ?_⟩
      · skip
        intro x3 hx3
        refine ⟨_, ?_, rfl, ?_⟩
        · rw [hx3]; exact hm.1  -- d2
        · obtain ⟨ρ2, P2, J2, V2, P20, P21⟩ := k1 c2
          refine ⟨rfl, ⟨ρ2, P2, J2, V2, P20, ?_⟩, by rw [hx3]; exact hm.2.1, by rw [hx3, k3]; exact Int.lt_trans hm.2.2.2 l12⟩
          rw [hx3, hm.2.2.1]
          exact P21
      · skip
        refine h _ _ ?_
        · obtain ⟨ρ2, J2⟩ := k2 c2
          exact fv_p9 J2
    refine ⟨fun c4 => ?_, fun c4 => ?_⟩
    · skip
      intro κ_5 hκ_5
      intro W6
      refine h _ _ ?_
      · obtain ⟨j1, j2, j3, j4, j5, j6, j7, j8, j9, j10, j11⟩ := J1
        have F5 : zF (fvF9 ρ κ a0) κ139 κ_5 := by
          rw [hκ_5]
          exact zF_ui (Or.inr (Or.inr (Or.inl ⟨rfl, Or.inl rfl⟩)))
        have Zs : zF (fun f b => f = soSolved ∧ b = a0) κ139 κ_5 := by
          rw [hκ_5]
          exact zF_ui ⟨rfl, rfl⟩
        have nt : ∀ (t f w : Nat), zT κ139 w = t → t ≠ 12 → ¬ (f = soSolved ∧ w = a0) := fun t f w ht h12 z => by
          rw [z.2, T139_0] at ht
          exact h12 ht.symm
        have R5 := rs_h9 W139 T139_0 j3 Zs (fun f w h => nt 8 f w h (by decide)) (fun f w h => nt 11 f w h (by decide)) (fun f w h => nt 4 f w h (by decide)) (fun f h1 _ z => h1 z.1)
        have er : zR κ_5 = zR κ139 := by rw [hκ_5]; rfl
        have eA : zA κ_5 = zA κ139 := by rw [hκ_5]; rfl
        have eN : zN κ_5 = zN κ139 := by rw [hκ_5]; rfl
        have eQ : zQ κ_5 = zQ κ139 := by rw [hκ_5]; rfl
        have V5 : frV9 (zn κ139) (fun f b => f = soSolved ∧ b = a0) := fun f b z => by
          rw [z.1]
          exact Or.inr (Or.inr (Or.inr (Or.inr (Or.inl (by decide)))))
        have tb1 := ty_soAtlas W139 T139_0
        have A5 := atW_v9 W139 V5 Zs tb1 X1.2.2.1
        refine ⟨ρ1, j1, j2.tr F5, R5.1, by rw [← j8]; exact A5, ?_, ⟨by rw [er]; exact j8, by rw [er]; exact j9, by rw [er]; exact j10⟩, fun _ => ⟨P1, fun k hk => ?_, ⟨P10, PB⟩, by rw [er, eN]; exact X1.2.2.2⟩, j11.tr (zK_z9 W139 T139_0 Zs (fun b _ z => absurd z.1 (by decide)) (fun z => absurd z.1 (by decide)) (fun z => absurd z.1 (by decide)) (fun z => absurd z.1 (by decide)))⟩
        · have q := X1.1.1
          rw [j9] at q
          unfold weM weL
          rw [er, eN]
          exact q
        · have q := V1 k hk
          have vu : vU9 κ_5 a0 k = vU9 κ139 a0 k := by unfold vU9; rw [er, eQ]
          have sg : ∀ u, zI κ_5 raSign u = zI κ139 raSign u := fun u => by rw [hκ_5]; rfl
          have nn : ∀ u, nuN κ_5 u = nuN κ139 u := fun u => by
            unfold nuN
            rw [er, eA]
            have l : zI κ_5 nuLength u = zI κ139 nuLength u := by rw [hκ_5]; rfl
            rw [l]
          unfold vsK9 dvN9 dvA at q ⊢
          rw [vu, er, eQ, eA, sg, nn, nn]
          exact q
    · skip
      rw [lti, t0i] at c4
      have kl := cnk (x := x139_1) (by omega)
      have kA := X1.2.1.2.1 x139_1.toNatClampNeg (by omega)
      have kO := (X1.2.1.2.2.1 ((zA κ139 (zR κ139 weKnotFirsts (zR κ139 soWeb a0)) x139_1.toNatClampNeg).toInt).toNat (by omega)).1
      have kf := cnk kA.1
      have e26 : ((zA κ139 (zR κ139 weKnotFirsts (zR κ139 soWeb a0)) x139_1.toNatClampNeg).toInt).toNat = (zA κ139 (zR κ139 weKnotFirsts (zR κ139 soWeb a0)) x139_1.toNatClampNeg).toNatClampNeg := by omega
      rw [e26] at kO
      have ko := cnk kO.1
      rw [show (x139_1.toInt + 1).toNat = x139_1.toNatClampNeg + 1 by omega] at P11
      refine ⟨?_, ?_⟩
      · rw [inb_iff, wM.2.2.2.1]; omega  -- b6
      refine ⟨?_, ?_⟩
      · rw [inb_iff, wM.2.2.2.2.2.1]; omega  -- b7
      refine ⟨?_, ?_⟩
      · rw [inb_iff, wM.2.2.1]; omega  -- b8
      refine ⟨fun c7 => ?_, fun c7 => ?_⟩
      · skip
        refine hj214 _ _ _ _ W139 ?_ ?_
        · exact T139_0  -- t9
        · refine ⟨rfl, ⟨fun _ => ⟨ρ1, P1, J1, V1, P10, Nat.le_trans P11 (pD9_l (by omega))⟩, fun z => absurd z (by decide), rfl⟩, by omega, rfl⟩  -- k10
      · skip
        intro T8
        refine We_isRing_c W139 T8 n9 ?_ (fun r9 q11 => ?_)
        · exact ⟨wM, hn, X1.2.1, ⟨by omega, l12⟩, X1.1.2.2.1, X1.1.1.2.2.2⟩  -- p11
        intro W12
        intro M13
        refine ⟨fun c14 => ?_, fun c14 => ?_⟩
        · skip
          refine ⟨?_, ?_⟩
          · rw [inb_iff, wM.2.2.2.1]; omega  -- b12
          refine ⟨?_, ?_⟩
          · rw [inb_iff, wM.2.2.2.2.2.1]; omega  -- b13
          intro T15
          refine So_visitOne_c W12 T15 ρ1 n9 P1 ?_ (fun r16 κ_17 q18 => ?_)
          · exact ⟨J1.2.2.1.1, X1, V1, kO, ⟨P10, Nat.lt_of_lt_of_le PB (pB9_l (by decide))⟩, J1.2.2.1.2.2.2.2.2.2⟩  -- p14
          intro W19
          intro M20
          obtain ⟨nbv, ⟨Zv, Nv, Sv⟩, lv, kv⟩ := q18
          have R1 := J1.2.2.1
          have Ev : rgE9 (fun _ => True) ρ1 κ139 κ_17 a0 ρ1 := rg_so9 W139 T139_0 R1.2.1 R1.2.2.1 Zv (fun _ _ => trivial) ⟨Nv, Sv⟩
          have Jv := fv_s9 W139 T139_0 J1 Ev (Nat.lt_of_le_of_lt lv R1.2.2.2.2.2.2) (soF_r9 Zv (by decide)).1
          have wv := rg_w9 W139 T139_0 Ev X1
          have T17 : zT κ_17 a0 = 12 := Zv.t T139_0 (by decide)
          refine hj214 _ _ _ _ W19 ?_ ?_
          · exact T17  -- t15
          · refine ⟨rfl, ⟨fun z => ⟨ρ1, P1 * dvN9 κ139 (zR κ139 soAtlas a0) (zA κ139 (zR κ139 weOrder (zR κ139 soWeb a0)) (zA κ139 (zR κ139 weKnotFirsts (zR κ139 soWeb a0)) x139_1.toNatClampNeg).toNatClampNeg).toNatClampNeg, Jv, fun k hk => ?_, Nat.mul_pos P10 dvN9_p, ?_⟩, fun _ => ⟨ρ1, Jv⟩, wv.2.2.2.1⟩, by omega, rfl⟩
            · obtain ⟨q1, q2, q3⟩ := V1 k hk
              obtain ⟨e3, e4⟩ := vU9_f W139 T139_0 Zv
              have ea : zR κ_17 soAtlas a0 = zR κ139 soAtlas a0 := (soF_r9 Zv (by decide)).1
              have dd := dvA_f9 W139 soF_fr Zv (ty_soAtlas W139 T139_0) k
              have dN : dvN9 κ_17 (zR κ139 soAtlas a0) k = dvN9 κ139 (zR κ139 soAtlas a0) k := by unfold dvN9; rw [dd]
              rw [e3, e4, ea, dN]
              refine ⟨q1, q2, ?_⟩
              by_cases y : k = (zA κ139 (zR κ139 weOrder (zR κ139 soWeb a0)) (zA κ139 (zR κ139 weKnotFirsts (zR κ139 soWeb a0)) x139_1.toNatClampNeg).toNatClampNeg).toNatClampNeg
              · rw [y]
                exact kv z
              · refine vsK9_m (Nat.dvd_mul_right _ _) (vsK9_f W139 R1.1.1 Zv q2 (vs_r9 (by omega)) ⟨by unfold voR9; omega, by unfold voR9; omega, by unfold voR9; omega⟩ q3)
            · have d9 : dvN9 κ139 (zR κ139 soAtlas a0) (zA κ139 (zR κ139 weOrder (zR κ139 soWeb a0)) (zA κ139 (zR κ139 weKnotFirsts (zR κ139 soWeb a0)) x139_1.toNatClampNeg).toNatClampNeg).toNatClampNeg ≤ 8000000 := by
                have d := dv_9 X1 (k := (zA κ139 (zR κ139 weOrder (zR κ139 soWeb a0)) (zA κ139 (zR κ139 weKnotFirsts (zR κ139 soWeb a0)) x139_1.toNatClampNeg).toNatClampNeg).toNatClampNeg) (by omega)
                unfold dvN9
                split <;> omega
              refine Nat.le_trans (Nat.mul_le_mul P11 d9) ?_
              rw [pD9_s, wv.2.2.1]
              exact pD9_l (by omega)
        · skip
          intro T21
          refine So_visitRing_c W12 T21 ρ1 n9 P1 ((zA κ139 (zR κ139 weKnotFirsts (zR κ139 soWeb a0)) x139_1.toNatClampNeg).toInt).toNat (((zA κ139 (zR κ139 weKnotFirsts (zR κ139 soWeb a0)) (x139_1.toNatClampNeg + 1)).toInt).toNat - ((zA κ139 (zR κ139 weKnotFirsts (zR κ139 soWeb a0)) x139_1.toNatClampNeg).toInt).toNat) ?_ (fun r22 κ_23 q24 => ?_)
          · have sz := J1.2.2.2.2.2.1 x139_1.toNatClampNeg (by omega) c7
            have R1 := J1.2.2.1
            exact ⟨⟨R1.1, R1.2.1, R1.2.2.1⟩, X1, V1, J1.2.2.2.2.1, ⟨by omega, l12⟩, ⟨by omega, by omega, by omega⟩, ⟨P10, PB⟩, R1.2.2.2.2.2.2⟩
          intro W25
          intro M26
          obtain ⟨nbv, ρ2, Ev, lv, er, kv⟩ := q24
          have Jv := fv_s9 W139 T139_0 J1 Ev lv er
          have wv := rg_w9 W139 T139_0 Ev X1
          have T23 : zT κ_23 a0 = 12 := Ev.2.2.2.2.t T139_0 (by decide)
          refine hj214 _ _ _ _ W25 ?_ ?_
          · exact T23  -- t18
          · refine ⟨rfl, ⟨fun z => ?_, fun _ => ⟨ρ2, Jv⟩, wv.2.2.2.1⟩, by omega, rfl⟩
            have ex : 2 * (n9 - ((zA κ139 (zR κ139 weKnotFirsts (zR κ139 soWeb a0)) (x139_1.toNatClampNeg + 1)).toInt).toNat) + 2 * (((zA κ139 (zR κ139 weKnotFirsts (zR κ139 soWeb a0)) (x139_1.toNatClampNeg + 1)).toInt).toNat - ((zA κ139 (zR κ139 weKnotFirsts (zR κ139 soWeb a0)) x139_1.toNatClampNeg).toInt).toNat) ≤ 2 * (n9 - ((zA κ139 (zR κ139 weKnotFirsts (zR κ139 soWeb a0)) x139_1.toNatClampNeg).toInt).toNat) := by omega
            obtain ⟨Q9, ⟨q1, q2⟩, q3⟩ := kv z
            refine ⟨ρ2, P1 * Q9, Jv, q3, Nat.mul_pos P10 q1, ?_⟩
            rw [wv.2.2.1]
            refine Nat.le_trans (Nat.mul_le_mul P11 q2) ?_
            exact Nat.le_trans (Nat.le_of_eq pD9_a) (pD9_l ex)
  intro κ_27 hκ_27
  intro W28
  intro T29
  intro T30
  have Zs : zF (fun f b => f = soSolved ∧ b = a0) κ κ_27 := by
    rw [hκ_27]
    exact zF_ui ⟨rfl, rfl⟩
  have V27 : frV9 (zn κ) (fun f b => f = soSolved ∧ b = a0) := fun f b z => by
    rw [z.1]
    exact Or.inr (Or.inr (Or.inr (Or.inr (Or.inl (by decide)))))
  have A27 := atW_v9 W V27 Zs tb A0
  have er27 : zR κ_27 = zR κ := by rw [hκ_27]; rfl
  have nt : ∀ (t f w : Nat), zT κ w = t → t ≠ 12 → ¬ (f = soSolved ∧ w = a0) := fun t f w ht h12 z => by
    rw [z.2, Ta0] at ht
    exact h12 ht.symm
  have S27 := rs_h9 W Ta0 S0 Zs (fun f w h => nt 8 f w h (by decide)) (fun f w h => nt 11 f w h (by decide)) (fun f w h => nt 4 f w h (by decide)) (fun f h1 _ z => h1 z.1)
  have T27 : zT κ_27 a0 = 12 := Zs.t Ta0 (by decide)
  refine We_weave_c W28 T29 T30 n9 ?_ (fun κ_31 q32 => ?_)
  · rw [er27]
    refine ⟨?_, ?_, A27⟩
    · rw [hκ_27]; exact U0
    · rw [hκ_27]; exact L0
  rw [er27] at q32 T29 T30
  obtain ⟨Zw, G31, A31⟩ := q32
  have no : ∀ (t f w : Nat), zT κ_27 w = t → t ≠ 14 → ¬ objF (zR κ soWeb a0) f w := fun t f w ht h14 z => by
    rw [show w = zR κ soWeb a0 from z, T29] at ht
    exact h14 ht.symm
  have S31 := rs_h9 W28 T27 S27.1 Zw (fun f w h => no 8 f w h (by decide)) (fun f w h => no 11 f w h (by decide)) (fun f w h => no 4 f w h (by decide)) (fun f _ _ => no 12 f a0 T27 (by decide))
  have T31 : zT κ_31 a0 = 12 := Zw.t T27 (by decide)
  have ew31 : zR κ_31 soWeb a0 = zR κ soWeb a0 := by rw [S31.2 soWeb (by decide) (by decide), er27]
  have eb31 : zR κ_31 soAtlas a0 = zR κ soAtlas a0 := by rw [S31.2 soAtlas (by decide) (by decide), er27]
  have ec31 : zR κ_31 soCalc a0 = zR κ soCalc a0 := by rw [S31.2 soCalc (by decide) (by decide), er27]
  intro W33
  intro M34
  intro T35
  refine We_knot_c W33 T35 n9 ?_ (fun κ_36 q37 => ?_)
  · rw [ew31]
    exact ⟨G31.1.1, G31.2.1, G31.2.2.1, G31.1.2.2.2⟩
  intro W38
  intro M39
  rw [ew31] at q37 T35
  obtain ⟨Kn, KN⟩ := q37
  have tb31 : zT κ_31 (zR κ soAtlas a0) = 3 := by rw [← eb31]; exact ty_soAtlas W33 T31
  have Zk : zF (objF (zR κ soWeb a0)) κ_31 κ_36 := Kn.1.mono (fun f x z => z.1)
  have no2 : ∀ (t f w : Nat), zT κ_31 w = t → t ≠ 14 → ¬ objF (zR κ soWeb a0) f w := fun t f w ht h14 z => by
    rw [show w = zR κ soWeb a0 from z, T35] at ht
    exact h14 ht.symm
  have S36 := rs_h9 W33 T31 S31.1 Zk (fun f w h => no2 8 f w h (by decide)) (fun f w h => no2 11 f w h (by decide)) (fun f w h => no2 4 f w h (by decide)) (fun f _ _ => no2 12 f a0 T31 (by decide))
  have G36 := weG_K9 W33 T35 tb31 Kn G31
  have A36 := atW_E W33 T35 tb31 Zk A31
  have T36 : zT κ_36 a0 = 12 := Zk.t T31 (by decide)
  have ew36 : zR κ_36 soWeb a0 = zR κ soWeb a0 := by rw [S36.2 soWeb (by decide) (by decide)]; exact ew31
  have eb36 : zR κ_36 soAtlas a0 = zR κ soAtlas a0 := by rw [S36.2 soAtlas (by decide) (by decide)]; exact eb31
  have ec36 : zR κ_36 soCalc a0 = zR κ soCalc a0 := by rw [S36.2 soCalc (by decide) (by decide)]; exact ec31
  have hn := G36.2.1.2
  have kK := KN.1
  have sl36 : zI κ_36 soSolved a0 = 0 := by
    rw [Zk.i (no2 12 _ a0 T31 (by decide)), Zw.i (no 12 _ a0 T27 (by decide)), hκ_27]
    exact if_pos ⟨rfl, rfl⟩
  have F36 : zF (fvF9 ρ κ a0) κ κ_36 := ((Zs.mono (fun f b z => Or.inr (Or.inr (Or.inl ⟨z.2, Or.inl z.1⟩)))).tr (Zw.mono (fun f b z => Or.inr (Or.inl z)))).tr (Zk.mono (fun f b z => Or.inr (Or.inl z)))
  have K36 : zK9 κ κ_36 a0 := ((zK_z9 W Ta0 Zs (fun b _ z => absurd z.1 (by decide)) (fun z => absurd z.1 (by decide)) (fun z => absurd z.1 (by decide)) (fun z => absurd z.1 (by decide))).tr (zK_w9 W28 T27 T29 Zw)).tr (zK_w9 W33 T31 T35 Zk)
  have wM36 := G36.1.1
  have mn36 := F36.2.2.2.2.2.2
  unfold w_So_findVisitz_26
  refine ⟨fun n l0 l1 τ => n = ((zI κ_36 weKnots (zR κ_36 soWeb a0)).toInt - l1.toInt).toNat ∧ (a0 = l0 ∧ κ_36 = τ ∧ (0 ≤ l1.toInt ∧ l1.toInt ≤ (zI κ_36 weKnots (zR κ_36 soWeb a0)).toInt) ∧ ∀ c : Nat, (c : Int) < l1.toInt → zA κ_36 (zR κ_36 weOpen (zR κ_36 soWeb a0)) (zA κ_36 (zR κ_36 weOrder (zR κ_36 soWeb a0)) (zA κ_36 (zR κ_36 weKnotFirsts (zR κ_36 soWeb a0)) c).toNatClampNeg).toNatClampNeg ≠ 0 → (zA κ_36 (zR κ_36 weKnotFirsts (zR κ_36 soWeb a0)) (c + 1)).toInt - (zA κ_36 (zR κ_36 weKnotFirsts (zR κ_36 soWeb a0)) c).toInt ≤ 32), ⟨_, rfl, ?_⟩, ?_⟩
  · exact ⟨rfl, rfl, ⟨by decide, by rw [ew36, t0i]; exact kK.1⟩, fun c hc => by rw [t0i] at hc; omega⟩  -- j22
  rintro n26 _ x26_1 κ26 W26 T26_0 ⟨hn26, rfl, i26⟩
  obtain ⟨e26, l26, z26⟩ := i26
  subst e26
  have kl := cnk l26.1
  refine ⟨fun c40 => ?_, fun c40 => ?_⟩
  · skip
    intro T41
    refine So_fresh_c W26 T41 ρ a0 100 soVisits ?_ (fun r42 κ_43 q44 => ?_)
    · have tot := G36.2.1.1
      rw [← ew36] at tot
      exact ⟨S36.1.1, T36, ⟨Or.inl rfl, Or.inl rfl, W26.o (show zr soVisits = some 25 by decide +kernel) (by decide) T26_0, fun z => absurd z (by decide)⟩, S36.1.2.2.2.1.1, S36.1.2.2.2.1.2, ⟨by omega, by omega⟩⟩
    intro W45
    intro M46
    intro T47
    have tot := G36.2.1.1
    rw [← ew36] at tot
    have wo := fr_o9 (f9 := soVisits) (s := a0) (τ := κ_43) W26 (ty_soVisits W26 T26_0) T26_0 (W26.o (show zr soVisits = some 25 by decide +kernel) (by decide) T26_0) (Exists.choose_spec (Exists.choose_spec q44.1)).1 (Exists.choose_spec (Exists.choose_spec q44.1)).2.2.2.2.1.1
    refine ⟨?_, ?_⟩
    · rcases wo with y | y
      · exact Or.inr y.1
      · exact Or.inl y.1
    intro κ_48 hκ_48
    intro W49
    obtain ⟨Z48, K48, ρ8, h8, R8, V8, L8⟩ := fr_r9 (n := n9) W26 W45 W49 T26_0 S36.1 ⟨tot, hn⟩ q44.1 q44.2 hκ_48
    have T48 : zT κ_48 a0 = 12 := Z48.t T26_0 (by decide)
    have fv8 := frF9_v (ρ := ρ) (κ := κ_36) (s := a0) (Or.inl (rfl : soVisits = soVisits))
    have nf : ∀ f, f = soAtlas ∨ f = soWeb ∨ f = soCalc ∨ f = soSolved → ¬ frF9 ρ κ_36 soVisits a0 f a0 := fun f hf z => by
      have la := (W26.2.1 a0 (by rw [T26_0]; decide)).2
      rcases z with z | z | z | z
      · rcases z with ⟨_, z | z | z⟩ | ⟨_, z | z | z | z⟩ <;> (rw [z] at hf; exact absurd hf (by decide))
      · rw [z.1] at hf; exact absurd hf (by decide)
      · rw [z] at hf; exact absurd hf (by decide)
      · omega
    have ea8 : zR κ_48 soAtlas a0 = zR κ soAtlas a0 := (Z48.r (nf _ (Or.inl rfl))).trans eb36
    have ew8 : zR κ_48 soWeb a0 = zR κ soWeb a0 := (Z48.r (nf _ (Or.inr (Or.inl rfl)))).trans ew36
    have ec8 : zR κ_48 soCalc a0 = zR κ soCalc a0 := (Z48.r (nf _ (Or.inr (Or.inr (Or.inl rfl))))).trans ec36
    have tw36 : zT κ_36 (zR κ soWeb a0) = 14 := by rw [← ew36]; exact ty_soWeb W26 T26_0
    have tb36 : zT κ_36 (zR κ soAtlas a0) = 3 := by rw [← eb36]; exact ty_soAtlas W26 T26_0
    have X8 : svX9 κ_48 a0 n9 := by
      unfold svX9
      rw [ew8, ea8]
      exact ⟨weG_v9 W26 fv8 Z48 tw36 tb36 G36, weKn_v9 W26 fv8 Z48 tw36 KN, atW_v9 W26 fv8 Z48 tb36 A36, L8⟩
    have g8 := fun f hf => we_v9 W26 fv8 Z48 tw36 (f := f) hf
    have ix8 : zI κ_48 weKnots (zR κ soWeb a0) = zI κ_36 weKnots (zR κ soWeb a0) := Z48.i (frV9_n W26 fv8 tw36 (by decide))
    rw [lei] at c40
    have sz8 : ∀ c : Nat, (c : Int) < (zI κ_48 weKnots (zR κ_48 soWeb a0)).toInt → zA κ_48 (zR κ_48 weOpen (zR κ_48 soWeb a0)) (zA κ_48 (zR κ_48 weOrder (zR κ_48 soWeb a0)) (zA κ_48 (zR κ_48 weKnotFirsts (zR κ_48 soWeb a0)) c).toNatClampNeg).toNatClampNeg ≠ 0 → (zA κ_48 (zR κ_48 weKnotFirsts (zR κ_48 soWeb a0)) (c + 1)).toInt - (zA κ_48 (zR κ_48 weKnotFirsts (zR κ_48 soWeb a0)) c).toInt ≤ 32 := by
      rw [ew8, ix8, (g8 weOpen (by decide)).2.1, (g8 weOrder (by decide)).2.1, (g8 weKnotFirsts (by decide)).2.1]
      rw [ew36] at z26 c40
      exact fun c hc => z26 c (by omega)
    have sl8 : zI κ_48 soSolved a0 = 0 := (Z48.i (nf _ (Or.inr (Or.inr (Or.inr rfl))))).trans sl36
    have F48 : zF (fvF9 ρ κ a0) κ κ_48 := F36.tr (Z48.mono (fun f b z => by
      rcases z with z | z | z | z
      · rcases z with z | z
        · exact Or.inl (Or.inl ⟨trivial, z.2⟩)
        · exact Or.inr (Or.inr (Or.inr (Or.inr (Or.inl z.1))))
      · exact Or.inr (Or.inr (Or.inl ⟨z.2, Or.inr (Or.inr (Or.inr z.1))⟩))
      · exact Or.inr (Or.inr (Or.inr (Or.inl z)))
      · exact Or.inr (Or.inr (Or.inr (Or.inr (Or.inr (by omega)))))))
    have h8' : ∀ b, b < zn κ → ρ8 b = ρ b := fun b hb => h8 b (by omega)
    have tot8 : (zI κ_48 weTotal (zR κ_48 soWeb a0)).toInt = (n9 : Int) := X8.1.2.1.1
    refine ⟨fun c50 => ?_, fun c50 => ?_⟩
    · skip
      refine hj129 _ _ W49 ?_ ?_
      · exact T48  -- t25
      · rw [lei, tot8, ofn_i (by rcases R8.2.2.2.2.2.1 with y | y <;> rw [y] <;> decide)] at c50
        exact ⟨rfl, ρ8, ⟨h8', F48, R8, X8, by omega, sz8, sl8, ea8, ew8, ec8, K36.tr K48⟩, V8⟩
    · skip
      refine ⟨?_, ?_⟩
      · exact ⟨by decide, by decide⟩  -- b27
      intro κ_51 hκ_51
      intro W52
      refine ⟨?_, ?_⟩
      · rw [hκ_51]; exact if_pos rfl  -- b28
      intro κ_53 hκ_53
      intro W54
      rw [lei, tot8, ofn_i (by rcases R8.2.2.2.2.2.1 with y | y <;> rw [y] <;> decide)] at c50
      have l0 : (zN κ_48 (zR κ_48 soRows a0)) = 0 := by
        rcases R8.2.2.2.2.2.1 with y | y
        · exact y
        · omega
      have n1k : (1000 : Int32).toNatClampNeg = 1000 := by decide
      rw [n1k] at hκ_51
      have G := we_gr (f := soRows) (c := a0) W49 (show zr soRows = some 20 by decide +kernel) (by decide) T48 hκ_51 hκ_53 (by rw [l0]; decide) (by rw [l0]; decide)
      have E : rgE9 (fun _ => False) ρ8 κ_48 κ_53 a0 ρ8 := rg_rn9 W49 T48 R8.1.1 R8.1.2 R8.2.1 R8.2.2.1 G.1
      have n53 : zN κ_53 (zR κ_53 soRows a0) = 1000 := by rw [G.2.2.2.1]; exact G.2.2.2.2.1
      have X3 := rg_x9 W49 T48 E X8
      have w3 := rg_w9 W49 T48 E X8
      have wo3 := (we_f9 W49 rgF9_fr E.2.2.2.2 (ty_soWeb W49 T48) (f := weOpen) (by decide)).2.1
      have nl3 := rg_n9 (c := 0) W49 (ty_soLess W49 T48) E (fun z => z)
      have V3 := rg_v9 W49 T48 R8.1.1 hn (fun _ _ _ z => z) E V8
      have F53 : zF (fvF9 ρ κ a0) κ κ_53 := F48.tr (G.1.mono (fun f b z => Or.inr (Or.inr (Or.inl ⟨z.2, Or.inr (Or.inr (Or.inl z.1))⟩))))
      have R3 := rs_rg9 W49 T48 R8 E (by rw [nl3.2.1]; exact R8.2.2.2.2.2.2) (Or.inr n53)
      have e3 := fun f hf => rg_r9 W49 T48 E (f := f) hf
      refine hj129 _ _ W54 ?_ ?_
      · exact G.1.t T48 (by decide)  -- t29
      · refine ⟨rfl, ρ8, ⟨h8', F53, R3, X3.1, by rw [n53]; exact hn, ?_, (e3 soSolved (by decide)).2.trans sl8, X3.2.2.1.trans ea8, X3.2.1.trans ew8, (e3 soCalc (by decide)).1.trans ec8, (K36.tr K48).tr E.2.2.2.1.2⟩, V3.1⟩
        rw [w3.2.2.1, w3.2.2.2.1, w3.1, X3.2.1, wo3]
        exact sz8
  · skip
    rw [lei] at c40
    have c40' := c40
    rw [ew36] at c40'
    have kA := KN.2.1 x26_1.toNatClampNeg (by omega)
    have kf := cnk kA.1
    have kO := (KN.2.2.1 (zA κ_36 (zR κ_36 weKnotFirsts (zR κ soWeb a0)) x26_1.toNatClampNeg).toNatClampNeg (by omega)).1
    have ix := cn1 (x := x26_1) l26.1 (by omega)
    refine ⟨?_, ?_⟩
    · rw [ew36, inb_iff, wM36.2.2.2.1]; omega  -- b31
    refine ⟨?_, ?_⟩
    · rw [ew36, inb_iff, wM36.2.2.2.2.2.1]; omega  -- b32
    refine ⟨?_, ?_⟩
    · rw [ew36, inb_iff, wM36.2.2.1]; omega  -- b33
    refine ⟨fun c55 => ?_, fun c55 => ?_⟩
    · skip
      intro x56 hx56
      refine ⟨_, ?_, rfl, ?_⟩
      · rw [hn26, hx56, ix.2]; omega  -- d34
      · refine ⟨rfl, rfl, ⟨by rw [hx56, ix.2]; omega, by rw [hx56, ix.2]; omega⟩, fun c hc ho => ?_⟩
        rw [hx56, ix.2] at hc
        by_cases e : c = x26_1.toNatClampNeg
        · rw [e] at ho
          exact absurd c55 ho
        · exact z26 c (by omega) ho
    · skip
      intro T57
      refine We_sizeOf_c W26 T57 n9 ?_ (fun r58 q60 => ?_)
      · rw [ew36]
        exact ⟨wM36, hn, KN, ⟨l26.1, by omega⟩⟩
      intro W61
      intro M62
      refine ⟨fun c63 => ?_, fun c63 => ?_⟩
      · skip
        intro x64 hx64
        refine ⟨_, ?_, rfl, ?_⟩
        · rw [hn26, hx64, ix.2]; omega  -- d37
        · refine ⟨rfl, rfl, ⟨by rw [hx64, ix.2]; omega, by rw [hx64, ix.2]; omega⟩, fun c hc ho => ?_⟩
          rw [hx64, ix.2] at hc
          by_cases e : c = x26_1.toNatClampNeg
          · rw [lei, show (32 : Int32).toInt = 32 from rfl] at c63
            rw [e]
            have q := q60.1
            omega
          · exact z26 c (by omega) ho
      · skip
        refine h _ _ ?_
        · exact ⟨ρ, fun _ _ => rfl, F36, S36.1, A36, G36.1, ⟨eb36, ew36, ec36⟩, fun z => absurd sl36 z, K36⟩  -- q39

end
section
set_option maxHeartbeats 1600000
/-! the class: Solver's showVisits -/
def shR9 : Nat → Prop := fun r => r < 100
theorem shR9_l : ∀ r, 100 ≤ r → ¬ shR9 r := fun r h z => by
  unfold shR9 at z
  omega
/-- what the sums over states read -/
def suX9 (κ : zS) (a n : Nat) : Prop := atW κ (zR κ soAtlas a) n ∧ n ≤ (zN κ (zR κ soVisits a))
theorem suX9_f {C : zC} {n0 a n ca : Nat} {ρ : Nat → Nat} {R : Nat → Prop} {κ τ : zS} (W : zW C n0 κ) (Ta : zT κ a = 12) (Z : zF (soF ρ R ca) κ τ) (X : suX9 κ a n) : suX9 τ a n ∧ zR τ soAtlas a = zR κ soAtlas a := by
  have e2 : zR τ soAtlas a = zR κ soAtlas a := (soF_r9 Z (by decide)).1
  have e3 := frS9_w (f := soVisits) W soF_fr Z (t := 25) (by decide +kernel) (by decide) Ta (by decide) (by decide)
  unfold suX9
  rw [e2]
  exact ⟨⟨atW_f9 W soF_fr Z (ty_soAtlas W Ta) X.1, by rw [e3.2.2]; exact X.2⟩, rfl⟩
theorem sB_9 {h i x : Nat} (hh : h < pB9 1490) (hi : i ≤ 20000) (hx : x ≤ (h + 1) * (1 + i * sM9)) : x < pB9 4000 := by
  have q : (h + 1) * (1 + i * sM9) ≤ pB9 1490 * pB9 11 := Nat.mul_le_mul hh (sm_b9 hi)
  rw [← pB9_a] at q
  exact Nat.lt_of_le_of_lt (Nat.le_trans hx q) (pB9_s (by decide))
theorem tm_c9 {T w h : Nat} (h1 : T < 2 ^ 256) (h2 : w ≤ 2147483648) : T * w * (h + 1) ≤ (h + 1) * sM9 := by
  have e : sM9 = 2 ^ 256 * 2147483648 := by unfold sM9; decide
  rw [e, Nat.mul_comm (h + 1)]
  exact Nat.mul_le_mul (Nat.mul_le_mul (Nat.le_of_lt h1) h2) (Nat.le_refl _)
theorem sm_m9 {h i s : Nat} (hs : s ≤ h * (1 + i * sM9)) : s ≤ h * (1 + (i + 1) * sM9) := Nat.le_trans hs (Nat.mul_le_mul_left _ (Nat.add_le_add_left (Nat.mul_le_mul_right _ (Nat.le_succ _)) _))
theorem nuK_c9 {κ : zS} {w c : Nat} (I : nuI κ w c) : nuK κ w ≤ c := by
  have k := nuK_i I.1
  have a := I.1.1.2
  have b := I.1.2.1.2
  omega
/-- a fraction is copied into another of a short role -/
theorem ra_s9 {C : zC} {n0 a p r : Nat} {ρ : Nat → Nat} {κ τ : zS} (W : zW C n0 κ) (Ta : zT κ a = 12) (N : nmI ρ κ) (I : soI ρ κ a) (hp : ρ p = r) (hr : r = 20 ∨ r = 30) (Z : zF (raF (zR κ raTop p) (zR κ raBottom p) p) κ τ) (J : raJ τ p 6500) : (nmI ρ τ ∧ soI ρ τ a) ∧ ∀ ca, zF (soF ρ (fun q => q = r ∨ q = r + 1 ∨ q = r + 2) ca) κ τ := by
  have e1 : zR τ raTop p = zR κ raTop p := raF_r Z (by decide) (by decide) (by decide)
  have e2 : zR τ raBottom p = zR κ raBottom p := raF_r Z (by decide) (by decide) (by decide)
  have j1 := J.1
  have j2 := J.2.1
  rw [e1] at j1
  rw [e2] at j2
  have c : capR (r + 1) = 6500 ∧ capR (r + 2) = 6500 := by rcases hr with h | h <;> rw [h] <;> exact ⟨rfl, rfl⟩
  exact nm_ra W Ta N I hp (by rcases hr with h | h <;> rw [h]; exact Or.inl rfl; exact Or.inr (Or.inl rfl)) Z (by rw [c.1]; exact j1) (by rw [c.2]; exact j2)
theorem ra_t9 {ρ : Nat → Nat} {κ : zS} {p r : Nat} (N : nmI ρ κ) (hp : ρ p = r) (hr : r = 20 ∨ r = 30) : (ρ (zR κ raTop p) = r + 1 ∧ ρ (zR κ raBottom p) = r + 2) ∧ raC κ p 6500 ∧ raJ κ p 6500 := by
  have rr : raR r := by rcases hr with h | h <;> rw [h]; exact Or.inl rfl; exact Or.inr (Or.inl rfl)
  have P := N.2 p (by rw [hp]; exact rr)
  have t : ρ (zR κ raTop p) = r + 1 := by rw [P.2.1, hp]
  have b : ρ (zR κ raBottom p) = r + 2 := by rw [P.2.2, hp]
  have gt := nm_g N t (raR_n rr).1 (by omega)
  have gb := nm_g N b (raR_n rr).2 (by omega)
  have c : capR (r + 1) = 6500 ∧ capR (r + 2) = 6500 := by rcases hr with h | h <;> rw [h] <;> exact ⟨rfl, rfl⟩
  rw [c.1] at gt
  rw [c.2] at gb
  have ne := ro_n t b (by omega)
  exact ⟨⟨t, b⟩, ⟨gt.2.2, gb.2.2, ne⟩, gt.1, gb.1, ne⟩
theorem So_showVisits_c {C : zC} {n0 : Nat} {a0 : Nat} {a1 : Int32} {a2 : Int32} {a3 : Nat} {κ : zS} {Q : zS → Prop} (W : zW C n0 κ) (Ta0 : zT κ a0 = 12) (Ta3 : zT κ a3 = 11) (ρ : Nat → Nat) (n9 P9 : Nat) (hp : (nmI ρ κ ∧ soI ρ κ a0) ∧ suX9 κ a0 n9 ∧ vsI9 ρ κ a0 n9 P9 ∧ (0 < P9 ∧ P9 < pB9 1490) ∧ ρ a3 = 30 ∧ (a1 = 8 → 0 ≤ a2.toInt ∧ a2.toInt < n9)) (h : ∀ (κ' : zS), ((zF (soF ρ shR9 (zR κ soCalc a0)) κ κ' ∧ nmI ρ κ' ∧ soI ρ κ' a0) ∧ (nuN κ' (zR κ soLess a0) < pB9 4000 ∨ nuN κ' (zR κ soLess a0) = nuN κ (zR κ soLess a0))) → Q κ') : zRun C 7 mSo_showVisits [.ref a0, .int a1, .int a2, .ref a3] κ (oV Q noX) := by
  refine So_showVisits_run W Ta0 Ta3 ?_
  replace W := W.lo (Nat.le_trans W.1.2.1 W.1.2.2) (Nat.le_refl (zn κ))
  unfold w_So_showVisits_0
  obtain ⟨⟨N0, S0⟩, X0, V0, ⟨P0, P1⟩, r30, p8⟩ := hp
  have hn := X0.1.2.2.1
  have xv0 := X0.2
  have g1 := nm_g N0 S0.1.1 (Or.inl ⟨by decide, by decide⟩) (by decide)
  have o1 : (1 : Int64).toInt.toNat = 1 := rfl
  have h8 := S0.1.2.2.2.2.2.1
  have h7 := S0.1.2.2.2.2.1
  have h20 := S0.1.2.2.2.2.2.2
  have h256 : 2 ^ 256 ≤ pB9 100 := by unfold pB9; decide
  have l20 : pB9 1490 ≤ pB9 2000 := pB9_l (by decide)
  refine ⟨fun c1 => ?_, fun c1 => ?_⟩
  · skip
    intro T2
    refine Nu_put_c W T2 6500 ?_ (fun κ_3 q4 => ?_)
    · exact ⟨by decide, g1.2.2⟩  -- p1
    intro W5
    intro M6
    intro x7 hx7
    obtain ⟨Fp, ⟨Rp, Np⟩, Ip, Vp⟩ := q4
    have Zp : zF (soF ρ shR9 (zR κ soCalc a0)) κ κ_3 := soF_1 (by rw [S0.1.1]; unfold shR9; decide) Fp
    have X3 := suX9_f W Ta0 Zp X0
    have tot : x7.toInt = (n9 : Int) := by rw [hx7]; exact X3.1.1.2.2.2.1
    unfold w_So_showVisits_40
    refine ⟨fun n l0 l1 l3 l4 l5 τ => n = (l4.toInt - l5.toInt).toNat ∧ (a0 = l0 ∧ a1 = l1 ∧ a3 = l3 ∧ (zF (soF ρ shR9 (zR κ soCalc a0)) κ τ ∧ nmI ρ τ ∧ soI ρ τ a0) ∧ (dz9 (nuN τ (zR κ soWhole a0)) P9) ∧ l4.toInt = (n9 : Int) ∧ (0 ≤ l5.toInt ∧ l5.toInt ≤ l4.toInt)), ⟨_, rfl, ?_⟩, ?_⟩
    · exact ⟨rfl, rfl, rfl, ⟨Zp, nm_1 W N0 Fp (by rw [S0.1.1]; exact Ip), so_1 W Ta0 S0 Fp⟩, by rw [Vp, o1]; exact Or.inr (Nat.one_dvd _), tot, ⟨by decide, by rw [t0i]; omega⟩⟩  -- j2
    rintro n40 _ _ _ x40_4 x40_5 κ40 W40 T40_0 T40_1 ⟨hn40, rfl, rfl, rfl, i40⟩
    obtain ⟨⟨Z1, N1, S1⟩, D1, e4, l5⟩ := i40
    have X1 := suX9_f W Ta0 Z1 X0
    have V1 := vsI9_f W Ta0 N0 Z1 hn shR9_l V0
    have kc := cnk l5.1
    have ew1 : zR κ40 soWhole a0 = (zR κ soWhole a0) := (soF_r9 Z1 (by decide)).1
    have es1 : zR κ40 soSum a0 = (zR κ soSum a0) := (soF_r9 Z1 (by decide)).1
    have ec1 : zR κ40 soCalc a0 = (zR κ soCalc a0) := (soF_r9 Z1 (by decide)).1
    have xv1 := X1.1.2
    have gM1 := X1.1.1.1
    have lw1 : nuN κ40 (zR κ soWhole a0) < pB9 1490 := Nat.lt_of_le_of_lt (dz9_le D1 P0) P1
    have hj79 : ∀ (l0 : Nat) (l1 : Int32) (l3 : Nat) (l4 : Int32) (l5 : Int32) (τ : zS), zW C (zn κ) τ → zT τ l0 = 12 → zT τ l3 = 11 → (a0 = l0 ∧ a1 = l1 ∧ a3 = l3 ∧ (zF (soF ρ shR9 (zR κ soCalc a0)) κ τ ∧ nmI ρ τ ∧ soI ρ τ a0) ∧ (κ40 = τ ∧ x40_5 = l5 ∧ x40_4 = l4) ∧ l5.toInt < l4.toInt ∧ zI τ raSign (vU9 τ a0 l5.toNatClampNeg) ≠ 0) → w_So_showVisits_79 C (zn κ) Q (fun (l0' : Nat) (l1' : Int32) (l3' : Nat) (l4' : Int32) (l5' : Int32) (τ : zS) => ∃ k < n40, (fun (n : Nat) (l0 : Nat) (l1 : Int32) (l3 : Nat) (l4 : Int32) (l5 : Int32) (τ : zS) => n = (l4.toInt - l5.toInt).toNat ∧ (a0 = l0 ∧ a1 = l1 ∧ a3 = l3 ∧ (zF (soF ρ shR9 (zR κ soCalc a0)) κ τ ∧ nmI ρ τ ∧ soI ρ τ a0) ∧ (dz9 (nuN τ (zR κ soWhole a0)) P9) ∧ l4.toInt = (n9 : Int) ∧ (0 ≤ l5.toInt ∧ l5.toInt ≤ l4.toInt))) k l0' l1' l3' l4' l5' τ) l0 l1 l3 l4 l5 τ := by
      rintro _ _ _ y79_4 y79_5 τ79 W79 T79_0 T79_1 ⟨rfl, rfl, rfl, j79⟩
      unfold w_So_showVisits_79
      obtain ⟨_, ⟨e79, e795, e794⟩, lt79, sg79⟩ := j79
      subst e79
      subst e795
      subst e794
      obtain ⟨v1, v2, v3⟩ := V1 x40_5.toNatClampNeg (by omega)
      obtain ⟨v5, v6, v7⟩ := v3 sg79
      refine ⟨?_, ?_⟩
      · rw [inb_iff]; omega  -- b3
      refine ex_some ?_ (fun u8 hu8 => ?_)
      · exact ⟨_, v1⟩  -- e4
      intro T9
      intro T10
      intro T11
      have eu : u8 = vU9 κ40 a0 x40_5.toNatClampNeg := Option.some.inj (hu8.symm.trans v1)
      subst eu
      have gs := ra_g9 N1 v2 (by omega) (by omega) (by omega)
      have bz : dz9 (nuN κ40 (zR κ40 raBottom (vU9 κ40 a0 x40_5.toNatClampNeg))) P9 := dz9_of v7 (Nat.dvd_mul_right _ _) (Nat.le_mul_of_pos_right _ dvN9_p)
      refine Ca_join_c W79 T9 T10 T11 6500 2000 6500 6500 ?_ (fun κ_12 q13 => ?_)
      · exact jn_p N1 S1 gs.2.1.2 (raR_n gs.1.2).2 ⟨by omega, by omega, by omega⟩ (by rw [ew1]; exact Nat.lt_of_lt_of_le lw1 l20) (Nat.lt_of_lt_of_le v6 h256)  -- p5
      intro W14
      intro M15
      intro x16 hx16
      have J := jn_q W40 N1 S1 q13
      have Vj := q13.2.2.2
      rw [ew1] at Vj
      rw [ec1] at J
      have ix := cn1 (x := x40_5) (by omega) (by omega)
      refine ⟨_, ?_, rfl, ?_⟩
      · rw [hn40, hx16, ix.2]; omega  -- d6
      · refine ⟨rfl, rfl, rfl, ⟨Z1.tr (soF_m (fun r z => by unfold shR9; rcases z with z | z | z <;> omega) J.2.1), J.1⟩, ?_, e4, ⟨by rw [hx16, ix.2]; omega, by rw [hx16, ix.2]; omega⟩⟩
        rw [Vj]
        exact dz9_lcm D1 bz
    have gs1 := nm_g N1 (w := (zR κ soSum a0)) h7 (Or.inl ⟨by decide, by decide⟩) (by decide)
    refine ⟨fun c17 => ?_, fun c17 => ?_⟩
    · skip
      intro T18
      refine Nu_put_c W40 T18 6500 ?_ (fun κ_19 q20 => ?_)
      · rw [es1]
        exact ⟨by decide, gs1.2.2⟩
      rw [es1] at q20
      obtain ⟨Fs, ⟨Rs, Ns⟩, Is, Vs⟩ := q20
      have Zs0 : zF (soF ρ (fun r => r = 7) (zR κ soCalc a0)) κ40 κ_19 := soF_1 h7 Fs
      have Zs : zF (soF ρ shR9 (zR κ soCalc a0)) κ κ_19 := Z1.tr (soF_m (fun r z => by unfold shR9; omega) Zs0)
      have N19 : nmI ρ κ_19 := nm_1 W40 N1 Fs (by rw [h7]; exact Is)
      have S19 : soI ρ κ_19 a0 := so_1 W40 T40_0 S1 Fs
      have el19 : zR κ_19 soLess a0 = (zR κ soLess a0) := (soF_r9 Zs (by decide)).1
      have gl19 := nm_g N19 (w := (zR κ soLess a0)) h8 (Or.inl ⟨by decide, by decide⟩) (by decide)
      have T19 : zT κ_19 a0 = 12 := Fs.t T40_0 (by decide)
      intro W21
      intro M22
      intro T23
      refine Nu_put_c W21 T23 6500 ?_ (fun κ_24 q25 => ?_)
      · rw [el19]
        exact ⟨by decide, gl19.2.2⟩
      intro W26
      intro M27
      rw [el19] at q25
      obtain ⟨Fl, ⟨Rl, Nl⟩, Il, Vl⟩ := q25
      have Zl0 : zF (soF ρ (fun r => r = 8) (zR κ soCalc a0)) κ_19 κ_24 := soF_1 h8 Fl
      have Zl : zF (soF ρ shR9 (zR κ soCalc a0)) κ κ_24 := Zs.tr (soF_m (fun r z => by unfold shR9; omega) Zl0)
      have w19 := soF_B (c := 0) (w := (zR κ soWhole a0)) W40 (by rw [← ew1]; exact ty_soWhole W40 T40_0) Zs0 (by rw [S0.1.1]; decide)
      have w24 := soF_B (c := 0) (w := (zR κ soWhole a0)) W21 (Fs.t (by rw [← ew1]; exact ty_soWhole W40 T40_0) (by decide)) Zl0 (by rw [S0.1.1]; decide)
      have s24 := soF_B (c := 0) (w := (zR κ soSum a0)) W21 (Fs.t (by rw [← es1]; exact ty_soSum W40 T40_0) (by decide)) Zl0 (by rw [h7]; decide)
      unfold w_So_showVisits_125
      refine ⟨fun n l0 l1 l3 l4 l5 τ => n = (l4.toInt - l5.toInt).toNat ∧ (a0 = l0 ∧ a1 = l1 ∧ a3 = l3 ∧ (zF (soF ρ shR9 (zR κ soCalc a0)) κ τ ∧ nmI ρ τ ∧ soI ρ τ a0) ∧ (nuN τ (zR κ soWhole a0) < pB9 1490 ∧ l4.toInt = (n9 : Int)) ∧ (0 ≤ l5.toInt ∧ l5.toInt ≤ l4.toInt) ∧ nuN τ (zR κ soSum a0) ≤ (nuN τ (zR κ soWhole a0) + 1) * (1 + l5.toNatClampNeg * sM9) ∧ nuN τ (zR κ soLess a0) ≤ (nuN τ (zR κ soWhole a0) + 1) * (1 + l5.toNatClampNeg * sM9)), ⟨_, rfl, ?_⟩, ?_⟩
      · refine ⟨rfl, rfl, rfl, ⟨Zl, nm_1 W21 N19 Fl (by rw [h8]; exact Il), so_1 W21 T19 S19 Fl⟩, ⟨by rw [w24.2.1, w19.2.1]; exact lw1, e4⟩, ⟨by decide, by rw [t0i]; omega⟩, ?_, ?_⟩
        · rw [s24.2.1, Vs]; exact Nat.zero_le _
        · rw [Vl]; exact Nat.zero_le _
      rintro n125 _ _ _ x125_4 x125_5 κ125 W125 T125_0 T125_1 ⟨hn125, rfl, rfl, rfl, i125⟩
      obtain ⟨⟨Z2, N2, S2⟩, ⟨lw2, e42⟩, l52, B1, B2⟩ := i125
      have X2 := suX9_f W Ta0 Z2 X0
      have V2 := vsI9_f W Ta0 N0 Z2 hn shR9_l V0
      have kd := cnk l52.1
      have ew2 : zR κ125 soWhole a0 = (zR κ soWhole a0) := (soF_r9 Z2 (by decide)).1
      have es2 : zR κ125 soSum a0 = (zR κ soSum a0) := (soF_r9 Z2 (by decide)).1
      have el2 : zR κ125 soLess a0 = (zR κ soLess a0) := (soF_r9 Z2 (by decide)).1
      have ep2 : zR κ125 soPart a0 = (zR κ soPart a0) := (soF_r9 Z2 (by decide)).1
      have ec2 : zR κ125 soCalc a0 = (zR κ soCalc a0) := (soF_r9 Z2 (by decide)).1
      have xv2 := X2.1.2
      have gM2 := X2.1.1.1
      have b11 : ∀ x, x ≤ (nuN κ125 (zR κ soWhole a0) + 1) * (1 + x125_5.toNatClampNeg * sM9) → x < pB9 4000 := fun x h => sB_9 lw2 (by omega) h
      have hj153 : ∀ (l0 : Nat) (l1 : Int32) (l3 : Nat) (l4 : Int32) (l5 : Int32) (s0 : Int64) (τ : zS), zW C (zn κ) τ → zT τ l0 = 12 → zT τ l3 = 11 → (a0 = l0 ∧ a1 = l1 ∧ a3 = l3 ∧ (zF (soF ρ shR9 (zR κ soCalc a0)) κ τ ∧ nmI ρ τ ∧ soI ρ τ a0) ∧ (κ125 = τ ∧ x125_5 = l5 ∧ x125_4 = l4) ∧ l5.toInt < l4.toInt ∧ (-2147483648 ≤ s0.toInt ∧ s0.toInt < 2147483648)) → w_So_showVisits_153 C (zn κ) Q (fun (l0' : Nat) (l1' : Int32) (l3' : Nat) (l4' : Int32) (l5' : Int32) (τ : zS) => ∃ k < n125, (fun (n : Nat) (l0 : Nat) (l1 : Int32) (l3 : Nat) (l4 : Int32) (l5 : Int32) (τ : zS) => n = (l4.toInt - l5.toInt).toNat ∧ (a0 = l0 ∧ a1 = l1 ∧ a3 = l3 ∧ (zF (soF ρ shR9 (zR κ soCalc a0)) κ τ ∧ nmI ρ τ ∧ soI ρ τ a0) ∧ (nuN τ (zR κ soWhole a0) < pB9 1490 ∧ l4.toInt = (n9 : Int)) ∧ (0 ≤ l5.toInt ∧ l5.toInt ≤ l4.toInt) ∧ nuN τ (zR κ soSum a0) ≤ (nuN τ (zR κ soWhole a0) + 1) * (1 + l5.toNatClampNeg * sM9) ∧ nuN τ (zR κ soLess a0) ≤ (nuN τ (zR κ soWhole a0) + 1) * (1 + l5.toNatClampNeg * sM9))) k l0' l1' l3' l4' l5' τ) l0 l1 l3 l4 l5 s0 τ := by
        rintro _ _ _ y153_4 y153_5 y153_s0 τ153 W153 T153_0 T153_1 ⟨rfl, rfl, rfl, j153⟩
        unfold w_So_showVisits_153
        obtain ⟨_, ⟨e153, e1535, e1534⟩, lt153, ⟨s01, s02⟩⟩ := j153
        subst e153
        subst e1535
        subst e1534
        obtain ⟨v1, v2, v3⟩ := V2 x125_5.toNatClampNeg (by omega)
        have ix := cn1 (x := x125_5) (by omega) (by omega)
        refine ⟨?_, ?_⟩
        · rw [inb_iff]; omega  -- b11
        refine ex_some ?_ (fun u28 hu28 => ?_)
        · exact ⟨_, v1⟩  -- e12
        refine ⟨fun c29 => ?_, fun c29 => ?_⟩
        · skip
          intro x30 hx30
          refine ⟨_, ?_, rfl, ?_⟩
          · rw [hn125, hx30, ix.2]; omega  -- d13
          · exact ⟨rfl, rfl, rfl, ⟨Z2, N2, S2⟩, ⟨lw2, e42⟩, ⟨by rw [hx30, ix.2]; omega, by rw [hx30, ix.2]; omega⟩, by rw [hx30, ix.1]; exact sm_m9 B1, by rw [hx30, ix.1]; exact sm_m9 B2⟩  -- i14
        · skip
          refine ⟨fun c31 => ?_, fun c31 => ?_⟩
          · skip
            intro x32 hx32
            refine ⟨_, ?_, rfl, ?_⟩
            · rw [hn125, hx32, ix.2]; omega  -- d15
            · exact ⟨rfl, rfl, rfl, ⟨Z2, N2, S2⟩, ⟨lw2, e42⟩, ⟨by rw [hx32, ix.2]; omega, by rw [hx32, ix.2]; omega⟩, by rw [hx32, ix.1]; exact sm_m9 B1, by rw [hx32, ix.1]; exact sm_m9 B2⟩  -- i16
          · skip
            refine ⟨?_, ?_⟩
            · rw [inb_iff]; omega  -- b17
            refine ex_some ?_ (fun u33 hu33 => ?_)
            · exact ⟨_, v1⟩  -- e18
            intro T34
            intro T35
            have eu : u33 = vU9 κ125 a0 x125_5.toNatClampNeg := Option.some.inj (hu33.symm.trans v1)
            subst eu
            have ev : u28 = vU9 κ125 a0 x125_5.toNatClampNeg := Option.some.inj (hu28.symm.trans v1)
            rw [ev] at c29
            obtain ⟨v5, v6, v7⟩ := v3 c29
            have gs := ra_g9 N2 v2 (by omega) (by omega) (by omega)
            have h20' : ρ (zR κ125 soPart a0) = 20 := by rw [ep2]; exact h20
            have gp := ra_t9 N2 h20' (Or.inl rfl)
            have kt := k256 gs.2.2.2.1 v5
            have kb := k256 gs.2.2.2.2.1 v6
            refine Ra_copy_c W153 T34 T35 6500 ?_ (fun κ_36 q37 => ?_)
            · exact ⟨gp.2.1, ⟨nuI_mono (by decide) gs.2.2.2.1, nuI_mono (by decide) gs.2.2.2.2.1, gs.2.2.2.2.2⟩, ⟨ro_n gp.1.1 gs.2.1.1 (by omega), ro_n gp.1.1 gs.2.1.2 (by omega), ro_n gp.1.2 gs.2.1.1 (by omega), ro_n gp.1.2 gs.2.1.2 (by omega)⟩, ⟨by omega, by omega⟩, by decide⟩  -- p19
            obtain ⟨Zc, Jc, Vc⟩ := q37
            have R6 := ra_s9 W125 T125_0 N2 S2 h20' (Or.inl rfl) Zc Jc
            have Z6 := R6.2 (zR κ soCalc a0)
            have T36 : zT κ_36 a0 = 12 := Z6.t T125_0 (by decide)
            have ep6 : zR κ_36 soPart a0 = zR κ125 soPart a0 := (soF_r9 Z6 (by decide)).1
            have ew6 : zR κ_36 soWhole a0 = (zR κ soWhole a0) := (soF_r9 Z6 (by decide)).1.trans ew2
            have es6 : zR κ_36 soSum a0 = (zR κ soSum a0) := (soF_r9 Z6 (by decide)).1.trans es2
            have el6 : zR κ_36 soLess a0 = (zR κ soLess a0) := (soF_r9 Z6 (by decide)).1.trans el2
            have ec6 : zR κ_36 soCalc a0 = (zR κ soCalc a0) := (soF_r9 Z6 (by decide)).1.trans ec2
            have w6 := soF_B (c := 0) (w := (zR κ soWhole a0)) W125 (by rw [← ew2]; exact ty_soWhole W125 T125_0) Z6 (by rw [S0.1.1]; decide)
            have s6 := soF_B (c := 0) (w := (zR κ soSum a0)) W125 (by rw [← es2]; exact ty_soSum W125 T125_0) Z6 (by rw [h7]; decide)
            have l6 := soF_B (c := 0) (w := (zR κ soLess a0)) W125 (by rw [← el2]; exact ty_soLess W125 T125_0) Z6 (by rw [h8]; decide)
            intro W38
            intro M39
            intro T40
            refine So_addTerm_c2 W38 T40 ρ ?_ (fun κ_41 q42 => ?_)
            · rw [ep6, ew6, es6, el6, w6.2.1, s6.2.1, l6.2.1, Vc.2.1]
              exact ⟨R6.1, ⟨by omega, by omega⟩, ⟨Nat.lt_of_lt_of_le lw2 l20, Nat.lt_of_lt_of_le v5 h256⟩, b11 _ B1, b11 _ B2⟩
            intro W43
            intro M44
            intro x45 hx45
            rw [ep6, ew6, es6, el6, ec6, w6.2.1, s6.2.1, l6.2.1, Vc.2.1] at q42
            obtain ⟨Za, Na, A1, A2⟩ := q42
            have Zf : zF (soF ρ shR9 (zR κ soCalc a0)) κ κ_41 := (Z2.tr (soF_m (fun r z => by unfold shR9; omega) Z6)).tr (soF_m (fun r z => by unfold shR9; rcases z with z | z | z | z | z | z <;> omega) Za)
            have w41 := soF_B (c := 0) (w := (zR κ soWhole a0)) W38 (by rw [← ew6]; exact ty_soWhole W38 T36) Za (by rw [S0.1.1]; unfold adR9; decide)
            have tmb : nuN κ125 (zR κ125 raTop (vU9 κ125 a0 x125_5.toNatClampNeg)) * y153_s0.toInt.natAbs * (nuN κ125 (zR κ soWhole a0) + 1) ≤ (nuN κ125 (zR κ soWhole a0) + 1) * sM9 := tm_c9 v5 (by omega)
            refine ⟨_, ?_, rfl, ?_⟩
            · rw [hn125, hx45, ix.2]; omega  -- d21
            · refine ⟨rfl, rfl, rfl, ⟨Zf, Na⟩, ⟨by rw [w41.2.1, w6.2.1]; exact lw2, e42⟩, ⟨by rw [hx45, ix.2]; omega, by rw [hx45, ix.2]; omega⟩, ?_, ?_⟩
              · rw [hx45, ix.1, w41.2.1, w6.2.1]
                by_cases z : 0 < y153_s0.toInt
                · exact Nat.le_trans (A1 z).1 (sm_s9 B1 tmb)
                · rw [(A2 z).2]; exact sm_m9 B1
              · rw [hx45, ix.1, w41.2.1, w6.2.1]
                by_cases z : 0 < y153_s0.toInt
                · rw [(A1 z).2]; exact sm_m9 B2
                · exact Nat.le_trans (A2 z).1 (sm_s9 B2 tmb)
      refine ⟨fun c46 => ?_, fun c46 => ?_⟩
      · skip
        intro T47
        intro T48
        refine So_settle_c W125 T47 T48 ρ 1 ?_ (fun κ_49 q50 => ?_)
        · rw [ew2, es2, el2]
          exact ⟨⟨N2, S2⟩, ⟨S0.1.1, Or.inl rfl⟩, Nat.lt_of_lt_of_le lw2 (pB9_l (by decide)), b11 _ B1, b11 _ B2⟩
        rw [ew2, es2, el2, ec2] at q50
        obtain ⟨Zt, ⟨Nt, St⟩, O⟩ := q50
        have T49 : zT κ_49 a0 = 12 := Zt.t T125_0 (by decide)
        have ep49 : zR κ_49 soPart a0 = zR κ125 soPart a0 := (soF_r9 Zt (by decide)).1
        have h20' : ρ (zR κ_49 soPart a0) = 20 := by rw [ep49, ep2]; exact h20
        have gp := ra_t9 Nt h20' (Or.inl rfl)
        have go := ra_t9 Nt r30 (Or.inr rfl)
        have et49 : zR κ_49 raTop (zR κ_49 soPart a0) = zR κ125 raTop (zR κ125 soPart a0) := by rw [ep49, (soF_r9 Zt (f := raTop) (by decide)).1]
        have eb49 : zR κ_49 raBottom (zR κ_49 soPart a0) = zR κ125 raBottom (zR κ125 soPart a0) := by rw [ep49, (soF_r9 Zt (f := raBottom) (by decide)).1]
        have lt4 : nuN κ_49 (zR κ_49 raTop (zR κ_49 soPart a0)) < pB9 4000 ∧ nuN κ_49 (zR κ_49 raBottom (zR κ_49 soPart a0)) < pB9 4000 := by
          rw [et49, eb49]
          have p4 : 1 < pB9 4000 := Nat.lt_of_lt_of_le (show 1 < pB9 1 by unfold pB9; decide) (pB9_l (by decide))
          rcases O with ⟨_, _, o1', o2'⟩ | ⟨_, _, o1', o2'⟩
          · rw [o1', o2']
            exact ⟨pB9_p, p4⟩
          · rw [o1', o2']
            refine ⟨Nat.lt_of_le_of_lt (Nat.div_le_self _ _) ?_, Nat.lt_of_le_of_lt (Nat.div_le_self _ _) (Nat.lt_of_lt_of_le lw2 (pB9_l (by decide)))⟩
            have q1 := b11 _ B1
            have q2 := b11 _ B2
            generalize pB9 4000 = B at *
            omega
        have kt := nuK_lt gp.2.2.1 lt4.1
        have kb := nuK_lt gp.2.2.2.1 lt4.2
        intro W51
        intro M52
        intro T53
        intro T54
        refine Ra_copy_c W51 T53 T54 6500 ?_ (fun κ_55 q56 => ?_)
        · exact ⟨go.2.1, ⟨nuI_mono (by decide) gp.2.2.1, nuI_mono (by decide) gp.2.2.2.1, gp.2.2.2.2⟩, ⟨ro_n go.1.1 gp.1.1 (by decide), ro_n go.1.1 gp.1.2 (by decide), ro_n go.1.2 gp.1.1 (by decide), ro_n go.1.2 gp.1.2 (by decide)⟩, ⟨by omega, by omega⟩, by decide⟩  -- p24
        intro W57
        intro M58
        refine h _ ?_
        · obtain ⟨Zc, Jc, Vc⟩ := q56
          have R5 := ra_s9 W51 T49 Nt St r30 (Or.inr rfl) Zc Jc
          have Z5 := R5.2 (zR κ soCalc a0)
          have l49 := soF_B (c := 0) (w := (zR κ soLess a0)) W125 (by rw [← el2]; exact ty_soLess W125 T125_0) Zt (by rw [h8]; unfold stR9; decide)
          have l55 := soF_B (c := 0) (w := (zR κ soLess a0)) W51 (Zt.t (by rw [← el2]; exact ty_soLess W125 T125_0) (by decide)) Z5 (by rw [h8]; decide)
          refine ⟨⟨(Z2.tr (soF_m (fun r z => by unfold shR9; rcases z with z | z | z | z <;> omega) Zt)).tr (soF_m (fun r z => by unfold shR9; omega) Z5), R5.1⟩, Or.inl ?_⟩
          rw [l55.2.1, l49.2.1]
          exact b11 _ B2
      · skip
        refine ⟨fun c59 => ?_, fun c59 => ?_⟩
        · skip
          refine ⟨?_, ?_⟩
          · rw [lei] at c46
            rw [inb_iff, gM2.2.2.1]; omega
          refine hj153 _ _ _ _ _ _ _ W125 ?_ ?_ ?_
          · assumption  -- t27
          · assumption  -- t28
          · rw [lei] at c46
            have e := Int32.toInt_toInt64 (zA κ125 (zR κ125 atGains (zR κ125 soAtlas a0)) x125_5.toNatClampNeg)
            have e1 := ilo (zA κ125 (zR κ125 atGains (zR κ125 soAtlas a0)) x125_5.toNatClampNeg)
            have e2 := ihi (zA κ125 (zR κ125 atGains (zR κ125 soAtlas a0)) x125_5.toNatClampNeg)
            exact ⟨rfl, rfl, rfl, ⟨Z2, N2, S2⟩, ⟨rfl, rfl, rfl⟩, by omega, by omega, by omega⟩
        · skip
          refine hj153 _ _ _ _ _ _ _ W125 ?_ ?_ ?_
          · assumption  -- t30
          · assumption  -- t31
          · rw [lei] at c46
            exact ⟨rfl, rfl, rfl, ⟨Z2, N2, S2⟩, ⟨rfl, rfl, rfl⟩, by omega, by decide⟩
    · skip
      rw [lei] at c17
      obtain ⟨v1, v2, v3⟩ := V1 x40_5.toNatClampNeg (by omega)
      have ix := cn1 (x := x40_5) (by omega) (by omega)
      refine ⟨?_, ?_⟩
      · rw [inb_iff]; omega  -- b33
      refine ex_some ?_ (fun u60 hu60 => ?_)
      · exact ⟨_, v1⟩  -- e34
      have eu : u60 = vU9 κ40 a0 x40_5.toNatClampNeg := Option.some.inj (hu60.symm.trans v1)
      subst eu
      refine ⟨fun c61 => ?_, fun c61 => ?_⟩
      · skip
        intro x62 hx62
        refine ⟨_, ?_, rfl, ?_⟩
        · rw [hn40, hx62, ix.2]; omega  -- d35
        · exact ⟨rfl, rfl, rfl, ⟨Z1, N1, S1⟩, D1, e4, ⟨by rw [hx62, ix.2]; omega, by rw [hx62, ix.2]; omega⟩⟩  -- i36
      · skip
        refine ⟨fun c63 => ?_, fun c63 => ?_⟩
        · skip
          refine hj79 _ _ _ _ _ _ W40 ?_ ?_ ?_
          · assumption  -- t37
          · assumption  -- t38
          · exact ⟨rfl, rfl, rfl, ⟨Z1, N1, S1⟩, ⟨rfl, rfl, rfl⟩, by omega, c61⟩  -- k39
        · skip
          refine ⟨?_, ?_⟩
          · rw [inb_iff, gM1.2.2.1]; omega  -- b40
          refine ⟨fun c64 => ?_, fun c64 => ?_⟩
          · skip
            intro x65 hx65
            refine ⟨_, ?_, rfl, ?_⟩
            · rw [hn40, hx65, ix.2]; omega  -- d41
            · exact ⟨rfl, rfl, rfl, ⟨Z1, N1, S1⟩, D1, e4, ⟨by rw [hx65, ix.2]; omega, by rw [hx65, ix.2]; omega⟩⟩  -- i42
          · skip
            refine hj79 _ _ _ _ _ _ W40 ?_ ?_ ?_
            · assumption  -- t43
            · assumption  -- t44
            · exact ⟨rfl, rfl, rfl, ⟨Z1, N1, S1⟩, ⟨rfl, rfl, rfl⟩, by omega, c61⟩  -- k45
  · skip
    refine ⟨?_, ?_⟩
    · have q := p8 c1
      rw [inb_iff]; omega
    refine ex_some ?_ (fun u66 hu66 => ?_)
    · have q := p8 c1
      have k := cnk q.1
      exact ⟨_, (V0 a2.toNatClampNeg (by omega)).1⟩
    intro T67
    intro T68
    have q := p8 c1
    have k := cnk q.1
    obtain ⟨v1, v2, v3⟩ := V0 a2.toNatClampNeg (by omega)
    have eu : u66 = vU9 κ a0 a2.toNatClampNeg := Option.some.inj (hu66.symm.trans v1)
    subst eu
    have gs := ra_g9 N0 v2 (by omega) (by omega) (by omega)
    have go := ra_t9 N0 r30 (Or.inr rfl)
    have kt := nuK_c9 gs.2.2.2.1
    have kb := nuK_c9 gs.2.2.2.2.1
    refine Ra_copy_c W T67 T68 6500 ?_ (fun κ_69 q70 => ?_)
    · exact ⟨go.2.1, ⟨nuI_mono (by decide) gs.2.2.2.1, nuI_mono (by decide) gs.2.2.2.2.1, gs.2.2.2.2.2⟩, ⟨ro_n go.1.1 gs.2.1.1 (by omega), ro_n go.1.1 gs.2.1.2 (by omega), ro_n go.1.2 gs.2.1.1 (by omega), ro_n go.1.2 gs.2.1.2 (by omega)⟩, ⟨by omega, by omega⟩, by decide⟩  -- p48
    intro W71
    intro M72
    refine h _ ?_
    · obtain ⟨Zc, Jc, Vc⟩ := q70
      have R5 := ra_s9 W Ta0 N0 S0 r30 (Or.inr rfl) Zc Jc
      have Z5 := R5.2 (zR κ soCalc a0)
      have l5 := soF_B (c := 0) W (ty_soLess W Ta0) Z5 (by rw [h8]; decide)
      exact ⟨⟨soF_m (fun r z => by unfold shR9; omega) Z5, R5.1⟩, Or.inr l5.2.1⟩

end
section
set_option maxHeartbeats 1600000
/-! the class: Solver's worthBehind, isAbove -/
def wU9 (κ : zS) (a k : Nat) : Nat := (zQ κ (zR κ soWorths a) k).getD 0
/-- a worth in order -/
def wsK9 (κ : zS) (u P : Nat) : Prop := (nuN κ (zR κ raTop u) < 2 ^ 256 ∧ nuN κ (zR κ raBottom u) < 2 ^ 256) ∧ dz9 (nuN κ (zR κ raBottom u)) P ∧ -1 ≤ (zI κ raSign u).toInt ∧ (zI κ raSign u).toInt ≤ 1
def wsI9 (ρ : Nat → Nat) (κ : zS) (a n P : Nat) : Prop := n ≤ (zN κ (zR κ soWorths a)) ∧ ∀ k, k < n → zQ κ (zR κ soWorths a) k = some (wU9 κ a k) ∧ ρ (wU9 κ a k) = 104 + 8 * k ∧ wsK9 κ (wU9 κ a k) P
theorem ws_r9 {k : Nat} (h : k < 1000) : raR (104 + 8 * k) := Or.inr (Or.inr ⟨by omega, by omega, by omega⟩)
theorem wU9_f {C : zC} {n0 a ca : Nat} {ρ : Nat → Nat} {R : Nat → Prop} {κ τ : zS} (W : zW C n0 κ) (Ta : zT κ a = 12) (Z : zF (soF ρ R ca) κ τ) : (zQ τ (zR τ soWorths a) = zQ κ (zR κ soWorths a) ∧ zN τ (zR τ soWorths a) = zN κ (zR κ soWorths a)) ∧ ∀ k, wU9 τ a k = wU9 κ a k := by
  have T9 : zT κ a = 11 + 1 := Ta
  have e3 := (Z.row W (f := soWorths) (t := 25) (by decide +kernel) (by decide) Ta (frS9_n W soF_fr T9 (by decide))).2.2
  have e4 := (frS9_w (f := soWorths) W soF_fr Z (t := 25) (by decide +kernel) (by decide) Ta (by decide) (by decide)).2.2
  exact ⟨⟨e3, e4⟩, fun k => by unfold wU9; rw [e3]⟩
theorem wsK9_f {C : zC} {n0 u r P ca : Nat} {ρ : Nat → Nat} {R : Nat → Prop} {κ τ : zS} (W : zW C n0 κ) (N : nmI ρ κ) (Z : zF (soF ρ R ca) κ τ) (hu : ρ u = r) (hr : raR r) (h : ¬ R r ∧ ¬ R (r + 1) ∧ ¬ R (r + 2)) (V : wsK9 κ u P) : wsK9 τ u P := by
  have q := ra_f9 W N Z hu hr h
  unfold wsK9
  rw [q.1, q.2.1.1, q.2.1.2, q.2.2.1, q.2.2.2]
  exact V
theorem wsI9_f {C : zC} {n0 a n P ca : Nat} {ρ : Nat → Nat} {R : Nat → Prop} {κ τ : zS} (W : zW C n0 κ) (Ta : zT κ a = 12) (N : nmI ρ κ) (Z : zF (soF ρ R ca) κ τ) (hn : n ≤ 1000) (hR : ∀ r, 100 ≤ r → ¬ R r) (V : wsI9 ρ κ a n P) : wsI9 ρ τ a n P := by
  obtain ⟨e3, e4⟩ := wU9_f W Ta Z
  refine ⟨by rw [e3.2]; exact V.1, fun k hk => ?_⟩
  obtain ⟨h1, h2, h3⟩ := V.2 k hk
  rw [e3.1, e4]
  exact ⟨h1, h2, wsK9_f W N Z h2 (ws_r9 (by omega)) ⟨hR _ (by omega), hR _ (by omega), hR _ (by omega)⟩ h3⟩
/-- a next of a state -/
theorem nx_9 {κ : zS} {a n k i : Nat} (A : atW κ a n) (hk : k < n) (h1 : (zA κ (zR κ atFirsts a) k).toInt ≤ (i : Int)) (h2 : (i : Int) < (zA κ (zR κ atFirsts a) (k + 1)).toInt) : ((i : Int) < (zN κ (zR κ atSorts a)) ∧ (i : Int) < (zN κ (zR κ atNumbers a)) ∧ (i : Int) < (zN κ (zR κ atWeights a))) ∧ (zA κ (zR κ atSorts a) i = 0 → 0 ≤ (zA κ (zR κ atNumbers a) i).toInt ∧ (zA κ (zR κ atNumbers a) i).toInt < n) ∧ 0 ≤ (zA κ (zR κ atWeights a) i).toInt := by
  obtain ⟨_, AL, _, A4, A5, A6⟩ := A
  obtain ⟨⟨e1, e2, e3⟩, e4, _⟩ := A6 k hk
  have q := e4 i h1 h2
  obtain ⟨⟨l1, l2⟩, _, _⟩ := AL
  rw [A4] at q
  exact ⟨⟨by rw [l1]; omega, by omega, by rw [l2]; omega⟩, q.1, q.2.2⟩
theorem So_worthBehind_c {C : zC} {n0 : Nat} {a0 : Nat} {a1 : Int32} {κ : zS} {Q : Option Nat → zS → Prop} (W : zW C n0 κ) (Ta0 : zT κ a0 = 12) (ρ : Nat → Nat) (n9 P9 k9 : Nat) (hp : atW κ (zR κ soAtlas a0) n9 ∧ wsI9 ρ κ a0 n9 P9 ∧ k9 < n9 ∧ 0 ≤ a1.toInt ∧ (zA κ (zR κ atFirsts (zR κ soAtlas a0)) k9).toInt ≤ a1.toInt ∧ a1.toInt < (zA κ (zR κ atFirsts (zR κ soAtlas a0)) (k9 + 1)).toInt) (h : ∀ (v : Option Nat), (v = none ∨ ∃ j, j < n9 ∧ v = some (wU9 κ a0 j)) → Q v κ) : zRun C 0 mSo_worthBehind [.ref a0, .int a1] κ (oQ 11 Q noX) := by
  refine So_worthBehind_run W Ta0 ?_
  replace W := W.lo (Nat.le_trans W.1.2.1 W.1.2.2) (Nat.le_refl (zn κ))
  unfold w_So_worthBehind_0
  obtain ⟨A0, V0, p1, p0, p2, p3⟩ := hp
  have k := cnk p0
  have nx := nx_9 A0 p1 (i := a1.toNatClampNeg) (by omega) (by omega)
  refine ⟨?_, ?_⟩
  · rw [inb_iff]; omega  -- b1
  refine ⟨fun c1 => ?_, fun c1 => ?_⟩
  · skip
    refine h _ ?_
    · exact Or.inl rfl  -- q2
  · skip
    refine ⟨?_, ?_⟩
    · rw [inb_iff]; omega  -- b3
    refine ⟨?_, ?_⟩
    · have q := nx.2.1 c1
      have v := V0.1
      rw [inb_iff]; omega
    refine h _ ?_
    · have q := nx.2.1 c1
      have k2 := cnk q.1
      exact Or.inr ⟨_, by omega, (V0.2 (zA κ (zR κ atNumbers (zR κ soAtlas a0)) a1.toNatClampNeg).toNatClampNeg (by omega)).1⟩

theorem So_isAbove_c {C : zC} {n0 : Nat} {a0 : Nat} {a1 : Option Nat} {a2 : Option Nat} {κ : zS} {Q : Int32 → zS → Prop} (W : zW C n0 κ) (Ta0 : zT κ a0 = 12) (Ta1 : ∀ v, a1 = some v → zT κ v = 11) (Ta2 : ∀ v, a2 = some v → zT κ v = 11) (ρ : Nat → Nat) (n9 P9 : Nat) (hp : (nmI ρ κ ∧ soI ρ κ a0) ∧ wsI9 ρ κ a0 n9 P9 ∧ n9 ≤ 1000 ∧ (a1 = none ∨ ∃ j, j < n9 ∧ a1 = some (wU9 κ a0 j)) ∧ (a2 = none ∨ ∃ j, j < n9 ∧ a2 = some (wU9 κ a0 j))) (h : ∀ (v : Int32) (κ' : zS), ((zF (soF ρ (fun r => r = 7 ∨ r = 8) (zR κ soCalc a0)) κ κ' ∧ nmI ρ κ' ∧ soI ρ κ' a0) ∧ (nuN κ' (zR κ soLess a0) < pB9 4000 ∨ nuN κ' (zR κ soLess a0) = nuN κ (zR κ soLess a0))) → Q v κ') : zRun C 4 mSo_isAbove [.ref a0, va_rf a1, va_rf a2] κ (oI Q noX) := by
  refine So_isAbove_run W Ta0 Ta1 Ta2 ?_
  replace W := W.lo (Nat.le_trans W.1.2.1 W.1.2.2) (Nat.le_refl (zn κ))
  unfold w_So_isAbove_0
  obtain ⟨⟨N0, S0⟩, V0, hn, p3, p4⟩ := hp
  have h7 := S0.1.2.2.2.2.1
  have h8 := S0.1.2.2.2.2.2.1
  have ts := ty_soSum W Ta0
  have tl := ty_soLess W Ta0
  have hj45 : ∀ (l0 : Nat) (l3 : Int32) (l4 : Int32) (τ : zS), zW C (zn κ) τ → zT τ l0 = 12 → (κ = τ ∧ a0 = l0 ∧ True) → w_So_isAbove_45 C (zn κ) Q  l0 l3 l4 τ := by
    rintro _ y45_3 y45_4 _ W45 T45_0 ⟨rfl, rfl, j45⟩
    unfold w_So_isAbove_45
    refine ⟨fun c1 => ?_, fun c1 => ?_⟩
    · skip
      refine h _ _ ?_
      · exact ⟨⟨zF.rf, N0, S0⟩, Or.inr rfl⟩  -- q1
    · skip
      refine h _ _ ?_
      · exact ⟨⟨zF.rf, N0, S0⟩, Or.inr rfl⟩  -- q2
  have hj25 : ∀ (l0 : Nat) (l1 : Option Nat) (l2 : Option Nat) (l3 : Int32) (s0 : Int32) (τ : zS), zW C (zn κ) τ → zT τ l0 = 12 → (∀ v, l1 = some v → zT τ v = 11) → (∀ v, l2 = some v → zT τ v = 11) → (κ = τ ∧ a0 = l0 ∧ a1 = l1 ∧ a2 = l2 ∧ True) → w_So_isAbove_25 C (zn κ) Q  l0 l1 l2 l3 s0 τ := by
    rintro _ _ _ y25_3 y25_s0 _ W25 T25_0 T25_1 T25_2 ⟨rfl, rfl, rfl, rfl, j25⟩
    unfold w_So_isAbove_25
    refine ⟨fun c2 => ?_, fun c2 => ?_⟩
    · skip
      refine hj45 _ _ _ _ W25 ?_ ?_
      · assumption  -- t3
      · exact ⟨rfl, rfl, trivial⟩  -- k4
    · skip
      refine ⟨fun c3 => ?_, fun uc3 c3 => ?_⟩
      · skip
        refine hj45 _ _ _ _ W25 ?_ ?_
        · assumption  -- t5
        · exact ⟨rfl, rfl, trivial⟩  -- k6
      · skip
        refine ⟨fun c4 => ?_, fun uc4 c4 => ?_⟩
        · skip
          refine hj45 _ _ _ _ W25 ?_ ?_
          · assumption  -- t7
          · exact ⟨rfl, rfl, trivial⟩  -- k8
        · skip
          refine ⟨fun c5 => ?_, fun c5 => ?_⟩
          · skip
            refine ex_some ?_ (fun u6 hu6 => ?_)
            · exact ⟨_, c3⟩  -- e9
            refine ex_some ?_ (fun u7 hu7 => ?_)
            · exact ⟨_, c4⟩  -- e10
            intro T8
            intro T9
            intro T10
            obtain ⟨j1, hj1, f1⟩ : ∃ j, j < n9 ∧ wU9 κ a0 j = u6 := by
              rcases p3 with z | ⟨j, hj, z⟩
              · rw [z] at hu6; cases hu6
              · exact ⟨j, hj, Option.some.inj (z.symm.trans hu6)⟩
            obtain ⟨j2, hj2, f2⟩ : ∃ j, j < n9 ∧ wU9 κ a0 j = u7 := by
              rcases p4 with z | ⟨j, hj, z⟩
              · rw [z] at hu7; cases hu7
              · exact ⟨j, hj, Option.some.inj (z.symm.trans hu7)⟩
            obtain ⟨_, w1, x1⟩ := V0.2 j1 hj1
            obtain ⟨_, w2, x2⟩ := V0.2 j2 hj2
            rw [f1] at w1 x1
            rw [f2] at w2 x2
            have g1 := ra_g9 N0 w1 (by omega) (by omega) (by omega)
            have g2 := ra_g9 N0 w2 (by omega) (by omega) (by omega)
            have gs := nm_g N0 h7 (Or.inl ⟨by decide, by decide⟩) (by decide)
            have k1 := k256 g1.2.2.2.1 x1.1.1
            have k2 := k256 g2.2.2.2.2.1 x2.1.2
            refine Nu_product_c W25 T8 T9 T10 6500 30000000 30000000 ?_ (fun κ_11 q12 => ?_)
            · exact ⟨gs.2.2, ⟨nuI_mono (by decide) g1.2.2.2.1, nuI_mono (by decide) g2.2.2.2.2.1⟩, ⟨ro_n h7 g1.2.1.1 (by omega), ro_n h7 g2.2.1.2 (by omega)⟩, by omega, by decide⟩  -- p11
            obtain ⟨F1, I1, V1⟩ := q12
            have Z1 : zF (soF ρ (fun r => r = 7) (zR κ soCalc a0)) κ κ_11 := soF_1 h7 F1
            have N1 : nmI ρ κ_11 := nm_1 W25 N0 F1 (by rw [h7]; exact I1)
            have S1 : soI ρ κ_11 a0 := so_1 W25 Ta0 S0 F1
            have T11 : zT κ_11 a0 = 12 := F1.t Ta0 (by decide)
            have el1 : zR κ_11 soLess a0 = (zR κ soLess a0) := (soF_r9 Z1 (by decide)).1
            intro W13
            intro M14
            refine ex_some ?_ (fun u15 hu15 => ?_)
            · exact ⟨_, c4⟩  -- e12
            refine ex_some ?_ (fun u16 hu16 => ?_)
            · exact ⟨_, c3⟩  -- e13
            intro T17
            intro T18
            intro T19
            have e15 : u15 = u7 := Option.some.inj (hu15.symm.trans hu7)
            have e16 : u16 = u6 := Option.some.inj (hu16.symm.trans hu6)
            subst e15
            subst e16
            have r1 := ra_f9 W25 N0 Z1 w1 g1.1.2 ⟨by omega, by omega, by omega⟩
            have r2 := ra_f9 W25 N0 Z1 w2 g2.1.2 ⟨by omega, by omega, by omega⟩
            have d1 := ra_g9 N1 w1 (by omega) (by omega) (by omega)
            have d2 := ra_g9 N1 w2 (by omega) (by omega) (by omega)
            have gl := nm_g N1 (w := (zR κ soLess a0)) h8 (Or.inl ⟨by decide, by decide⟩) (by decide)
            have y1 : nuN κ_11 (zR κ_11 raBottom u16) < 2 ^ 256 := by rw [r1.2.1.2, r1.2.2.2]; exact x1.1.2
            have y2 : nuN κ_11 (zR κ_11 raTop u15) < 2 ^ 256 := by rw [r2.2.1.1, r2.2.2.1]; exact x2.1.1
            have k3 := k256 d1.2.2.2.2.1 y1
            have k4 := k256 d2.2.2.2.1 y2
            refine Nu_product_c W13 T17 T18 T19 6500 30000000 30000000 ?_ (fun κ_20 q21 => ?_)
            · rw [el1]
              exact ⟨gl.2.2, ⟨nuI_mono (by decide) d2.2.2.2.1, nuI_mono (by decide) d1.2.2.2.2.1⟩, ⟨ro_n h8 d2.2.1.1 (by omega), ro_n h8 d1.2.1.2 (by omega)⟩, by omega, by decide⟩
            intro W22
            intro M23
            intro T24
            intro T25
            rw [el1] at q21
            obtain ⟨F2, I2, V2⟩ := q21
            have Z2 : zF (soF ρ (fun r => r = 8) (zR κ soCalc a0)) κ_11 κ_20 := soF_1 h8 F2
            have N2 : nmI ρ κ_20 := nm_1 W13 N1 F2 (by rw [h8]; exact I2)
            have S2 : soI ρ κ_20 a0 := so_1 W13 T11 S1 F2
            have Zf : zF (soF ρ (fun r => r = 7 ∨ r = 8) (zR κ soCalc a0)) κ κ_20 := (soF_m (fun r z => Or.inl z) Z1).tr (soF_m (fun r z => Or.inr z) Z2)
            have es2 : zR κ_20 soSum a0 = (zR κ soSum a0) := (soF_r9 Zf (by decide)).1
            have el2 : zR κ_20 soLess a0 = (zR κ soLess a0) := (soF_r9 Zf (by decide)).1
            have gs2 := nm_g N2 (w := (zR κ soSum a0)) h7 (Or.inl ⟨by decide, by decide⟩) (by decide)
            have gl2 := nm_g N2 (w := (zR κ soLess a0)) h8 (Or.inl ⟨by decide, by decide⟩) (by decide)
            have lf : nuN κ_20 (zR κ soLess a0) < pB9 4000 := by
              rw [V2]
              have q : nuN κ_11 (zR κ_11 raTop u15) * nuN κ_11 (zR κ_11 raBottom u16) < 2 ^ 256 * 2 ^ 256 := Nat.mul_lt_mul'' y2 y1
              have q2 : 2 ^ 256 * 2 ^ 256 ≤ pB9 100 := by unfold pB9; decide
              exact Nat.lt_of_lt_of_le q (Nat.le_trans q2 (pB9_l (by decide)))
            refine Nu_compare_c W22 T24 T25 6500 6500 ?_ (fun r26 q28 => ?_)
            · rw [es2, el2]
              exact ⟨gs2.1, gl2.1⟩
            intro W29
            intro M30
            refine ⟨fun c31 => ?_, fun c31 => ?_⟩
            · skip
              refine h _ _ ?_
              · exact ⟨⟨Zf, N2, S2⟩, Or.inl lf⟩  -- q16
            · skip
              refine h _ _ ?_
              · exact ⟨⟨Zf, N2, S2⟩, Or.inl lf⟩  -- q17
          · skip
            refine hj45 _ _ _ _ W25 ?_ ?_
            · assumption  -- t18
            · exact ⟨rfl, rfl, trivial⟩  -- k19
  have hj12 : ∀ (l0 : Nat) (l1 : Option Nat) (l2 : Option Nat) (s0 : Int32) (τ : zS), zW C (zn κ) τ → zT τ l0 = 12 → (∀ v, l1 = some v → zT τ v = 11) → (∀ v, l2 = some v → zT τ v = 11) → (κ = τ ∧ a0 = l0 ∧ a1 = l1 ∧ a2 = l2 ∧ True) → w_So_isAbove_12 C (zn κ) Q  l0 l1 l2 s0 τ := by
    rintro _ _ _ y12_s0 _ W12 T12_0 T12_1 T12_2 ⟨rfl, rfl, rfl, rfl, j12⟩
    unfold w_So_isAbove_12
    refine ⟨fun uc32 c32 => ?_, fun c32 => ?_⟩
    · skip
      refine ex_some ?_ (fun u33 hu33 => ?_)
      · exact ⟨_, c32⟩  -- e20
      refine hj25 _ _ _ _ _ _ W12 ?_ ?_ ?_ ?_
      · assumption  -- t21
      · assumption  -- t22
      · assumption  -- t23
      · exact ⟨rfl, rfl, rfl, rfl, trivial⟩  -- k24
    · skip
      refine hj25 _ _ _ _ _ _ W12 ?_ ?_ ?_ ?_
      · assumption  -- t25
      · assumption  -- t26
      · assumption  -- t27
      · exact ⟨rfl, rfl, rfl, rfl, trivial⟩  -- k28
  refine ⟨fun uc34 c34 => ?_, fun c34 => ?_⟩
  · skip
    refine ex_some ?_ (fun u35 hu35 => ?_)
    · exact ⟨_, c34⟩  -- e29
    refine hj12 _ _ _ _ _ W ?_ ?_ ?_ ?_
    · assumption  -- t30
    · assumption  -- t31
    · assumption  -- t32
    · exact ⟨rfl, rfl, rfl, rfl, trivial⟩  -- k33
  · skip
    refine hj12 _ _ _ _ _ W ?_ ?_ ?_ ?_
    · assumption  -- t34
    · assumption  -- t35
    · assumption  -- t36
    · exact ⟨rfl, rfl, rfl, rfl, trivial⟩  -- k37

end
section
set_option maxHeartbeats 1600000
/-! the class: a fraction copied to itself; Solver's findWorth -/
theorem ui_id9 {κ : zS} {f a : Nat} : ui κ f a (zI κ f a) = κ := by
  obtain ⟨k1, k2, k3, k4⟩ := κ
  have e : (fun g b => if g = f ∧ b = a then k3 f a else k3 g b) = k3 := by
    funext g b
    by_cases z : g = f ∧ b = a
    · rw [if_pos z, z.1, z.2]
    · exact if_neg z
  show (k1, k2, (fun g b => if g = f ∧ b = a then k3 f a else k3 g b), k4) = _
  rw [e]
theorem uc_id9 {κ : zS} {r n : Nat} : uc κ r r 0 0 n = κ := by
  obtain ⟨k1, k2, k3, k4, k5, k6⟩ := κ
  have c : va_cpy (k5 r) (k5 r) 0 0 n = k5 r := by
    funext j
    unfold va_cpy
    split
    · rw [Nat.zero_add, Nat.sub_zero]
    · rfl
  have e : (fun b => if b = r then va_cpy (k5 r) (k5 r) 0 0 n else k5 b) = k5 := by
    funext b
    by_cases z : b = r
    · rw [if_pos z, c, z]
    · exact if_neg z
  show (k1, k2, k3, k4, (fun b => if b = r then va_cpy (k5 r) (k5 r) 0 0 n else k5 b), k6) = _
  rw [e]
theorem Nu_copy_c2 {C : zC} {n0 : Nat} {a0 : Nat} {κ : zS} {Q : zS → Prop} (W : zW C n0 κ) (Ta0 : zT κ a0 = 8) (c9 : Nat) (hp : nuB κ a0 c9) (h : Q κ) : zRun C 1 mNu_copy [.ref a0, .ref a0] κ (oV Q noX) := by
  refine Nu_copy_run W Ta0 Ta0 ?_
  replace W := W.lo (Nat.le_trans W.1.2.1 W.1.2.2) (Nat.le_refl (zn κ))
  unfold w_Nu_copy_0
  have l := hp.1
  have k := cnk l.1
  have nl : zN κ (zR κ nuLimbs a0) ≤ 67108864 := (W.2.1 _ (show zT κ (zR κ nuLimbs a0) ≠ 0 by rw [ty_nuLimbs W Ta0]; decide)).1.2
  refine ⟨fun _ => ?_, fun c => ?_⟩
  · unfold w_Nu_copy_31
    refine ⟨⟨by decide, by decide, by rw [lei, t0i]; exact l.1, ?_, ?_⟩, fun κ1 e1 _ κ3 e3 _ => ?_⟩
    · show 0 + _ ≤ _
      omega
    · show 0 + _ ≤ _
      omega
    · have q1 : κ1 = κ := e1.trans uc_id9
      rw [q1] at e3
      have q3 : κ3 = κ := e3.trans ui_id9
      rw [q3]
      exact h
  · exfalso
    rw [lei, ofn_i nl] at c
    omega
theorem Ra_copy_c2 {C : zC} {n0 : Nat} {a0 : Nat} {κ : zS} {Q : zS → Prop} (W : zW C n0 κ) (Ta0 : zT κ a0 = 11) (c9 : Nat) (hp : raJ κ a0 c9) (h : Q κ) : zRun C 2 mRa_copy [.ref a0, .ref a0] κ (oV Q noX) := by
  refine Ra_copy_run W Ta0 Ta0 ?_
  replace W := W.lo (Nat.le_trans W.1.2.1 W.1.2.2) (Nat.le_refl (zn κ))
  unfold w_Ra_copy_0
  intro κ1 e1 W1 T1 T2
  have q1 : κ1 = κ := e1.trans ui_id9
  subst q1
  refine Nu_copy_c2 W1 T1 c9 hp.1.1 ?_
  intro W2 _ T3 T4
  refine Nu_copy_c2 W2 T3 c9 hp.2.1.1 ?_
  intro _ _
  exact h
/-- a fraction copied from one of its kind, itself or another -/
theorem Ra_copy_w9 {C : zC} {n0 : Nat} {a0 a1 : Nat} {κ : zS} {Q : zS → Prop} (W : zW C n0 κ) (Ta0 : zT κ a0 = 11) (Ta1 : zT κ a1 = 11) (ρ : Nat → Nat) (r s : Nat) (hp : nmI ρ κ ∧ (ρ a0 = r ∧ 100 ≤ r ∧ r < 999990 ∧ r % 8 = 0) ∧ (ρ a1 = s ∧ 100 ≤ s ∧ s < 999990 ∧ s % 8 = 0) ∧ (r = s → a0 = a1) ∧ nuN κ (zR κ raTop a1) < 2 ^ 256 ∧ nuN κ (zR κ raBottom a1) < 2 ^ 256) (h : ∀ κ' : zS, (zF (raF (zR κ raTop a0) (zR κ raBottom a0) a0) κ κ' ∧ raJ κ' a0 20 ∧ raV κ' a0 ((zI κ raSign a1).toInt) (nuN κ (zR κ raTop a1)) (nuN κ (zR κ raBottom a1))) → Q κ') : zRun C 2 mRa_copy [.ref a0, .ref a1] κ (oV Q noX) := by
  obtain ⟨N, ⟨h1, h2, h3, h4⟩, ⟨s1, s2, s3, s4⟩, hs, t1, t2⟩ := hp
  have g0 := ra_g9 N h1 h2 h3 (by omega)
  have g1 := ra_g9 N s1 s2 s3 (by omega)
  by_cases e : r = s
  · have ea := hs e
    subst ea
    exact Ra_copy_c2 W Ta0 20 g0.2.2.2 (h κ ⟨zF.rf, g0.2.2.2, rfl, rfl, rfl⟩)
  · have k1 := k256 g1.2.2.2.1 t1
    have k2 := k256 g1.2.2.2.2.1 t2
    exact Ra_copy_c W Ta0 Ta1 20 ⟨g0.2.2.1, ⟨nuI_mono (by decide) g1.2.2.2.1, nuI_mono (by decide) g1.2.2.2.2.1, g1.2.2.2.2.2⟩, ⟨ro_n g0.2.1.1 g1.2.1.1 (by omega), ro_n g0.2.1.1 g1.2.1.2 (by omega), ro_n g0.2.1.2 g1.2.1.1 (by omega), ro_n g0.2.1.2 g1.2.1.2 (by omega)⟩, ⟨by omega, by omega⟩, by decide⟩ (fun κ' q => h κ' q)
/-- worths stay where neither numbers nor fractions are touched -/
theorem ws_g9 {C : zC} {n0 a n P : Nat} {ρ : Nat → Nat} {F : Nat → Nat → Prop} {κ τ : zS} (W : zW C n0 κ) (Ta : zT κ a = 12) (Z : zF F κ τ) (h8 : ∀ f w, zT κ w = 8 → ¬ F f w) (h11 : ∀ f v, zT κ v = 11 → ¬ F f v) (hw : ¬ F soWorths a) (V : wsI9 ρ κ a n P) : wsI9 ρ τ a n P ∧ ∀ k, wU9 τ a k = wU9 κ a k := by
  have e3 := (Z.row W (f := soWorths) (t := 25) (by decide +kernel) (by decide) Ta hw).2.2
  have e5 : zN τ (zR τ soWorths a) = zN κ (zR κ soWorths a) := by
    rw [Z.r hw]
    exact Z.l (ty_soWorths W Ta)
  have e4 : ∀ k, wU9 τ a k = wU9 κ a k := fun k => by unfold wU9; rw [e3]
  refine ⟨⟨by rw [e5]; exact V.1, fun k hk => ?_⟩, e4⟩
  obtain ⟨h1, h2, h3⟩ := V.2 k hk
  have tu := W.2.2.2.2.1 _ _ _ (ty_soWorths W Ta) h1
  have tt := ty_raTop W tu
  have tb := ty_raBottom W tu
  rw [e3, e4]
  refine ⟨h1, h2, ?_⟩
  unfold wsK9
  rw [Z.i (h11 _ _ tu), Z.r (h11 _ _ tu), Z.r (h11 _ _ tu), (nuB_z (c := 0) W tt Z (h8 _ _ tt) (h8 _ _ tt)).2.2.1, (nuB_z (c := 0) W tb Z (h8 _ _ tb) (h8 _ _ tb)).2.2.1]
  exact h3
/-- all that the plan's steps keep -/
def pwI9 (ρ : Nat → Nat) (κ τ : zS) (a n P : Nat) : Prop := (nmI ρ τ ∧ soI ρ τ a) ∧ (atW τ (zR κ soAtlas a) n ∧ zR τ soAtlas a = zR κ soAtlas a ∧ zA τ (zR κ atFirsts (zR κ soAtlas a)) = zA κ (zR κ atFirsts (zR κ soAtlas a)) ∧ zR τ atFirsts (zR κ soAtlas a) = zR κ atFirsts (zR κ soAtlas a)) ∧ wsI9 ρ τ a n P ∧ (∀ k, wU9 τ a k = wU9 κ a k) ∧ (zR τ soTaken a = zR κ soTaken a ∧ zN τ (zR κ soTaken a) = zN κ (zR κ soTaken a)) ∧ zR τ soCalc a = zR κ soCalc a ∧ (zR τ soTerm a = zR κ soTerm a ∧ zR τ soLess a = zR κ soLess a)
def pwF9 (ρ : Nat → Nat) (R : Nat → Prop) (ca a : Nat) : Nat → Nat → Prop := fun f b => soF ρ R ca f b ∨ (f = soTaken ∧ b = a)
theorem pw_so9 {C : zC} {n0 a n P : Nat} {ρ : Nat → Nat} {R : Nat → Prop} {κ τ τ' : zS} (Wt : zW C n0 τ) (Tt : zT τ a = 12) (hn : n ≤ 1000) (J : pwI9 ρ κ τ a n P) (Z : zF (soF ρ R (zR κ soCalc a)) τ τ') (hR : ∀ r, 100 ≤ r → ¬ R r) (N : nmI ρ τ' ∧ soI ρ τ' a) : pwI9 ρ κ τ' a n P := by
  obtain ⟨⟨j1, j2⟩, ⟨j3, j4, j5, j6⟩, j7, j8, ⟨j9, j10⟩, j11, j12, j13⟩ := J
  have tb : zT τ (zR κ soAtlas a) = 3 := by rw [← j4]; exact ty_soAtlas Wt Tt
  have fr := at_f9 Wt soF_fr Z tb (f := atFirsts) (by decide)
  have wu := wU9_f Wt Tt Z
  have et : zR τ' soTaken a = zR τ soTaken a := (soF_r9 Z (by decide)).1
  have tt := ty_soTaken Wt Tt
  refine ⟨N, ⟨atW_f9 Wt soF_fr Z tb j3, (soF_r9 Z (by decide)).1.trans j4, ?_, fr.1.trans j6⟩, wsI9_f Wt Tt j1 Z hn hR j7, fun k => (wu.2 k).trans (j8 k), ⟨et.trans j9, ?_⟩, (soF_r9 Z (by decide)).1.trans j11, (soF_r9 Z (by decide)).1.trans j12, (soF_r9 Z (by decide)).1.trans j13⟩
  · have q := fr.2.1
    rw [fr.1, j6] at q
    rw [q]
    exact j5
  · rw [← j9, Z.l tt, j9]
    exact j10
theorem pw_u9 {C : zC} {n0 a n P i : Nat} {ρ : Nat → Nat} {κ τ τ' : zS} {x : Int32} (Wt : zW C n0 τ) (Tt : zT τ a = 12) (J : pwI9 ρ κ τ a n P) (e : τ' = ua τ (zR τ soTaken a) i x) : pwI9 ρ κ τ' a n P ∧ zF (fun f b => f = soTaken ∧ b = a) τ τ' ∧ zA τ' (zR κ soTaken a) = upd (zA τ (zR κ soTaken a)) i x := by
  obtain ⟨⟨j1, j2⟩, ⟨j3, j4, j5, j6⟩, j7, j8, ⟨j9, j10⟩, j11, j12, j13⟩ := J
  have o := Wt.o (show zr soTaken = some 20 by decide +kernel) (by decide) Tt
  have Z : zF (fun f b => f = soTaken ∧ b = a) τ τ' := by
    rw [e]
    exact zF_ua (by rw [o]; exact ⟨rfl, rfl⟩)
  have V : frV9 (zn τ) (fun f b => f = soTaken ∧ b = a) := fun f b z => by
    rw [z.1]
    exact Or.inr (Or.inr (Or.inr (Or.inr (Or.inl (by decide)))))
  have tb : zT τ (zR κ soAtlas a) = 3 := by rw [← j4]; exact ty_soAtlas Wt Tt
  have nt : ∀ (t f w : Nat), zT τ w = t → t ≠ 12 → ¬ (f = soTaken ∧ w = a) := fun t f w ht h12 z => by
    rw [z.2, Tt] at ht
    exact h12 ht.symm
  have eR : zR τ' = zR τ := by rw [e]; rfl
  have eN : zN τ' = zN τ := by rw [e]; rfl
  have fr := at_v9 Wt V Z tb (f := atFirsts) (by decide)
  have ws := ws_g9 Wt Tt Z (fun f w h => nt 8 f w h (by decide)) (fun f w h => nt 11 f w h (by decide)) (fun z => absurd z.1 (by decide)) j7
  refine ⟨⟨⟨nm_h9 Wt j1 Z (fun f w h => nt 8 f w h (by decide)) (fun f w h => nt 11 f w h (by decide)), so_x9 Wt Tt j2 Z (fun f b z => Or.inr ⟨by rw [z.1]; decide, by rw [z.1]; decide⟩) (fun _ _ => rfl)⟩, ⟨atW_v9 Wt V Z tb j3, by rw [eR]; exact j4, ?_, by rw [eR]; exact j6⟩, ws.1, fun k => (ws.2 k).trans (j8 k), ⟨by rw [eR]; exact j9, by rw [eN]; exact j10⟩, by rw [eR]; exact j11, by rw [eR]; exact j12, by rw [eR]; exact j13⟩, Z, ?_⟩
  · have q := fr.2.1
    rw [fr.1, j6] at q
    rw [q]
    exact j5
  · rw [e, ← j9]
    exact if_pos rfl

end
section
set_option maxHeartbeats 1600000
/-! the class: Solver's findWorth -/
def fwR9 (w : Nat) : Nat → Prop := fun r => r = 6 ∨ r = 7 ∨ r = 8 ∨ r = w ∨ r = w + 1 ∨ r = w + 2
def cpR9 (w : Nat) : Nat → Prop := fun r => r = 7 ∨ r = 8 ∨ r = w ∨ r = w + 1 ∨ r = w + 2
/-- a state has a next -/
theorem wy_9 {κ : zS} {a n k : Nat} (A : atW κ a n) (hk : k < n) : (zA κ (zR κ atFirsts a) k).toInt < (zA κ (zR κ atFirsts a) (k + 1)).toInt ∧ 0 ≤ (zA κ (zR κ atFirsts a) k).toInt ∧ (zA κ (zR κ atFirsts a) (k + 1)).toInt ≤ 20000 := by
  obtain ⟨_, AL, _, _, A5, A6⟩ := A
  obtain ⟨⟨e1, e2, e3⟩, _, e5, _⟩ := A6 k hk
  have l := AL.2.2
  by_cases z : (zA κ (zR κ atFirsts a) k).toInt = (zA κ (zR κ atFirsts a) (k + 1)).toInt
  · rw [z, wSm_0] at e5
    omega
  · omega
/-- a fraction and a spare number were written -/
theorem aw_w9 {C : zC} {n0 a p r s : Nat} {ρ : Nat → Nat} {κ τ : zS} (W : zW C n0 κ) (Ta : zT κ a = 12) (N : nmI ρ κ) (I : soI ρ κ a) (hp : ρ p = r) (h1 : 100 ≤ r) (h2 : r < 999990) (h3 : r % 4 = 0) (hs : ρ s = 6) (Z : zF (fun f x => raF (zR κ raTop p) (zR κ raBottom p) p f x ∨ nuF s f x) κ τ) (J : raJ τ p 20) (K : nuI τ s 6500) : (nmI ρ τ ∧ soI ρ τ a) ∧ ∀ ca, zF (soF ρ (fun q => q = 6 ∨ q = r ∨ q = r + 1 ∨ q = r + 2) ca) κ τ := by
  have hr : raR r := Or.inr (Or.inr ⟨h1, by omega, h3⟩)
  have P := N.2 p (by rw [hp]; exact hr)
  have t1 : ρ (zR κ raTop p) = r + 1 := by rw [P.2.1, hp]
  have t2 : ρ (zR κ raBottom p) = r + 2 := by rw [P.2.2, hp]
  have c := cap_v h1 h2
  have et : ∀ f b, f ≠ nuLimbs → f ≠ nuLength → f ≠ raSign → zR τ f b = zR κ f b := fun f b x y z => Z.r (fun q => by
    rcases q with (⟨_, q | q⟩ | ⟨_, q⟩) | ⟨_, q | q⟩
    · exact x q
    · exact y q
    · exact z q
    · exact x q
    · exact y q)
  have e1 : zR τ raTop p = zR κ raTop p := et _ _ (by decide) (by decide) (by decide)
  have e2 : zR τ raBottom p = zR κ raBottom p := et _ _ (by decide) (by decide) (by decide)
  have j1 := J.1
  have j2 := J.2.1
  rw [e1] at j1
  rw [e2] at j2
  refine ⟨⟨nm_k W N Z (fun w hw => ?_) (fun v => et _ _ (by decide) (by decide) (by decide)) (fun v => et _ _ (by decide) (by decide) (by decide)), so_k' I et (Z.l (ty_caFactors W (ty_soCalc W Ta)))⟩, fun ca => Z.mono (fun f b z => ?_)⟩
  · by_cases z1 : w = zR κ raTop p
    · right
      rw [z1, t1, c.2.1]
      exact ⟨j1.1.2.1, fun _ => j1⟩
    · by_cases z2 : w = zR κ raBottom p
      · right
        rw [z2, t2, c.2.2]
        exact ⟨j2.1.2.1, fun _ => j2⟩
      · by_cases z3 : w = s
        · right
          rw [z3, hs]
          exact ⟨K.1.2.1, fun _ => K⟩
        · left
          refine ⟨fun z => ?_, fun z => ?_⟩
          · rcases z with (⟨z | z, _⟩ | z) | z
            · exact z1 z
            · exact z2 z
            · exact absurd z.2 (by decide)
            · exact z3 z.1
          · rcases z with (⟨z | z, _⟩ | z) | z
            · exact z1 z
            · exact z2 z
            · exact absurd z.2 (by decide)
            · exact z3 z.1
  · rcases z with (⟨z | z, y⟩ | z) | z
    · exact Or.inl ⟨by rw [z, t1]; exact Or.inr (Or.inr (Or.inl rfl)), y.elim Or.inl (fun q => Or.inr (Or.inl q))⟩
    · exact Or.inl ⟨by rw [z, t2]; exact Or.inr (Or.inr (Or.inr rfl)), y.elim Or.inl (fun q => Or.inr (Or.inl q))⟩
    · exact Or.inl ⟨by rw [z.1, hp]; exact Or.inr (Or.inl rfl), Or.inr (Or.inr z.2)⟩
    · exact Or.inl ⟨by rw [z.1, hs]; exact Or.inl rfl, z.2.elim Or.inl (fun q => Or.inr (Or.inl q))⟩
/-- worths stay in order when one was written -/
theorem ws_w9 {C : zC} {n0 a n P ca k : Nat} {ρ : Nat → Nat} {R : Nat → Prop} {κ τ : zS} (W : zW C n0 κ) (Ta : zT κ a = 12) (N : nmI ρ κ) (Z : zF (soF ρ R ca) κ τ) (hn : n ≤ 1000) (hR : ∀ r, 100 ≤ r → R r → r = 104 + 8 * k ∨ r = 104 + 8 * k + 1 ∨ r = 104 + 8 * k + 2) (V : wsI9 ρ κ a n P) (Vk : wsK9 τ (wU9 κ a k) P) : wsI9 ρ τ a n P := by
  obtain ⟨e3, e4⟩ := wU9_f W Ta Z
  refine ⟨by rw [e3.2]; exact V.1, fun i hi => ?_⟩
  obtain ⟨h1, h2, h3⟩ := V.2 i hi
  rw [e3.1, e4]
  refine ⟨h1, h2, ?_⟩
  by_cases e : i = k
  · rw [e]
    exact Vk
  · exact wsK9_f W N Z h2 (ws_r9 (by omega)) ⟨fun z => by have q := hR _ (by omega) z; omega, fun z => by have q := hR _ (by omega) z; omega, fun z => by have q := hR _ (by omega) z; omega⟩ h3
theorem pw_m9 {ρ : Nat → Nat} {R R' : Nat → Prop} {ca a : Nat} {κ τ : zS} (h : ∀ r, R r → R' r) (Z : zF (pwF9 ρ R ca a) κ τ) : zF (pwF9 ρ R' ca a) κ τ := Z.mono (fun f b z => by
  rcases z with (z | z) | z
  · exact Or.inl (Or.inl ⟨h _ z.1, z.2⟩)
  · exact Or.inl (Or.inr z)
  · exact Or.inr z)
/-- what was taken at a state is one of its nexts, and nothing else changed there -/
def tkI9 (κ τ : zS) (a k : Nat) : Prop := zR τ soTaken a = zR κ soTaken a ∧ (0 ≤ (zA τ (zR κ soTaken a) k).toInt ∧ (zA τ (zR κ soTaken a) k).toInt < (zA κ (zR κ atFirsts (zR κ soAtlas a)) (k + 1)).toInt - (zA κ (zR κ atFirsts (zR κ soAtlas a)) k).toInt) ∧ ∀ i, i ≠ k → zA τ (zR κ soTaken a) i = zA κ (zR κ soTaken a) i
theorem tk_f9 {C : zC} {n0 a k ca : Nat} {ρ : Nat → Nat} {R : Nat → Prop} {κ τ τ' : zS} (W : zW C n0 τ) (Ta : zT τ a = 12) (Z : zF (soF ρ R ca) τ τ') (K : tkI9 κ τ a k) : tkI9 κ τ' a k := by
  have T9 : zT τ a = 11 + 1 := Ta
  have e : zR τ' soTaken a = zR τ soTaken a := (soF_r9 Z (by decide)).1
  have q := (Z.row W (f := soTaken) (t := 20) (by decide +kernel) (by decide) Ta (frS9_n W soF_fr T9 (by decide))).1
  rw [e, K.1] at q
  unfold tkI9
  rw [q]
  exact ⟨e.trans K.1, K.2⟩
theorem tk_u9 {a k : Nat} {κ τ τ' : zS} {x : Int32} (K : tkI9 κ τ a k) (e : τ' = ua τ (zR τ soTaken a) k x) (u : zA τ' (zR κ soTaken a) = upd (zA τ (zR κ soTaken a)) k x) (h0 : 0 ≤ x.toInt) (h1 : x.toInt < (zA κ (zR κ atFirsts (zR κ soAtlas a)) (k + 1)).toInt - (zA κ (zR κ atFirsts (zR κ soAtlas a)) k).toInt) : tkI9 κ τ' a k := by
  have q : upd (zA τ (zR κ soTaken a)) k x k = x := if_pos rfl
  unfold tkI9
  rw [u, q]
  refine ⟨by rw [e]; exact K.1, ⟨h0, h1⟩, fun i hi => ?_⟩
  have y : upd (zA τ (zR κ soTaken a)) k x i = zA τ (zR κ soTaken a) i := if_neg hi
  rw [y]
  exact K.2.2 i hi
theorem So_findWorth_c {C : zC} {n0 : Nat} {a0 : Nat} {a1 : Int32} {κ : zS} {Q : Int32 → zS → Prop} (W : zW C n0 κ) (Ta0 : zT κ a0 = 12) (ρ : Nat → Nat) (n9 P9 : Nat) (hp : pwI9 ρ κ κ a0 n9 P9 ∧ n9 ≤ 1000 ∧ (0 ≤ a1.toInt ∧ a1.toInt < n9 ∧ n9 ≤ (zN κ (zR κ soTaken a0))) ∧ tkI9 κ κ a0 a1.toNatClampNeg ∧ nuN κ (zR κ soLess a0) < pB9 4000) (h : ∀ (v : Int32) (κ' : zS), (nb v ∧ (zF (pwF9 ρ (fwR9 (104 + 8 * a1.toNatClampNeg)) (zR κ soCalc a0) a0) κ κ' ∧ nmI ρ κ' ∧ soI ρ κ' a0) ∧ nuN κ' (zR κ soLess a0) < pB9 4000 ∧ tkI9 κ κ' a0 a1.toNatClampNeg ∧ (v ≠ 0 → wsI9 ρ κ' a0 n9 P9) ∧ (∀ k, wU9 κ' a0 k = wU9 κ a0 k)) → Q v κ') : zRun C 5 mSo_findWorth [.ref a0, .int a1] κ (oI Q noX) := by
  refine So_findWorth_run W Ta0 ?_
  replace W := W.lo (Nat.le_trans W.1.2.1 W.1.2.2) (Nat.le_refl (zn κ))
  unfold w_So_findWorth_0
  obtain ⟨J0, hn, p1, p2, p3⟩ := hp
  have kn := cnk p1.1
  have A0 := J0.2.1.1
  have wy := wy_9 A0 (k := a1.toNatClampNeg) (by omega)
  have r8 : ρ (zR κ soLess a0) = 8 := J0.1.2.1.2.2.2.2.2.1
  have sm : ∀ x y : Int32, 0 ≤ x.toInt → x.toInt ≤ 20000 → 0 ≤ y.toInt → y.toInt ≤ 20000 → (x + y).toInt = x.toInt + y.toInt := fun x y h1 h2 h3 h4 => add_i (by omega) (by omega)
  have hj90 : ∀ (l0 : Nat) (l1 : Int32) (τ : zS), zW C (zn κ) τ → zT τ l0 = 12 → (a0 = l0 ∧ a1 = l1 ∧ ((nmI ρ τ ∧ soI ρ τ a0) ∧ (zR τ soAtlas a0 = zR κ soAtlas a0 ∧ atW τ (zR κ soAtlas a0) n9) ∧ zF (pwF9 ρ (cpR9 (104 + 8 * a1.toNatClampNeg)) (zR κ soCalc a0) a0) κ τ ∧ wsI9 ρ τ a0 n9 P9 ∧ (∀ k, wU9 τ a0 k = wU9 κ a0 k)) ∧ nuN τ (zR κ soLess a0) < pB9 4000 ∧ tkI9 κ τ a0 a1.toNatClampNeg) → w_So_findWorth_90 C (zn κ) Q  l0 l1 τ := by
    rintro _ _ τ90 W90 T90_0 ⟨rfl, rfl, j90⟩
    unfold w_So_findWorth_90
    obtain ⟨⟨⟨N2, S2⟩, ⟨ea, A2⟩, Z2, V2, U2⟩, le2, tk2⟩ := j90
    obtain ⟨v1, v2, v3⟩ := V2.2 a1.toNatClampNeg (by omega)
    have vl := V2.1
    refine ⟨?_, ?_⟩
    · rw [inb_iff]; omega  -- b1
    refine ⟨?_, ?_⟩
    · rw [ea, inb_iff, A2.1.2.2.1]; omega  -- b2
    refine ex_some ?_ (fun u1 hu1 => ?_)
    · exact ⟨_, v1⟩  -- e3
    intro T2
    intro T3
    have eu : u1 = wU9 τ90 a0 a1.toNatClampNeg := Option.some.inj (hu1.symm.trans v1)
    subst eu
    have gs := ra_g9 N2 v2 (by omega) (by omega) (by omega)
    have k1 := k256 gs.2.2.2.1 v3.1.1
    have k2 := k256 gs.2.2.2.2.1 v3.1.2
    have h6 : ρ (zR τ90 soTerm a0) = 6 := S2.1.2.2.2.1
    have g6 := nm_g N2 h6 (Or.inl ⟨by decide, by decide⟩) (by decide)
    refine Ra_addWhole_c W90 T2 T3 20 6500 ?_ (fun κ_4 q5 => ?_)
    · exact ⟨gs.2.2.2, g6.1, ⟨ro_n h6 gs.2.1.1 (by omega), ro_n h6 gs.2.1.2 (by omega)⟩, ⟨by omega, by decide⟩, ⟨by omega, by omega⟩, by decide⟩  -- p4
    intro W6
    intro M7
    obtain ⟨Zw, Jw, Cw, bw, tw, sw⟩ := q5
    obtain ⟨⟨N4, S4⟩, Zq⟩ := aw_w9 W90 T90_0 N2 S2 v2 (by omega) (by omega) (by omega) h6 Zw Jw Cw
    have Z4 := Zq (zR κ soCalc a0)
    have wu := wU9_f W90 T90_0 Z4
    have tl9 : zT τ90 (zR κ soLess a0) = 8 := Z2.t (ty_soLess W Ta0) (by decide)
    have eb4 : zR κ_4 raBottom (wU9 τ90 a0 a1.toNatClampNeg) = zR τ90 raBottom (wU9 τ90 a0 a1.toNatClampNeg) := Z4.r (soF_ra (Or.inr rfl))
    refine ⟨?_, ?_⟩
    · rw [wu.1.2, inb_iff]; omega  -- b5
    refine ex_some ?_ (fun u8 hu8 => ?_)
    · exact ⟨wU9 τ90 a0 a1.toNatClampNeg, by rw [wu.1.1]; exact v1⟩  -- e6
    intro T9
    have e8 : u8 = wU9 τ90 a0 a1.toNatClampNeg := Option.some.inj (hu8.symm.trans (by rw [wu.1.1]; exact v1))
    subst e8
    have gf := ra_g9 N4 v2 (by omega) (by omega) (by omega)
    refine Ra_fits_c W6 T9  ?_ (fun r10 q12 => ?_)
    · exact ⟨nuI_mono (by decide) gf.2.2.2.1, nuI_mono (by decide) gf.2.2.2.2.1⟩  -- p7
    intro W13
    intro M14
    refine ⟨?_, h _ _ ?_⟩
    · exact q12.1  -- b8
    · have sb := soF_B (c := 0) (w := (zR κ soLess a0)) W90 tl9 Z4 (by rw [r8]; omega)
      refine ⟨q12.1, ⟨(pw_m9 (fun r z => ?_) Z2).tr ((soF_m (fun r z => ?_) Z4).mono (fun f b z => Or.inl z)), N4, S4⟩, by rw [sb.2.1]; exact le2, tk_f9 W90 T90_0 Z4 tk2, fun y => ?_, fun i => (wu.2 i).trans (U2 i)⟩
      · unfold cpR9 at z
        unfold fwR9
        omega
      · unfold fwR9
        omega
      · have f2 := q12.2 y
        refine ws_w9 W90 T90_0 N2 Z4 hn (k := a1.toNatClampNeg) (fun r h z => by omega) V2 ⟨f2, ?_, sw v3.2.2⟩
        rw [eb4, bw]
        exact v3.2.1
  refine ⟨?_, ?_⟩
  · rw [inb_iff, A0.1.1]; omega  -- b10
  intro x15 hx15
  unfold w_So_findWorth_12
  refine ⟨fun n l0 l1 l2 l3 τ => n = ((zA κ (zR κ atFirsts (zR κ soAtlas a0)) (a1.toNatClampNeg + 1)).toInt - (zA κ (zR κ atFirsts (zR κ soAtlas a0)) a1.toNatClampNeg).toInt - l3.toInt).toNat ∧ (a0 = l0 ∧ a1 = l1 ∧ pwI9 ρ κ τ a0 n9 P9 ∧ zF (pwF9 ρ (fun r => r = 7 ∨ r = 8) (zR κ soCalc a0) a0) κ τ ∧ nuN τ (zR κ soLess a0) < pB9 4000 ∧ l2 = zA κ (zR κ atFirsts (zR κ soAtlas a0)) a1.toNatClampNeg ∧ (1 ≤ l3.toInt ∧ l3.toInt ≤ (zA κ (zR κ atFirsts (zR κ soAtlas a0)) (a1.toNatClampNeg + 1)).toInt - (zA κ (zR κ atFirsts (zR κ soAtlas a0)) a1.toNatClampNeg).toInt) ∧ tkI9 κ τ a0 a1.toNatClampNeg), ⟨_, rfl, ?_⟩, ?_⟩
  · exact ⟨rfl, rfl, J0, zF.rf, p3, hx15, ⟨by decide, by show (1 : Int) ≤ _; omega⟩, p2⟩  -- j11
  rintro n12 _ _ x12_2 x12_3 κ12 W12 T12_0 ⟨hn12, rfl, rfl, i12⟩
  obtain ⟨J1, Z1, le1, ef, h3, tk⟩ := i12
  have tb := tk.2.1
  have A1 := J1.2.1.1
  have eA := J1.2.1.2.1
  have eF : zA κ12 (zR κ12 atFirsts (zR κ soAtlas a0)) = zA κ (zR κ atFirsts (zR κ soAtlas a0)) := by rw [J1.2.1.2.2.2]; exact J1.2.1.2.2.1
  have eT : zR κ12 soTaken a0 = zR κ soTaken a0 := J1.2.2.2.2.1.1
  have nT : zN κ12 (zR κ soTaken a0) = zN κ (zR κ soTaken a0) := J1.2.2.2.2.1.2
  have sx : (x12_2 + zA κ12 (zR κ soTaken a0) a1.toNatClampNeg).toInt = (zA κ (zR κ atFirsts (zR κ soAtlas a0)) a1.toNatClampNeg).toInt + (zA κ12 (zR κ soTaken a0) a1.toNatClampNeg).toInt := by rw [ef]; exact sm _ _ (by omega) (by omega) (by omega) (by omega)
  have tle : zT κ12 (zR κ soLess a0) = 8 := Z1.t (ty_soLess W Ta0) (by decide)
  intro T16
  refine At_waysOf_c W12 T16  ?_ (fun r17 q19 => ?_)
  · rw [eA]
    exact ⟨A1.1.1, p1.1, by omega⟩
  intro W20
  intro M21
  rw [eA, eF] at q19
  have r9 : r17.toInt = (zA κ (zR κ atFirsts (zR κ soAtlas a0)) (a1.toNatClampNeg + 1)).toInt - (zA κ (zR κ atFirsts (zR κ soAtlas a0)) a1.toNatClampNeg).toInt := by rw [q19, sub_i (by omega) (by omega)]
  refine ⟨fun c22 => ?_, fun c22 => ?_⟩
  · skip
    refine ⟨?_, ?_⟩
    · rw [eT, inb_iff, nT]; omega  -- b13
    intro T23
    refine So_worthBehind_c W20 T23 ρ n9 P9 a1.toNatClampNeg ?_ (fun r24 q26 => ?_)
    · rw [eA, eF, eT]
      exact ⟨A1, J1.2.2.1, by omega, by rw [sx]; omega, by rw [sx]; omega, by rw [sx]; omega⟩
    intro W27
    intro M28
    intro T29
    refine ⟨fun c30 => ?_, fun uc30 c30 => ?_⟩
    · skip
      refine hj90 _ _ _ W27 ?_ ?_
      · exact T12_0  -- t15
      · refine ⟨rfl, rfl, ⟨J1.1, ⟨eA, A1⟩, pw_m9 (fun r z => ?_) Z1, J1.2.2.1, J1.2.2.2.1⟩, le1, tk⟩
        unfold cpR9
        omega
    · skip
      refine ⟨?_, ?_⟩
      · have vl := J1.2.2.1.1
        rw [inb_iff]; omega
      refine ex_some ?_ (fun u31 hu31 => ?_)
      · exact ⟨_, (J1.2.2.1.2 a1.toNatClampNeg (by omega)).1⟩  -- e18
      refine ex_some ?_ (fun u32 hu32 => ?_)
      · exact ⟨_, c30⟩  -- e19
      intro T33
      intro T34
      obtain ⟨j9, hj9, ej⟩ : ∃ j, j < n9 ∧ wU9 κ12 a0 j = u32 := by
        rcases q26 with z | ⟨j, hj, z⟩
        · rw [z] at hu32; cases hu32
        · exact ⟨j, hj, Option.some.inj (z.symm.trans hu32)⟩
      obtain ⟨y0, y1, y2⟩ := J1.2.2.1.2 a1.toNatClampNeg (by omega)
      obtain ⟨_, y3, y4⟩ := J1.2.2.1.2 j9 hj9
      have eu31 : wU9 κ12 a0 a1.toNatClampNeg = u31 := Option.some.inj (y0.symm.trans hu31)
      rw [eu31] at y1
      rw [ej] at y3 y4
      refine Ra_copy_w9 W27 T33 T34 ρ (104 + 8 * a1.toNatClampNeg) (104 + 8 * j9) ?_ (fun κ_35 q36 => ?_)
      · refine ⟨J1.1.1, ⟨y1, by omega, by omega, by omega⟩, ⟨y3, by omega, by omega, by omega⟩, fun e => ?_, y4.1.1, y4.1.2⟩
        have e' : a1.toNatClampNeg = j9 := by omega
        rw [← eu31, ← ej, e']
      intro W37
      intro M38
      refine hj90 _ _ _ W37 ?_ ?_
      · exact q36.1.t T12_0 (by decide)  -- t21
      · obtain ⟨⟨N5, S5⟩, Zq⟩ := ra_w9 W27 T12_0 J1.1.1 J1.1.2 y1 (by omega) (by omega) (by omega) q36.1 q36.2.1
        have Z5 := Zq (zR κ soCalc a0)
        have wu := wU9_f W27 T12_0 Z5
        have tz : zT κ12 (zR κ soAtlas a0) = 3 := by rw [← eA]; exact ty_soAtlas W27 T12_0
        have sb := soF_B (c := 0) (w := (zR κ soLess a0)) W27 tle Z5 (by rw [r8]; omega)
        have wk : wsK9 κ_35 (wU9 κ12 a0 a1.toNatClampNeg) P9 := by
          rw [eu31]
          unfold wsK9
          rw [q36.2.2.2.1, q36.2.2.2.2, q36.2.2.1]
          exact y4
        refine ⟨rfl, rfl, ⟨⟨N5, S5⟩, ⟨(soF_r9 Z5 (by decide)).1.trans eA, atW_f9 W27 soF_fr Z5 tz A1⟩, (pw_m9 (fun r z => ?_) Z1).tr ((soF_m (fun r z => ?_) Z5).mono (fun f b z => Or.inl z)), ws_w9 W27 T12_0 J1.1.1 Z5 hn (k := a1.toNatClampNeg) (fun r h z => z) J1.2.2.1 wk, fun i => (wu.2 i).trans (J1.2.2.2.1 i)⟩, by rw [sb.2.1]; exact le1, tk_f9 W27 T12_0 Z5 tk⟩
        · unfold cpR9
          omega
        · unfold cpR9
          omega
  · skip
    intro T39
    rw [lei, r9] at c22
    have sy : (x12_2 + x12_3).toInt = (zA κ (zR κ atFirsts (zR κ soAtlas a0)) a1.toNatClampNeg).toInt + x12_3.toInt := by rw [ef]; exact sm _ _ (by omega) (by omega) (by omega) (by omega)
    have ix : (x12_3 + 1).toInt = x12_3.toInt + 1 := (cn1 (by omega) (by omega)).2
    refine So_worthBehind_c W20 T39 ρ n9 P9 a1.toNatClampNeg ?_ (fun r40 q42 => ?_)
    · rw [eA, eF]
      exact ⟨A1, J1.2.2.1, by omega, by rw [sy]; omega, by rw [sy]; omega, by rw [sy]; omega⟩
    intro W43
    intro M44
    intro T45
    refine ⟨?_, ?_⟩
    · rw [eT, inb_iff, nT]; omega  -- b24
    intro T46
    refine So_worthBehind_c W43 T46 ρ n9 P9 a1.toNatClampNeg ?_ (fun r47 q49 => ?_)
    · rw [eA, eF, eT]
      exact ⟨A1, J1.2.2.1, by omega, by rw [sx]; omega, by rw [sx]; omega, by rw [sx]; omega⟩
    intro W50
    intro M51
    intro T52
    intro T53
    intro T54
    intro T55
    refine So_isAbove_c W50 T53 T54 T55 ρ n9 P9 ?_ (fun r56 κ_57 q58 => ?_)
    · exact ⟨J1.1, J1.2.2.1, hn, q42, q49⟩  -- p26
    intro W59
    intro M60
    obtain ⟨⟨Z6, N6, S6⟩, l6⟩ := q58
    rw [J1.2.2.2.2.2.1] at Z6
    rw [J1.2.2.2.2.2.2.2] at l6
    have J6 := pw_so9 W50 T12_0 hn J1 Z6 (fun r h z => by rcases z with z | z <;> omega) ⟨N6, S6⟩
    have le6 : nuN κ_57 (zR κ soLess a0) < pB9 4000 := by
      rcases l6 with z | z
      · exact z
      · rw [z]; exact le1
    have tk6 := tk_f9 W50 T12_0 Z6 tk
    have Zs := Z1.tr (Z6.mono (fun f b z => Or.inl z))
    have T6 : zT κ_57 a0 = 12 := Z6.t T12_0 (by decide)
    have tl6 : zT κ_57 (zR κ soLess a0) = 8 := Z6.t tle (by decide)
    refine ⟨fun c61 => ?_, fun c61 => ?_⟩
    · skip
      intro x62 hx62
      refine ⟨_, ?_, rfl, ?_⟩
      · rw [hn12, hx62, ix]; omega  -- d27
      · exact ⟨rfl, rfl, J6, Zs, le6, ef, ⟨by rw [hx62, ix]; omega, by rw [hx62, ix]; omega⟩, tk6⟩  -- i28
    · skip
      refine ⟨?_, ?_⟩
      · rw [J6.2.2.2.2.1.1, J6.2.2.2.2.1.2, inb_iff]; omega  -- b29
      intro κ_63 hκ_63
      intro W64
      intro x65 hx65
      refine ⟨_, ?_, rfl, ?_⟩
      · rw [hn12, hx65, ix]; omega  -- d30
      · obtain ⟨J7, Z7, u7⟩ := pw_u9 W59 T6 J6 hκ_63
        have lz := nuB_z (c := 0) W59 tl6 Z7 (fun z => absurd z.1 (by decide)) (fun z => absurd z.1 (by decide))
        exact ⟨rfl, rfl, J7, Zs.tr (Z7.mono (fun f b z => Or.inr z)), by rw [lz.2.2.1]; exact le6, ef, ⟨by rw [hx65, ix]; omega, by rw [hx65, ix]; omega⟩, tk_u9 tk6 hκ_63 u7 (by omega) (by omega)⟩

end
section
set_option maxHeartbeats 1600000
/-! the class: Solver's mixWorths -/
theorem ws_m9 {ρ : Nat → Nat} {κ : zS} {a n P P' : Nat} (d : P ∣ P') (V : wsI9 ρ κ a n P) : wsI9 ρ κ a n P' := ⟨V.1, fun k hk => by
  obtain ⟨h1, h2, h3, h4, h5⟩ := V.2 k hk
  exact ⟨h1, h2, h3, dz9_m h4 d, h5⟩⟩
/-- what is read of the atlas and the Solver while only numbers are touched -/
theorem mw_9 {C : zC} {n0 a n P : Nat} {ρ : Nat → Nat} {R : Nat → Prop} {κ τ : zS} (W : zW C n0 κ) (Ta : zT κ a = 12) (hn : n ≤ 1000) (J : pwI9 ρ κ κ a n P) (Z : zF (soF ρ R (zR κ soCalc a)) κ τ) (hR : ∀ r, 100 ≤ r → ¬ R r) (N : nmI ρ τ ∧ soI ρ τ a) : pwI9 ρ κ τ a n P ∧ zA τ (zR τ atFirsts (zR τ soAtlas a)) = zA κ (zR κ atFirsts (zR κ soAtlas a)) ∧ zN τ (zR τ atFirsts (zR τ soAtlas a)) = 1001 ∧ zR τ soWhole a = zR κ soWhole a ∧ zR τ soSum a = zR κ soSum a ∧ zR τ soLess a = zR κ soLess a ∧ zR τ soPart a = zR κ soPart a ∧ zR τ soCalc a = zR κ soCalc a := by
  have K := pw_so9 W Ta hn J Z hR N
  refine ⟨K, ?_, ?_, (soF_r9 Z (by decide)).1, (soF_r9 Z (by decide)).1, (soF_r9 Z (by decide)).1, (soF_r9 Z (by decide)).1, (soF_r9 Z (by decide)).1⟩
  · rw [K.2.1.2.1, K.2.1.2.2.2]
    exact K.2.1.2.2.1
  · rw [K.2.1.2.1]
    exact K.2.1.1.1.1
theorem mz_9 {s w : Int32} (h1 : -1 ≤ s.toInt) (h2 : s.toInt ≤ 1) (h0 : 0 ≤ w.toInt) : -2147483648 ≤ (Int32.toInt64 s * Int32.toInt64 w).toInt ∧ (Int32.toInt64 s * Int32.toInt64 w).toInt ≤ 2147483648 := by
  have e1 := Int32.toInt_toInt64 s
  have e2 := Int32.toInt_toInt64 w
  have u := ihi w
  have p : -2147483648 ≤ s.toInt * w.toInt ∧ s.toInt * w.toInt ≤ 2147483648 := by
    rcases (show s.toInt = -1 ∨ s.toInt = 0 ∨ s.toInt = 1 by omega) with z | z | z <;> rw [z] <;> omega
  have q : (Int32.toInt64 s * Int32.toInt64 w).toInt = s.toInt * w.toInt := by
    rw [jmul_i (by rw [e1, e2]; omega) (by rw [e1, e2]; omega), e1, e2]
  rw [q]
  exact p
theorem So_mixWorths_c {C : zC} {n0 : Nat} {a0 : Nat} {a1 : Int32} {κ : zS} {Q : Int32 → zS → Prop} (W : zW C n0 κ) (Ta0 : zT κ a0 = 12) (ρ : Nat → Nat) (n9 P9 : Nat) (hp : pwI9 ρ κ κ a0 n9 P9 ∧ n9 ≤ 1000 ∧ (0 ≤ a1.toInt ∧ a1.toInt < n9) ∧ (0 < P9 ∧ P9 < pB9 1490) ∧ (1 ≤ (zA κ (zR κ atTotals (zR κ soAtlas a0)) a1.toNatClampNeg).toInt ∧ (zA κ (zR κ atTotals (zR κ soAtlas a0)) a1.toNatClampNeg).toInt ≤ 8000000)) (h : ∀ (v : Int32) (κ' : zS), (nb v ∧ (zF (soF ρ (voR9 (104 + 8 * a1.toNatClampNeg)) (zR κ soCalc a0)) κ κ' ∧ nmI ρ κ' ∧ soI ρ κ' a0) ∧ nuN κ' (zR κ soLess a0) < pB9 4000 ∧ (v ≠ 0 → wsI9 ρ κ' a0 n9 (P9 * ((zA κ (zR κ atTotals (zR κ soAtlas a0)) a1.toNatClampNeg).toInt).toNat)) ∧ (∀ k, wU9 κ' a0 k = wU9 κ a0 k)) → Q v κ') : zRun C 7 mSo_mixWorths [.ref a0, .int a1] κ (oI Q noX) := by
  refine So_mixWorths_run W Ta0 ?_
  replace W := W.lo (Nat.le_trans W.1.2.1 W.1.2.2) (Nat.le_refl (zn κ))
  unfold w_So_mixWorths_0
  obtain ⟨J0, hn, p1, ⟨p2, p3⟩, p4⟩ := hp
  have kn := cnk p1.1
  have A0 := J0.2.1.1
  have wy := wy_9 A0 (k := a1.toNatClampNeg) (by omega)
  have i1 := cn1 p1.1 (by omega)
  have N0 := J0.1.1
  have S0 := J0.1.2
  have h1 : ρ (zR κ soWhole a0) = 1 := S0.1.1
  have h7 : ρ (zR κ soSum a0) = 7 := S0.1.2.2.2.2.1
  have h8 : ρ (zR κ soLess a0) = 8 := S0.1.2.2.2.2.2.1
  have h20 := S0.1.2.2.2.2.2.2
  have g1 := nm_g N0 h1 (Or.inl ⟨by decide, by decide⟩) (by decide)
  have o1 : (1 : Int64).toInt.toNat = 1 := rfl
  have h256 : 2 ^ 256 ≤ pB9 100 := by unfold pB9; decide
  intro T1
  refine Nu_put_c W T1 6500 ?_ (fun κ_2 q3 => ?_)
  · exact ⟨by decide, g1.2.2⟩  -- p1
  obtain ⟨Fp, ⟨Rp, Np⟩, Ip, Vp⟩ := q3
  have Zp : zF (soF ρ (fun r => r < 100) (zR κ soCalc a0)) κ κ_2 := soF_1 (by rw [h1]; decide) Fp
  have N2 : nmI ρ κ_2 := nm_1 W N0 Fp (by rw [h1]; exact Ip)
  have S2 : soI ρ κ_2 a0 := so_1 W Ta0 S0 Fp
  have Y2 := mw_9 W Ta0 hn J0 Zp (fun r h z => by omega) ⟨N2, S2⟩
  intro W4
  intro M5
  refine ⟨?_, ?_⟩
  · rw [Y2.2.2.1, inb_iff]; omega  -- b2
  intro x6 hx6
  unfold w_So_mixWorths_18
  refine ⟨fun n l0 l1 l2 τ => n = ((zA κ (zR κ atFirsts (zR κ soAtlas a0)) (a1.toNatClampNeg + 1)).toInt - l2.toInt).toNat ∧ (a0 = l0 ∧ a1 = l1 ∧ (zF (soF ρ (fun r => r < 100) (zR κ soCalc a0)) κ τ ∧ nmI ρ τ ∧ soI ρ τ a0) ∧ dz9 (nuN τ (zR κ soWhole a0)) P9 ∧ (zA κ (zR κ atFirsts (zR κ soAtlas a0)) a1.toNatClampNeg).toInt ≤ l2.toInt), ⟨_, rfl, ?_⟩, ?_⟩
  · exact ⟨rfl, rfl, ⟨Zp, N2, S2⟩, by rw [Vp, o1]; exact Or.inr (Nat.one_dvd _), by rw [hx6, Y2.2.1]; exact Int.le_refl _⟩  -- j3
  rintro n18 _ _ x18_2 κ18 W18 T18_0 ⟨hn18, rfl, rfl, i18⟩
  obtain ⟨⟨Z1, N1, S1⟩, D1, lb1⟩ := i18
  obtain ⟨J1, eF1, nF1, ew1, es1, el1, ep1, ec1⟩ := mw_9 W Ta0 hn J0 Z1 (fun r h z => by omega) ⟨N1, S1⟩
  have tw : zT κ18 (zR κ soWhole a0) = 8 := Z1.t (ty_soWhole W Ta0) (by decide)
  refine ⟨?_, ?_⟩
  · rw [nF1, inb_iff, i1.2]; omega  -- b4
  refine ⟨fun c7 => ?_, fun c7 => ?_⟩
  · skip
    intro T8
    refine Nu_put_c W18 T8 6500 ?_ (fun κ_9 q10 => ?_)
    · exact ⟨by decide, (nm_g N1 S1.1.2.2.2.2.1 (Or.inl ⟨by decide, by decide⟩) (by decide)).2.2⟩  -- p5
    obtain ⟨Fs, ⟨Rs, Ns⟩, Is, Vs⟩ := q10
    have h71 : ρ (zR κ18 soSum a0) = 7 := S1.1.2.2.2.2.1
    have Zs : zF (soF ρ (fun r => r < 100) (zR κ soCalc a0)) κ18 κ_9 := soF_1 (by rw [h71]; decide) Fs
    have Nx : nmI ρ κ_9 := nm_1 W18 N1 Fs (by rw [h71]; exact Is)
    have Sx : soI ρ κ_9 a0 := so_1 W18 T18_0 S1 Fs
    have Tx : zT κ_9 a0 = 12 := Fs.t T18_0 (by decide)
    intro W11
    intro M12
    intro T13
    refine Nu_put_c W11 T13 6500 ?_ (fun κ_14 q15 => ?_)
    · exact ⟨by decide, (nm_g Nx Sx.1.2.2.2.2.2.1 (Or.inl ⟨by decide, by decide⟩) (by decide)).2.2⟩  -- p6
    obtain ⟨Fl, ⟨Rl, Nl⟩, Il, Vl⟩ := q15
    have h81 : ρ (zR κ_9 soLess a0) = 8 := Sx.1.2.2.2.2.2.1
    have Zl : zF (soF ρ (fun r => r < 100) (zR κ soCalc a0)) κ_9 κ_14 := soF_1 (by rw [h81]; decide) Fl
    have Ny : nmI ρ κ_14 := nm_1 W11 Nx Fl (by rw [h81]; exact Il)
    have Sy : soI ρ κ_14 a0 := so_1 W11 Tx Sx Fl
    have Zt : zF (soF ρ (fun r => r < 100) (zR κ soCalc a0)) κ κ_14 := (Z1.tr Zs).tr Zl
    have Y14 := mw_9 W Ta0 hn J0 Zt (fun r h z => by omega) ⟨Ny, Sy⟩
    have bw1 := nuB_z (c := 0) W18 tw Fs (fun z => ro_n h1 h71 (by decide) z.1) (fun z => ro_n h1 h71 (by decide) z.1)
    have bw2 := nuB_z (c := 0) W11 (Fs.t tw (by decide)) Fl (fun z => ro_n h1 h81 (by decide) z.1) (fun z => ro_n h1 h81 (by decide) z.1)
    have bs2 := nuB_z (c := 0) (y := (zR κ soSum a0)) W11 ((Z1.tr Zs).t (ty_soSum W Ta0) (by decide)) Fl (fun z => ro_n h7 h81 (by decide) z.1) (fun z => ro_n h7 h81 (by decide) z.1)
    rw [es1] at Vs
    rw [Rs, el1] at Vl
    intro W16
    intro M17
    refine ⟨?_, ?_⟩
    · rw [Y14.2.2.1, inb_iff]; omega  -- b7
    intro x18 hx18
    unfold w_So_mixWorths_90
    refine ⟨fun n l0 l1 l2 τ => n = ((zA κ (zR κ atFirsts (zR κ soAtlas a0)) (a1.toNatClampNeg + 1)).toInt - l2.toInt).toNat ∧ (a0 = l0 ∧ a1 = l1 ∧ (zF (soF ρ (fun r => r < 100) (zR κ soCalc a0)) κ τ ∧ nmI ρ τ ∧ soI ρ τ a0) ∧ dz9 (nuN τ (zR κ soWhole a0)) P9 ∧ ((zA κ (zR κ atFirsts (zR κ soAtlas a0)) a1.toNatClampNeg).toInt ≤ l2.toInt ∧ l2.toInt ≤ (zA κ (zR κ atFirsts (zR κ soAtlas a0)) (a1.toNatClampNeg + 1)).toInt) ∧ nuN τ (zR κ soSum a0) ≤ (P9 + 1) * (1 + (l2.toInt - (zA κ (zR κ atFirsts (zR κ soAtlas a0)) a1.toNatClampNeg).toInt).toNat * sM9) ∧ nuN τ (zR κ soLess a0) ≤ (P9 + 1) * (1 + (l2.toInt - (zA κ (zR κ atFirsts (zR κ soAtlas a0)) a1.toNatClampNeg).toInt).toNat * sM9)), ⟨_, rfl, ?_⟩, ?_⟩
    · refine ⟨rfl, rfl, ⟨Zt, Ny, Sy⟩, by rw [bw2.2.2.1, bw1.2.2.1]; exact D1, ⟨by rw [hx18, Y14.2.1]; exact Int.le_refl _, by rw [hx18, Y14.2.1]; omega⟩, ?_, ?_⟩
      · rw [bs2.2.2.1, Vs]; exact Nat.zero_le _
      · rw [Vl]; exact Nat.zero_le _
    rintro n90 _ _ x90_2 κ90 W90 T90_0 ⟨hn90, rfl, rfl, i90⟩
    obtain ⟨⟨Z2, Nb, Sb⟩, D2, lb, B1, B2⟩ := i90
    obtain ⟨J2, eF2, nF2, ew2, es2, el2, ep2, ec2⟩ := mw_9 W Ta0 hn J0 Z2 (fun r h z => by omega) ⟨Nb, Sb⟩
    have hw2 : nuN κ90 (zR κ soWhole a0) ≤ P9 := dz9_le D2 p2
    have tw2 : zT κ90 (zR κ soWhole a0) = 8 := Z2.t (ty_soWhole W Ta0) (by decide)
    have ts2 : zT κ90 (zR κ soSum a0) = 8 := Z2.t (ty_soSum W Ta0) (by decide)
    have tl2 : zT κ90 (zR κ soLess a0) = 8 := Z2.t (ty_soLess W Ta0) (by decide)
    have b11 : ∀ x, x ≤ (P9 + 1) * (1 + (x90_2.toInt - (zA κ (zR κ atFirsts (zR κ soAtlas a0)) a1.toNatClampNeg).toInt).toNat * sM9) → x < pB9 4000 := fun x hx => sB_9 p3 (by omega) hx
    have lw2 : nuN κ90 (zR κ soWhole a0) < pB9 1490 := Nat.lt_of_le_of_lt hw2 p3
    refine ⟨?_, ?_⟩
    · rw [nF2, inb_iff, i1.2]; omega  -- b9
    refine ⟨fun c19 => ?_, fun c19 => ?_⟩
    · skip
      refine ⟨?_, ?_⟩
      · rw [J2.2.1.2.1, inb_iff, J2.2.1.1.1.2.1]; omega  -- b10
      intro T20
      have eT2 : zA κ90 (zR κ90 atTotals (zR κ90 soAtlas a0)) = zA κ (zR κ atTotals (zR κ soAtlas a0)) := by rw [J2.2.1.2.1]; exact (at_f9 W soF_fr Z2 (ty_soAtlas W Ta0) (f := atTotals) (by decide)).2.1
      have ei := Int32.toInt_toInt64 (zA κ (zR κ atTotals (zR κ soAtlas a0)) a1.toNatClampNeg)
      have gw := nm_g Nb Sb.1.1 (Or.inl ⟨by decide, by decide⟩) (by decide)
      have lwz : nuN κ90 (zR κ90 soWhole a0) < pB9 1490 := by rw [ew2]; exact lw2
      have kw := nuK_lt gw.1 lwz
      refine Nu_times_c W90 T20 6500 ?_ (fun κ_21 q22 => ?_)
      · rw [eT2, ei]
        exact ⟨gw.1, ⟨by omega, by omega⟩, by omega, by decide⟩
      rw [eT2, ei, ew2] at q22
      obtain ⟨Ft, It, Vt⟩ := q22
      have Zx : zF (soF ρ (fun r => r < 100) (zR κ soCalc a0)) κ90 κ_21 := soF_1 (by rw [h1]; decide) Ft
      have N21 : nmI ρ κ_21 := nm_1 W90 Nb Ft (by rw [h1]; exact It)
      have S21 : soI ρ κ_21 a0 := so_1 W90 T90_0 Sb Ft
      have ew3 : zR κ_21 soWhole a0 = (zR κ soWhole a0) := (soF_r9 Zx (by decide)).1.trans ew2
      have es3 : zR κ_21 soSum a0 = (zR κ soSum a0) := (soF_r9 Zx (by decide)).1.trans es2
      have el3 : zR κ_21 soLess a0 = (zR κ soLess a0) := (soF_r9 Zx (by decide)).1.trans el2
      have ec3 : zR κ_21 soCalc a0 = (zR κ soCalc a0) := (soF_r9 Zx (by decide)).1.trans ec2
      have bs3 := nuB_z (c := 0) W90 ts2 Ft (fun z => ro_n h7 h1 (by decide) z.1) (fun z => ro_n h7 h1 (by decide) z.1)
      have bl3 := nuB_z (c := 0) W90 tl2 Ft (fun z => ro_n h8 h1 (by decide) z.1) (fun z => ro_n h8 h1 (by decide) z.1)
      have t1 : (zA κ (zR κ atTotals (zR κ soAtlas a0)) a1.toNatClampNeg).toInt.toNat < pB9 1 := Nat.lt_of_lt_of_le (show _ < 2147483648 by omega) (by unfold pB9; decide)
      have lw3 : nuN κ_21 (zR κ soWhole a0) < pB9 4000 := by
        have q := Nat.mul_lt_mul'' lw2 t1
        rw [← pB9_a] at q
        rw [Vt]
        exact Nat.lt_trans q (pB9_s (by decide))
      intro W23
      intro M24
      intro T25
      intro T26
      refine So_settle_c W23 T25 T26 ρ 1 ?_ (fun κ_27 q28 => ?_)
      · rw [ew3, es3, el3]
        exact ⟨⟨N21, S21⟩, ⟨h1, Or.inl rfl⟩, lw3, by rw [bs3.2.2.1]; exact b11 _ B1, by rw [bl3.2.2.1]; exact b11 _ B2⟩
      rw [ew3, es3, el3, ec3] at q28
      obtain ⟨Zq, ⟨N27, S27⟩, O⟩ := q28
      have Z27 : zF (soF ρ (fun r => r < 100) (zR κ soCalc a0)) κ κ_27 := (Z2.tr Zx).tr (soF_m (fun r z => by rcases z with z | z | z | z <;> omega) Zq)
      obtain ⟨J27, _, _, _, _, _, _, ec27⟩ := mw_9 W Ta0 hn J0 Z27 (fun r h z => by omega) ⟨N27, S27⟩
      have T27 : zT κ_27 a0 = 12 := Z27.t Ta0 (by decide)
      obtain ⟨v1, v2, v3⟩ := J27.2.2.1.2 a1.toNatClampNeg (by omega)
      have vl := J27.2.2.1.1
      have l27 := soF_B (c := 0) (w := (zR κ soLess a0)) W23 (Ft.t tl2 (by decide)) Zq (by rw [h8]; unfold stR9; decide)
      intro W29
      intro M30
      refine ⟨?_, ?_⟩
      · rw [inb_iff]; omega  -- b13
      refine ex_some ?_ (fun u31 hu31 => ?_)
      · exact ⟨_, v1⟩  -- e14
      intro T32
      intro T33
      have eu : u31 = wU9 κ_27 a0 a1.toNatClampNeg := Option.some.inj (hu31.symm.trans v1)
      subst eu
      refine So_keepPart_c W29 T32 T33 ρ (104 + 8 * a1.toNatClampNeg) ?_ (fun r34 κ_35 q36 => ?_)
      · exact ⟨⟨N27, S27⟩, v2, by omega, by omega, by omega⟩  -- p15
      intro W37
      intro M38
      refine ⟨?_, h _ _ ?_⟩
      · exact q36.1  -- b16
      · obtain ⟨b, K0, K1⟩ := q36
        by_cases z : r34 = 0
        · rw [K0 z]
          exact ⟨b, ⟨soF_m (fun r y => Or.inl y) Z27, N27, S27⟩, by rw [l27.2.1, bl3.2.2.1]; exact b11 _ B2, fun y => absurd z y, J27.2.2.2.1⟩
        · obtain ⟨⟨Zk, Nk, Sk⟩, f2, Vk⟩ := K1 z
          rw [ec27] at Zk
          have l35 := soF_B (c := 0) (w := (zR κ soLess a0)) W29 (Z27.t (ty_soLess W Ta0) (by decide)) Zk (by rw [h8]; omega)
          have wu := wU9_f W29 T27 Zk
          have e4 : zR κ_27 soPart a0 = zR κ_21 soPart a0 := (soF_r9 Zq (by decide)).1
          have eb27 : zR κ_27 raBottom (zR κ_27 soPart a0) = zR κ_21 raBottom (zR κ_21 soPart a0) := by rw [e4, (soF_r9 Zq (f := raBottom) (by decide)).1]
          have dB : dz9 (nuN κ_27 (zR κ_27 raBottom (zR κ_27 soPart a0))) (P9 * (zA κ (zR κ atTotals (zR κ soAtlas a0)) a1.toNatClampNeg).toInt.toNat) := by
            rw [eb27]
            rcases O with ⟨_, _, _, o⟩ | ⟨_, _, _, o⟩
            · rw [o]; exact Or.inr (Nat.one_dvd _)
            · rw [o]; exact dz9_div (by rw [Vt]; exact dz9_mul D2) (Nat.gcd_dvd_right _ _)
          have sg : -1 ≤ (zI κ_27 raSign (zR κ_27 soPart a0)).toInt ∧ (zI κ_27 raSign (zR κ_27 soPart a0)).toInt ≤ 1 := by
            rw [e4]
            rcases O with ⟨_, o, _⟩ | ⟨_, o | o, _⟩ <;> omega
          have wk : wsK9 κ_35 (wU9 κ_27 a0 a1.toNatClampNeg) (P9 * (zA κ (zR κ atTotals (zR κ soAtlas a0)) a1.toNatClampNeg).toInt.toNat) := by
            unfold wsK9
            rw [Vk.2.1, Vk.2.2, Vk.1]
            exact ⟨f2, dB, sg⟩
          exact ⟨b, ⟨(soF_m (fun r y => Or.inl y) Z27).tr (soF_m (fun r y => Or.inr y) Zk), Nk, Sk⟩, by rw [l35.2.1, l27.2.1, bl3.2.2.1]; exact b11 _ B2, fun _ => ws_w9 W29 T27 N27 Zk hn (k := a1.toNatClampNeg) (fun r h y => y) (ws_m9 (Nat.dvd_mul_right _ _) J27.2.2.1) wk, fun i => (wu.2 i).trans (J27.2.2.2.1 i)⟩
    · skip
      intro T39
      rw [i1.1, eF2, lei] at c19
      have ix := cn1 (x := x90_2) (by omega) (by omega)
      have nx : ∀ x : Int32, x = x90_2 + 1 → (x.toInt - (zA κ (zR κ atFirsts (zR κ soAtlas a0)) a1.toNatClampNeg).toInt).toNat = (x90_2.toInt - (zA κ (zR κ atFirsts (zR κ soAtlas a0)) a1.toNatClampNeg).toInt).toNat + 1 := fun x e => by rw [e, ix.2]; omega
      refine So_worthBehind_c W90 T39 ρ n9 P9 a1.toNatClampNeg ?_ (fun r40 q42 => ?_)
      · exact ⟨by rw [J2.2.1.2.1]; exact J2.2.1.1, J2.2.2.1, by omega, by omega, by rw [eF2]; exact lb.1, by rw [eF2]; omega⟩  -- p18
      intro W43
      intro M44
      intro T45
      refine ⟨fun c46 => ?_, fun uc46 c46 => ?_⟩
      · skip
        intro x47 hx47
        refine ⟨_, ?_, rfl, ?_⟩
        · rw [hn90, hx47, ix.2]; omega  -- d19
        · exact ⟨rfl, rfl, ⟨Z2, Nb, Sb⟩, D2, ⟨by rw [hx47, ix.2]; omega, by rw [hx47, ix.2]; omega⟩, by rw [nx _ hx47]; exact sm_m9 B1, by rw [nx _ hx47]; exact sm_m9 B2⟩  -- i20
      · skip
        refine ex_some ?_ (fun u48 hu48 => ?_)
        · exact ⟨_, c46⟩  -- e21
        obtain ⟨j, hj, ej⟩ : ∃ j, j < n9 ∧ wU9 κ90 a0 j = u48 := by
          rcases q42 with z | ⟨j, hj, z⟩
          · rw [z] at hu48; cases hu48
          · exact ⟨j, hj, Option.some.inj (z.symm.trans hu48)⟩
        obtain ⟨_, y3, y4⟩ := J2.2.2.1.2 j hj
        rw [ej] at y3 y4
        refine ⟨fun c49 => ?_, fun c49 => ?_⟩
        · skip
          intro x50 hx50
          refine ⟨_, ?_, rfl, ?_⟩
          · rw [hn90, hx50, ix.2]; omega  -- d22
          · exact ⟨rfl, rfl, ⟨Z2, Nb, Sb⟩, D2, ⟨by rw [hx50, ix.2]; omega, by rw [hx50, ix.2]; omega⟩, by rw [nx _ hx50]; exact sm_m9 B1, by rw [nx _ hx50]; exact sm_m9 B2⟩  -- i23
        · skip
          refine ex_some ?_ (fun u51 hu51 => ?_)
          · exact ⟨_, c46⟩  -- e24
          intro T52
          intro T53
          have e51 : u51 = u48 := Option.some.inj (hu51.symm.trans hu48)
          rw [← e51] at y3 y4
          have gs := ra_g9 Nb y3 (by omega) (by omega) (by omega)
          have h2p : ρ (zR κ90 soPart a0) = 20 := by rw [ep2]; exact h20
          have go := ra_t9 Nb h2p (Or.inl rfl)
          have kt := nuK_c9 gs.2.2.2.1
          have kb := nuK_c9 gs.2.2.2.2.1
          refine Ra_copy_c W43 T52 T53 6500 ?_ (fun κ_54 q55 => ?_)
          · exact ⟨go.2.1, ⟨nuI_mono (by decide) gs.2.2.2.1, nuI_mono (by decide) gs.2.2.2.2.1, gs.2.2.2.2.2⟩, ⟨ro_n go.1.1 gs.2.1.1 (by omega), ro_n go.1.1 gs.2.1.2 (by omega), ro_n go.1.2 gs.2.1.1 (by omega), ro_n go.1.2 gs.2.1.2 (by omega)⟩, ⟨by omega, by omega⟩, by decide⟩  -- p25
          obtain ⟨Zc, Jc, Vc⟩ := q55
          have R5 := ra_s9 W43 T90_0 Nb Sb h2p (Or.inl rfl) Zc Jc
          have Z5 := R5.2 (zR κ soCalc a0)
          have Z25 : zF (soF ρ (fun r => r < 100) (zR κ soCalc a0)) κ κ_54 := Z2.tr (soF_m (fun r z => by omega) Z5)
          obtain ⟨J5, eF5, nF5, ew5, es5, el5, ep5, ec5⟩ := mw_9 W Ta0 hn J0 Z25 (fun r h z => by omega) R5.1
          have ep6 : zR κ_54 soPart a0 = zR κ90 soPart a0 := (soF_r9 Z5 (by decide)).1
          have w5 := soF_B (c := 0) (w := (zR κ soWhole a0)) W43 tw2 Z5 (by rw [h1]; decide)
          have s5 := soF_B (c := 0) (w := (zR κ soSum a0)) W43 ts2 Z5 (by rw [h7]; decide)
          have l5 := soF_B (c := 0) (w := (zR κ soLess a0)) W43 tl2 Z5 (by rw [h8]; decide)
          have r5 := ra_f9 W43 Nb Z5 y3 gs.1.2 ⟨by omega, by omega, by omega⟩
          have kx := cnk (x := x90_2) (by omega)
          have eG5 : zA κ_54 (zR κ_54 atFirsts (zR κ soAtlas a0)) = zA κ (zR κ atFirsts (zR κ soAtlas a0)) := by rw [J5.2.1.2.2.2]; exact J5.2.1.2.2.1
          have n5 := nx_9 J5.2.1.1 (k := a1.toNatClampNeg) (i := x90_2.toNatClampNeg) (by omega) (by rw [eG5]; omega) (by rw [eG5]; omega)
          intro W56
          intro M57
          refine ex_some ?_ (fun u58 hu58 => ?_)
          · exact ⟨_, c46⟩  -- e26
          refine ⟨?_, ?_⟩
          · rw [J5.2.1.2.1, inb_iff]; omega  -- b27
          intro T59
          have e58 : u58 = u51 := Option.some.inj (hu58.symm.trans hu51)
          subst e58
          have m28 := mz_9 (s := zI κ_54 raSign u58) (w := zA κ_54 (zR κ_54 atWeights (zR κ_54 soAtlas a0)) x90_2.toNatClampNeg) (by rw [r5.1]; exact y4.2.2.1) (by rw [r5.1]; exact y4.2.2.2) (by rw [J5.2.1.2.1]; exact n5.2.2)
          have tmb : ∀ y : Nat, y ≤ 2147483648 → nuN κ90 (zR κ90 raTop u58) * y * (nuN κ90 (zR κ soWhole a0) + 1) ≤ (P9 + 1) * sM9 := fun y hy => Nat.le_trans (tm_c9 y4.1.1 hy) (Nat.mul_le_mul_right _ (Nat.succ_le_succ hw2))
          refine So_addTerm_c2 W56 T59 ρ ?_ (fun κ_60 q61 => ?_)
          · rw [ep6, ew5, es5, el5, w5.2.1, s5.2.1, l5.2.1, Vc.2.1]
            exact ⟨R5.1, ⟨by omega, by omega⟩, ⟨Nat.lt_of_lt_of_le lw2 (pB9_l (by decide)), Nat.lt_of_lt_of_le y4.1.1 h256⟩, b11 _ B1, b11 _ B2⟩
          rw [ep6, ew5, es5, el5, ec5, w5.2.1, s5.2.1, l5.2.1, Vc.2.1] at q61
          obtain ⟨Za, Na, A1, A2⟩ := q61
          have Zf : zF (soF ρ (fun r => r < 100) (zR κ soCalc a0)) κ κ_60 := Z25.tr (soF_m (fun r z => by rcases z with z | z | z | z | z | z <;> omega) Za)
          have w60 := soF_B (c := 0) (w := (zR κ soWhole a0)) W56 (Z5.t tw2 (by decide)) Za (by rw [h1]; unfold adR9; decide)
          intro W62
          intro M63
          intro x64 hx64
          refine ⟨_, ?_, rfl, ?_⟩
          · rw [hn90, hx64, ix.2]; omega  -- d29
          · refine ⟨rfl, rfl, ⟨Zf, Na⟩, by rw [w60.2.1, w5.2.1]; exact D2, ⟨by rw [hx64, ix.2]; omega, by rw [hx64, ix.2]; omega⟩, ?_, ?_⟩
            · rw [nx _ hx64]
              by_cases z : 0 < (Int32.toInt64 (zI κ_54 raSign u58) * Int32.toInt64 (zA κ_54 (zR κ_54 atWeights (zR κ_54 soAtlas a0)) x90_2.toNatClampNeg)).toInt
              · exact Nat.le_trans (A1 z).1 (sm_s9 B1 (tmb _ (by omega)))
              · rw [(A2 z).2]; exact sm_m9 B1
            · rw [nx _ hx64]
              by_cases z : 0 < (Int32.toInt64 (zI κ_54 raSign u58) * Int32.toInt64 (zA κ_54 (zR κ_54 atWeights (zR κ_54 soAtlas a0)) x90_2.toNatClampNeg)).toInt
              · rw [(A1 z).2]; exact sm_m9 B2
              · exact Nat.le_trans (A2 z).1 (sm_s9 B2 (tmb _ (by omega)))
  · skip
    intro T65
    rw [i1.1, eF1, lei] at c7
    have ix := cn1 (x := x18_2) (by omega) (by omega)
    refine So_worthBehind_c W18 T65 ρ n9 P9 a1.toNatClampNeg ?_ (fun r66 q68 => ?_)
    · exact ⟨by rw [J1.2.1.2.1]; exact J1.2.1.1, J1.2.2.1, by omega, by omega, by rw [eF1]; exact lb1, by rw [eF1]; omega⟩  -- p31
    intro W69
    intro M70
    intro T71
    refine ⟨fun c72 => ?_, fun uc72 c72 => ?_⟩
    · skip
      intro x73 hx73
      refine ⟨_, ?_, rfl, ?_⟩
      · rw [hn18, hx73, ix.2]; omega  -- d32
      · exact ⟨rfl, rfl, ⟨Z1, N1, S1⟩, D1, by rw [hx73, ix.2]; omega⟩  -- i33
    · skip
      refine ex_some ?_ (fun u74 hu74 => ?_)
      · exact ⟨_, c72⟩  -- e34
      intro T75
      intro T76
      intro T77
      obtain ⟨j, hj, ej⟩ : ∃ j, j < n9 ∧ wU9 κ18 a0 j = u74 := by
        rcases q68 with z | ⟨j, hj, z⟩
        · rw [z] at hu74; cases hu74
        · exact ⟨j, hj, Option.some.inj (z.symm.trans hu74)⟩
      obtain ⟨_, y3, y4⟩ := J1.2.2.1.2 j hj
      rw [ej] at y3 y4
      have gs := ra_g9 N1 y3 (by omega) (by omega) (by omega)
      have lwz : nuN κ18 (zR κ18 soWhole a0) < pB9 2000 := by
        rw [ew1]
        exact Nat.lt_of_le_of_lt (dz9_le D1 p2) (Nat.lt_of_lt_of_le p3 (pB9_l (by decide)))
      refine Ca_join_c W69 T75 T76 T77 6500 2000 6500 6500 ?_ (fun κ_78 q79 => ?_)
      · exact jn_p N1 S1 gs.2.1.2 (raR_n gs.1.2).2 ⟨by omega, by omega, by omega⟩ lwz (Nat.lt_of_lt_of_le y4.1.2 h256)  -- p35
      have Jq := jn_q W69 N1 S1 q79
      have Vj := q79.2.2.2
      rw [ew1] at Vj
      rw [ec1] at Jq
      have Zf : zF (soF ρ (fun r => r < 100) (zR κ soCalc a0)) κ κ_78 := Z1.tr (soF_m (fun r z => by rcases z with z | z | z <;> omega) Jq.2.1)
      intro W80
      intro M81
      intro x82 hx82
      refine ⟨_, ?_, rfl, ?_⟩
      · rw [hn18, hx82, ix.2]; omega  -- d36
      · refine ⟨rfl, rfl, ⟨Zf, Jq.1⟩, ?_, by rw [hx82, ix.2]; omega⟩
        rw [Vj]
        exact dz9_lcm D1 y4.2.1

end
