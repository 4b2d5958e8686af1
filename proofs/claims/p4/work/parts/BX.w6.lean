set_option maxHeartbeats 1600000
/-! the class: Web's knot, sizeOf, isRing -/
/-- the knots in order -/
def weKn (κ : zS) (a n : Nat) : Prop := (0 ≤ (zI κ weKnots a).toInt ∧ (zI κ weKnots a).toInt ≤ n) ∧ (∀ c : Nat, (c : Int) < (zI κ weKnots a).toInt → 0 ≤ (zA κ (zR κ weKnotFirsts a) c).toInt ∧ (zA κ (zR κ weKnotFirsts a) c).toInt < (zA κ (zR κ weKnotFirsts a) (c + 1)).toInt ∧ (zA κ (zR κ weKnotFirsts a) (c + 1)).toInt ≤ n) ∧ (∀ i : Nat, i < n → (0 ≤ (zA κ (zR κ weOrder a) i).toInt ∧ (zA κ (zR κ weOrder a) i).toInt < n) ∧ (0 ≤ (zA κ (zR κ weKnotOf a) (zA κ (zR κ weOrder a) i).toNatClampNeg).toInt ∧ (zA κ (zR κ weKnotOf a) (zA κ (zR κ weOrder a) i).toNatClampNeg).toInt < (zI κ weKnots a).toInt) ∧ (zA κ (zR κ weKnotFirsts a) (zA κ (zR κ weKnotOf a) (zA κ (zR κ weOrder a) i).toNatClampNeg).toNatClampNeg).toInt ≤ (i : Int) ∧ (i : Int) < (zA κ (zR κ weKnotFirsts a) ((zA κ (zR κ weKnotOf a) (zA κ (zR κ weOrder a) i).toNatClampNeg).toNatClampNeg + 1)).toInt) ∧ ∀ s, s < n → ∃ i : Nat, i < n ∧ (zA κ (zR κ weOrder a) i).toNatClampNeg = s
theorem cBq_a {f : Nat → Int32} : ∀ {n : Nat}, (∀ s, s < n → f s ≠ 0) → cBq f n = n
  | 0, _ => rfl
  | n + 1, h => by
    have a := cBq_a (f := f) (n := n) (fun s hs => h s (Nat.lt_succ_of_lt hs))
    show cBq f n + (if f n = 0 then 0 else 1) = _
    rw [if_neg (h n (Nat.lt_succ_self n)), a]
    omega
theorem cBq_z {f : Nat → Int32} {n : Nat} (h : ∀ s, s < n → f s = 0) : cBq f n = 0 := sgI_z (fun i hi => if_pos (h i hi))
theorem We_knot_c {C : zC} {n0 : Nat} {a0 : Nat} {κ : zS} {Q : zS → Prop} (W : zW C n0 κ) (Ta0 : zT κ a0 = 14) (m9 : Nat) (hp : weM κ a0 ∧ ((zI κ weTotal a0).toInt = (m9 : Int) ∧ m9 ≤ 1000) ∧ wfO m9 ((zN κ (zR κ weTargets a0))) (zA κ (zR κ weFirsts a0)) (zA κ (zR κ weTargets a0)) ∧ (zN κ (zR κ weTargets a0)) ≤ 20000) (h : ∀ (κ' : zS), (knE κ κ' a0 ∧ weKn κ' a0 m9) → Q κ') : zRun C 2 mWe_knot [.ref a0] κ (oV Q noX) := by
  refine We_knot_run W Ta0 ?_
  replace W := W.lo (Nat.le_trans W.1.2.1 W.1.2.2) (Nat.le_refl (zn κ))
  unfold w_We_knot_0
  obtain ⟨M, ⟨tn, n1⟩, wo, lT⟩ := hp
  have M9 := M
  obtain ⟨M1, M2, M3, M4, M5, M6, M7, M8, M09, M10, M11⟩ := M9
  intro T1
  refine Ar_fill_c W T1  (fun κ_2 q3 => ?_)
  intro W4
  intro M5
  intro T6
  refine Ar_fill_c W4 T6  (fun κ_7 q8 => ?_)
  intro W9
  intro M10
  intro κ_11 hκ_11
  intro W12
  intro κ_13 hκ_13
  intro W14
  intro κ_15 hκ_15
  intro W16
  intro κ_17 hκ_17
  intro W18
  unfold w_We_knot_38
  refine ⟨fun n l0 l1 τ => n = (1000 - l1.toInt).toNat ∧ (a0 = l0 ∧ knE κ τ a0 ∧ tjZ τ a0 m9 0 ∧ (zI τ weHeaped a0).toInt = 0 ∧ (0 ≤ l1.toInt ∧ l1.toInt ≤ m9) ∧ ∀ s : Nat, (s : Int) < l1.toInt → zA τ (zR τ weSeen a0) s ≠ 0), ⟨_, rfl, ?_⟩, ?_⟩
  · have Z2 : zF (knF a0) κ κ_2 := by rw [q3]; exact zF_uf (by rw [weRf_o W Ta0 (f := weSeen) (by decide)]; exact ⟨rfl, show 1407 ≤ 1411 by decide⟩)
    have R2 : zR κ_2 = zR κ := by rw [q3]; rfl
    have N2 : zN κ_2 = zN κ := by rw [q3]; rfl
    have E2 : knE κ κ_2 a0 := ⟨Z2, R2, N2⟩
    have T2 : zT κ_2 a0 = 14 := Z2.t Ta0 (by decide)
    have Z7 : zF (knF a0) κ_2 κ_7 := by rw [q8]; exact zF_uf (by rw [weRf_o W4 T2 (f := weKnotOf) (by decide)]; exact ⟨rfl, show 1407 ≤ 1409 by decide⟩)
    have R7 : zR κ_7 = zR κ_2 := by rw [q8]; rfl
    have N7 : zN κ_7 = zN κ_2 := by rw [q8]; rfl
    have E7 : knE κ_2 κ_7 a0 := ⟨Z7, R7, N7⟩
    have T7 : zT κ_7 a0 = 14 := Z7.t T2 (by decide)
    obtain ⟨x1, x2, x3, x4, x5⟩ := kn_i (f := weKnots) (by decide) hκ_11
    obtain ⟨y1, y2, y3, y4, y5⟩ := kn_i (f := wePlaced) (by decide) hκ_13
    obtain ⟨z1, z2, z3, z4, z5⟩ := kn_i (f := weHeaped) (by decide) hκ_15
    obtain ⟨w1, w2, w3, w4, w5⟩ := kn_i (f := weStamp) (by decide) hκ_17
    have EE := ((((E2.tr E7).tr x1).tr y1).tr z1).tr w1
    have A17 : zA κ_17 = zA κ_7 := by rw [w2, z2, y2, x2]
    have i1 : zI κ_17 weKnots a0 = 0 := by rw [w4 weKnots (by decide), z4 weKnots (by decide), y4 weKnots (by decide), x3]
    have i2 : zI κ_17 wePlaced a0 = 0 := by rw [w4 wePlaced (by decide), z4 wePlaced (by decide), y3]
    have i3 : zI κ_17 weHeaped a0 = 0 := by rw [w4 weHeaped (by decide), z3]
    have ne := weRf_n W4 T2 (f := weSeen) (g := weKnotOf) (by decide) (by decide) (by decide)
    have sz : ∀ s, s < m9 → zA κ_17 (zR κ_17 weSeen a0) s = 0 := fun s hs => by
      have e : zA κ_7 (zR κ_2 weSeen a0) = zA κ_2 (zR κ_2 weSeen a0) := by rw [q8]; exact if_neg ne
      rw [A17, EE.2.1, ← R2, e, R2, q3]
      refine (congrFun (if_pos rfl) s).trans ?_
      exact if_pos ⟨Nat.zero_le _, by omega⟩
    have kz : ∀ s, s < m9 → zA κ_17 (zR κ_17 weKnotOf a0) s = -1 := fun s hs => by
      rw [A17, EE.2.1, ← R2, q8]
      refine (congrFun (if_pos rfl) s).trans ?_
      exact if_pos ⟨Nat.zero_le _, by rw [R2, N2]; omega⟩
    refine ⟨rfl, EE, ⟨?_, ?_, ?_, ?_, fun k hk z => absurd (sz k hk) z⟩, by rw [i3]; rfl, ⟨by decide, by rw [t0i]; omega⟩, fun s hs => by rw [t0i] at hs; omega⟩
    · rw [i1, i2, i3, w3]
      exact ⟨by decide, rfl, (cBq_z sz).symm, by decide⟩
    · rw [i3, w3]
      exact ⟨fun i hi => by rw [t0i] at hi; omega, fun i hi => by rw [t0i] at hi; omega, fun s hs => by rw [sz s hs]; decide, fun s hs a => absurd (sz s hs) a, fun s hs _ => kz s hs⟩
    · exact ⟨fun j hj => by omega, fun j hj => by omega, fun hj => absurd hj (by decide)⟩
    · rw [i1, i2]
      exact ⟨fun i hi => by rw [t0i] at hi; omega, fun i hi => by rw [t0i] at hi; omega, fun s hs a => absurd (kz s hs) a⟩
  rintro n38 _ x38_1 κ38 W38 T38_0 ⟨hn38, rfl, i38⟩
  obtain ⟨E38, Z38, h38, k38, s38⟩ := i38
  have rr := E38.2.1
  have nn := E38.2.2
  have tt : zI κ38 weTotal a0 = zI κ weTotal a0 := E38.1.i (fun z => absurd z.2 (by decide))
  have kk := cnk k38.1
  refine ⟨fun c19 => ?_, fun c19 => ?_⟩
  · skip
    refine ⟨?_, ?_⟩
    · have c1 := Z38.1.1
      have c4 := Z38.1.2.2.2
      have c3 := Z38.1.2.2.1
      have cb := cBq_le (f := zA κ38 (zR κ38 weSeen a0)) (n := m9)
      rw [rr, nn, inb_iff]; omega
    intro κ_20 hκ_20
    intro W21
    refine h _ ?_
    · rw [lei, tt] at c19
      obtain ⟨u1, u2, u3, u4, u5⟩ := kn_u W38 T38_0 (f := weKnotFirsts) (by decide) (by decide) hκ_20
      obtain ⟨⟨c1, c2, c3, c4⟩, h, p, o, u⟩ := Z38
      have all := cBq_a (f := zA κ38 (zR κ38 weSeen a0)) (n := m9) (fun s hs => s38 s (by omega))
      have r := u1.2.1
      have gK := u4 weKnotOf (by decide) (by decide)
      have gO := u4 weOrder (by decide) (by decide)
      have kn : (zI κ38 weKnots a0).toNatClampNeg = (zI κ38 weKnots a0).toInt.toNat := rfl
      rw [kn] at u3
      have fK : upd (zA κ38 (zR κ38 weKnotFirsts a0)) (zI κ38 weKnots a0).toInt.toNat (zI κ38 wePlaced a0) (zI κ38 weKnots a0).toInt.toNat = zI κ38 wePlaced a0 := if_pos rfl
      have fc : ∀ x, x ≠ (zI κ38 weKnots a0).toInt.toNat → upd (zA κ38 (zR κ38 weKnotFirsts a0)) (zI κ38 weKnots a0).toInt.toNat (zI κ38 wePlaced a0) x = zA κ38 (zR κ38 weKnotFirsts a0) x := fun x hx => if_neg hx
      refine ⟨E38.tr u1, ?_⟩
      unfold weKn
      rw [r, u2, gK, gO, u3]
      refine ⟨by omega, fun c hc => ?_, fun i hi => ?_, fun s hs => ?_⟩
      · obtain ⟨a, b⟩ := o.2.1 c hc
        rw [fc c (by omega)]
        by_cases z : c + 1 = (zI κ38 weKnots a0).toInt.toNat
        · rw [z, fK]; omega
        · rw [fc (c + 1) z]
          have b2 := b (by omega)
          have a2 := (o.2.1 (c + 1) (by omega)).1
          omega
      · obtain ⟨a, b, c, d⟩ := o.1 i (by omega)
        have kb := cnk b.1
        refine ⟨a, b, ?_, ?_⟩
        · rw [fc _ (by omega)]; exact c
        · by_cases z : (zA κ38 (zR κ38 weKnotOf a0) (zA κ38 (zR κ38 weOrder a0) i).toNatClampNeg).toNatClampNeg + 1 = (zI κ38 weKnots a0).toInt.toNat
          · rw [z, fK]; omega
          · rw [fc _ z]; exact d (by omega)
      · have nz : zA κ38 (zR κ38 weKnotOf a0) s ≠ -1 := fun z => by
          obtain ⟨i, g1, g2⟩ := h.2.2.2.1 s hs (s38 s (by omega)) z
          omega
        obtain ⟨i, g1, g2⟩ := o.2.2 s hs nz
        exact ⟨i, by omega, g2⟩
  · skip
    rw [lei, tt] at c19
    have e1 := cn1 k38.1 (by omega)
    refine ⟨?_, ?_⟩
    · rw [rr, nn, inb_iff]; omega  -- b4
    refine ⟨fun c22 => ?_, fun c22 => ?_⟩
    · skip
      intro x23 hx23
      refine ⟨_, ?_, rfl, ?_⟩
      · rw [hn38, hx23, e1.2]; omega  -- d5
      · refine ⟨rfl, E38, Z38, h38, by rw [hx23, e1.2]; omega, fun s hs => ?_⟩
        rw [hx23, e1.2] at hs
        by_cases z : s = x38_1.toNatClampNeg
        · rw [z]; exact c22
        · exact s38 s (by omega)
    · skip
      intro T24
      refine We_follow_c W38 T24 m9 ?_ (fun κ_25 q26 => ?_)
      · have W9 := kn_r W Ta0 E38 (f := weFirsts) (by decide) (by decide)
        have W8 := kn_r W Ta0 E38 (f := weTargets) (by decide) (by decide)
        exact ⟨weM_K E38 M, ⟨by rw [tt]; exact tn, n1⟩, by rw [rr, nn, W9, W8]; exact wo, by rw [rr, nn]; exact lT, Z38, h38, by omega, c22⟩
      intro W27
      intro M28
      intro x29 hx29
      refine ⟨_, ?_, rfl, ?_⟩
      · rw [hn38, hx29, e1.2]; omega  -- d8
      · refine ⟨rfl, E38.tr q26.1, q26.2.1, q26.2.2.1, by rw [hx29, e1.2]; omega, fun s hs => ?_⟩
        rw [hx29, e1.2] at hs
        by_cases z : s = x38_1.toNatClampNeg
        · rw [z]; exact q26.2.2.2.2
        · exact q26.2.2.2.1 s (by omega) (s38 s (by omega))

theorem We_sizeOf_c {C : zC} {n0 : Nat} {a0 : Nat} {a1 : Int32} {κ : zS} {Q : Int32 → zS → Prop} (W : zW C n0 κ) (Ta0 : zT κ a0 = 14) (m9 : Nat) (hp : weM κ a0 ∧ m9 ≤ 1000 ∧ weKn κ a0 m9 ∧ (0 ≤ a1.toInt ∧ a1.toInt < (zI κ weKnots a0).toInt)) (h : ∀ (v : Int32), (v.toInt = (zA κ (zR κ weKnotFirsts a0) (a1.toNatClampNeg + 1)).toInt - (zA κ (zR κ weKnotFirsts a0) a1.toNatClampNeg).toInt ∧ 1 ≤ v.toInt ∧ v.toInt ≤ m9) → Q v κ) : zRun C 0 mWe_sizeOf [.ref a0, .int a1] κ (oI Q noX) := by
  refine We_sizeOf_run W Ta0 ?_
  replace W := W.lo (Nat.le_trans W.1.2.1 W.1.2.2) (Nat.le_refl (zn κ))
  unfold w_We_sizeOf_0
  obtain ⟨M, n1, K, k1⟩ := hp
  have m4 := M.2.2.2.1
  have kb := K.1
  have e := cn1 k1.1 (by omega)
  have kk := cnk k1.1
  have q := K.2.1 a1.toNatClampNeg (by omega)
  refine ⟨?_, ?_⟩
  · rw [inb_iff, e.2]; omega  -- b1
  refine ⟨?_, ?_⟩
  · rw [inb_iff]; omega  -- b2
  refine h _ ?_
  · rw [e.1]
    have z := sub_i (x := zA κ (zR κ weKnotFirsts a0) (a1.toNatClampNeg + 1)) (y := zA κ (zR κ weKnotFirsts a0) a1.toNatClampNeg) (by omega) (by omega)
    rw [z]
    exact ⟨rfl, by omega, by omega⟩

theorem We_isRing_c {C : zC} {n0 : Nat} {a0 : Nat} {a1 : Int32} {κ : zS} {Q : Int32 → zS → Prop} (W : zW C n0 κ) (Ta0 : zT κ a0 = 14) (m9 : Nat) (hp : weM κ a0 ∧ m9 ≤ 1000 ∧ weKn κ a0 m9 ∧ (0 ≤ a1.toInt ∧ a1.toInt < (zI κ weKnots a0).toInt) ∧ wfO m9 ((zN κ (zR κ weTargets a0))) (zA κ (zR κ weFirsts a0)) (zA κ (zR κ weTargets a0)) ∧ (zN κ (zR κ weTargets a0)) ≤ 20000) (h : ∀ (v : Int32), (nb v) → Q v κ) : zRun C 1 mWe_isRing [.ref a0, .int a1] κ (oI Q noX) := by
  refine We_isRing_run W Ta0 ?_
  replace W := W.lo (Nat.le_trans W.1.2.1 W.1.2.2) (Nat.le_refl (zn κ))
  unfold w_We_isRing_0
  obtain ⟨M, n1, K, k1, wo, lT⟩ := hp
  have m4 := M.2.2.2.1
  have m6 := M.2.2.2.2.2.1
  have m1 := M.1
  have kb := K.1
  have kk := cnk k1.1
  have q := K.2.1 a1.toNatClampNeg (by omega)
  have kc := cnk (x := zA κ (zR κ weKnotFirsts a0) a1.toNatClampNeg) (by omega)
  have oo := K.2.2.1 (zA κ (zR κ weKnotFirsts a0) a1.toNatClampNeg).toNatClampNeg (by omega)
  intro T1
  refine We_sizeOf_c W T1 m9 ?_ (fun r2 q4 => ?_)
  · exact ⟨M, n1, K, k1⟩  -- p1
  intro W5
  intro M6
  refine ⟨fun c7 => ?_, fun c7 => ?_⟩
  · skip
    refine ⟨?_, ?_⟩
    · rw [inb_iff]; omega  -- b2
    refine ⟨?_, ?_⟩
    · rw [inb_iff]; omega  -- b3
    intro x8 hx8
    have o1 := oo.1
    rw [← hx8] at o1
    have k8 := cnk o1.1
    have e8 := cn1 o1.1 (by omega)
    have w1 := wo.1 x8.toNatClampNeg (by omega)
    have w2 := wo.1 (x8.toNatClampNeg + 1) (by omega)
    have wL := wo.2.2.1
    refine ⟨?_, ?_⟩
    · rw [inb_iff]; omega  -- b4
    intro x9 hx9
    unfold w_We_isRing_30
    refine ⟨fun n l0 l2 l3 τ => n = (20000 - l3.toInt).toNat ∧ (κ = τ ∧ a0 = l0 ∧ x8 = l2 ∧ (zA κ (zR κ weFirsts a0) x8.toNatClampNeg).toInt ≤ l3.toInt), ⟨_, rfl, ?_⟩, ?_⟩
    · exact ⟨rfl, rfl, rfl, by rw [hx9]; exact Int.le_refl _⟩  -- j5
    rintro n30 _ x30_2 x30_3 _ W30 T30_0 ⟨hn30, rfl, rfl, i30⟩
    obtain ⟨rfl, l3⟩ := i30
    refine ⟨?_, ?_⟩
    · rw [inb_iff, e8.2]; omega  -- b6
    refine ⟨fun c10 => ?_, fun c10 => ?_⟩
    · skip
      refine h _ ?_
      · exact nb_0  -- q7
    · skip
      rw [lei, e8.1] at c10
      have e3 := cn1 (x := x30_3) (by omega) (by omega)
      refine ⟨?_, ?_⟩
      · rw [inb_iff]; omega  -- b8
      refine ⟨fun c11 => ?_, fun c11 => ?_⟩
      · skip
        intro x12 hx12
        refine ⟨_, ?_, rfl, ?_⟩
        · rw [hn30, hx12, e3.2]; omega  -- d9
        · exact ⟨rfl, rfl, rfl, by rw [hx12, e3.2]; omega⟩  -- i10
      · skip
        refine h _ ?_
        · exact nb_1  -- q11
  · skip
    refine h _ ?_
    · exact nb_1  -- q12
