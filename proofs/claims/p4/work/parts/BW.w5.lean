set_option maxHeartbeats 1600000
/-! the class: Web's follow, knot, sizeOf, isRing -/
/-- 64 bits -/
theorem jadd_i {x y : Int64} (h1 : -9223372036854775808 ≤ x.toInt + y.toInt) (h2 : x.toInt + y.toInt < 9223372036854775808) : (x + y).toInt = x.toInt + y.toInt := by
  rw [Int64.toInt_add]; exact Int.bmod_eq_of_le (by omega) (by omega)
theorem jsub_i {x y : Int64} (h1 : -9223372036854775808 ≤ x.toInt - y.toInt) (h2 : x.toInt - y.toInt < 9223372036854775808) : (x - y).toInt = x.toInt - y.toInt := by
  rw [Int64.toInt_sub]; exact Int.bmod_eq_of_le (by omega) (by omega)
theorem jmul_i {x y : Int64} (h1 : -9223372036854775808 ≤ x.toInt * y.toInt) (h2 : x.toInt * y.toInt < 9223372036854775808) : (x * y).toInt = x.toInt * y.toInt := by
  rw [Int64.toInt_mul]; exact Int.bmod_eq_of_le (by omega) (by omega)
theorem jlei {x y : Int64} : x ≤ y ↔ x.toInt ≤ y.toInt := Int64.le_iff_toInt_le
theorem jlti {x y : Int64} : x < y ↔ x.toInt < y.toInt := Int64.lt_iff_toInt_lt
def tjZ (τ : zS) (a n : Nat) (d : Int) : Prop := tjC n (zA τ (zR τ weSeen a)) ((zI τ weHeaped a).toInt) ((zI τ wePlaced a).toInt) ((zI τ weStamp a).toInt) ((zI τ weKnots a).toInt) d ∧ tjH n (zA τ (zR τ weSeen a)) (zA τ (zR τ weLow a)) (zA τ (zR τ weHeap a)) (zA τ (zR τ weKnotOf a)) ((zI τ weHeaped a).toInt) ((zI τ weStamp a).toInt) ∧ tjP (zA τ (zR τ weSeen a)) (zA τ (zR τ wePath a)) (zA τ (zR τ weHeap a)) ((zI τ weHeaped a).toInt) d ∧ tjO n (zA τ (zR τ weKnotOf a)) (zA τ (zR τ weOrder a)) (zA τ (zR τ weKnotFirsts a)) ((zI τ wePlaced a).toInt) ((zI τ weKnots a).toInt) ∧ tjU n (zA τ (zR τ weFirsts a)) (zA τ (zR τ weSeen a)) (zA τ (zR τ weCursor a))
def tjG (τ : zS) (a n : Nat) : Int := tjF n (zA τ (zR τ weFirsts a)) (zA τ (zR τ weSeen a)) (zA τ (zR τ weCursor a))
/-- who was seen is seen -/
def snG (κ τ : zS) (a n : Nat) : Prop := ∀ s, s < n → zA κ (zR κ weSeen a) s ≠ 0 → zA τ (zR τ weSeen a) s ≠ 0
theorem tjP_m {sn pa hp : Nat → Int32} {H d : Int} (p : tjP sn pa hp H d) : ∀ {j i : Nat}, i < j → (j : Int) < d → (sn (pa i).toNatClampNeg).toInt < (sn (pa j).toNatClampNeg).toInt := by
  intro j
  induction j with
  | zero => intro i h1; exact absurd h1 (Nat.not_lt_zero _)
  | succ j ih =>
    intro i h1 h2
    have a := p.2.1 j (by omega)
    by_cases z : i = j
    · rw [z]; exact a
    · have b := ih (i := i) (by omega) (by omega)
      omega
/-- a state is come to -/
theorem tjZ_v {C : zC} {n0 a n : Nat} {κ τ : zS} {x d9 : Int32} (W : zW C n0 κ) (T : zT κ a = 14) (hn : n ≤ 1000) (w : ∀ k, k < n → (zA κ (zR κ weFirsts a) k).toInt ≤ (zA κ (zR κ weFirsts a) (k + 1)).toInt) (Z : tjZ κ a n d9.toInt) (d0 : d9.toInt = 0 → (zI κ weHeaped a).toInt = 0) (hx : 0 ≤ x.toInt ∧ x.toInt < n) (hs : zA κ (zR κ weSeen a) x.toNatClampNeg = 0) (R : visR κ τ a x.toNatClampNeg x d9.toNatClampNeg) : tjZ τ a n (d9.toInt + 1) ∧ tjG τ a n = tjG κ a n - 1 ∧ snG κ τ a n ∧ zA τ (zR τ weSeen a) x.toNatClampNeg ≠ 0 ∧ 0 < (zI τ weHeaped a).toInt := by
  obtain ⟨c, h, p, o, u⟩ := Z
  obtain ⟨E, r1, r2, r3, r4, r5, ⟨s1, s2, s3⟩, i1, i2, i3, i4⟩ := R
  have kx := cnk hx.1
  have cc := c
  obtain ⟨c1, c2, c3, c4⟩ := c
  have cb := cBq_le (f := zA κ (zR κ weSeen a)) (n := n)
  have eS := cn1 (x := zI κ weStamp a) (by omega) (by omega)
  have eH := cn1 (x := zI κ weHeaped a) (by omega) (by omega)
  have wfr := kn_r W T E (f := weFirsts) (by decide) (by decide)
  have r := E.2.1
  have q := tj_v cc h p u d0 hn w (by omega) hs eS.2 kx.symm r1 r2 r3 r4 r5
  obtain ⟨q1, q2, q3, q4, q5⟩ := q
  refine ⟨?_, ?_, ?_, ?_, ?_⟩
  · unfold tjZ
    rw [r, i1, i2, i3, i4, s1, s2, s3, wfr, eS.2, eH.2]
    exact ⟨q1, q2, q3, o, q4⟩
  · unfold tjG
    rw [r, wfr]
    exact q5
  · intro s hs2 h9
    rw [r, r1]
    by_cases z : s = x.toNatClampNeg
    · rw [z] at h9
      exact absurd hs h9
    · have e : upd (zA κ (zR κ weSeen a)) x.toNatClampNeg (zI κ weStamp a + 1) s = zA κ (zR κ weSeen a) s := if_neg z
      rw [e]; exact h9
  · rw [r, r1]
    have e : upd (zA κ (zR κ weSeen a)) x.toNatClampNeg (zI κ weStamp a + 1) x.toNatClampNeg = zI κ weStamp a + 1 := if_pos rfl
    rw [e]
    intro z
    have y := eS.2
    rw [z, t0i] at y
    omega
  · rw [i2, eH.2]; omega
/-- a knot is tied -/
theorem tjZ_t {C : zC} {n0 a n pos : Nat} {κ τ : zS} {x : Int32} {d : Int} (W : zW C n0 κ) (T : zT κ a = 14) (hn : n ≤ 1000) (d0 : 0 ≤ d) (Z : tjC n (zA κ (zR κ weSeen a)) ((zI κ weHeaped a).toInt) ((zI κ wePlaced a).toInt) ((zI κ weStamp a).toInt) ((zI κ weKnots a).toInt) (d + 1) ∧ tjZ κ a n d) (hq : (pos : Int) < (zI κ weHeaped a).toInt) (ek : zA κ (zR κ weHeap a) pos = x) (hk : ∀ j : Nat, (j : Int) < d → (zA κ (zR κ weSeen a) (zA κ (zR κ wePath a) j).toNatClampNeg).toInt < (zA κ (zR κ weSeen a) x.toNatClampNeg).toInt) (hd : d = 0 → pos = 0) (S : tiS κ τ a) (h9 : (zI τ weHeaped a).toInt = (pos : Int)) (k9 : (zI τ weKnots a).toInt = (zI κ weKnots a).toInt + 1) : tjZ τ a n d ∧ tjG τ a n = tjG κ a n ∧ snG κ τ a n ∧ (d = 0 → (zI τ weHeaped a).toInt = 0) := by
  obtain ⟨cc, c, h, p, o, u⟩ := Z
  obtain ⟨E, L, F, St, R⟩ := S
  have wfr := kn_r W T E (f := weFirsts) (by decide) (by decide)
  have r := E.2.1
  rw [h9] at R
  have kn : (zI κ weKnots a).toNatClampNeg = (zI κ weKnots a).toInt.toNat := rfl
  rw [kn] at F
  obtain ⟨q1, q2, q3, q4, q5⟩ := tj_t (k := x.toNatClampNeg) cc d0 h p o hq (by rw [ek]) hk hd R rfl rfl F
  have gS := L weSeen (by decide)
  refine ⟨?_, ?_, fun s hs h7 => ?_, fun z => by rw [h9]; exact q5 z⟩
  · unfold tjZ
    rw [r, h9, k9, St, gS, L weLow (by decide), L weHeap (by decide), L wePath (by decide), L weCursor (by decide), wfr]
    exact ⟨q1, q2, q3, q4, u⟩
  · unfold tjG
    rw [r, gS, wfr, L weCursor (by decide)]
  · rw [r, gS]; exact h7
/-- a row of one kind alone was written -/
theorem tjZ_l {C : zC} {n0 a n k : Nat} {κ τ : zS} {x : Int32} {d : Int} (W : zW C n0 κ) (T : zT κ a = 14) (Z : tjZ κ a n d) (x1 : (zA κ (zR κ weSeen a) (zA κ (zR κ weHeap a) 0).toNatClampNeg).toInt ≤ x.toInt) (x2 : x.toInt ≤ (zA κ (zR κ weLow a) k).toInt) (e : τ = ua κ (zR κ weLow a) k x) : knE κ τ a ∧ tjZ τ a n d ∧ tjG τ a n = tjG κ a n ∧ snG κ τ a n ∧ zI τ = zI κ ∧ (∀ g, g ∈ weRf → g ≠ weLow → zA τ (zR κ g a) = zA κ (zR κ g a)) := by
  obtain ⟨c, h, p, o, u⟩ := Z
  obtain ⟨u1, u2, u3, u4, u5⟩ := kn_u W T (f := weLow) (by decide) (by decide) e
  have r := u1.2.1
  have gS := u4 weSeen (by decide) (by decide)
  have gF := u4 weFirsts (by decide) (by decide)
  have gC := u4 weCursor (by decide) (by decide)
  refine ⟨u1, ?_, ?_, fun s hs h7 => ?_, u2, u4⟩
  · unfold tjZ
    rw [r, u2, gS, gF, gC, u4 weHeap (by decide) (by decide), u4 wePath (by decide) (by decide), u4 weKnotOf (by decide) (by decide), u4 weOrder (by decide) (by decide), u4 weKnotFirsts (by decide) (by decide)]
    exact ⟨c, tjH_l h u3 x1 x2, p, o, u⟩
  · unfold tjG
    rw [r, gS, gF, gC]
  · rw [r, gS]; exact h7
theorem tjZ_c {C : zC} {n0 a n k : Nat} {κ τ : zS} {x : Int32} {d : Int} (W : zW C n0 κ) (T : zT κ a = 14) (Z : tjZ κ a n d) (hk : k < n) (hs : zA κ (zR κ weSeen a) k ≠ 0) (hc : (zA κ (zR κ weCursor a) k).toInt < (zA κ (zR κ weFirsts a) (k + 1)).toInt) (ex : x.toInt = (zA κ (zR κ weCursor a) k).toInt + 1) (e : τ = ua κ (zR κ weCursor a) k x) : knE κ τ a ∧ tjZ τ a n d ∧ tjG τ a n = tjG κ a n - 1 ∧ snG κ τ a n ∧ zI τ = zI κ ∧ (∀ g, g ∈ weRf → g ≠ weCursor → zA τ (zR κ g a) = zA κ (zR κ g a)) ∧ zT τ a = 14 := by
  obtain ⟨c, h, p, o, u⟩ := Z
  obtain ⟨u1, u2, u3, u4, u5⟩ := kn_u W T (f := weCursor) (by decide) (by decide) e
  have r := u1.2.1
  have gS := u4 weSeen (by decide) (by decide)
  have gF := u4 weFirsts (by decide) (by decide)
  refine ⟨u1, ?_, ?_, fun s hs h7 => ?_, u2, u4, u5⟩
  · unfold tjZ
    rw [r, u2, gS, gF, u4 weLow (by decide) (by decide), u4 weHeap (by decide) (by decide), u4 wePath (by decide) (by decide), u4 weKnotOf (by decide) (by decide), u4 weOrder (by decide) (by decide), u4 weKnotFirsts (by decide) (by decide)]
    exact ⟨c, h, p, o, tjU_c u hc u3 ex⟩
  · unfold tjG
    rw [r, gS, gF]
    exact tjF_c hk hs u3 ex
  · rw [r, gS]; exact h7
theorem snG.tr {κ τ σ : zS} {a n : Nat} (h : snG κ τ a n) (g : snG τ σ a n) : snG κ σ a n := fun s hs z => g s hs (h s hs z)
/-- the last state of the path -/
theorem tjZ_k {κ : zS} {a n : Nat} {d : Int} (Z : tjZ κ a n d) (h : 0 < d) : ∃ pos : Nat, (pos : Int) < (zI κ weHeaped a).toInt ∧ zA κ (zR κ weHeap a) pos = zA κ (zR κ wePath a) (d - 1).toNat ∧ (d = 1 → pos = 0) ∧ (0 ≤ (zA κ (zR κ wePath a) (d - 1).toNat).toInt ∧ (zA κ (zR κ wePath a) (d - 1).toNat).toInt < n) ∧ zA κ (zR κ weSeen a) (zA κ (zR κ wePath a) (d - 1).toNat).toNatClampNeg ≠ 0 ∧ (zA κ (zR κ weSeen a) (zA κ (zR κ weHeap a) 0).toNatClampNeg).toInt ≤ (zA κ (zR κ weLow a) (zA κ (zR κ wePath a) (d - 1).toNat).toNatClampNeg).toInt ∧ (zA κ (zR κ weLow a) (zA κ (zR κ wePath a) (d - 1).toNat).toNatClampNeg).toInt ≤ (zA κ (zR κ weSeen a) (zA κ (zR κ wePath a) (d - 1).toNat).toNatClampNeg).toInt := by
  obtain ⟨c, h1, p, o, u⟩ := Z
  obtain ⟨i, g1, g2⟩ := p.1 (d - 1).toNat (by omega)
  have q := h1.1 i g1
  have qq := h1
  rw [← g2]
  refine ⟨i, g1, rfl, fun z => ?_, q.1, q.2.1, q.2.2.2.1, q.2.2.2.2⟩
  have e : (d - 1).toNat = 0 := by omega
  have y := p.2.2 h
  rw [e, y] at g2
  exact tjH_i qq g1 (by omega) (by rw [g2])
theorem foF {L n : Int} {x y : Int32} (hx : 0 ≤ x.toInt ∧ x.toInt ≤ 20000) (hy : 0 ≤ y.toInt ∧ y.toInt ≤ 1000) : ((2 : Int64) * Int32.toInt64 (x + y) + 2).toInt = 2 * (x.toInt + y.toInt) + 2 := by
  have e : (x + y).toInt = x.toInt + y.toInt := add_i (by omega) (by omega)
  have e1 : (Int32.toInt64 (x + y)).toInt = x.toInt + y.toInt := by rw [Int32.toInt_toInt64, e]
  have z2 : (2 : Int64).toInt = 2 := rfl
  have e2 : ((2 : Int64) * Int32.toInt64 (x + y)).toInt = 2 * (x.toInt + y.toInt) := by rw [jmul_i (by rw [e1, z2]; omega) (by rw [e1, z2]; omega), e1, z2]
  rw [jadd_i (by rw [e2, z2]; omega) (by rw [e2, z2]; omega), e2, z2]
theorem tjZ_d {κ : zS} {a n : Nat} {d : Int} (Z : tjZ κ a n d) (h : 0 < d) : tjZ κ a n (d - 1) := by
  obtain ⟨c, h1, p, o, u⟩ := Z
  obtain ⟨c1, c2, c3, c4⟩ := c
  exact ⟨⟨by omega, c2, c3, by omega⟩, h1, ⟨fun j hj => p.1 j (by omega), fun j hj => p.2.1 j (by omega), fun _ => p.2.2 h⟩, o, u⟩
theorem cBq_lt {f : Nat → Int32} {n k : Nat} (hk : k < n) (h : f k = 0) : cBq f n < n := by
  have a := cBq_up (x := 1) hk h (by decide)
  have b := cBq_le (f := upd f k 1) (n := n)
  omega
/-- on the way along the links -/
def foI (κ τ : zS) (a n r : Nat) (d : Int32) : Prop := knE κ τ a ∧ tjZ τ a n d.toInt ∧ (d.toInt = 0 → (zI τ weHeaped a).toInt = 0) ∧ snG κ τ a n ∧ zA τ (zR τ weSeen a) r ≠ 0
theorem We_follow_c {C : zC} {n0 : Nat} {a0 : Nat} {a1 : Int32} {κ : zS} {Q : zS → Prop} (W : zW C n0 κ) (Ta0 : zT κ a0 = 14) (m9 : Nat) (hp : weM κ a0 ∧ ((zI κ weTotal a0).toInt = (m9 : Int) ∧ m9 ≤ 1000) ∧ wfO m9 ((zN κ (zR κ weTargets a0))) (zA κ (zR κ weFirsts a0)) (zA κ (zR κ weTargets a0)) ∧ (zN κ (zR κ weTargets a0)) ≤ 20000 ∧ tjZ κ a0 m9 0 ∧ (zI κ weHeaped a0).toInt = 0 ∧ (0 ≤ a1.toInt ∧ a1.toInt < m9) ∧ zA κ (zR κ weSeen a0) a1.toNatClampNeg = 0) (h : ∀ (κ' : zS), (knE κ κ' a0 ∧ tjZ κ' a0 m9 0 ∧ (zI κ' weHeaped a0).toInt = 0 ∧ snG κ κ' a0 m9 ∧ zA κ' (zR κ' weSeen a0) a1.toNatClampNeg ≠ 0) → Q κ') : zRun C 1 mWe_follow [.ref a0, .int a1] κ (oV Q noX) := by
  refine We_follow_run W Ta0 ?_
  replace W := W.lo (Nat.le_trans W.1.2.1 W.1.2.2) (Nat.le_refl (zn κ))
  unfold w_We_follow_0
  obtain ⟨M, ⟨tn, n1⟩, wo, lT, Z0, h0, k1, s0⟩ := hp
  have M9 := M
  obtain ⟨M1, M2, M3, M4, M5, M6, M7, M8, M09, M10, M11⟩ := M9
  have kn1 := cnk k1.1
  have wn := wo.1 m9 (Nat.le_refl _)
  have wL := wo.2.2.1
  intro T1
  refine We_visit_c W T1  ?_ (fun κ_2 q3 => ?_)
  · exact ⟨M, by omega, by decide, by omega⟩  -- p1
  have E2 := q3.1
  have V := tjZ_v (d9 := 0) W Ta0 n1 wo.2.1 Z0 (fun _ => h0) k1 s0 q3
  have tt : zI κ_2 weTotal a0 = zI κ weTotal a0 := E2.1.i (fun z => absurd z.2 (by decide))
  intro W4
  intro M5
  refine ⟨?_, ?_⟩
  · rw [E2.2.1, E2.2.2, tt, inb_iff]; omega  -- b2
  intro x6 hx6
  unfold w_We_follow_35
  refine ⟨fun n l0 l2 l3 l5 τ => n = (tjG τ a0 m9 + l2.toInt).toNat ∧ (a0 = l0 ∧ foI κ τ a0 m9 a1.toNatClampNeg l2 ∧ l3.toInt = 2 * ((zA κ (zR κ weFirsts a0) m9).toInt + m9) + 2 ∧ 0 ≤ l5.toInt ∧ l5.toInt + tjG τ a0 m9 + l2.toInt ≤ (zA κ (zR κ weFirsts a0) m9).toInt + m9 + 1), ⟨_, rfl, ?_⟩, ?_⟩
  · have W2 := kn_r W Ta0 E2 (f := weFirsts) (by decide) (by decide)
    have tk : (zI κ weTotal a0).toNatClampNeg = m9 := by
      have := cnk (x := zI κ weTotal a0) (by omega)
      omega
    have b := tjF_b Z0.2.2.2.2 (Nat.le_refl m9)
    have w0 := (wo.1 0 (Nat.zero_le _)).1
    have g9 := V.2.1
    have gk : tjG κ a0 m9 ≤ (zA κ (zR κ weFirsts a0) m9).toInt - (zA κ (zR κ weFirsts a0) 0).toInt + m9 := b
    have z1 : (1 : Int32).toInt = 1 := rfl
    have z0 : (0 : Int64).toInt = 0 := rfl
    refine ⟨rfl, ⟨E2, V.1, fun z => absurd z (by decide), V.2.2.1, V.2.2.2.1⟩, ?_, by decide, by rw [z0, z1]; omega⟩
    rw [hx6, E2.2.1, tt, W2, tk, foF (L := 0) (n := 0) (by omega) (by omega)]
    omega
  rintro n35 _ x35_2 x35_3 x35_5 κ35 W35 T35_0 ⟨hn35, rfl, i35⟩
  obtain ⟨⟨E35, Z35, d35, s35, r35⟩, l35, p35, f35⟩ := i35
  have rr := E35.2.1
  have nn := E35.2.2
  have W9 := kn_r W Ta0 E35 (f := weFirsts) (by decide) (by decide)
  have W8 := kn_r W Ta0 E35 (f := weTargets) (by decide) (by decide)
  have G0 : 0 ≤ tjG κ35 a0 m9 := tjF_p Z35.2.2.2.2 (fun k hk => by rw [rr, W9]; exact wo.2.1 k hk)
  have dd := Z35.1.1
  have db := Z35.1.2.2.2
  have db1 := Z35.1.2.2.1
  have db2 := cBq_le (f := zA κ35 (zR κ35 weSeen a0)) (n := m9)
  have hj225 : ∀ (l0 : Nat) (l2 : Int32) (l3 : Int64) (l5 : Int64) (τ : zS), zW C (zn κ) τ → zT τ l0 = 14 → (a0 = l0 ∧ foI κ τ a0 m9 a1.toNatClampNeg l2 ∧ x35_3 = l3 ∧ x35_5 = l5 ∧ tjG τ a0 m9 + l2.toInt + 1 = tjG κ35 a0 m9 + x35_2.toInt ∧ 0 ≤ tjG τ a0 m9 + l2.toInt ∧ x35_5.toInt < x35_3.toInt) → w_We_follow_225 C (zn κ) Q (fun (l0' : Nat) (l2' : Int32) (l3' : Int64) (l5' : Int64) (τ : zS) => ∃ k < n35, (fun (n : Nat) (l0 : Nat) (l2 : Int32) (l3 : Int64) (l5 : Int64) (τ : zS) => n = (tjG τ a0 m9 + l2.toInt).toNat ∧ (a0 = l0 ∧ foI κ τ a0 m9 a1.toNatClampNeg l2 ∧ l3.toInt = 2 * ((zA κ (zR κ weFirsts a0) m9).toInt + m9) + 2 ∧ 0 ≤ l5.toInt ∧ l5.toInt + tjG τ a0 m9 + l2.toInt ≤ (zA κ (zR κ weFirsts a0) m9).toInt + m9 + 1)) k l0' l2' l3' l5' τ) l0 l2 l3 l5 τ := by
    rintro _ y225_2 y225_3 y225_5 τ225 W225 T225_0 ⟨rfl, j225⟩
    unfold w_We_follow_225
    intro x7 hx7
    refine ⟨_, ?_, rfl, ?_⟩
    · obtain ⟨F, rfl, rfl, g, g0, lt⟩ := j225
      rw [hn35]; omega
    · obtain ⟨F, rfl, rfl, g, g0, lt⟩ := j225
      have z1 : (1 : Int64).toInt = 1 := rfl
      have e : (x35_5 + 1).toInt = x35_5.toInt + 1 := by rw [jadd_i (by rw [z1]; omega) (by rw [z1]; omega), z1]
      exact ⟨rfl, F, l35, by rw [hx7, e]; omega, by rw [hx7, e]; omega⟩
  have hj202 : ∀ (l0 : Nat) (l2 : Int32) (l3 : Int64) (l5 : Int64) (l7 : Int32) (τ : zS), zW C (zn κ) τ → zT τ l0 = 14 → (a0 = l0 ∧ (knE κ τ a0 ∧ snG κ τ a0 m9 ∧ zA τ (zR τ weSeen a0) a1.toNatClampNeg ≠ 0) ∧ x35_3 = l3 ∧ x35_5 = l5 ∧ x35_5.toInt < x35_3.toInt ∧ 0 ≤ l2.toInt ∧ (tjC m9 (zA τ (zR τ weSeen a0)) ((zI τ weHeaped a0).toInt) ((zI τ wePlaced a0).toInt) ((zI τ weStamp a0).toInt) ((zI τ weKnots a0).toInt) (l2.toInt + 1) ∧ tjZ τ a0 m9 l2.toInt) ∧ tjG τ a0 m9 + l2.toInt + 1 = tjG κ35 a0 m9 + x35_2.toInt ∧ (0 ≤ l7.toInt ∧ l7.toInt < m9) ∧ ∃ pos : Nat, (pos : Int) < (zI τ weHeaped a0).toInt ∧ zA τ (zR τ weHeap a0) pos = l7 ∧ (l2.toInt = 0 → pos = 0) ∧ (∀ j : Nat, (j : Int) < l2.toInt → (zA τ (zR τ weSeen a0) (zA τ (zR τ wePath a0) j).toNatClampNeg).toInt < (zA τ (zR τ weSeen a0) l7.toNatClampNeg).toInt)) → w_We_follow_202 C (zn κ) Q (fun (l0' : Nat) (l2' : Int32) (l3' : Int64) (l5' : Int64) (τ : zS) => ∃ k < n35, (fun (n : Nat) (l0 : Nat) (l2 : Int32) (l3 : Int64) (l5 : Int64) (τ : zS) => n = (tjG τ a0 m9 + l2.toInt).toNat ∧ (a0 = l0 ∧ foI κ τ a0 m9 a1.toNatClampNeg l2 ∧ l3.toInt = 2 * ((zA κ (zR κ weFirsts a0) m9).toInt + m9) + 2 ∧ 0 ≤ l5.toInt ∧ l5.toInt + tjG τ a0 m9 + l2.toInt ≤ (zA κ (zR κ weFirsts a0) m9).toInt + m9 + 1)) k l0' l2' l3' l5' τ) l0 l2 l3 l5 l7 τ := by
    rintro _ y202_2 y202_3 y202_5 y202_7 τ202 W202 T202_0 ⟨rfl, j202⟩
    unfold w_We_follow_202
    obtain ⟨⟨E, sg, sr⟩, rfl, rfl, lt, d0, Z, g, k7, pos, hq, ek, hd, hk⟩ := j202
    have r := E.2.1
    have nE := E.2.2
    have k7n := cnk k7.1
    have W7 := kn_r W Ta0 E (f := weFirsts) (by decide) (by decide)
    have G := tjF_p Z.2.2.2.2.2 (fun k hk => by rw [r, W7]; exact wo.2.1 k hk)
    have G9 : 0 ≤ tjG τ202 a0 m9 := G
    refine ⟨?_, ?_⟩
    · rw [r, nE, inb_iff]; omega  -- b6
    refine ⟨?_, ?_⟩
    · rw [r, nE, inb_iff]; omega  -- b7
    refine ⟨fun c8 => ?_, fun c8 => ?_⟩
    · skip
      refine hj225 _ _ _ _ _ W202 ?_ ?_
      · exact T202_0  -- t8
      · refine ⟨rfl, ⟨E, Z.2, fun z => ?_, sg, sr⟩, rfl, rfl, g, by omega, lt⟩
        have q := Z.2.2.1.1 pos hq
        have e9 := hd z
        rw [e9] at q ek
        rw [ek] at q
        exact absurd (Int32.toInt_inj.mp (by omega)) c8
    · skip
      intro T9
      refine We_tie_c W202 T9 pos m9 ?_ (fun κ_10 q11 => ?_)
      · have c1 := Z.1.1
        have c2 := Z.1.2.1
        have c3 := Z.1.2.2.1
        have c4 := Z.1.2.2.2
        have cb := cBq_le (f := zA τ202 (zR τ202 weSeen a0)) (n := m9)
        exact ⟨weM_K E M, ⟨by rw [E.1.i (fun z => absurd z.2 (by decide))]; exact tn, n1⟩, by omega, by omega, hq, by omega, fun i hi => (Z.2.2.1.1 i hi).1, ek, fun i hi e => tjH_i Z.2.2.1 hi hq (by rw [e, ek])⟩
      intro W12
      intro M13
      refine hj225 _ _ _ _ _ W12 ?_ ?_
      · exact q11.1.1.1.t T202_0 (by decide)  -- t11
      · obtain ⟨Z1, G1, s1, h1⟩ := tjZ_t W202 T202_0 n1 d0 Z hq ek hk hd q11.1 q11.2.1 q11.2.2
        exact ⟨rfl, ⟨E.tr q11.1.1, Z1, h1, sg.tr s1, s1 _ (by omega) sr⟩, rfl, rfl, by rw [G1]; exact g, by rw [G1]; omega, lt⟩
  refine ⟨fun c14 => ?_, fun c14 => ?_⟩
  · skip
    refine h _ ?_
    · rw [lg_cmp_ge, jlei] at c14
      exfalso
      omega
  · skip
    refine ⟨fun c15 => ?_, fun c15 => ?_⟩
    · skip
      refine h _ ?_
      · rw [lei, t0i] at c15
        have e : x35_2.toInt = 0 := by omega
        rw [e] at Z35
        exact ⟨E35, Z35, d35 e, s35, r35⟩
    · skip
      rw [lei, t0i] at c15
      rw [lg_cmp_ge, jlei] at c14
      obtain ⟨pos, hq, ek, hd1, kr, ks, kl1, kl2⟩ := tjZ_k Z35 (by omega)
      have d1 : (x35_2 - 1).toInt = x35_2.toInt - 1 := dec_i (by omega)
      have nd : (x35_2 - 1).toNatClampNeg = (x35_2.toInt - 1).toNat := by
        have := cnk (x := x35_2 - 1) (by omega)
        omega
      have lt : x35_5.toInt < x35_3.toInt := by omega
      refine ⟨?_, ?_⟩
      · rw [rr, nn, inb_iff, d1]; omega  -- b15
      intro x16 hx16
      rw [nd] at hx16
      have kp := kr
      rw [← hx16] at ek kr ks kl1 kl2
      have k16 := cnk kr.1
      have e16 := cn1 kr.1 (by omega)
      refine ⟨?_, ?_⟩
      · rw [rr, nn, inb_iff]; omega  -- b16
      refine ⟨?_, ?_⟩
      · rw [rr, nn, inb_iff, e16.2]; omega  -- b17
      refine ⟨fun c17 => ?_, fun c17 => ?_⟩
      · skip
        intro x18 hx18
        refine ⟨fun c19 => ?_, fun c19 => ?_⟩
        · skip
          refine hj202 _ _ _ _ _ _ W35 ?_ ?_
          · exact T35_0  -- t18
          · have d18 : x18.toInt = x35_2.toInt - 1 := by rw [hx18, add_i (by rw [tmi]; omega) (by rw [tmi]; omega), tmi]; omega
            rw [lei, t0i] at c19
            have z := tjZ_d Z35 (by omega)
            have e9 : x35_2.toInt - 1 + 1 = x35_2.toInt := by omega
            refine ⟨rfl, ⟨E35, s35, r35⟩, rfl, rfl, lt, by omega, ?_, by omega, kr, pos, hq, ek, fun _ => hd1 (by omega), fun j hj => by omega⟩
            rw [d18, e9]
            exact ⟨Z35.1, z⟩
        · skip
          have d18 : x18.toInt = x35_2.toInt - 1 := by rw [hx18, add_i (by rw [tmi]; omega) (by rw [tmi]; omega), tmi]; omega
          rw [lei, t0i] at c19
          have d2 : (x18 - 1).toInt = x35_2.toInt - 2 := by rw [dec_i (by omega), d18]; omega
          have nd2 : (x18 - 1).toNatClampNeg = (x35_2.toInt - 2).toNat := by
            have := cnk (x := x18 - 1) (by omega)
            omega
          refine ⟨?_, ?_⟩
          · rw [rr, nn, inb_iff, d2]; omega  -- b20
          intro x20 hx20
          rw [nd2] at hx20
          obtain ⟨i2, h21, h22⟩ := Z35.2.2.1.1 (x35_2.toInt - 2).toNat (by omega)
          have q2 := Z35.2.1.1 i2 h21
          rw [h22, ← hx20] at q2
          refine ⟨?_, ?_⟩
          · rw [rr, nn, inb_iff]; omega  -- b21
          refine ⟨?_, ?_⟩
          · rw [rr, nn, inb_iff]; omega  -- b22
          refine ⟨?_, ?_⟩
          · rw [rr, nn, inb_iff]; omega  -- b23
          intro κ_21 hκ_21
          intro W22
          refine hj202 _ _ _ _ _ _ W22 ?_ ?_
          · rw [hκ_21]; exact T35_0  -- t24
          · have z := tjZ_d Z35 (by omega)
            have e9 : x35_2.toInt - 1 + 1 = x35_2.toInt := by omega
            obtain ⟨l1, l2, l3, l4, l5, l6⟩ := tjZ_l W35 T35_0 z (by
              split
              · exact kl1
              · exact q2.2.2.2.1) (by
              split
              · rename_i y
                rw [lti] at y
                omega
              · exact Int.le_refl _) hκ_21
            have r21 := l1.2.1
            have gS := l6 weSeen (by decide) (by decide)
            have gP := l6 wePath (by decide) (by decide)
            have gH := l6 weHeap (by decide) (by decide)
            refine ⟨rfl, ⟨E35.tr l1, s35.tr l4, l4 _ (by omega) r35⟩, rfl, rfl, lt, by omega, ?_, by rw [l3]; omega, kr, pos, by rw [l5]; exact hq, by rw [r21, gH]; exact ek, fun y => by omega, fun j hj => ?_⟩
            · rw [d18, e9]
              refine ⟨?_, l2⟩
              rw [r21, gS, l5]
              exact Z35.1
            · rw [r21, gS, gP, hx16]
              exact tjP_m Z35.2.2.1 (by omega) (by omega)
      · skip
        rw [lei, e16.1] at c17
        have uu := Z35.2.2.2.2 x16.toNatClampNeg (by omega) ks
        have W9q : zA κ35 (zR κ35 weFirsts a0) = zA κ (zR κ weFirsts a0) := by rw [rr]; exact W9
        have W8q : zA κ35 (zR κ35 weTargets a0) = zA κ (zR κ weTargets a0) := by rw [rr]; exact W8
        have w1 := wo.1 x16.toNatClampNeg (by omega)
        have w2 := wo.1 (x16.toNatClampNeg + 1) (by omega)
        rw [W9q] at uu
        have c17b := c17
        rw [W9q] at c17b
        have kc := cnk (x := zA κ35 (zR κ35 weCursor a0) x16.toNatClampNeg) (by omega)
        refine ⟨?_, ?_⟩
        · rw [rr, nn, inb_iff]; omega  -- b26
        refine ⟨?_, ?_⟩
        · have e : zN κ35 (zR κ35 weTargets a0) = zN κ (zR κ weTargets a0) := by rw [rr, nn]
          rw [e, inb_iff]; omega
        intro x23 hx23
        have tr := wo.2.2.2 (zA κ35 (zR κ35 weCursor a0) x16.toNatClampNeg).toNatClampNeg (by omega)
        rw [W8q] at hx23
        rw [← hx23] at tr
        have k23 := cnk tr.1
        refine ⟨?_, ?_⟩
        · rw [rr, nn, inb_iff]; omega  -- b28
        refine ⟨?_, ?_⟩
        · rw [rr, nn, inb_iff]; omega  -- b29
        intro κ_24 hκ_24
        intro W25
        have ex : (zA κ35 (zR κ35 weCursor a0) x16.toNatClampNeg + 1).toInt = (zA κ35 (zR κ35 weCursor a0) x16.toNatClampNeg).toInt + 1 := (cn1 (by omega) (by omega)).2
        obtain ⟨f1, f2, f3, f4, f5, f6, f7⟩ := tjZ_c W35 T35_0 Z35 (by omega) ks (by omega) ex hκ_24
        have E24 := E35.tr f1
        have r24 := f1.2.1
        have rq := E24.2.1
        have nq := E24.2.2
        refine ⟨?_, ?_⟩
        · rw [rq, nq, inb_iff]; omega  -- b30
        refine ⟨fun c26 => ?_, fun c26 => ?_⟩
        · skip
          refine ⟨?_, ?_⟩
          · rw [rq, nq, inb_iff]; omega  -- b31
          refine ⟨fun c27 => ?_, fun c27 => ?_⟩
          · skip
            refine hj225 _ _ _ _ _ W25 ?_ ?_
            · exact f7  -- t32
            · exact ⟨rfl, ⟨E24, f2, fun z => by omega, s35.tr f4, f4 _ (by omega) r35⟩, rfl, rfl, by omega, by omega, lt⟩  -- k33
          · skip
            refine ⟨?_, ?_⟩
            · rw [rq, nq, inb_iff]; omega  -- b34
            refine ⟨?_, ?_⟩
            · rw [rq, nq, inb_iff]; omega  -- b35
            refine ⟨?_, ?_⟩
            · rw [rq, nq, inb_iff]; omega  -- b36
            intro κ_28 hκ_28
            intro W29
            refine hj225 _ _ _ _ _ W29 ?_ ?_
            · rw [hκ_28]; exact f7  -- t37
            · obtain ⟨i9, h91, h92⟩ := f2.2.1.2.2.2.1 x23.toNatClampNeg (by omega) c26 c27
              have q9 := f2.2.1.1 i9 h91
              rw [h92] at q9
              obtain ⟨i8, h81, h82⟩ := f2.2.2.1.1 (x35_2.toInt - 1).toNat (by omega)
              have q8 := f2.2.1.1 i8 h81
              have e8 : zA κ_24 (zR κ_24 wePath a0) (x35_2.toInt - 1).toNat = x16 := by rw [r24, f6 wePath (by decide) (by decide), hx16]
              rw [h82, e8] at q8
              obtain ⟨l1, l2, l3, l4, l5, l6⟩ := tjZ_l W25 f7 f2 (by
                split
                · omega
                · exact q8.2.2.2.1) (by
                split
                · rename_i y
                  rw [lti] at y
                  omega
                · exact Int.le_refl _) hκ_28
              exact ⟨rfl, ⟨E24.tr l1, l2, fun z => by omega, (s35.tr f4).tr l4, l4 _ (by omega) (f4 _ (by omega) r35)⟩, rfl, rfl, by omega, by omega, lt⟩
        · skip
          intro T30
          refine We_visit_c W25 T30  ?_ (fun κ_31 q32 => ?_)
          · have cl := cBq_lt (f := zA κ_24 (zR κ_24 weSeen a0)) (n := m9) (k := x23.toNatClampNeg) (by omega) c26
            have c1 := f2.1.1
            have c2 := f2.1.2.1
            have c3 := f2.1.2.2.1
            have c4 := f2.1.2.2.2
            exact ⟨weM_K E24 M, by omega, by omega, by omega⟩
          intro W33
          intro M34
          intro x35 hx35
          refine hj225 _ _ _ _ _ W33 ?_ ?_
          · exact q32.1.1.t f7 (by decide)  -- t40
          · have W5 : zA κ_24 (zR κ_24 weFirsts a0) = zA κ (zR κ weFirsts a0) := by rw [r24, f6 weFirsts (by decide) (by decide)]; exact W9q
            obtain ⟨v1, v2, v3, v4, v5⟩ := tjZ_v W25 f7 n1 (fun k hk => by rw [W5]; exact wo.2.1 k hk) f2 (fun z => by omega) tr c26 q32
            have e2 := cn1 (x := x35_2) (by omega) (by omega)
            refine ⟨rfl, ⟨E24.tr q32.1, by rw [hx35, e2.2]; exact v1, fun z => ?_, (s35.tr f4).tr v3, v3 _ (by omega) (f4 _ (by omega) r35)⟩, rfl, rfl, by rw [hx35, e2.2]; omega, by rw [hx35, e2.2]; omega, lt⟩
            rw [hx35, e2.2] at z
            omega
