set_option maxHeartbeats 1600000
/-! the class: Web's visit, tie -/
abbrev knF (a : Nat) : Nat → Nat → Prop := fun f x => x = a ∧ 1407 ≤ f
/-- only what the knots are kept in was written -/
def knE (κ τ : zS) (a : Nat) : Prop := zF (knF a) κ τ ∧ zR τ = zR κ ∧ zN τ = zN κ
theorem knE.rf {κ : zS} {a : Nat} : knE κ κ a := ⟨zF.rf, rfl, rfl⟩
theorem knE.tr {κ τ σ : zS} {a : Nat} (h : knE κ τ a) (g : knE τ σ a) : knE κ σ a := ⟨h.1.tr g.1, g.2.1.trans h.2.1, g.2.2.trans h.2.2⟩
theorem kn_u {C : zC} {n0 a f i : Nat} {κ τ : zS} {x : Int32} (W : zW C n0 κ) (T : zT κ a = 14) (hf : f ∈ weRf) (h7 : 1407 ≤ f) (e : τ = ua κ (zR κ f a) i x) : knE κ τ a ∧ zI τ = zI κ ∧ zA τ (zR κ f a) = upd (zA κ (zR κ f a)) i x ∧ (∀ g, g ∈ weRf → g ≠ f → zA τ (zR κ g a) = zA κ (zR κ g a)) ∧ zT τ a = 14 := by
  have o := weRf_o W T hf
  have u := we_u W T hf e
  exact ⟨⟨by rw [e]; exact zF_ua (by rw [o]; exact ⟨rfl, h7⟩), u.1.2.1, u.1.2.2.2⟩, u.1.2.2.1, u.2.1, u.2.2.1, u.2.2.2⟩
theorem kn_i {a f : Nat} {κ τ : zS} {x : Int32} (h7 : 1407 ≤ f) (e : τ = ui κ f a x) : knE κ τ a ∧ zA τ = zA κ ∧ zI τ f a = x ∧ (∀ g, g ≠ f → zI τ g a = zI κ g a) ∧ zT τ = zT κ := ⟨⟨by rw [e]; exact zF_ui ⟨rfl, h7⟩, by rw [e]; rfl, by rw [e]; rfl⟩, by rw [e]; rfl, by rw [e]; exact if_pos ⟨rfl, rfl⟩, fun g hg => by rw [e]; exact if_neg (fun z => hg z.1), by rw [e]; rfl⟩
theorem kn_r {C : zC} {n0 a f : Nat} {κ τ : zS} (W : zW C n0 κ) (T : zT κ a = 14) (h : knE κ τ a) (hf : f ∈ weRf) (h7 : f < 1407) : zA τ (zR κ f a) = zA κ (zR κ f a) := by
  obtain ⟨⟨t, h1, h2⟩, h3⟩ := weRf_r f hf
  have q := (h.1.row W h1 h2 (T.trans h3.symm) (fun z => by have := z.2; omega)).1
  rw [h.2.1] at q
  exact q
theorem weM_K {κ τ : zS} {a : Nat} (h : knE κ τ a) (M : weM κ a) : weM τ a := by unfold weM; rw [h.2.1, h.2.2]; exact M
def visR (κ τ : zS) (a k : Nat) (y : Int32) (d : Nat) : Prop := knE κ τ a ∧ zA τ (zR κ weSeen a) = upd (zA κ (zR κ weSeen a)) k (zI κ weStamp a + 1) ∧ zA τ (zR κ weLow a) = upd (zA κ (zR κ weLow a)) k (zI κ weStamp a + 1) ∧ zA τ (zR κ weCursor a) = upd (zA κ (zR κ weCursor a)) k (zA κ (zR κ weFirsts a) k) ∧ zA τ (zR κ wePath a) = upd (zA κ (zR κ wePath a)) d y ∧ zA τ (zR κ weHeap a) = upd (zA κ (zR κ weHeap a)) (zI κ weHeaped a).toNatClampNeg y ∧ (zA τ (zR κ weKnotOf a) = zA κ (zR κ weKnotOf a) ∧ zA τ (zR κ weOrder a) = zA κ (zR κ weOrder a) ∧ zA τ (zR κ weKnotFirsts a) = zA κ (zR κ weKnotFirsts a)) ∧ zI τ weStamp a = zI κ weStamp a + 1 ∧ zI τ weHeaped a = zI κ weHeaped a + 1 ∧ zI τ wePlaced a = zI κ wePlaced a ∧ zI τ weKnots a = zI κ weKnots a
theorem We_visit_c {C : zC} {n0 : Nat} {a0 : Nat} {a1 : Int32} {a2 : Int32} {κ : zS} {Q : zS → Prop} (W : zW C n0 κ) (Ta0 : zT κ a0 = 14)  (hp : weM κ a0 ∧ (0 ≤ a1.toInt ∧ a1.toInt < 1000) ∧ (0 ≤ a2.toInt ∧ a2.toInt < 1000) ∧ (0 ≤ (zI κ weHeaped a0).toInt ∧ (zI κ weHeaped a0).toInt < 1000)) (h : ∀ (κ' : zS), (visR κ κ' a0 a1.toNatClampNeg a1 a2.toNatClampNeg) → Q κ') : zRun C 0 mWe_visit [.ref a0, .int a1, .int a2] κ (oV Q noX) := by
  refine We_visit_run W Ta0 ?_
  replace W := W.lo (Nat.le_trans W.1.2.1 W.1.2.2) (Nat.le_refl (zn κ))
  unfold w_We_visit_0
  obtain ⟨M, k1, k2, k3⟩ := hp
  obtain ⟨M1, M2, M3, M4, M5, M6, M7, M8, M9, M10, M11⟩ := M
  intro κ_1 hκ_1
  intro W2
  obtain ⟨x1, x2, x3, x4, x5⟩ := kn_i (f := weStamp) (by decide) hκ_1
  have T1 : zT κ_1 a0 = 14 := by rw [x5]; exact Ta0
  refine ⟨?_, ?_⟩
  · rw [x1.2.1, x1.2.2, inb_iff]; omega  -- b1
  intro κ_3 hκ_3
  intro W4
  obtain ⟨u1, u2, u3, u4, u5⟩ := kn_u W2 T1 (f := weSeen) (by decide) (by decide) hκ_3
  have e3 := x1.tr u1
  refine ⟨?_, ?_⟩
  · rw [e3.2.1, e3.2.2, inb_iff]; omega  -- b2
  intro κ_5 hκ_5
  intro W6
  obtain ⟨v1, v2, v3, v4, v5⟩ := kn_u W4 u5 (f := weLow) (by decide) (by decide) hκ_5
  have e5 := e3.tr v1
  refine ⟨?_, ?_⟩
  · rw [e5.2.1, e5.2.2, inb_iff]; omega  -- b3
  refine ⟨?_, ?_⟩
  · rw [e5.2.1, e5.2.2, inb_iff]; omega  -- b4
  intro κ_7 hκ_7
  intro W8
  obtain ⟨w1, w2, w3, w4, w5⟩ := kn_u W6 v5 (f := weCursor) (by decide) (by decide) hκ_7
  have e7 := e5.tr w1
  refine ⟨?_, ?_⟩
  · rw [e7.2.1, e7.2.2, inb_iff]; omega  -- b5
  intro κ_9 hκ_9
  intro W10
  obtain ⟨p1, p2, p3, p4, p5⟩ := kn_u W8 w5 (f := wePath) (by decide) (by decide) hκ_9
  have e9 := e7.tr p1
  have i9 : zI κ_9 = zI κ_1 := p2.trans (w2.trans (v2.trans u2))
  refine ⟨?_, ?_⟩
  · rw [e9.2.1, e9.2.2, i9, x4 weHeaped (by decide), inb_iff]; omega  -- b6
  intro κ_11 hκ_11
  intro W12
  intro κ_13 hκ_13
  intro W14
  refine h _ ?_
  · obtain ⟨q1, q2, q3, q4, q5⟩ := kn_u W10 p5 (f := weHeap) (by decide) (by decide) hκ_11
    obtain ⟨y1, y2, y3, y4, y5⟩ := kn_i (f := weHeaped) (by decide) hκ_13
    have i11 : zI κ_11 = zI κ_1 := q2.trans i9
    have r1 := x1.2.1
    rw [x1.2.1] at u3 u4
    rw [e3.2.1] at v3 v4
    rw [e5.2.1] at w3 w4
    rw [e7.2.1] at p3 p4
    rw [e9.2.1] at q3 q4
    rw [x2] at u3 u4
    rw [x3] at u3
    rw [u2, x3] at v3
    have fr : zA κ_5 (zR κ weFirsts a0) = zA κ (zR κ weFirsts a0) := by rw [v4 weFirsts (by decide) (by decide), u4 weFirsts (by decide) (by decide)]
    rw [fr] at w3
    rw [i9, x4 weHeaped (by decide)] at q3
    have gS : ∀ f, f ∈ weRf → f ≠ weHeap → f ≠ wePath → f ≠ weCursor → f ≠ weLow → f ≠ weSeen → zA κ_13 (zR κ f a0) = zA κ (zR κ f a0) := fun f h1 h2 h3 h4 h5 h6 => by rw [y2, q4 f h1 h2, p4 f h1 h3, w4 f h1 h4, v4 f h1 h5, u4 f h1 h6]
    refine ⟨(e9.tr q1).tr y1, ?_, ?_, ?_, ?_, ?_, ⟨gS weKnotOf (by decide) (by decide) (by decide) (by decide) (by decide) (by decide), gS weOrder (by decide) (by decide) (by decide) (by decide) (by decide) (by decide), gS weKnotFirsts (by decide) (by decide) (by decide) (by decide) (by decide) (by decide)⟩, ?_, ?_, ?_, ?_⟩
    · rw [y2, q4 weSeen (by decide) (by decide), p4 weSeen (by decide) (by decide), w4 weSeen (by decide) (by decide), v4 weSeen (by decide) (by decide), u3]
    · rw [y2, q4 weLow (by decide) (by decide), p4 weLow (by decide) (by decide), w4 weLow (by decide) (by decide), v3, u4 weLow (by decide) (by decide)]
    · rw [y2, q4 weCursor (by decide) (by decide), p4 weCursor (by decide) (by decide), w3, v4 weCursor (by decide) (by decide), u4 weCursor (by decide) (by decide)]
    · rw [y2, q4 wePath (by decide) (by decide), p3, w4 wePath (by decide) (by decide), v4 wePath (by decide) (by decide), u4 wePath (by decide) (by decide)]
    · rw [y2, q3, p4 weHeap (by decide) (by decide), w4 weHeap (by decide) (by decide), v4 weHeap (by decide) (by decide), u4 weHeap (by decide) (by decide)]
    · rw [y4 weStamp (by decide), i11, x3]
    · rw [y3, i11, x4 weHeaped (by decide)]
    · rw [y4 wePlaced (by decide), i11, x4 wePlaced (by decide)]
    · rw [y4 weKnots (by decide), i11, x4 weKnots (by decide)]

abbrev tiL : List Nat := [weSeen, weLow, weCursor, wePath, weHeap]
/-- on the way to a knot -/
def tiS (κ τ : zS) (a : Nat) : Prop := knE κ τ a ∧ (∀ f, f ∈ tiL → zA τ (zR κ f a) = zA κ (zR κ f a)) ∧ zA τ (zR κ weKnotFirsts a) = upd (zA κ (zR κ weKnotFirsts a)) (zI κ weKnots a).toNatClampNeg (zI κ wePlaced a) ∧ zI τ weStamp a = zI κ weStamp a ∧ tiR (zA κ (zR κ weHeap a)) (zA κ (zR κ weKnotOf a)) (zA κ (zR κ weOrder a)) (zA τ (zR κ weKnotOf a)) (zA τ (zR κ weOrder a)) (zI κ weKnots a) ((zI κ weHeaped a).toInt) ((zI τ weHeaped a).toInt) ((zI κ wePlaced a).toInt) ((zI τ wePlaced a).toInt)
theorem tiL_w : ∀ f, f ∈ tiL → f ∈ weRf ∧ f ≠ weKnotOf ∧ f ≠ weOrder ∧ f ≠ weKnotFirsts := by decide
theorem tiS_s {C : zC} {n0 a : Nat} {κ σ κ1 κ2 κ3 κ4 : zS} {x : Int32} (W1 : zW C n0 κ1) (W2 : zW C n0 κ2) (T : zT σ a = 14) (H : tiS κ σ a) (ek : zI σ weKnots a = zI κ weKnots a) (h0 : 0 < (zI σ weHeaped a).toInt) (p0 : 0 ≤ (zI κ wePlaced a).toInt) (pb : (zI κ wePlaced a).toInt + (zI κ weHeaped a).toInt ≤ 1000) (e1 : κ1 = ui σ weHeaped a (zI σ weHeaped a - 1)) (ex : x = zA κ1 (zR κ1 weHeap a) (zI κ1 weHeaped a).toNatClampNeg) (e2 : κ2 = ua κ1 (zR κ1 weKnotOf a) x.toNatClampNeg (zI κ1 weKnots a)) (e3 : κ3 = ua κ2 (zR κ2 weOrder a) (zI κ2 wePlaced a).toNatClampNeg x) (e4 : κ4 = ui κ3 wePlaced a (zI κ3 wePlaced a + 1)) : tiS κ κ4 a ∧ zI κ4 weKnots a = zI κ weKnots a ∧ (zI κ4 weHeaped a).toInt = (zI σ weHeaped a).toInt - 1 ∧ x = zA κ (zR κ weHeap a) ((zI σ weHeaped a).toInt - 1).toNat ∧ zT κ4 a = 14 := by
  obtain ⟨E, L, F, S, R⟩ := H
  obtain ⟨x1, x2, x3, x4, x5⟩ := kn_i (f := weHeaped) (by decide) e1
  have T1 : zT κ1 a = 14 := by rw [x5]; exact T
  obtain ⟨u1, u2, u3, u4, u5⟩ := kn_u W1 T1 (f := weKnotOf) (by decide) (by decide) e2
  obtain ⟨v1, v2, v3, v4, v5⟩ := kn_u W2 u5 (f := weOrder) (by decide) (by decide) e3
  obtain ⟨y1, y2, y3, y4, y5⟩ := kn_i (f := wePlaced) (by decide) e4
  have E1 := E.tr x1
  have E2 := E1.tr u1
  have r1 := E1.2.1
  have r2 := E2.2.1
  rw [r1, x2] at u3 u4
  rw [r2] at v3 v4
  rw [r1, x2] at ex
  have d1 : (zI σ weHeaped a - 1).toInt = (zI σ weHeaped a).toInt - 1 := dec_i h0
  rw [x3] at ex
  have hh := L weHeap (by decide)
  have n1 : (zI σ weHeaped a - 1).toNatClampNeg = ((zI σ weHeaped a).toInt - 1).toNat := by
    have := cnk (x := zI σ weHeaped a - 1) (by omega)
    omega
  rw [hh, n1] at ex
  have pl : zI κ2 wePlaced a = zI σ wePlaced a := by rw [u2, x4 wePlaced (by decide)]
  have pl3 : zI κ3 wePlaced a = zI σ wePlaced a := by rw [v2, pl]
  have kn : zI κ1 weKnots a = zI κ weKnots a := by rw [x4 weKnots (by decide), ek]
  have R1 := R.1
  have pe := cn1 (x := zI σ wePlaced a) (by omega) (by omega)
  have pn : (zI σ wePlaced a).toNatClampNeg = (zI σ wePlaced a).toInt.toNat := rfl
  rw [kn] at u3
  rw [pl, pn] at v3
  have o2 : zA κ2 (zR κ weOrder a) = zA σ (zR κ weOrder a) := u4 weOrder (by decide) (by decide)
  rw [o2] at v3
  have ko4 : zA κ4 (zR κ weKnotOf a) = upd (zA σ (zR κ weKnotOf a)) x.toNatClampNeg (zI κ weKnots a) := by rw [y2, v4 weKnotOf (by decide) (by decide), u3]
  have od4 : zA κ4 (zR κ weOrder a) = upd (zA σ (zR κ weOrder a)) (zI σ wePlaced a).toInt.toNat x := by rw [y2, v3]
  have hp4 : (zI κ4 weHeaped a).toInt = (zI σ weHeaped a).toInt - 1 := by rw [y4 weHeaped (by decide), v2, u2, x3, d1]
  have pl4 : (zI κ4 wePlaced a).toInt = (zI σ wePlaced a).toInt + 1 := by rw [y3, pl3, pe.2]
  refine ⟨⟨(E2.tr v1).tr y1, fun f hf => ?_, ?_, ?_, ?_⟩, ?_, hp4, ex, by rw [y5]; exact v5⟩
  · obtain ⟨g1, g2, g3, g4⟩ := tiL_w f hf
    rw [y2, v4 f g1 g3, u4 f g1 g2]
    exact L f hf
  · rw [y2, v4 weKnotFirsts (by decide) (by decide), u4 weKnotFirsts (by decide) (by decide)]
    exact F
  · rw [y4 weStamp (by decide), v2, u2, x4 weStamp (by decide)]; exact S
  · rw [hp4, pl4]
    exact tiR_s R h0 p0 ex ko4 od4
  · rw [y4 weKnots (by decide), v2, u2, kn]
theorem We_tie_c {C : zC} {n0 : Nat} {a0 : Nat} {a1 : Int32} {κ : zS} {Q : zS → Prop} (W : zW C n0 κ) (Ta0 : zT κ a0 = 14) (pos m9 : Nat) (hp : weM κ a0 ∧ ((zI κ weTotal a0).toInt = (m9 : Int) ∧ m9 ≤ 1000) ∧ (0 ≤ (zI κ weKnots a0).toInt ∧ (zI κ weKnots a0).toInt ≤ 1000) ∧ 0 ≤ (zI κ wePlaced a0).toInt ∧ (pos : Int) < (zI κ weHeaped a0).toInt ∧ (zI κ wePlaced a0).toInt + (zI κ weHeaped a0).toInt ≤ m9 ∧ (∀ i : Nat, (i : Int) < (zI κ weHeaped a0).toInt → 0 ≤ (zA κ (zR κ weHeap a0) i).toInt ∧ (zA κ (zR κ weHeap a0) i).toInt < m9) ∧ zA κ (zR κ weHeap a0) pos = a1 ∧ ∀ i : Nat, (i : Int) < (zI κ weHeaped a0).toInt → zA κ (zR κ weHeap a0) i = a1 → i = pos) (h : ∀ (κ' : zS), (tiS κ κ' a0 ∧ (zI κ' weHeaped a0).toInt = (pos : Int) ∧ (zI κ' weKnots a0).toInt = (zI κ weKnots a0).toInt + 1) → Q κ') : zRun C 0 mWe_tie [.ref a0, .int a1] κ (oV Q noX) := by
  refine We_tie_run W Ta0 ?_
  replace W := W.lo (Nat.le_trans W.1.2.1 W.1.2.2) (Nat.le_refl (zn κ))
  unfold w_We_tie_0
  obtain ⟨M, ⟨tn, n1⟩, kb, p0, ph, pb, hr, he, hu⟩ := hp
  obtain ⟨M1, M2, M3, M4, M5, M6, M7, M8, M9, M10, M11⟩ := M
  have hj107 : ∀ (l0 : Nat) (τ : zS), zW C (zn κ) τ → zT τ l0 = 14 → (a0 = l0 ∧ tiS κ τ a0 ∧ zI τ weKnots a0 = zI κ weKnots a0 ∧ (zI τ weHeaped a0).toInt = (pos : Int)) → w_We_tie_107 C (zn κ) Q  l0 τ := by
    rintro _ τ107 W107 T107_0 ⟨rfl, j107⟩
    unfold w_We_tie_107
    intro κ_1 hκ_1
    intro W2
    refine h _ ?_
    · obtain ⟨S9, k9, h9⟩ := j107
      obtain ⟨y1, y2, y3, y4, y5⟩ := kn_i (f := weKnots) (by decide) hκ_1
      have ke := cn1 (x := zI κ weKnots a0) kb.1 (by omega)
      obtain ⟨s1, s2, s3, s4, s5⟩ := S9
      refine ⟨⟨s1.tr y1, fun f hf => by rw [y2]; exact s2 f hf, by rw [y2]; exact s3, by rw [y4 weStamp (by decide)]; exact s4, ?_⟩, by rw [y4 weHeaped (by decide)]; exact h9, by rw [y3, k9, ke.2]⟩
      rw [y2, y4 weHeaped (by decide), y4 wePlaced (by decide)]
      exact s5
  refine ⟨?_, ?_⟩
  · rw [inb_iff]; omega  -- b2
  intro κ_3 hκ_3
  intro W4
  unfold w_We_tie_17
  refine ⟨fun n l0 l1 l2 l3 τ => n = (1000 - l3.toInt).toNat ∧ (a0 = l0 ∧ a1 = l1 ∧ tiS κ τ a0 ∧ zI τ weKnots a0 = zI κ weKnots a0 ∧ (pos : Int) ≤ (zI τ weHeaped a0).toInt ∧ (0 ≤ l3.toInt ∧ l3.toInt = (zI κ weHeaped a0).toInt - (zI τ weHeaped a0).toInt) ∧ (l2 ≠ 0 → (pos : Int) < (zI τ weHeaped a0).toInt) ∧ (l2 = 0 → (zI τ weHeaped a0).toInt = (pos : Int))), ⟨_, rfl, ?_⟩, ?_⟩
  · obtain ⟨u1, u2, u3, u4, u5⟩ := kn_u W Ta0 (f := weKnotFirsts) (by decide) (by decide) hκ_3
    refine ⟨rfl, rfl, ⟨u1, fun f hf => u4 f (tiL_w f hf).1 (tiL_w f hf).2.2.2, u3, by rw [u2], ?_⟩, by rw [u2], by rw [u2]; omega, ⟨by decide, by rw [u2, t0i]; omega⟩, fun _ => by rw [u2]; exact ph, fun z => absurd z (by decide)⟩
    rw [u2, u4 weKnotOf (by decide) (by decide), u4 weOrder (by decide) (by decide)]
    exact tiR_0
  rintro n17 _ _ x17_2 x17_3 κ17 W17 T17_0 ⟨hn17, rfl, rfl, i17⟩
  obtain ⟨S17, k17, p17, l17, c2a, c2b⟩ := i17
  have E17 := S17.1
  have tt : (zI κ17 weTotal a0).toInt = (m9 : Int) := by rw [E17.1.i (fun z => absurd z.2 (by decide))]; exact tn
  have hj100 : ∀ (l0 : Nat) (l1 : Int32) (l3 : Int32) (s0 : Int32) (τ : zS), zW C (zn κ) τ → zT τ l0 = 14 → (a0 = l0 ∧ a1 = l1 ∧ tiS κ τ a0 ∧ zI τ weKnots a0 = zI κ weKnots a0 ∧ (pos : Int) ≤ (zI τ weHeaped a0).toInt ∧ x17_3 = l3 ∧ (x17_3.toInt + 1 = (zI κ weHeaped a0).toInt - (zI τ weHeaped a0).toInt) ∧ (s0 ≠ 0 → (pos : Int) < (zI τ weHeaped a0).toInt) ∧ (s0 = 0 → (zI τ weHeaped a0).toInt = (pos : Int))) → w_We_tie_100 C (zn κ) Q (fun (l0' : Nat) (l1' : Int32) (l2' : Int32) (l3' : Int32) (τ : zS) => ∃ k < n17, (fun (n : Nat) (l0 : Nat) (l1 : Int32) (l2 : Int32) (l3 : Int32) (τ : zS) => n = (1000 - l3.toInt).toNat ∧ (a0 = l0 ∧ a1 = l1 ∧ tiS κ τ a0 ∧ zI τ weKnots a0 = zI κ weKnots a0 ∧ (pos : Int) ≤ (zI τ weHeaped a0).toInt ∧ (0 ≤ l3.toInt ∧ l3.toInt = (zI κ weHeaped a0).toInt - (zI τ weHeaped a0).toInt) ∧ (l2 ≠ 0 → (pos : Int) < (zI τ weHeaped a0).toInt) ∧ (l2 = 0 → (zI τ weHeaped a0).toInt = (pos : Int)))) k l0' l1' l2' l3' τ) l0 l1 l3 s0 τ := by
    rintro _ _ y100_3 y100_s0 τ100 W100 T100_0 ⟨rfl, rfl, j100⟩
    unfold w_We_tie_100
    intro x5 hx5
    obtain ⟨S9, k9, p9, rfl, l9, ca, cb⟩ := j100
    have e1 := cn1 l17.1 (by have := S9.2.2.2.2.1.1; omega)
    refine ⟨_, ?_, rfl, ?_⟩
    · rw [hn17, hx5, e1.2]; omega  -- d4
    · exact ⟨rfl, rfl, S9, k9, p9, by rw [hx5, e1.2]; omega, ca, cb⟩  -- i5
  refine ⟨fun c6 => ?_, fun c6 => ?_⟩
  · skip
    refine hj107 _ _ W17 ?_ ?_
    · exact T17_0  -- t6
    · exact ⟨rfl, S17, k17, c2b c6⟩  -- k7
  · skip
    refine ⟨fun c7 => ?_, fun c7 => ?_⟩
    · skip
      refine hj107 _ _ W17 ?_ ?_
      · exact T17_0  -- t8
      · rw [lei, t0i] at c7
        have := c2a c6
        omega
    · skip
      refine ⟨fun c8 => ?_, fun c8 => ?_⟩
      · skip
        refine hj107 _ _ W17 ?_ ?_
        · exact T17_0  -- t10
        · rw [lei] at c8
          have := c2a c6
          omega
      · skip
        intro κ_9 hκ_9
        intro W10
        rw [lei, t0i] at c7
        rw [lei] at c8
        have h0 : 0 < (zI κ17 weHeaped a0).toInt := by omega
        have R1 := S17.2.2.2.2.1
        obtain ⟨x1, x2, x3, x4, x5⟩ := kn_i (f := weHeaped) (by decide) hκ_9
        have F1 := E17.tr x1
        have T9 : zT κ_9 a0 = 14 := by rw [x5]; exact T17_0
        have d1 : (zI κ17 weHeaped a0 - 1).toInt = (zI κ17 weHeaped a0).toInt - 1 := dec_i h0
        refine ⟨?_, ?_⟩
        · rw [F1.2.1, F1.2.2, x3, inb_iff, d1]; omega  -- b12
        intro x11 hx11
        have ex : x11 = zA κ (zR κ weHeap a0) ((zI κ17 weHeaped a0).toInt - 1).toNat := by
          rw [hx11, F1.2.1, x2, x3, S17.2.1 weHeap (by decide)]
          have := cnk (x := zI κ17 weHeaped a0 - 1) (by omega)
          congr 1
          omega
        have xr := hr ((zI κ17 weHeaped a0).toInt - 1).toNat (by omega)
        rw [← ex] at xr
        refine ⟨?_, ?_⟩
        · rw [F1.2.1, F1.2.2, inb_iff]; omega  -- b13
        intro κ_12 hκ_12
        intro W13
        obtain ⟨u1, u2, u3, u4, u5⟩ := kn_u W10 T9 (f := weKnotOf) (by decide) (by decide) hκ_12
        have F2 := F1.tr u1
        refine ⟨?_, ?_⟩
        · rw [F2.2.1, F2.2.2, u2, x4 wePlaced (by decide), inb_iff]; omega  -- b14
        intro κ_14 hκ_14
        intro W15
        intro κ_16 hκ_16
        intro W17
        obtain ⟨S9, k9, h9, x9, T16⟩ := tiS_s W10 W13 T17_0 S17 k17 h0 p0 (by omega) hκ_9 hx11 hκ_12 hκ_14 hκ_16
        refine ⟨fun c18 => ?_, fun c18 => ?_⟩
        · skip
          refine hj100 _ _ _ _ _ W17 ?_ ?_
          · exact T16  -- t15
          · have z := hu ((zI κ17 weHeaped a0).toInt - 1).toNat (by omega) (by rw [← x9]; exact c18)
            exact ⟨rfl, rfl, S9, k9, by omega, rfl, by omega, fun y => absurd rfl y, fun _ => by omega⟩
        · skip
          refine hj100 _ _ _ _ _ W17 ?_ ?_
          · exact T16  -- t17
          · have z : ((zI κ17 weHeaped a0).toInt - 1).toNat ≠ pos := fun y => c18 (by rw [x9, y]; exact he)
            have := c2a c6
            exact ⟨rfl, rfl, S9, k9, by omega, rfl, by omega, fun _ => by omega, fun y => absurd y (by decide)⟩
