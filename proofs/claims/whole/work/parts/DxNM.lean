section
set_option maxHeartbeats 1600000
/-! one statement on both sides -/
theorem sr_x6 {α : Type} {Q : E5 → α → rS → Prop} {r : R5 α} {σ : rS} {e : E5} {x : α} (h : sr5 Q r σ) (hr : r = .inl (e, x)) (hk : e.1 paKind ≠ 143) : Q e x σ := by
  rcases h with q | ⟨e', x', q, _, y⟩ | ⟨f, p, _, _, _, q⟩
  · rw [hr] at q; cases q
  · rw [hr] at q
    have z := Prod.mk.inj (Sum.inl.inj q)
    rw [z.1, z.2]
    exact y
  · rcases q with q | ⟨_, e', x', q, k, _⟩
    · rw [hr] at q; cases q
    · rw [hr] at q
      have z := Prod.mk.inj (Sum.inl.inj q)
      rw [z.1] at hk
      exact absurd k hk
section
variable {T : T5} {X : X5} {Bk N : Nat} {Z : Int32} {nv na a b f t s : Nat} {R : List Qq6} {e e' : E5} {σ : rS}
/-- both sides have added a statement -/
theorem ad_6 {r k : Int32} {e1 : E5} (H : TR5 T X Bk N Z) (hE : T.2.1 (N - 1) = 142) (I : iS5 T X Bk N Z a b f t s s e σ) (S : SR6 T X Bk N Z a b R e σ) (P : MP6 T Bk nv na a b f (f + 1) s s e σ) (hk : T.2.1 a ≠ 142) (h : f5_Pa_addStatement_59 e = .inl (e1, r)) : ∃ σ1, r = Int32.ofNat s ∧ s < 150 ∧ g5_newStatement k σ = (σ1, Int32.ofNat s) ∧ SR6 T X Bk N Z a b R e1 σ1 ∧ JS6 T Bk N nv na s e1 σ1 ∧ beg6 Bk s a R e1 σ1 ∧ σ1.2.2.1 30 s = k ∧ (σ1.1 41).toNatClampNeg = f ∧ MP6 T Bk nv na a b f (f + 1) (s + 1) s e1 σ1 ∧ (e1.1 1014 = Int32.ofNat b ∧ e1.2.2 = e.2.2) ∧ σ1.1 42 = σ.1 42 := by
  have P0 := P
  obtain ⟨⟨p1, p2⟩, p3, p4, p5, p6, p7, p8⟩ := P
  obtain ⟨L, HI, SS⟩ := I
  have I0 : iS5 T X Bk N Z a b f t s s e σ := ⟨L, HI, SS⟩
  obtain ⟨G, ⟨w, f10, o1, o2, o3⟩, _, _, _, ⟨b1, b2, b3⟩, b0⟩ := HI
  obtain ⟨s1, s2, s3, _⟩ := SS
  have k4 : e.1 paKind ≠ 142 := by
    have z : e.1 paKind = T.2.1 a := S.2.1.2.2.1
    rw [z]; exact hk
  have s150 : s < 150 := by
    unfold f5_Pa_addStatement_59 at h
    have z : e.1 coStatements = Int32.ofNat s := s2
    rw [z] at h
    by_cases q : Int32.ofNat s < 150
    · have l150 : (150 : Int32).toInt = 150 := rfl
      rw [lti, l150, ofn_i (by omega)] at q
      omega
    · rw [if_neg q] at h; cases h
  obtain ⟨b, rfl⟩ : ∃ k, b = k + 1 := ⟨b - 1, by omega⟩
  have b41 : b ≤ 1000 := by
    have z := S.2.2.2.1.1
    omega
  have kb := b3 b (by omega)
  have q43 : e.2.1 1011 b = σ.2.2.1 43 b := kb.1
  have q45 : e.2.1 1013 b = σ.2.2.1 45 b := kb.2.1
  have q44 := (p5 b (by omega)).1
  have kl : bl6 s (e.2.1 1012 b) := by rw [q44]; exact (p5 b (by omega)).2
  have ko0 : b = 0 → e.2.1 1011 b = -1 := kb.2.2.1
  have ko : bl6 s (e.2.1 1011 b) := by
    by_cases y : b = 0
    · exact Or.inl (ko0 y)
    · obtain ⟨n, n1, n2⟩ := kb.2.2.2 (by omega)
      exact Or.inr ⟨n, n1, n2⟩
  obtain ⟨c0, c1, c2, c3, c4, c5, c6, c7, c8, c9⟩ := asC_6 s2 s150 b1 b41 o2 f10 rfl rfl kl ko h
  obtain ⟨σ1, d0, d1, d2, d3, d4, d5, d6, d7, d8, d9, d10, d11, d12, d13, d14⟩ := nsR_6 (k := k) (la := e.2.1 1012 b) (ow := e.2.1 1011 b) S.2.2.1.1 s3 s150 b2 b41 o1 f10 q44.symm q43.symm
  have old := sr_x6 (sr_addS (k := k) H I0 k4) h (by
    have z : e1.1 paKind = e.1 paKind := by
      have y := c1 1003
      rw [if_neg (by decide)] at y
      exact y
    rw [z]
    exact L.2.2.1.2.2.2.1 ▸ L.2.2.1.2.2.2.2)
  rw [d0] at old
  obtain ⟨_, _, _, old, _⟩ := old
  obtain ⟨M, cm, new⟩ := MP_a6 (e' := e1) (σ' := σ1) P0 s150 f10 b41 rfl rfl kl ko ko0 q45 (fun i => by rw [c3 1011 (by decide) (by decide) (by decide)]) c1 c3 c4 c5 c6 c7 c8 c9 d1 d4 d5 d6 d7 d8 d9 d10 d11 d12 d13 d14
  obtain ⟨⟨x1, x2, x3⟩, ⟨x4, x5, x6, x7⟩, x8, ⟨x9, x10, x11⟩, x12, x13⟩ := S
  have ke : ∀ g, g ≠ 513 → e1.1 g = e.1 g := fun g q => by rw [c1, if_neg q]
  have kσ : ∀ g, g ≠ 19 → σ1.1 g = σ.1 g := fun g q => by rw [d1, if_neg q]
  refine ⟨σ1, c0, s150, d0, ⟨⟨?_, ?_, (kσ 2 (by decide)).trans x3⟩, ⟨x4, (ke 1002 (by decide)).trans x5, (ke 1003 (by decide)).trans x6, (kσ 10 (by decide)).trans x7⟩, ⟨(kσ 11 (by decide)).trans x8.1, (kσ 46 (by decide)).trans x8.2.1, (kσ 47 (by decide)).trans x8.2.2⟩, ⟨x9, (ke 1004 (by decide)).trans x10, (kσ 13 (by decide)).trans x11⟩, cd_e6 x12 (ke 515 (by decide)) (c3 507 (by decide) (by decide) (by decide)) (c3 508 (by decide) (by decide) (by decide)), x13⟩, ⟨?_, s150, M.1.1, M.1.2, old.2.1.1, HI_O5 old.2.1⟩, ⟨?_, ?_, ?_, ?_⟩, ?_, ?_, M, ⟨(ke 1014 (by decide)).trans b1, c2⟩, kσ 42 (by decide)⟩
  · rw [← x1]
    unfold tq5
    rw [ke taLength (by decide), ke taTotal (by decide), c3 taBytes (by decide) (by decide) (by decide), c3 taKinds (by decide) (by decide) (by decide), c3 taPlaces (by decide) (by decide) (by decide), c3 taLengths (by decide) (by decide) (by decide), c2]
  · rw [← x2]
    unfold sx5
    rw [d4 5 (by decide) (by decide) (by decide) (by decide) (by decide) (by decide) (by decide) (by decide) (by decide) (by decide), d4 6 (by decide) (by decide) (by decide) (by decide) (by decide) (by decide) (by decide) (by decide) (by decide) (by decide), d4 7 (by decide) (by decide) (by decide) (by decide) (by decide) (by decide) (by decide) (by decide) (by decide) (by decide), d4 9 (by decide) (by decide) (by decide) (by decide) (by decide) (by decide) (by decide) (by decide) (by decide) (by decide), d3]
  · rw [c1, if_pos rfl]
  · rw [new 1 (by omega)]; rfl
  · rw [new 3 (by omega)]
    show e.1 515 = _
    exact x12.1
  · rw [new 4 (by omega)]; rfl
  · rw [d7, if_pos rfl]; exact x7
  · rw [d5, if_pos rfl]
  · have o1' : σ.1 41 = Int32.ofNat f := o1
    rw [kσ 41 (by decide), o1', cl_5 (by omega)]
/-- a block begun -/
theorem pb_c6 {x y : Int32} (h : f5_Pa_pushBlock x y e = .inl (e', ())) (h14 : e.1 1014 = Int32.ofNat b) (b41 : b < 41) (hl : e.2.2 1011 = 41) : (∀ g, e'.1 g = if g = 1014 then Int32.ofNat (b + 1) else e.1 g) ∧ (∀ g, g ≠ 1011 → g ≠ 1012 → g ≠ 1013 → e'.2.1 g = e.2.1 g) ∧ e'.2.2 = e.2.2 ∧ (∀ i, e'.2.1 1011 i = if i = b then x else e.2.1 1011 i) ∧ (∀ i, e'.2.1 1012 i = if i = b then -1 else e.2.1 1012 i) := by
  unfold f5_Pa_pushBlock at h
  have hl : e.2.2 paOwners = 41 := hl
  have h14' : e.1 paBlocks = Int32.ofNat b := h14
  rw [hl, h14', if_neg (by rw [lei, ofn_i (by omega), ofn_i (by omega)]; omega)] at h
  have z := congrArg Prod.fst (Sum.inl.inj h)
  have z : ((fun g => if g = paBlocks then e.1 paBlocks + 1 else e.1 g, fun g j => if g = paElses ∧ j = (e.1 paBlocks).toNatClampNeg then vp_nar .boolean y else if g = paLasts ∧ j = (e.1 paBlocks).toNatClampNeg then -1 else if g = paOwners ∧ j = (Int32.ofNat b).toNatClampNeg then x else e.2.1 g j, e.2.2) : E5) = e' := z
  subst z
  have cb : (Int32.ofNat b).toNatClampNeg = b := cl_5 (by omega)
  refine ⟨fun g => ?_, fun g q1 q2 q3 => ?_, rfl, fun i => ?_, fun i => ?_⟩
  · show (if g = paBlocks then e.1 paBlocks + 1 else e.1 g) = _
    by_cases q : g = 1014
    · rw [if_pos q, if_pos q, h14', on_15 (by omega)]
    · rw [if_neg q, if_neg q]
  · funext j
    show (if g = paElses ∧ j = (e.1 paBlocks).toNatClampNeg then vp_nar .boolean y else if g = paLasts ∧ j = (e.1 paBlocks).toNatClampNeg then -1 else if g = paOwners ∧ j = (Int32.ofNat b).toNatClampNeg then x else e.2.1 g j) = _
    rw [if_neg (fun y => q3 y.1), if_neg (fun y => q2 y.1), if_neg (fun y => q1 y.1)]
  · show (if 1011 = paElses ∧ i = (e.1 paBlocks).toNatClampNeg then vp_nar .boolean y else if 1011 = paLasts ∧ i = (e.1 paBlocks).toNatClampNeg then -1 else if 1011 = paOwners ∧ i = (Int32.ofNat b).toNatClampNeg then x else e.2.1 1011 i) = _
    rw [if_neg (fun y => absurd y.1 (by decide)), if_neg (fun y => absurd y.1 (by decide)), cb]
    by_cases q : i = b
    · rw [if_pos ⟨rfl, q⟩, if_pos q]
    · rw [if_neg (fun y => q y.2), if_neg q]
  · show (if 1012 = paElses ∧ i = (e.1 paBlocks).toNatClampNeg then vp_nar .boolean y else if 1012 = paLasts ∧ i = (e.1 paBlocks).toNatClampNeg then -1 else if 1012 = paOwners ∧ i = (Int32.ofNat b).toNatClampNeg then x else e.2.1 1012 i) = _
    rw [if_neg (fun y => absurd y.1 (by decide)), h14', cb]
    by_cases q : i = b
    · rw [if_pos ⟨rfl, q⟩, if_pos q]
    · rw [if_neg (fun y => q y.2), if_neg q, if_neg (fun y => absurd y.1 (by decide))]
theorem pb_r6 {x y : Int32} (h42 : σ.1 42 = Int32.ofNat b) (b41 : b ≤ 1000) : (∀ g, (g5_openBlock x y σ).1 g = if g = 42 then Int32.ofNat (b + 1) else σ.1 g) ∧ (∀ g, g ≠ 43 → g ≠ 44 → g ≠ 45 → (g5_openBlock x y σ).2.2.1 g = σ.2.2.1 g) ∧ (g5_openBlock x y σ).2.1 = σ.2.1 ∧ (g5_openBlock x y σ).2.2.2 = σ.2.2.2 ∧ (∀ i, (g5_openBlock x y σ).2.2.1 44 i = if i = b then -1 else σ.2.2.1 44 i) := by
  have cb : (σ.1 42).toNatClampNeg = b := cln_6 h42 (by omega)
  have e0 : g5_openBlock x y σ = siU (riU (riU (riU σ 43 (σ.1 42).toNatClampNeg x) 44 (σ.1 42).toNatClampNeg (-1)) 45 (σ.1 42).toNatClampNeg (vp_nar .boolean y)) 42 (σ.1 42 + 1) := rfl
  rw [e0, cb]
  refine ⟨fun g => ?_, fun g q1 q2 q3 => ?_, rfl, rfl, fun i => ?_⟩
  · show (if g = 42 then σ.1 42 + 1 else σ.1 g) = _
    by_cases q : g = 42
    · rw [if_pos q, if_pos q, h42, on_15 (by omega)]
    · rw [if_neg q, if_neg q]
  · show (riU (riU (riU σ 43 b x) 44 b (-1)) 45 b (vp_nar .boolean y)).2.2.1 g = _
    rw [ri_o6 q3, ri_o6 q2, ri_o6 q1]
  · show (riU (riU (riU σ 43 b x) 44 b (-1)) 45 b (vp_nar .boolean y)).2.2.1 44 i = _
    rw [ri_o6 (by decide), ri_s6, ri_o6 (by decide)]
/-- the invariant with one block more -/
theorem MP_b6 {q n : Nat} {x : Int32} {σ' : rS} (P : MP6 T Bk nv na a b f (f + 1) s q e σ) (hn : n < q) (hx : x = Int32.ofNat n) (hkn : σ.2.2.1 30 n = 6 ∨ σ.2.2.1 30 n = 7) (c1 : ∀ g, g ≠ 1014 → e'.1 g = e.1 g) (c2 : ∀ g, g ≠ 1011 → g ≠ 1012 → g ≠ 1013 → e'.2.1 g = e.2.1 g) (c3 : ∀ i, e'.2.1 1011 i = if i = b then x else e.2.1 1011 i) (c4 : ∀ i, e'.2.1 1012 i = if i = b then -1 else e.2.1 1012 i) (d1 : ∀ g, g ≠ 42 → σ'.1 g = σ.1 g) (d2 : ∀ g, g ≠ 43 → g ≠ 44 → g ≠ 45 → σ'.2.2.1 g = σ.2.2.1 g) (d3 : ∀ i, σ'.2.2.1 44 i = if i = b then -1 else σ.2.2.1 44 i) : MP6 T Bk nv na a (b + 1) f (f + 1) s q e' σ' := by
  obtain ⟨⟨p1, p2⟩, p3, p4, p5, p6, ⟨p7, p8, p9⟩, p10, p11, p12, p13, p14⟩ := P
  have hm : cm6 e e' := cm_e6 (c1 515 (by decide)) (c2 507 (by decide) (by decide) (by decide)) (c2 508 (by decide) (by decide) (by decide))
  have w5 : e'.2.1 506 = e.2.1 506 := c2 506 (by decide) (by decide) (by decide)
  refine ⟨⟨by rw [c1 509 (by decide)]; exact p1, by rw [c1 510 (by decide)]; exact p2⟩, fun j hj => ?_, fun j hj => ?_, fun i hi => ?_, fun i i0 hi => ?_, ⟨fun g hg => ?_, fun g hg => ?_, fun g u v => ?_⟩, fun k hk => ?_, fun k hk => ?_, ?_, ?_, ?_⟩
  · obtain ⟨z, z1, z2⟩ := p3 j hj
    exact ⟨z, z1, st_m6 z2 hm (Nat.le_refl _) (Nat.le_refl _) (fun c _ => by rw [w5]) (by rw [d2 30 (by decide) (by decide) (by decide)]) (by rw [d2 31 (by decide) (by decide) (by decide)]) (by rw [d2 32 (by decide) (by decide) (by decide)]) (fun t _ _ _ => by rw [d2 39 (by decide) (by decide) (by decide)])⟩
  · have l := p4 j hj
    unfold lj6 at l ⊢
    rw [w5, d2 33 (by decide) (by decide) (by decide), d2 34 (by decide) (by decide) (by decide), d2 35 (by decide) (by decide) (by decide), d2 36 (by decide) (by decide) (by decide), d2 38 (by decide) (by decide) (by decide), d2 30 (by decide) (by decide) (by decide)]
    exact l
  · rw [c4, d3]
    by_cases y : i = b
    · rw [if_pos y, if_pos y]; exact ⟨rfl, Or.inl rfl⟩
    · rw [if_neg y, if_neg y]; exact p5 i (by omega)
  · rw [c3]
    by_cases y : i = b
    · rw [if_pos y]
      exact ⟨n, hn, hx, by rw [d2 30 (by decide) (by decide) (by decide)]; exact hkn⟩
    · rw [if_neg y, d2 30 (by decide) (by decide) (by decide)]; exact p6 i i0 (by omega)
  · rw [c2 505 (by decide) (by decide) (by decide), d2 27 (by decide) (by decide) (by decide)]; exact p7 g hg
  · rw [c2 503 (by decide) (by decide) (by decide), d2 29 (by decide) (by decide) (by decide)]; exact p8 g hg
  · rw [c2 503 (by decide) (by decide) (by decide)]; exact p9 g u v
  · rw [c2 500 (by decide) (by decide) (by decide), d2 21 (by decide) (by decide) (by decide)]; exact p10 k hk
  · rw [c2 501 (by decide) (by decide) (by decide), c2 502 (by decide) (by decide) (by decide), d2 23 (by decide) (by decide) (by decide), d2 24 (by decide) (by decide) (by decide), c1 511 (by decide)]; exact p11 k hk
  · rw [c1 511 (by decide), d1 17 (by decide)]; exact p12
  · rw [c1 511 (by decide)]; exact p13
  · rw [c1 511 (by decide)]; exact p14
theorem SR_b6 {σ' : rS} {o : Nat} (S : SR6 T X Bk N Z a o R e σ) (c1 : ∀ g, g ≠ 1014 → e'.1 g = e.1 g) (c2 : ∀ g, g ≠ 1011 → g ≠ 1012 → g ≠ 1013 → e'.2.1 g = e.2.1 g) (c3 : e'.2.2 = e.2.2) (d1 : ∀ g, g ≠ 42 → σ'.1 g = σ.1 g) (d2 : ∀ g, g ≠ 43 → g ≠ 44 → g ≠ 45 → σ'.2.2.1 g = σ.2.2.1 g) (d3 : σ'.2.2.2 = σ.2.2.2) : SR6 T X Bk N Z a o R e' σ' := by
  obtain ⟨⟨x1, x2, x3⟩, ⟨x4, x5, x6, x7⟩, x8, ⟨x9, x10, x11⟩, x12, x13⟩ := S
  refine ⟨⟨?_, ?_, (d1 2 (by decide)).trans x3⟩, ⟨x4, (c1 1002 (by decide)).trans x5, (c1 1003 (by decide)).trans x6, (d1 10 (by decide)).trans x7⟩, ⟨(d1 11 (by decide)).trans x8.1, (d1 46 (by decide)).trans x8.2.1, (d1 47 (by decide)).trans x8.2.2⟩, ⟨x9, (c1 1004 (by decide)).trans x10, (d1 13 (by decide)).trans x11⟩, cd_e6 x12 (c1 515 (by decide)) (c2 507 (by decide) (by decide) (by decide)) (c2 508 (by decide) (by decide) (by decide)), x13⟩
  · rw [← x1]
    unfold tq5
    rw [c1 taLength (by decide), c1 taTotal (by decide), c2 taBytes (by decide) (by decide) (by decide), c2 taKinds (by decide) (by decide) (by decide), c2 taPlaces (by decide) (by decide) (by decide), c2 taLengths (by decide) (by decide) (by decide), c3]
  · rw [← x2]
    unfold sx5
    rw [d2 5 (by decide) (by decide) (by decide), d2 6 (by decide) (by decide) (by decide), d2 7 (by decide) (by decide) (by decide), d2 9 (by decide) (by decide) (by decide), d3]
/-- one statement -/
theorem it_6 (H : TR5 T X Bk N Z) (hE : T.2.1 (N - 1) = 142) (I : iS5 T X Bk N Z a b f t s s e σ) (P : PI6 T X Bk N Z nv na a b f s e σ) (h : rdB5 (f5_Pa_addStatement e) (fun e1 r2 => f5_Pa_statement r2 e1) = .inl (e', ())) : ∃ a' b', a < a' ∧ iS5 T X Bk N Z a' b' f t (s + 1) (s + 1) e' (g5_tellStatement σ) ∧ PI6 T X Bk N Z nv na a' b' f (s + 1) e' (g5_tellStatement σ) := by
  obtain ⟨⟨R, S⟩, P⟩ := P
  have L := I.1
  have k4 : e.1 paKind = T.2.1 a := S.2.1.2.2.1
  have old := sr_stm H I
  have b41 : b ≤ 40 := S.2.2.2.1.1
  have hl41 : e.2.2 1011 = 41 := I.2.1.1.2.2.2.2.2.2.2
  -- old and new at once
  have both : ∀ a' b' σ', g5_tellStatement σ = σ' → a < a' → (∃ R', SR6 T X Bk N Z a' b' R' e' σ') → e'.1 1014 = Int32.ofNat b' → b' ≤ 1000 → MP6 T Bk nv na a' b' f (f + 1) (s + 1) (s + 1) e' σ' → ∃ a' b', a < a' ∧ iS5 T X Bk N Z a' b' f t (s + 1) (s + 1) e' (g5_tellStatement σ) ∧ PI6 T X Bk N Z nv na a' b' f (s + 1) e' (g5_tellStatement σ) := fun a' b' σ' hσ ha hS hb hb1 hM => by
    rw [hσ] at old ⊢
    obtain ⟨R', S'⟩ := hS
    have kk : e'.1 paKind ≠ 143 := by
      have z : e'.1 paKind = T.2.1 a' := S'.2.1.2.2.1
      rw [z]; exact nb_6 H hE S'.2.1.1
    obtain ⟨a2, b2, h2, I2⟩ := sr_x6 old h kk
    have ea : a2 = a' := by
      have z1 := I2.1.2.2.1.2.1
      have z2 : e'.1 paAt = Int32.ofNat a' := S'.2.1.2.1
      have n1 := I2.1.2.2.1.1
      have n2 := S'.2.1.1
      have h1 := H.1
      rw [z2] at z1
      have y := congrArg Int32.toInt z1
      rw [ofn_i (by omega), ofn_i (by omega)] at y
      omega
    have eb : b2 = b' := by
      have z1 : e'.1 1014 = Int32.ofNat b2 := I2.2.1.2.2.2.2.2.1.1
      have n1 : (b2 : Int) ≤ (e'.1 paOpen).toInt := I2.1.2.2.2.2.2.1
      have n2 := I2.1.2.2.2.2.2.2
      rw [hb] at z1
      have y := congrArg Int32.toInt z1
      rw [ofn_i (by omega), ofn_i (by omega)] at y
      omega
    rw [ea, eb] at I2
    exact ⟨a', b', ha, I2, ⟨R', S'⟩, hM⟩
  -- what is added
  have adk : ∀ k : Int32, T.2.1 a ≠ 142 → f5_Pa_addStatement e = f5_Pa_addStatement_59 e → ∃ e1 σ1, f5_Pa_statement (Int32.ofNat s) e1 = .inl (e', ()) ∧ s < 150 ∧ g5_newStatement k σ = (σ1, Int32.ofNat s) ∧ SR6 T X Bk N Z a b R e1 σ1 ∧ JS6 T Bk N nv na s e1 σ1 ∧ beg6 Bk s a R e1 σ1 ∧ σ1.2.2.1 30 s = k ∧ (σ1.1 41).toNatClampNeg = f ∧ MP6 T Bk nv na a b f (f + 1) (s + 1) s e1 σ1 ∧ (e1.1 1014 = Int32.ofNat b ∧ e1.2.2 = e.2.2) ∧ σ1.1 42 = σ.1 42 := fun k n142 ea => by
    rw [ea] at h
    obtain ⟨e1, r, t1, h⟩ := rb_s6 h
    obtain ⟨σ1, y1, y2⟩ := ad_6 (k := k) H hE I S P n142 t1
    rw [y1] at h
    exact ⟨e1, σ1, h, y2⟩
  -- a statement that ends at once
  have plain : ∀ (e1 : E5) (σ1 σ' : rS) (a' : Nat), g5_tellStatement σ = σ' → (σ1.1 41).toNatClampNeg = f → MP6 T Bk nv na a b f (f + 1) (s + 1) s e1 σ1 → (e1.1 1014 = Int32.ofNat b ∧ e1.2.2 = e.2.2) → fin6 T X Bk N Z nv na s a a' b e1 e' σ1 σ' → ∃ a' b', a < a' ∧ iS5 T X Bk N Z a' b' f t (s + 1) (s + 1) e' (g5_tellStatement σ) ∧ PI6 T X Bk N Z nv na a' b' f (s + 1) e' (g5_tellStatement σ) := fun e1 σ1 σ' a' hσ hf hM hb hF => by
    obtain ⟨x1, x2, x3, x4, x5⟩ := hF
    exact both a' b σ' hσ x2 x1 (by rw [x3.1.1 1014 (by decide) (by decide) (by decide) (by decide) (by decide) (by decide)]; exact hb.1) (by omega) (MP_w6 hM x3 x2 hf x4 x5)
  obtain ⟨so, _, _⟩ := lr_so5 H L
  have ko := (kd_o5 (lr_kd5 H L)).2.1
  have cs : s < 150 → (Int32.ofNat s).toNatClampNeg = s := fun q => cl_5 (by omega)
  have e52 : g5_tellStatement_52 σ = if e.1 paKind = 154 then g5_tellStatement_68 6 σ else g5_tellStatement_68 7 σ := by
    unfold g5_tellStatement_52
    rw [pb_e5, lr_wk5 H L (k := 154) (by decide) (by decide) rfl]
    by_cases c : e.1 paKind = 154
    · rw [if_pos c, if_pos c, if_neg ne105]
    · rw [if_neg c, if_neg c, if_pos rfl]
  have e133 : g5_tellStatement_133 σ = if e.1 paKind = 157 then g5_tellStatement_164 8 σ else if e.1 paKind = 158 then g5_tellStatement_164 9 σ else g5_tellStatement_164 10 σ := by
    unfold g5_tellStatement_133
    rw [pb_e5, lr_wk5 H L (k := 157) (by decide) (by decide) rfl, pb_e5, lr_wk5 H L (k := 158) (by decide) (by decide) rfl]
    by_cases c : e.1 paKind = 157
    · rw [if_pos c, if_pos c, if_neg ne105]
    · rw [if_neg c, if_neg c, if_pos rfl]
      by_cases c2 : e.1 paKind = 158
      · rw [if_pos c2, if_pos c2, if_neg ne105]
      · rw [if_neg c2, if_neg c2, if_pos rfl]
  -- return, observe, gain
  have w97 : ∀ k : Int32, (k = 8 ∨ k = 9 ∨ k = 10) → e.1 paKind ≠ 142 → ¬ e.1 paKind = 153 → ¬ e.1 paKind = 140 → f5_Pa_addStatement e = f5_Pa_addStatement_59 e → g5_tellStatement σ = g5_tellStatement_164 k σ → (∀ e1 : E5, e1.1 paKind = e.1 paKind → f5_Pa_wordStatement (Int32.ofNat s) e1 = rdB5 (f5_Pa_take e1) (fun e2 _ => rdB5 (f5_Pa_expression (Int32.ofNat s) (-1) e2) (fun e5 _ => f5_Pa_wordStatement_97 (Int32.ofNat s) 0 k e5))) → ∃ a' b', a < a' ∧ iS5 T X Bk N Z a' b' f t (s + 1) (s + 1) e' (g5_tellStatement σ) ∧ PI6 T X Bk N Z nv na a' b' f (s + 1) e' (g5_tellStatement σ) := fun k hk n142 n3 n0 ea et hw => by
    rw [k4] at n142
    obtain ⟨e1, σ1, h, y1, y2, y3, y4, y5, y6, y7, y8, y9, y10⟩ := adk k n142 ea
    have kk : e1.1 paKind = e.1 paKind := by
      have z : e1.1 paKind = T.2.1 a := y3.2.1.2.2.1
      rw [z, k4]
    rw [st_w5 (by rw [kk]; exact n3) (by rw [kk]; exact n0), hw e1 kk] at h
    obtain ⟨a', F⟩ := wd_6 H hE y3 y4 y5 n142 hk y6 h
    refine plain e1 σ1 _ a' ?_ y7 y8 y9 F
    rw [et, t164_5, y2]
    show g5_sign 59 (g5_expression (riU (g5_go σ1) 32 (Int32.ofNat s).toNatClampNeg ((g5_go σ1).1 10))).1 = _
    rw [cs y1]
  -- if, while
  have w49 : ∀ k : Int32, (k = 6 ∨ k = 7) → e.1 paKind ≠ 142 → ¬ e.1 paKind = 153 → ¬ e.1 paKind = 140 → f5_Pa_addStatement e = f5_Pa_addStatement_59 e → g5_tellStatement σ = g5_tellStatement_68 k σ → (∀ e1 : E5, e1.1 paKind = e.1 paKind → f5_Pa_wordStatement (Int32.ofNat s) e1 = rdB5 (f5_Pa_take e1) (fun e2 _ => rdB5 (f5_Pa_expression (Int32.ofNat s) (-1) e2) (fun e5 _ => f5_Pa_wordStatement_49 (Int32.ofNat s) (Int32.ofNat s) 0 k e5))) → ∃ a' b', a < a' ∧ iS5 T X Bk N Z a' b' f t (s + 1) (s + 1) e' (g5_tellStatement σ) ∧ PI6 T X Bk N Z nv na a' b' f (s + 1) e' (g5_tellStatement σ) := fun k hk n142 n3 n0 ea et hw => by
    rw [k4] at n142
    obtain ⟨e1, σ1, h, y1, y2, y3, y4, y5, y6, y7, y8, y9, y10⟩ := adk k n142 ea
    have kk : e1.1 paKind = e.1 paKind := by
      have z : e1.1 paKind = T.2.1 a := y3.2.1.2.2.1
      rw [z, k4]
    rw [st_w5 (by rw [kk]; exact n3) (by rw [kk]; exact n0), hw e1 kk] at h
    obtain ⟨a', e4, F, hp, k30⟩ := wi_6 H hE y3 y4 y5 n142 hk y6 h
    have et2 : g5_tellStatement σ = g5_openBlock (Int32.ofNat s) 0 (g5_open 123 (g5_expression (riU (g5_go σ1) 32 s ((g5_go σ1).1 10))).1) := by
      rw [et, t68_5, y2]
      show g5_openBlock (Int32.ofNat s) 0 (g5_open 123 (g5_expression (riU (g5_go σ1) 32 (Int32.ofNat s).toNatClampNeg ((g5_go σ1).1 10))).1) = _
      rw [cs y1]
    generalize g5_open 123 (g5_expression (riU (g5_go σ1) 32 s ((g5_go σ1).1 10))).1 = σ4 at F et2 k30
    obtain ⟨⟨R4, S4⟩, x2, x3, x4, x5⟩ := F
    have M4 := MP_w6 y8 x3 x2 y7 x4 x5
    have h14 : e4.1 1014 = Int32.ofNat b := by rw [x3.1.1 1014 (by decide) (by decide) (by decide) (by decide) (by decide) (by decide)]; exact y9.1
    have h42 : σ4.1 42 = Int32.ofNat b := by
      have z : σ.1 42 = Int32.ofNat b := I.2.1.2.2.2.2.2.1.2.1
      rw [x3.2.1.1 42 (by decide) (by decide) (by decide) (by decide) (by decide)]
      exact y10.trans z
    have l41 : e4.2.2 1011 = 41 := by rw [x3.1.2.2.1, y9.2]; exact hl41
    have b40 : b + 1 ≤ 40 := S4.2.2.2.1.1
    obtain ⟨c1, c2, c3, c4, c5⟩ := pb_c6 hp h14 (by omega) l41
    obtain ⟨d1, d2, d3, d4, d5⟩ := pb_r6 (x := Int32.ofNat s) (y := 0) h42 (by omega)
    generalize g5_openBlock (Int32.ofNat s) 0 σ4 = σ5 at et2 d1 d2 d3 d4 d5
    have c1' : ∀ g, g ≠ 1014 → e'.1 g = e4.1 g := fun g q => by rw [c1, if_neg q]
    have d1' : ∀ g, g ≠ 42 → σ5.1 g = σ4.1 g := fun g q => by rw [d1, if_neg q]
    exact both a' (b + 1) σ5 et2 x2 ⟨R4, SR_b6 S4 c1' c2 c3 d1' d2 d4⟩ (by rw [c1, if_pos rfl]) (by omega) (MP_b6 M4 (n := s) (by omega) rfl (by rw [k30]; exact hk) c1' c2 c4 c5 d1' d2 d5)
  -- the dispatch
  by_cases k140 : e.1 paKind = 140
  · have ea := as_59 (e := e) (Or.inl k140)
    obtain ⟨e1, σ1, h, y1, y2, y3, y4, y5, y6, y7, y8, y9, y10⟩ := adk 2 (by rw [← k4, k140]; decide) ea
    obtain ⟨a', F⟩ := nd_6 H hE y3 y4 y5 (k4.symm.trans k140) y6 h
    refine plain e1 σ1 _ a' ?_ y7 y8 y9 F
    unfold g5_tellStatement
    rw [so, if_pos (ko.mpr k140), pb_e5, tlM_5, y2]
  have n140 : ¬ X.1 (Bk + a) = 1 := fun q => k140 (ko.mp q)
  by_cases k153 : e.1 paKind = 153
  · have ea := as_59 (e := e) (Or.inr (Or.inl k153))
    obtain ⟨e1, σ1, h, y1, y2, y3, y4, y5, y6, y7, y8, y9, y10⟩ := adk 1 (by rw [← k4, k153]; decide) ea
    have kk : e1.1 paKind = 153 := by
      have z : e1.1 paKind = T.2.1 a := y3.2.1.2.2.1
      rw [z, ← k4]; exact k153
    unfold f5_Pa_statement at h
    rw [if_pos kk, rb_u5] at h
    obtain ⟨a', F⟩ := lc_6 H hE y3 y4 y5 (k4.symm.trans k153) y6 h
    refine plain e1 σ1 _ a' ?_ y7 y8 y9 F
    unfold g5_tellStatement
    rw [so, if_neg n140, pb_e5, lr_wk5 H L (k := 153) (by decide) (by decide) rfl, if_pos k153, if_neg ne105, pb_e5, tlL_5, y2]
  by_cases k154 : e.1 paKind = 154
  · refine w49 6 (Or.inl rfl) (by rw [k154]; decide) k153 k140 (as_59 (Or.inr (Or.inr (Or.inl k154)))) ?_ (fun e1 kk => ws_154 (kk.trans k154))
    unfold g5_tellStatement
    rw [so, if_neg n140, pb_e5, lr_wk5 H L (k := 153) (by decide) (by decide) rfl, if_neg k153, if_pos rfl, pb_e5, lr_wk5 H L (k := 154) (by decide) (by decide) rfl, if_pos k154, if_neg ne105, e52, if_pos k154]
  by_cases k156 : e.1 paKind = 156
  · refine w49 7 (Or.inr rfl) (by rw [k156]; decide) k153 k140 (as_59 (Or.inr (Or.inr (Or.inr (Or.inl k156))))) ?_ (fun e1 kk => ws_156 (kk.trans k156))
    unfold g5_tellStatement
    rw [so, if_neg n140, pb_e5, lr_wk5 H L (k := 153) (by decide) (by decide) rfl, if_neg k153, if_pos rfl, pb_e5, lr_wk5 H L (k := 154) (by decide) (by decide) rfl, if_neg k154, if_pos rfl, pb_e5, lr_wk5 H L (k := 156) (by decide) (by decide) rfl, if_pos k156, if_neg ne105, e52, if_neg k154]
  by_cases k157 : e.1 paKind = 157
  · refine w97 8 (Or.inl rfl) (by rw [k157]; decide) k153 k140 (as_59 (Or.inr (Or.inr (Or.inr (Or.inr (Or.inl k157)))))) ?_ (fun e1 kk => ws_157 (kk.trans k157))
    unfold g5_tellStatement
    rw [so, if_neg n140, pb_e5, lr_wk5 H L (k := 153) (by decide) (by decide) rfl, if_neg k153, if_pos rfl, pb_e5, lr_wk5 H L (k := 154) (by decide) (by decide) rfl, if_neg k154, if_pos rfl, pb_e5, lr_wk5 H L (k := 156) (by decide) (by decide) rfl, if_neg k156, if_pos rfl, pb_e5, lr_wk5 H L (k := 157) (by decide) (by decide) rfl, if_pos k157, if_neg ne105, e133, if_pos k157]
  by_cases k158 : e.1 paKind = 158
  · refine w97 9 (Or.inr (Or.inl rfl)) (by rw [k158]; decide) k153 k140 (as_59 (Or.inr (Or.inr (Or.inr (Or.inr (Or.inr (Or.inl k158))))))) ?_ (fun e1 kk => ws_158 (kk.trans k158))
    unfold g5_tellStatement
    rw [so, if_neg n140, pb_e5, lr_wk5 H L (k := 153) (by decide) (by decide) rfl, if_neg k153, if_pos rfl, pb_e5, lr_wk5 H L (k := 154) (by decide) (by decide) rfl, if_neg k154, if_pos rfl, pb_e5, lr_wk5 H L (k := 156) (by decide) (by decide) rfl, if_neg k156, if_pos rfl, pb_e5, lr_wk5 H L (k := 157) (by decide) (by decide) rfl, if_neg k157, if_pos rfl, pb_e5, lr_wk5 H L (k := 158) (by decide) (by decide) rfl, if_pos k158, if_neg ne105, e133, if_neg k157, if_pos k158]
  by_cases k159 : e.1 paKind = 159
  · refine w97 10 (Or.inr (Or.inr rfl)) (by rw [k159]; decide) k153 k140 (as_59 (Or.inr (Or.inr (Or.inr (Or.inr (Or.inr (Or.inr k159))))))) ?_ (fun e1 kk => ws_159 (kk.trans k159))
    unfold g5_tellStatement
    rw [so, if_neg n140, pb_e5, lr_wk5 H L (k := 153) (by decide) (by decide) rfl, if_neg k153, if_pos rfl, pb_e5, lr_wk5 H L (k := 154) (by decide) (by decide) rfl, if_neg k154, if_pos rfl, pb_e5, lr_wk5 H L (k := 156) (by decide) (by decide) rfl, if_neg k156, if_pos rfl, pb_e5, lr_wk5 H L (k := 157) (by decide) (by decide) rfl, if_neg k157, if_pos rfl, pb_e5, lr_wk5 H L (k := 158) (by decide) (by decide) rfl, if_neg k158, if_pos rfl, pb_e5, lr_wk5 H L (k := 159) (by decide) (by decide) rfl, if_pos k159, if_neg ne105, e133, if_neg k157, if_neg k158]
  rw [as_50 k140 k153 k154 k156 k157 k158 k159] at h
  cases h
end

end
section
set_option maxHeartbeats 1600000
/-! a block ended -/
section
variable {T : T5} {X : X5} {Bk N : Nat} {Z : Int32} {nv na a a' b b' f m t s q : Nat} {R : List Qq6} {e e' : E5} {σ σ' : rS}
theorem MP_q6 (P : MP6 T Bk nv na a b f m s q e σ) (ha : a ≤ a') (hb : b' ≤ b) (c1 : ∀ g, g ≠ 1002 → g ≠ 1003 → g ≠ 1004 → g ≠ 1014 → g ≠ 1016 → e'.1 g = e.1 g) (c2 : e'.2 = e.2) (d1 : ∀ g, g ≠ 10 → g ≠ 13 → g ≠ 42 → g ≠ 47 → g ≠ 48 → g ≠ 49 → σ'.1 g = σ.1 g) (d2 : σ'.2 = σ.2) : MP6 T Bk nv na a' b' f m s q e' σ' := by
  obtain ⟨⟨p1, p2⟩, p3, p4, p5, p6, ⟨p7, p8, p9⟩, p10, p11, p12, p13, p14⟩ := P
  have f511 := c1 511 (by decide) (by decide) (by decide) (by decide) (by decide)
  have hm : cm6 e e' := cm_e6 (c1 515 (by decide) (by decide) (by decide) (by decide) (by decide)) (by rw [c2]) (by rw [c2])
  unfold MP6 lj6 tf6 gl6
  rw [c2, d2, f511, c1 509 (by decide) (by decide) (by decide) (by decide) (by decide), c1 510 (by decide) (by decide) (by decide) (by decide) (by decide), d1 17 (by decide) (by decide) (by decide) (by decide) (by decide) (by decide)]
  refine ⟨⟨p1, p2⟩, fun j hj => ?_, p4, fun i hi => p5 i (by omega), fun i i0 hi => p6 i i0 (by omega), ⟨p7, p8, p9⟩, p10, p11, p12, p13, p14⟩
  obtain ⟨z, z1, z2⟩ := p3 j hj
  exact ⟨z, by omega, st_m6 z2 hm (Nat.le_refl _) (Nat.le_refl _) (fun c _ => by rw [c2]) rfl rfl rfl (fun t _ _ _ => rfl)⟩
theorem MP_s6 (P : MP6 T Bk nv na a b f m s q e σ) (ha : a ≤ a') (h : sf6 e e' σ σ') : MP6 T Bk nv na a' b f m s q e' σ' := MP_q6 P ha (Nat.le_refl _) (fun g x1 x2 x3 _ x5 => by
    by_cases y : g = 515
    · rw [y]; exact h.2.2.2.2
    · exact h.1.1 g x1 x2 x3 x5 y) h.2.1 (fun g x1 x2 _ x4 x5 x6 => h.2.2.1.1 g x1 x2 x4 x5 x6) h.2.2.2.1
/-- the old relation and the new at once -/
theorem bo_t6 {Q : E5 → Unit → rS → Prop} {r : R5 Unit} (H : TR5 T X Bk N Z) (hE : T.2.1 (N - 1) = 142) (hQ : ∀ e' σ', Q e' () σ' → ∃ a' b', a < a' ∧ iS5 T X Bk N Z a' b' f t s s e' σ') (old : sr5 Q r σ') (h : r = .inl (e', ())) (S : SR6 T X Bk N Z a' b' R e' σ') (hb : e'.1 1014 = Int32.ofNat b') (hb1 : b' ≤ 1000) (ha : a < a') (M : MP6 T Bk nv na a' b' f (f + 1) s s e' σ') : ∃ a' b', a < a' ∧ iS5 T X Bk N Z a' b' f t s s e' σ' ∧ PI6 T X Bk N Z nv na a' b' f s e' σ' := by
  have kk : e'.1 paKind ≠ 143 := by
    have z : e'.1 paKind = T.2.1 a' := S.2.1.2.2.1
    rw [z]; exact nb_6 H hE S.2.1.1
  obtain ⟨a2, b2, h2, I2⟩ := hQ _ _ (sr_x6 old h kk)
  have ea : a2 = a' := by
    have z1 := I2.1.2.2.1.2.1
    have z2 : e'.1 paAt = Int32.ofNat a' := S.2.1.2.1
    have n1 := I2.1.2.2.1.1
    have n2 := S.2.1.1
    have h1 := H.1
    rw [z2] at z1
    have y := congrArg Int32.toInt z1
    rw [ofn_i (by omega), ofn_i (by omega)] at y
    omega
  have eb : b2 = b' := by
    have z1 : e'.1 1014 = Int32.ofNat b2 := I2.2.1.2.2.2.2.2.1.1
    have n1 : (b2 : Int) ≤ (e'.1 paOpen).toInt := I2.1.2.2.2.2.2.1
    have n2 := I2.1.2.2.2.2.2.2
    rw [hb] at z1
    have y := congrArg Int32.toInt z1
    rw [ofn_i (by omega), ofn_i (by omega)] at y
    omega
  rw [ea, eb] at I2
  exact ⟨a', b', ha, I2, ⟨R, S⟩, M⟩
theorem eb_6 (H : TR5 T X Bk N Z) (hE : T.2.1 (N - 1) = 142) (I : iS5 T X Bk N Z a (b + 1) f t s s e σ) (hb : 0 < b) (P : PI6 T X Bk N Z nv na a (b + 1) f s e σ) (h : f5_Pa_closeBlock e = .inl (e', ())) : ∃ a' b', a < a' ∧ iS5 T X Bk N Z a' b' f t s s e' (g5_endBlock σ) ∧ PI6 T X Bk N Z nv na a' b' f s e' (g5_endBlock σ) := by
  obtain ⟨⟨R, S⟩, P⟩ := P
  have old := sr_endB H I hb
  have h0 := h
  have b40 : b + 1 ≤ 40 := S.2.2.2.1.1
  obtain ⟨L, ⟨G, ⟨w, O⟩, nc, fn, hi, bK, b0⟩, SS⟩ := I
  have hl41 : e.2.2 1011 = 41 := G.2.2.2.2.2.2.2
  obtain ⟨k1, k2, k3⟩ := bK
  have s42 : σ.1 42 = Int32.ofNat (b + 1) := k2
  have e14 : e.1 1014 = Int32.ofNat (b + 1) := k1
  have c42 : σ.1 42 - 1 = Int32.ofNat b := ofU_5 s42 (by omega)
  have cb : (Int32.ofNat b).toNatClampNeg = b := cl_5 (by omega)
  obtain ⟨q1, q2, _, q4⟩ := k3 b (by omega)
  obtain ⟨n, n1, n2⟩ := q4 hb
  have r11 : e.2.1 1011 b = Int32.ofNat n := n2
  have r43 : σ.2.2.1 43 b = Int32.ofNat n := by
    have z : e.2.1 1011 b = σ.2.2.1 43 b := q1
    rw [← z]; exact r11
  have r45 : e.2.1 1013 b = σ.2.2.1 45 b := q2
  have s150 := SS.1
  have kk : e.2.1 506 (11 * n) = 6 ↔ σ.2.2.1 30 n = 6 := (SS.2.2.2 n n1).2.1
  -- the reference
  have er : g5_endBlock σ = (if σ.2.2.1 45 b = 0 then (if (g5_close 125 (siU σ 42 (Int32.ofNat b))).2.2.1 30 n = 6 then (if g5_isWord 6 (g5_close 125 (siU σ 42 (Int32.ofNat b))) = 0 then g5_close 125 (siU σ 42 (Int32.ofNat b)) else g5_openBlock (Int32.ofNat n) 1 (g5_open 123 (g5_go (g5_close 125 (siU σ 42 (Int32.ofNat b)))))) else g5_close 125 (siU σ 42 (Int32.ofNat b))) else g5_close 125 (siU σ 42 (Int32.ofNat b))) ∨ g5_isRight (g5_close 125 (siU σ 42 (Int32.ofNat b))) = 0 := by
    by_cases y : g5_isRight (g5_close 125 (siU σ 42 (Int32.ofNat b))) = 0
    · exact Or.inr y
    · refine Or.inl ?_
      unfold g5_endBlock
      rw [pb_e5, pb_e5, pb_e5, pb_e5, pb_e5, c42, cb, r43, if_neg y, pb_e5, pb_e5, pb_e5, pb_e5, cl_5 (show n ≤ 67108864 by omega)]
  -- the class
  unfold f5_Pa_closeBlock at h
  obtain ⟨e1, _, t1, h⟩ := rb_s6 h
  have S0 : SR6 T X Bk N Z a (b + 1) R e (siU σ 42 (Int32.ofNat b)) := SR_b6 (e' := e) (σ' := siU σ 42 (Int32.ofNat b)) S (fun _ _ => rfl) (fun _ _ _ _ => rfl) rfl (fun g q => by rw [si1, if_neg q]) (fun _ _ _ _ => rfl) rfl
  obtain ⟨k125, S1, f1⟩ := scl_6 H hE S0 (by decide) (by decide) t1
  have s2 : (g5_close 125 (siU σ 42 (Int32.ofNat b))).2 = σ.2 := f1.2.2.2.1
  have t42 : (g5_close 125 (siU σ 42 (Int32.ofNat b))).1 42 = Int32.ofNat b := by
    rw [f1.2.2.1.1 42 (by decide) (by decide) (by decide) (by decide) (by decide), si1, if_pos rfl]
  have dσ : ∀ g, g ≠ 10 → g ≠ 13 → g ≠ 42 → g ≠ 47 → g ≠ 48 → g ≠ 49 → (g5_close 125 (siU σ 42 (Int32.ofNat b))).1 g = σ.1 g := fun g x1 x2 x3 x4 x5 x6 => by
    rw [f1.2.2.1.1 g x1 x2 x4 x5 x6, si1, if_neg x3]
  have er := er.resolve_right (by rw [(ok_goz6 S1.2.2.1).2]; exact ne105)
  rw [er] at old ⊢
  generalize g5_close 125 (siU σ 42 (Int32.ofNat b)) = σ2 at S1 f1 s2 t42 dσ er old ⊢
  have e1b : e1.1 paBlocks = Int32.ofNat (b + 1) := (f1.1.1 1014 (by decide) (by decide) (by decide) (by decide) (by decide)).trans e14
  rw [if_neg (show ¬ e1.1 paBlocks ≤ 0 by rw [e1b, lei, ofn_i (by omega), t0i]; omega), e1b, ofU_5 rfl (by omega)] at h
  unfold f5_Pa_closeBlock_24 at h
  obtain ⟨e2, he2⟩ : ∃ e2 : E5, e2 = (fun g => if g = paBlocks then Int32.ofNat b else e1.1 g, e1.2) := ⟨_, rfl⟩
  have h : (pb5 (e2.2.1 paOwners (e2.1 paBlocks).toNatClampNeg) (fun v1_3 => if v1_3 = -1 then (if (10 : Int32) ≤ e2.1 coFunctions then f5_Pa_closeBlock_86 e2 else rdB5 (sa5 coOwnCounts (e2.1 coFunctions).toNatClampNeg (e2.1 paOwns) e2) (fun e19 _ => rdB5 (stI5 coFunctions (e19.1 coFunctions + 1) e19) (fun e21 _ => f5_Pa_closeBlock_86 e21))) else if e2.1 paKind = 155 then pb5 (cl5 v1_3 0 e2) (fun r5 => if r5 = 6 then (if e2.2.1 paElses (e2.1 paBlocks).toNatClampNeg = 0 then rdB5 (f5_Pa_take e2) (fun e8 _ => rdB5 (f5_Pa_openSign 123 e8) (fun e11 _ => rdB5 (f5_Pa_pushBlock v1_3 1 e11) (fun e15 _ => .inl (e15, ())))) else .inl (e2, ())) else .inl (e2, ())) else .inl (e2, ()))) = (.inl (e', ()) : R5 Unit) := by rw [he2]; exact h
  have p1 : ∀ g, g ≠ 1014 → e2.1 g = e1.1 g := fun g y => by
    rw [he2]
    exact if_neg y
  have p14 : e2.1 paBlocks = Int32.ofNat b := by
    rw [he2]
    show (if 1014 = 1014 then Int32.ofNat b else e1.1 1014) = _
    exact if_pos rfl
  have p2 : e2.2 = e.2 := by rw [he2]; exact f1.2.1
  have S2 : SR6 T X Bk N Z (a + 1) b R e2 σ2 := SR_b6 (e' := e2) (σ' := σ2) S1 p1 (fun g _ _ _ => by rw [he2]) (by rw [he2]) (fun _ _ => rfl) (fun _ _ _ _ => rfl) rfl
  clear he2
  have M2 : MP6 T Bk nv na (a + 1) b f (f + 1) s s e2 σ2 := MP_q6 P (by omega) (by omega) (fun g x1 x2 x3 x4 x5 => by
    rw [p1 g x4]
    by_cases y : g = 515
    · rw [y]; exact f1.2.2.2.2
    · exact f1.1.1 g x1 x2 x3 x5 y) p2 dσ s2
  have k2' : e2.1 paKind = T.2.1 (a + 1) := S2.2.1.2.2.1
  have c0 : cl5 (Int32.ofNat n) 0 e2 = e.2.1 506 (11 * n) := by
    have z13 : e2.1 513 = Int32.ofNat s := by
      rw [p1 513 (by decide), f1.1.1 513 (by decide) (by decide) (by decide) (by decide) (by decide)]; exact SS.2.1
    have z := cl_s6 (s := n) (c := 0) z13 n1 s150 (by omega)
    rw [p2] at z
    exact z
  rw [pb_e5, p14, cb, p2, r11, if_neg (no_m6 (by omega)), k2', pb_e5, c0] at h
  have swd := swd_6 H hE S2 (w := 6) (k := 155) (by decide) (by decide) rfl
  rw [swd] at old er ⊢
  -- no else
  have none : ∀ τ9, e2 = e' → τ9 = σ2 → sr5 (fun e' _ σ' => ∃ a' b', a < a' ∧ iS5 T X Bk N Z a' b' f t s s e' σ') (f5_Pa_closeBlock e) τ9 → ∃ a' b', a < a' ∧ iS5 T X Bk N Z a' b' f t s s e' τ9 ∧ PI6 T X Bk N Z nv na a' b' f s e' τ9 := fun τ9 ee et old => by
    rw [et] at old ⊢
    rw [← ee] at h0 ⊢
    exact bo_t6 H hE (fun _ _ z => z) old h0 S2 p14 (by omega) (by omega) M2
  have s30 : σ2.2.2.1 30 n = 6 ↔ e.2.1 506 (11 * n) = 6 := by rw [s2]; exact kk.symm
  by_cases c155 : T.2.1 (a + 1) = 155
  · rw [if_pos c155] at h
    by_cases c6 : e.2.1 506 (11 * n) = 6
    · rw [if_pos c6] at h
      have cE : e2.2.1 paElses b = σ.2.2.1 45 b := by rw [p2]; exact r45
      rw [← p2, cE] at h
      by_cases c45 : σ.2.2.1 45 b = 0
      · rw [if_pos c45] at h
        obtain ⟨e8, _, t8, h⟩ := rb_s6 h
        obtain ⟨e11, _, t11, h⟩ := rb_s6 h
        rw [rb_u5] at h
        rw [if_pos c45, if_pos (s30.mpr c6), if_pos c155, if_neg ne105] at old ⊢
        obtain ⟨S8, f8⟩ := sk_6 H hE S2 (by rw [c155]; decide) t8
        obtain ⟨_, o40, S11, f11⟩ := sop_6 H hE S8 (by decide) (by decide) t11
        have fs := sf_t6 f8 f11
        have M11 := MP_s6 (a' := a + 3) M2 (by omega) fs
        have h14 : e11.1 1014 = Int32.ofNat b := (fs.1.1 1014 (by decide) (by decide) (by decide) (by decide) (by decide)).trans p14
        have h42 : (g5_open 123 (g5_go σ2)).1 42 = Int32.ofNat b := (fs.2.2.1.1 42 (by decide) (by decide) (by decide) (by decide) (by decide)).trans t42
        have l41 : e11.2.2 1011 = 41 := by rw [fs.2.1, p2]; exact hl41
        have k30 : (g5_open 123 (g5_go σ2)).2.2.1 30 n = 6 := by rw [fs.2.2.2.1]; exact s30.mpr c6
        generalize g5_open 123 (g5_go σ2) = σ4 at S11 f11 fs M11 h42 k30 old ⊢
        obtain ⟨c1, c2, c3, c4, c5⟩ := pb_c6 h h14 (by omega) l41
        obtain ⟨d1, d2, d3, d4, d5⟩ := pb_r6 (x := Int32.ofNat n) (y := 1) h42 (by omega)
        generalize g5_openBlock (Int32.ofNat n) 1 σ4 = σ5 at d1 d2 d3 d4 d5 old ⊢
        have c1' : ∀ g, g ≠ 1014 → e'.1 g = e11.1 g := fun g q => by rw [c1, if_neg q]
        have d1' : ∀ g, g ≠ 42 → σ5.1 g = σ4.1 g := fun g q => by rw [d1, if_neg q]
        exact bo_t6 H hE (fun _ _ z => z) old h0 (SR_b6 S11 c1' c2 c3 d1' d2 d4) (by rw [c1, if_pos rfl]) (by omega) (by omega) (MP_b6 M11 (n := n) n1 rfl (Or.inl k30) c1' c2 c4 c5 d1' d2 d5)
      · rw [if_neg c45] at h
        have ee : e2 = e' := congrArg Prod.fst (Sum.inl.inj h)
        exact none _ ee (by rw [if_neg c45]) old
    · rw [if_neg c6] at h
      have ee : e2 = e' := congrArg Prod.fst (Sum.inl.inj h)
      refine none _ ee ?_ old
      rw [if_neg (fun z => c6 (s30.mp z))]
      by_cases c45 : σ.2.2.1 45 b = 0
      · rw [if_pos c45]
      · rw [if_neg c45]
  · rw [if_neg c155] at h
    have ee : e2 = e' := congrArg Prod.fst (Sum.inl.inj h)
    refine none _ ee ?_ old
    rw [if_neg c155, if_pos rfl]
    by_cases c45 : σ.2.2.1 45 b = 0
    · rw [if_pos c45]
      by_cases c30 : σ2.2.2.1 30 n = 6
      · rw [if_pos c30]
      · rw [if_neg c30]
    · rw [if_neg c45]
end

end
section
set_option maxHeartbeats 1600000
/-! a function ended; between items -/
def PO6 (T : T5) (X : X5) (Bk N : Nat) (Z : Int32) (nv na a f s : Nat) (e : E5) (σ : rS) : Prop := (∃ R, SR6 T X Bk N Z a 0 R e σ) ∧ MP6 T Bk nv na a 0 f f s s e σ ∧ e.1 512 = Int32.ofNat f ∧ f ≤ 10
section
variable {T : T5} {X : X5} {Bk N : Nat} {Z : Int32} {nv na a a' b b' f f' m m' t s q : Nat} {R : List Qq6} {e e' : E5} {σ σ' : rS}
/-- other fields and rows stored: what counts is as it was -/
theorem MP_o6 (P : MP6 T Bk nv na a b f m s q e σ) (hm9 : m ≤ m') (ha : a ≤ a') (hb : b' ≤ b) (c1 : ∀ g, g = 509 ∨ g = 510 ∨ g = 511 ∨ g = 515 → e'.1 g = e.1 g) (c2 : ∀ g, g = 500 ∨ g = 501 ∨ g = 502 ∨ g = 506 ∨ g = 507 ∨ g = 508 ∨ g = 1011 ∨ g = 1012 → e'.2.1 g = e.2.1 g) (d1 : σ'.1 17 = σ.1 17) (d2 : ∀ g, g = 21 ∨ g = 23 ∨ g = 24 ∨ g = 30 ∨ g = 31 ∨ g = 32 ∨ g = 33 ∨ g = 34 ∨ g = 35 ∨ g = 36 ∨ g = 38 ∨ g = 39 ∨ g = 44 → σ'.2.2.1 g = σ.2.2.1 g) (F : tf6 f' m' s e' σ') : MP6 T Bk nv na a' b' f' m' s q e' σ' := by
  obtain ⟨⟨p1, p2⟩, p3, p4, p5, p6, _, p10, p11, p12, p13, p14⟩ := P
  have f511 := c1 511 (by decide)
  have hm : cm6 e e' := cm_e6 (c1 515 (by decide)) (c2 507 (by decide)) (c2 508 (by decide))
  refine ⟨⟨by rw [c1 509 (by decide)]; exact p1, by rw [c1 510 (by decide)]; exact p2⟩, fun j hj => ?_, fun j hj => ?_, fun i hi => ?_, fun i i0 hi => ?_, F, fun k hk => ?_, fun k hk => ?_, ?_, ?_, ?_⟩
  · obtain ⟨z, z1, z2⟩ := p3 j hj
    exact ⟨z, by omega, st_m6 z2 hm (Nat.le_refl _) (Nat.le_refl _) (fun c _ => by rw [c2 506 (by decide)]) (by rw [d2 30 (by decide)]) (by rw [d2 31 (by decide)]) (by rw [d2 32 (by decide)]) (fun t _ _ _ => by rw [d2 39 (by decide)])⟩
  · have l := p4 j hj
    unfold lj6 at l ⊢
    rw [c2 506 (by decide), d2 33 (by decide), d2 34 (by decide), d2 35 (by decide), d2 36 (by decide), d2 38 (by decide), d2 30 (by decide)]
    obtain ⟨l1, l2, l3, l4, l5, g9, ⟨y1, y2⟩, y3⟩ := l
    exact ⟨l1, l2, l3, l4, l5, g9, ⟨by omega, y2⟩, y3⟩
  · rw [c2 1012 (by decide), d2 44 (by decide)]; exact p5 i (by omega)
  · rw [c2 1011 (by decide), d2 30 (by decide)]; exact p6 i i0 (by omega)
  · rw [c2 500 (by decide), d2 21 (by decide)]; exact p10 k hk
  · rw [c2 501 (by decide), c2 502 (by decide), d2 23 (by decide), d2 24 (by decide), f511]; exact p11 k hk
  · rw [f511, d1]; exact p12
  · rw [f511]; exact p13
  · rw [f511]; exact p14
theorem SR_o6 {o : Nat} (S : SR6 T X Bk N Z a o R e σ) (c1 : ∀ g, g = 1002 ∨ g = 1003 ∨ g = 1004 ∨ g = 515 ∨ g = 1301 ∨ g = 1305 → e'.1 g = e.1 g) (c2 : ∀ g, g = 507 ∨ g = 508 ∨ g = 1300 ∨ g = 1302 ∨ g = 1303 ∨ g = 1304 → e'.2.1 g = e.2.1 g) (c3 : e'.2.2 = e.2.2) (d1 : ∀ g, g = 2 ∨ g = 10 ∨ g = 11 ∨ g = 13 ∨ g = 46 ∨ g = 47 → σ'.1 g = σ.1 g) (d2 : ∀ g, g = 5 ∨ g = 6 ∨ g = 7 ∨ g = 9 → σ'.2.2.1 g = σ.2.2.1 g) (d3 : σ'.2.2.2 = σ.2.2.2) : SR6 T X Bk N Z a o R e' σ' := by
  obtain ⟨⟨x1, x2, x3⟩, ⟨x4, x5, x6, x7⟩, x8, ⟨x9, x10, x11⟩, x12, x13⟩ := S
  refine ⟨⟨?_, ?_, (d1 2 (by decide)).trans x3⟩, ⟨x4, (c1 1002 (by decide)).trans x5, (c1 1003 (by decide)).trans x6, (d1 10 (by decide)).trans x7⟩, ⟨(d1 11 (by decide)).trans x8.1, (d1 46 (by decide)).trans x8.2.1, (d1 47 (by decide)).trans x8.2.2⟩, ⟨x9, (c1 1004 (by decide)).trans x10, (d1 13 (by decide)).trans x11⟩, cd_e6 x12 (c1 515 (by decide)) (c2 507 (by decide)) (c2 508 (by decide)), x13⟩
  · rw [← x1]
    unfold tq5
    rw [c1 taLength (by decide), c1 taTotal (by decide), c2 taBytes (by decide), c2 taKinds (by decide), c2 taPlaces (by decide), c2 taLengths (by decide), c3]
  · rw [← x2]
    unfold sx5
    rw [d2 5 (by decide), d2 6 (by decide), d2 7 (by decide), d2 9 (by decide), d3]
/-- places told twice are one -/
theorem ea_6 {a2 : Nat} (H : TR5 T X Bk N Z) (S : SR6 T X Bk N Z a 0 R e σ) (h1 : e.1 paAt = Int32.ofNat a2) (h2 : a2 < N) : a2 = a := by
  have z2 : e.1 paAt = Int32.ofNat a := S.2.1.2.1
  have n2 := S.2.1.1
  have hh := H.1
  rw [z2] at h1
  have y := congrArg Int32.toInt h1
  rw [ofn_i (by omega), ofn_i (by omega)] at y
  omega
theorem fe_6 {fs : Nat} {tok : Int32} (H : TR5 T X Bk N Z) (hE : T.2.1 (N - 1) = 142) (I : iS5 T X Bk N Z a 1 f t s s e σ) (P : PI6 T X Bk N Z nv na a 1 f s e σ) (hk : e.1 paKind = 125) (htok : tok = Int32.ofNat (Bk + t)) (h : f5_Pa_closeBlock e = .inl (e', ())) : ∃ a', a < a' ∧ oI5 T X Bk N Z a' s e' (tlF5 (fs + 2) tok σ) ∧ PO6 T X Bk N Z nv na a' (f + 1) s e' (tlF5 (fs + 2) tok σ) := by
  obtain ⟨⟨R, S⟩, P⟩ := P
  have old := sr_endF (fs := fs) H I hk htok
  have h0 := h
  obtain ⟨L, ⟨G, ⟨w, O⟩, nc, fn, hi, bK, b0⟩, SS⟩ := I
  obtain ⟨k1, k2, k3⟩ := bK
  have s42 : σ.1 42 = 1 := k2
  have e14 : e.1 1014 = 1 := k1
  obtain ⟨f10, o1, o2, o3⟩ := O
  have o1' : σ.1 41 = Int32.ofNat f := o1
  have o2' : e.1 512 = Int32.ofNat f := o2
  have o10 : e.1 1010 = Int32.ofNat w := o3.2.1
  have o27 : σ.2.2.1 27 f = Int32.ofNat w := o3.2.2.1
  have w8 := o3.1
  have s18 : σ.1 18 = Int32.ofNat f := by
    obtain ⟨v, pF, _⟩ := G.2.2.1
    have z1 : e.1 512 = Int32.ofNat v := pF.2.1
    have z2 : σ.1 18 = Int32.ofNat v := pF.2.2.1
    rw [z2, ← z1]; exact o2'
  have hA : g5_isAt 125 σ = 1 := by rw [lr_at5 H L (by decide) (by decide), if_pos hk]
  have et : tlF5 (fs + 2) tok σ = if g5_isRight (g5_close 125 (siU σ 42 0)) = 0 then g5_close 125 (siU σ 42 0) else siU (riU (g5_close 125 (siU σ 42 0)) 25 ((g5_close 125 (siU σ 42 0)).1 18).toNatClampNeg tok) 18 ((g5_close 125 (siU σ 42 0)).1 18 + 1) := by
    unfold tlF5
    rw [tS_5 (lr_ir5 L) s42 hA]
  unfold f5_Pa_closeBlock at h
  obtain ⟨e1, _, t1, h⟩ := rb_s6 h
  have S0 : SR6 T X Bk N Z a (0 + 1) R e (siU σ 42 0) := SR_b6 (e' := e) (σ' := siU σ 42 0) S (fun _ _ => rfl) (fun _ _ _ _ => rfl) rfl (fun g q => by rw [si1, if_neg q]) (fun _ _ _ _ => rfl) rfl
  obtain ⟨k125, S1, f1⟩ := scl_6 H hE S0 (by decide) (by decide) t1
  rw [(ok_goz6 S1.2.2.1).2, if_neg ne105] at et
  have s2 : (g5_close 125 (siU σ 42 0)).2 = σ.2 := f1.2.2.2.1
  have t18 : (g5_close 125 (siU σ 42 0)).1 18 = Int32.ofNat f := by
    rw [f1.2.2.1.1 18 (by decide) (by decide) (by decide) (by decide) (by decide), si1, if_neg (by decide)]; exact s18
  have t17 : (g5_close 125 (siU σ 42 0)).1 17 = σ.1 17 := by
    rw [f1.2.2.1.1 17 (by decide) (by decide) (by decide) (by decide) (by decide), si1, if_neg (by decide)]
  rw [t18, cl_5 (by omega), on_15 (by omega)] at et
  generalize g5_close 125 (siU σ 42 0) = σ2 at S1 f1 s2 t17 t18 et
  obtain ⟨σ3, hσ3⟩ : ∃ σ3 : rS, σ3 = siU (riU σ2 25 f tok) 18 (Int32.ofNat (f + 1)) := ⟨_, rfl⟩
  have d1 : ∀ g, g ≠ 18 → σ3.1 g = σ2.1 g := fun g y => by
    rw [hσ3, si1, if_neg y]
    rfl
  have d2 : ∀ g, g ≠ 25 → σ3.2.2.1 g = σ.2.2.1 g := fun g y => by
    rw [hσ3]
    show (riU σ2 25 f tok).2.2.1 g = _
    rw [ri_o6 y, s2]
  have d3 : σ3.2.2.2 = σ2.2.2.2 := by rw [hσ3]; rfl
  rw [← hσ3] at et
  rw [et] at old ⊢
  clear hσ3
  -- the class
  have e1b : e1.1 paBlocks = 1 := (f1.1.1 1014 (by decide) (by decide) (by decide) (by decide) (by decide)).trans e14
  have e1f : e1.1 512 = Int32.ofNat f := (f1.1.1 512 (by decide) (by decide) (by decide) (by decide) (by decide)).trans o2'
  have e1o : e1.1 1010 = Int32.ofNat w := (f1.1.1 1010 (by decide) (by decide) (by decide) (by decide) (by decide)).trans o10
  have e11 : e1.2.1 1011 0 = -1 := by
    rw [f1.2.1]
    exact (k3 0 (by omega)).2.2.1 rfl
  rw [if_neg (show ¬ e1.1 paBlocks ≤ 0 by rw [e1b]; decide), e1b, show (1 : Int32) - 1 = 0 from rfl] at h
  have l10 : (10 : Int32).toInt = 10 := rfl
  have ec : f5_Pa_closeBlock_24 0 e1 = .inl ((fun g => if g = paInside then 0 else if g = paOwns then 0 else if g = coFunctions then e1.1 coFunctions + 1 else if g = paBlocks then 0 else e1.1 g, fun g j => if g = coOwnCounts ∧ j = (e1.1 coFunctions).toNatClampNeg then e1.1 paOwns else e1.2.1 g j, e1.2.2), ()) := by
    unfold f5_Pa_closeBlock_24
    show (if e1.2.1 1011 (0 : Int32).toNatClampNeg = -1 then (if (10 : Int32) ≤ e1.1 512 then _ else _) else _) = _
    rw [show (0 : Int32).toNatClampNeg = 0 from rfl, if_pos e11, if_neg (by rw [e1f, lei, l10, ofn_i (by omega)]; omega)]
    rfl
  rw [ec] at h
  have z : _ = e' := congrArg Prod.fst (Sum.inl.inj h)
  have c1 : ∀ g, g ≠ 1005 → g ≠ 1010 → g ≠ 512 → g ≠ 1014 → e'.1 g = e1.1 g := fun g y1 y2 y3 y4 => by
    rw [← z]
    show (if g = 1005 then 0 else if g = 1010 then 0 else if g = 512 then e1.1 512 + 1 else if g = 1014 then 0 else e1.1 g) = _
    rw [if_neg y1, if_neg y2, if_neg y3, if_neg y4]
  have c12 : e'.1 512 = Int32.ofNat (f + 1) := by
    rw [← z]
    show e1.1 512 + 1 = _
    rw [e1f, on_15 (by omega)]
  have c2 : ∀ g, g ≠ 505 → e'.2.1 g = e1.2.1 g := fun g y => by
    rw [← z]
    funext j
    exact if_neg (fun q => y q.1)
  have c5 : ∀ j, e'.2.1 505 j = if j = f then Int32.ofNat w else e1.2.1 505 j := fun j => by
    rw [← z]
    show (if 505 = 505 ∧ j = (e1.1 512).toNatClampNeg then e1.1 1010 else e1.2.1 505 j) = _
    rw [e1f, cl_5 (by omega), e1o]
    by_cases y : j = f
    · rw [if_pos ⟨rfl, y⟩, if_pos y]
    · rw [if_neg (fun q => y q.2), if_neg y]
  have c3 : e'.2.2 = e1.2.2 := by rw [← z]
  clear z ec
  have S3 : SR6 T X Bk N Z (a + 1) 0 R e' σ3 := SR_o6 S1 (fun g y => c1 g (by rcases y with y | y | y | y | y | y <;> rw [y] <;> decide) (by rcases y with y | y | y | y | y | y <;> rw [y] <;> decide) (by rcases y with y | y | y | y | y | y <;> rw [y] <;> decide) (by rcases y with y | y | y | y | y | y <;> rw [y] <;> decide)) (fun g y => c2 g (by rcases y with y | y | y | y | y | y <;> rw [y] <;> decide)) c3 (fun g y => d1 g (by rcases y with y | y | y | y | y | y <;> rw [y] <;> decide)) (fun g y => (d2 g (by rcases y with y | y | y | y <;> rw [y] <;> decide)).trans (by rw [s2])) d3
  have fx : ∀ g, g = 509 ∨ g = 510 ∨ g = 511 ∨ g = 515 → e1.1 g = e.1 g := fun g y => by
    rcases y with y | y | y | y
    · rw [y]; exact f1.1.1 509 (by decide) (by decide) (by decide) (by decide) (by decide)
    · rw [y]; exact f1.1.1 510 (by decide) (by decide) (by decide) (by decide) (by decide)
    · rw [y]; exact f1.1.1 511 (by decide) (by decide) (by decide) (by decide) (by decide)
    · rw [y]; exact f1.2.2.2.2
  have F3 : tf6 (f + 1) (f + 1) s e' σ3 := by
    obtain ⟨p7, p8, p9⟩ := P.2.2.2.2.2.1
    refine ⟨fun g hg => ?_, fun g hg => ?_, fun g y1 y2 => ?_⟩
    · rw [c5, d2 27 (by decide)]
      by_cases y : g = f
      · rw [if_pos y, y, o27]
        exact ⟨rfl, w, w8, rfl⟩
      · rw [if_neg y, f1.2.1]
        exact p7 g (by omega)
    · rw [c2 503 (by decide), f1.2.1, d2 29 (by decide)]
      exact p8 g hg
    · rw [c2 503 (by decide), f1.2.1]
      exact p9 g y1 y2
  have M3 : MP6 T Bk nv na (a + 1) 0 (f + 1) (f + 1) s s e' σ3 := MP_o6 P (by omega) (by omega) (by omega) (fun g y => (c1 g (by rcases y with y | y | y | y <;> rw [y] <;> decide) (by rcases y with y | y | y | y <;> rw [y] <;> decide) (by rcases y with y | y | y | y <;> rw [y] <;> decide) (by rcases y with y | y | y | y <;> rw [y] <;> decide)).trans (fx g y)) (fun g y => (c2 g (by rcases y with y | y | y | y | y | y | y | y <;> rw [y] <;> decide)).trans (by rw [f1.2.1])) ((d1 17 (by decide)).trans t17) (fun g y => d2 g (by rcases y with y | y | y | y | y | y | y | y | y | y | y | y | y <;> rw [y] <;> decide)) F3
  have kk : e'.1 paKind ≠ 143 := by
    have y : e'.1 paKind = T.2.1 (a + 1) := S3.2.1.2.2.1
    rw [y]; exact nb_6 H hE S3.2.1.1
  obtain ⟨a2, h2, I2⟩ := sr_x6 old h0 kk
  have ea := ea_6 H S3 I2.1.2.2.1.2.1 I2.1.2.2.1.1
  rw [ea] at I2
  exact ⟨a + 1, by omega, I2, ⟨R, S3⟩, M3, c12, by omega⟩
end

end
section
set_option maxHeartbeats 1600000
/-! items: vars and arrays -/
section
variable {T : T5} {X : X5} {Bk N : Nat} {Z : Int32} {nv na nv' na' a a' b f m t s q o : Nat} {R : List Qq6} {e e' : E5} {σ σ' : rS}
/-- a var or an array told -/
theorem MP_g6 (P : MP6 T Bk nv na a b f m s q e σ) (ha : a ≤ a') (hv : nv ≤ nv') (hn : na ≤ na') (n1 : (e'.1 509 = Int32.ofNat nv' ∧ nv' ≤ 10) ∧ (e'.1 510 = Int32.ofNat na' ∧ na' ≤ 3)) (g1 : gl6 nv' na' e' σ') (c1 : e'.1 515 = e.1 515) (c2 : ∀ g, g = 503 ∨ g = 505 ∨ g = 506 ∨ g = 507 ∨ g = 508 ∨ g = 1011 ∨ g = 1012 → e'.2.1 g = e.2.1 g) (d2 : ∀ g, g = 27 ∨ g = 29 ∨ g = 30 ∨ g = 31 ∨ g = 32 ∨ g = 33 ∨ g = 34 ∨ g = 35 ∨ g = 36 ∨ g = 38 ∨ g = 39 ∨ g = 44 → σ'.2.2.1 g = σ.2.2.1 g) : MP6 T Bk nv' na' a' b f m s q e' σ' := by
  obtain ⟨_, p3, p4, p5, p6, ⟨p7, p8, p9⟩, _⟩ := P
  have hm : cm6 e e' := cm_e6 c1 (c2 507 (by decide)) (c2 508 (by decide))
  refine ⟨n1, fun j hj => ?_, fun j hj => ?_, fun i hi => ?_, fun i i0 hi => ?_, ⟨fun g hg => ?_, fun g hg => ?_, fun g x y => ?_⟩, g1⟩
  · obtain ⟨z, z1, z2⟩ := p3 j hj
    exact ⟨z, by omega, st_m6 z2 hm hv hn (fun c _ => by rw [c2 506 (by decide)]) (by rw [d2 30 (by decide)]) (by rw [d2 31 (by decide)]) (by rw [d2 32 (by decide)]) (fun t _ _ _ => by rw [d2 39 (by decide)])⟩
  · have l := p4 j hj
    unfold lj6 at l ⊢
    rw [c2 506 (by decide), d2 33 (by decide), d2 34 (by decide), d2 35 (by decide), d2 36 (by decide), d2 38 (by decide), d2 30 (by decide)]
    exact l
  · rw [c2 1012 (by decide), d2 44 (by decide)]; exact p5 i hi
  · rw [c2 1011 (by decide), d2 30 (by decide)]; exact p6 i i0 hi
  · rw [c2 505 (by decide), d2 27 (by decide)]; exact p7 g hg
  · rw [c2 503 (by decide), d2 29 (by decide)]; exact p8 g hg
  · rw [c2 503 (by decide)]; exact p9 g x y
/-- an item's end: the old relation between items -/
theorem oi_6 (O : oI5 T X Bk N Z a s e σ) (I : itP5 T X Bk N Z (gE5 e) (gS5 σ) a 0 e' σ') : ∃ a', a < a' ∧ oI5 T X Bk N Z a' s e' σ' := by
  obtain ⟨a', ha, L1, G1, v1, w1⟩ := I
  refine ⟨a', ha, L1, G1, ?_, ?_, ?_, SS_k5 O.2.2.2.2.2 ?_ ?_ ?_ ?_ ?_⟩
  · have q : e'.1 1010 = e.1 1010 := congrArg (fun x => x.2.2.2.1) v1
    exact q.trans O.2.2.1
  · have q : e'.1 1005 = e.1 1005 := congrArg (fun x => x.2.2.2.2.2.2.2.2.2.2.1) v1
    exact q.trans O.2.2.2.1
  · have q : e'.1 1014 = e.1 1014 := congrArg (fun x => x.2.2.2.2.2.2.2.1) v1
    exact q.trans O.2.2.2.2.1
  · exact congrArg (fun x => x.2.2.2.2.2.1) v1
  · exact congrArg (fun x => x.2.2.2.2.2.2.1) v1
  · exact congrArg (fun x => x.2.2.2.2.2.2.1) w1
  · exact congrArg (fun x => x.2.2.2.2.2.2.2.1) w1
  · exact congrArg (fun x => x.2.2.2.2.2.2.2.2.1) w1
/-- the last of a var: behind its number -/
theorem v94_6 {tok x y : Int32} (H : TR5 T X Bk N Z) (hE : T.2.1 (N - 1) = 142) (S : SR6 T X Bk N Z a o R e σ) (P : MP6 T Bk nv na a b f m s q e σ) (n10 : nv < 10) (s15 : σ.1 15 = Int32.ofNat nv) (h : f5_Pa_varItem_94 x y e = .inl (e', ())) : SR6 T X Bk N Z (a + 1) o R e' (g5_tellVar_87 tok y σ) ∧ MP6 T Bk (nv + 1) na (a + 1) b f m s q e' (g5_tellVar_87 tok y σ) ∧ e'.1 512 = e.1 512 := by
  unfold f5_Pa_varItem_94 at h
  obtain ⟨e1, _, t1, h⟩ := rb_s6 h
  obtain ⟨_, S1, f1⟩ := sp_6 H hE S (by decide) (by decide) t1
  have P1 := MP_s6 (a' := a + 1) P (by omega) f1
  have l10 : (10 : Int32).toInt = 10 := rfl
  have e9 : e1.1 509 = Int32.ofNat nv := P1.1.1.1
  have cn : (e1.1 509).toNatClampNeg = nv := cln_6 e9 (by omega)
  rw [if_neg (show ¬ (10 : Int32) ≤ e1.1 coVars from fun y => by
    have y : (10 : Int32) ≤ e1.1 509 := y
    rw [e9, lei, l10, ofn_i (by omega)] at y
    omega)] at h
  have z := congrArg Prod.fst (Sum.inl.inj h)
  have z : ((fun g => if g = 509 then e1.1 509 + 1 else e1.1 g, fun g j => if g = 500 ∧ j = (e1.1 509).toNatClampNeg then y else if g = 1006 ∧ j = (e1.1 509).toNatClampNeg then x else e1.2.1 g j, e1.2.2) : E5) = e' := z
  have s15' : (g5_sign 59 σ).1 15 = Int32.ofNat nv := (f1.2.2.1.1 15 (by decide) (by decide) (by decide) (by decide) (by decide)).trans s15
  have e12 : e1.1 512 = e.1 512 := f1.1.1 512 (by decide) (by decide) (by decide) (by decide) (by decide)
  have er : g5_tellVar_87 tok y σ = siU (riU (riU (g5_sign 59 σ) 20 ((g5_sign 59 σ).1 15).toNatClampNeg tok) 21 ((g5_sign 59 σ).1 15).toNatClampNeg y) 15 ((g5_sign 59 σ).1 15 + 1) := by
    unfold g5_tellVar_87
    rw [pb_e5, pb_e5, (ok_goz6 S1.2.2.1).2, if_neg ne105]
    rfl
  rw [er]
  generalize g5_sign 59 σ = σ1 at S1 f1 P1 s15' er
  have cs : (σ1.1 15).toNatClampNeg = nv := cln_6 s15' (by omega)
  rw [cs]
  obtain ⟨σ2, hσ2⟩ : ∃ σ2 : rS, σ2 = siU (riU (riU σ1 20 nv tok) 21 nv y) 15 (σ1.1 15 + 1) := ⟨_, rfl⟩
  rw [← hσ2]
  have c1 : ∀ g, g ≠ 509 → e'.1 g = e1.1 g := fun g w => by
    rw [← z]
    exact if_neg w
  have c9 : e'.1 509 = Int32.ofNat (nv + 1) := by
    rw [← z]
    show e1.1 509 + 1 = _
    rw [e9, on_15 (by omega)]
  have c2 : ∀ g, g ≠ 500 → g ≠ 1006 → e'.2.1 g = e1.2.1 g := fun g w1 w2 => by
    rw [← z]
    funext j
    show (if g = 500 ∧ j = (e1.1 509).toNatClampNeg then y else if g = 1006 ∧ j = (e1.1 509).toNatClampNeg then x else e1.2.1 g j) = _
    rw [if_neg (fun v => w1 v.1), if_neg (fun v => w2 v.1)]
  have c0 : ∀ j, e'.2.1 500 j = if j = nv then y else e1.2.1 500 j := fun j => by
    rw [← z]
    show (if 500 = 500 ∧ j = (e1.1 509).toNatClampNeg then y else if 500 = 1006 ∧ j = (e1.1 509).toNatClampNeg then x else e1.2.1 500 j) = _
    rw [cn]
    by_cases w : j = nv
    · rw [if_pos ⟨rfl, w⟩, if_pos w]
    · rw [if_neg (fun v => w v.2), if_neg w, if_neg (fun v => absurd v.1 (by decide))]
  have c3 : e'.2.2 = e1.2.2 := by rw [← z]
  clear z
  have d1 : ∀ g, g ≠ 15 → σ2.1 g = σ1.1 g := fun g w => by
    rw [hσ2, si1, if_neg w]
    rfl
  have d2 : ∀ g, g ≠ 20 → g ≠ 21 → σ2.2.2.1 g = σ1.2.2.1 g := fun g w1 w2 => by
    rw [hσ2]
    show (riU (riU σ1 20 nv tok) 21 nv y).2.2.1 g = _
    rw [ri_o6 w2, ri_o6 w1]
  have d21 : ∀ j, σ2.2.2.1 21 j = if j = nv then y else σ1.2.2.1 21 j := fun j => by
    rw [hσ2]
    show (riU (riU σ1 20 nv tok) 21 nv y).2.2.1 21 j = _
    rw [ri_s6, ri_o6 (by decide)]
  have d3 : σ2.2.2.2 = σ1.2.2.2 := by rw [hσ2]; rfl
  clear hσ2
  refine ⟨SR_o6 S1 (fun g w => c1 g (by rcases w with w | w | w | w | w | w <;> rw [w] <;> decide)) (fun g w => c2 g (by rcases w with w | w | w | w | w | w <;> rw [w] <;> decide) (by rcases w with w | w | w | w | w | w <;> rw [w] <;> decide)) c3 (fun g w => d1 g (by rcases w with w | w | w | w | w | w <;> rw [w] <;> decide)) (fun g w => d2 g (by rcases w with w | w | w | w <;> rw [w] <;> decide) (by rcases w with w | w | w | w <;> rw [w] <;> decide)) d3, MP_g6 P1 (Nat.le_refl _) (by omega) (Nat.le_refl _) ⟨⟨c9, by omega⟩, by rw [c1 510 (by decide)]; exact P1.1.2⟩ ?_ (c1 515 (by decide)) (fun g w => c2 g (by rcases w with w | w | w | w | w | w | w <;> rw [w] <;> decide) (by rcases w with w | w | w | w | w | w | w <;> rw [w] <;> decide)) (fun g w => d2 g (by rcases w with w | w | w | w | w | w | w | w | w | w | w | w <;> rw [w] <;> decide) (by rcases w with w | w | w | w | w | w | w | w | w | w | w | w <;> rw [w] <;> decide)), (c1 512 (by decide)).trans e12⟩
  obtain ⟨p10, p11, p12, p13, p14⟩ := P1.2.2.2.2.2.2
  refine ⟨fun k hk => ?_, fun k hk => ?_, ?_, ?_, ?_⟩
  · rw [c0, d21]
    by_cases w : k = nv
    · rw [if_pos w, if_pos w]
    · rw [if_neg w, if_neg w]; exact p10 k (by omega)
  · rw [c2 501 (by decide) (by decide), c2 502 (by decide) (by decide), d2 23 (by decide) (by decide), d2 24 (by decide) (by decide), c1 511 (by decide)]; exact p11 k hk
  · rw [c1 511 (by decide), d1 17 (by decide)]; exact p12
  · rw [c1 511 (by decide)]; exact p13
  · rw [c1 511 (by decide)]; exact p14
/-- a var -/
theorem vi_6 (H : TR5 T X Bk N Z) (hE : T.2.1 (N - 1) = 142) (O : oI5 T X Bk N Z a s e σ) (P : PO6 T X Bk N Z nv na a f s e σ) (hk : e.1 paKind = 150) (h : f5_Pa_item_35 150 e = .inl (e', ())) : ∃ a' nv', a < a' ∧ oI5 T X Bk N Z a' s e' (g5_tellVar σ) ∧ PO6 T X Bk N Z nv' na a' f s e' (g5_tellVar σ) := by
  have L := O.1
  have G := O.2.1
  obtain ⟨⟨R, S⟩, P, p512, f10⟩ := P
  have old := sr_var H L G O.2.2.1 hk
  have h0 := h
  have k4 : T.2.1 a = 150 := S.2.1.2.2.1.symm.trans hk
  -- where it ends
  have done : ∀ a' nv' R', SR6 T X Bk N Z a' 0 R' e' (g5_tellVar σ) → MP6 T Bk nv' na a' 0 f f s s e' (g5_tellVar σ) → e'.1 512 = e.1 512 → ∃ a' nv', a < a' ∧ oI5 T X Bk N Z a' s e' (g5_tellVar σ) ∧ PO6 T X Bk N Z nv' na a' f s e' (g5_tellVar σ) := fun a' nv' R' S' M' h5 => by
    have kk : e'.1 paKind ≠ 143 := by
      have y : e'.1 paKind = T.2.1 a' := S'.2.1.2.2.1
      rw [y]; exact nb_6 H hE S'.2.1.1
    obtain ⟨a2, h2, I2⟩ := oi_6 O (sr_x6 old h0 kk)
    have ea := ea_6 H S' I2.1.2.2.1.2.1 I2.1.2.2.1.1
    rw [ea] at I2 h2
    exact ⟨a', nv', h2, I2, ⟨R', S'⟩, M', h5.trans p512, f10⟩
  unfold f5_Pa_item_35 at h
  obtain ⟨e1, _, t1, h⟩ := rb_s6 h
  rw [if_pos rfl, rb_u5] at h
  obtain ⟨S1, f1⟩ := sk_6 H hE S (by rw [k4]; decide) t1
  unfold f5_Pa_varItem at h
  obtain ⟨e2, r2, t2, h⟩ := rb_s6 h
  have P1 := MP_s6 (a' := a + 1) P (by omega) f1
  have v9 : e1.1 coVars = Int32.ofNat nv := P1.1.1.1
  have n10 := P1.1.1.2
  have s15 : σ.1 15 = Int32.ofNat nv := by
    obtain ⟨v, p1⟩ := G.1
    have z1 : e.1 509 = Int32.ofNat v := p1.2.1
    have z2 : σ.1 15 = Int32.ofNat v := p1.2.2.1
    rw [z2, ← z1]; exact P.1.1.1
  have s151 : (g5_go σ).1 15 = Int32.ofNat nv := (f1.2.2.1.1 15 (by decide) (by decide) (by decide) (by decide) (by decide)).trans s15
  have G1 : nG5 T Bk N (gE5 e1) (gS5 (g5_go σ)) := by rw [G_ge6 f1.1, Nz_gs6 f1.2.2.1]; exact G
  have O1 : vow5 (gE5 e1) = 0 := (f1.1.1 1010 (by decide) (by decide) (by decide) (by decide) (by decide)).trans O.2.2.1
  rw [v9] at t2
  have tv : g5_tellVar σ = (if g5_isAt 61 (g5_fresh 0 (Int32.ofNat nv) 10 (g5_go σ)).1 = 0 then g5_tellVar_87 (g5_fresh 0 (Int32.ofNat nv) 10 (g5_go σ)).2 0 (g5_fresh 0 (Int32.ofNat nv) 10 (g5_go σ)).1 else (if g5_isAt 45 (g5_go (g5_fresh 0 (Int32.ofNat nv) 10 (g5_go σ)).1) = 0 then g5_tellVar_53 (g5_fresh 0 (Int32.ofNat nv) 10 (g5_go σ)).2 (g5_isAt 45 (g5_go (g5_fresh 0 (Int32.ofNat nv) 10 (g5_go σ)).1)) (g5_go (g5_fresh 0 (Int32.ofNat nv) 10 (g5_go σ)).1) else g5_tellVar_53 (g5_fresh 0 (Int32.ofNat nv) 10 (g5_go σ)).2 (g5_isAt 45 (g5_go (g5_fresh 0 (Int32.ofNat nv) 10 (g5_go σ)).1)) (g5_go (g5_go (g5_fresh 0 (Int32.ofNat nv) 10 (g5_go σ)).1)))) ∨ g5_isRight (g5_fresh 0 (Int32.ofNat nv) 10 (g5_go σ)).1 = 0 := by
    by_cases y : g5_isRight (g5_fresh 0 (Int32.ofNat nv) 10 (g5_go σ)).1 = 0
    · exact Or.inr y
    · refine Or.inl ?_
      unfold g5_tellVar
      rw [pb_e5, s151, pm_e5, pb_e5, if_neg y, pb_e5, pb_e5, pb_e5, pb_e5]
  obtain ⟨k140, rr, lt, fr, S2, f2⟩ := snn_6 (inF := 0) H hE S1 G1 (Or.inl ⟨rfl, O1⟩) t2
  have nv10 : nv < 10 := by
    have l10 : (10 : Int32).toInt = 10 := rfl
    rw [lti, l10, ofn_i (by omega)] at lt
    omega
  have tv := tv.resolve_right (by rw [(ok_goz6 S2.2.2.1).2]; exact ne105)
  rw [fr] at tv
  have F2 := sf_t6 f1 f2
  have P2 := MP_s6 (a' := a + 2) P (by omega) F2
  have s152 : (g5_fresh 0 (Int32.ofNat nv) 10 (g5_go σ)).1.1 15 = Int32.ofNat nv := (F2.2.2.1.1 15 (by decide) (by decide) (by decide) (by decide) (by decide)).trans s15
  generalize (g5_fresh 0 (Int32.ofNat nv) 10 (g5_go σ)).1 = σ2 at S2 f2 F2 P2 s152 tv
  have e5 : e2.1 512 = e.1 512 := F2.1.1 512 (by decide) (by decide) (by decide) (by decide) (by decide)
  have k2 : e2.1 paKind = T.2.1 (a + 2) := S2.2.1.2.2.1
  rw [sn_6 H S2 (by decide) (by decide)] at tv
  rw [k2] at h
  by_cases c61 : T.2.1 (a + 2) = 61
  · rw [if_pos c61, if_neg ne105] at tv
    rw [if_pos c61] at h
    obtain ⟨e3, _, t3, h⟩ := rb_s6 h
    obtain ⟨S3, f3⟩ := sk_6 H hE S2 (by rw [c61]; decide) t3
    have F3 := sf_t6 F2 f3
    rw [sn_6 H S3 (by decide) (by decide)] at tv
    have k3 : e3.1 paKind = T.2.1 (a + 3) := S3.2.1.2.2.1
    rw [k3] at h
    -- the number, its sign before it taken
    have num : ∀ (a4 : Nat) (e4 : E5) (σ4 : rS) (mi : Int32), a + 3 ≤ a4 → (mi = 0 ∨ mi = 1) → SR6 T X Bk N Z a4 0 R e4 σ4 → sf6 e e4 σ σ4 → f5_Pa_varItem_52 r2 mi e4 = .inl (e', ()) → g5_tellVar σ = g5_tellVar_53 (Int32.ofNat (Bk + (a + 1))) mi σ4 → ∃ a' nv', a < a' ∧ oI5 T X Bk N Z a' s e' (g5_tellVar σ) ∧ PO6 T X Bk N Z nv' na a' f s e' (g5_tellVar σ) := fun a4 e4 σ4 mi h4 hmi S4 F4 h ev => by
      unfold f5_Pa_varItem_52 at h
      obtain ⟨e5', _, t5, h⟩ := rb_s6 h
      have k141 : e4.1 paKind = 141 ∧ e5' = e4 := by
        unfold f5_Pa_expect at t5
        by_cases y : e4.1 paKind = 141
        · rw [if_pos y] at t5
          exact ⟨y, (congrArg Prod.fst (Sum.inl.inj t5)).symm⟩
        · rw [if_neg y] at t5; cases t5
      obtain ⟨k141, ee⟩ := k141
      rw [ee] at h
      have kT : T.2.1 a4 = 141 := S4.2.1.2.2.1.symm.trans k141
      have hN4 := S4.2.1.1
      have nT : f5_Ta_numberAt (tq5 e4) (e4.1 paAt) = X.2.2.1 (Bk + a4) := by
        have z1 : e4.1 paAt = Int32.ofNat a4 := S4.2.1.2.1
        rw [S4.1.1, z1]
        exact H.2.2.2.2.1 a4 hN4 kT
      obtain ⟨so1, so2, so3⟩ := so_6 H S4.1.2.1 hN4 S4.2.1.2.2.2
      have ed : g5_due 2 σ4 = (σ4, σ4.1 10) := by
        unfold g5_due
        rw [so1, if_pos ((kd_o5 (H.2.2.1 a4 hN4)).2.2.1.mpr kT)]
      have n7 : σ4.2.2.1 7 (σ4.1 10).toNatClampNeg = X.2.2.1 (Bk + a4) := so2
      have fin : ∀ v : Int32, f5_Pa_varItem_89 r2 v e4 = .inl (e', ()) → g5_tellVar σ = g5_tellVar_82 (Int32.ofNat (Bk + (a + 1))) v σ4 → ∃ a' nv', a < a' ∧ oI5 T X Bk N Z a' s e' (g5_tellVar σ) ∧ PO6 T X Bk N Z nv' na a' f s e' (g5_tellVar σ) := fun v h ev => by
        unfold f5_Pa_varItem_89 at h
        obtain ⟨e6, _, t6, h⟩ := rb_s6 h
        obtain ⟨S6, f6⟩ := sk_6 H hE S4 (by rw [kT]; decide) t6
        have F6 := sf_t6 F4 f6
        have P6 := MP_s6 (a' := a4 + 1) P (by omega) F6
        unfold g5_tellVar_82 at ev
        rw [pb_e5] at ev
        have s6 : (g5_go σ4).1 15 = Int32.ofNat nv := (F6.2.2.1.1 15 (by decide) (by decide) (by decide) (by decide) (by decide)).trans s15
        obtain ⟨y1, y2, y3⟩ := v94_6 (tok := Int32.ofNat (Bk + (a + 1))) H hE S6 P6 nv10 s6 h
        rw [← ev] at y1 y2
        exact done _ _ _ y1 y2 (y3.trans (F6.1.1 512 (by decide) (by decide) (by decide) (by decide) (by decide)))
      unfold g5_tellVar_53 at ev
      rw [ed, pm_e5] at ev
      dsimp only at ev
      rw [n7] at ev
      rw [pb_e5, pb_e5, nT] at h
      rcases hmi with y | y
      · rw [if_pos y] at h
        rw [if_pos y] at ev
        exact fin _ h ev
      · rw [if_neg (by rw [y]; decide)] at h
        rw [if_neg (by rw [y]; decide)] at ev
        exact fin _ h ev
    by_cases c45 : T.2.1 (a + 3) = 45
    · rw [if_pos c45, if_neg ne105] at tv
      rw [if_pos c45] at h
      unfold f5_Pa_varItem_43 at h
      rw [if_neg ne105] at h
      obtain ⟨e4, _, t4, h⟩ := rb_s6 h
      obtain ⟨S4, f4⟩ := sk_6 H hE S3 (by rw [c45]; decide) t4
      exact num (a + 4) e4 _ 1 (by omega) (Or.inr rfl) S4 (sf_t6 F3 f4) h tv
    · rw [if_neg c45, if_pos rfl] at tv
      rw [if_neg c45] at h
      unfold f5_Pa_varItem_43 at h
      rw [if_pos rfl] at h
      exact num (a + 3) e3 _ 0 (by omega) (Or.inl rfl) S3 F3 h tv
  · rw [if_neg c61, if_pos rfl] at tv
    rw [if_neg c61] at h
    obtain ⟨y1, y2, y3⟩ := v94_6 (tok := Int32.ofNat (Bk + (a + 1))) H hE S2 P2 nv10 s152 h
    rw [← tv] at y1 y2
    exact done _ _ _ y1 y2 (y3.trans e5)
end

end
section
set_option maxHeartbeats 1600000
/-! items: arrays -/
/-- what is written at an array's end -/
def ar6 (a1 a2 : Int32) (σ5 : rS) : rS := pb5 (riU σ5 22 ((σ5.1 16)).toNatClampNeg a1) (fun σ9 => pb5 (riU σ9 23 ((σ9.1 16)).toNatClampNeg (σ9.2.2.1 7 (a2).toNatClampNeg)) (fun σ10 => pb5 (riU σ10 24 ((σ10.1 16)).toNatClampNeg (σ10.1 17)) (fun σ11 => pb5 (siU σ11 17 ((σ11.1 17) + (σ11.2.2.1 7 (a2).toNatClampNeg))) (fun σ12 => pb5 (siU σ12 16 ((σ12.1 16) + (1 : Int32))) (fun σ13 => σ13)))))
theorem arw_6 {tok p x : Int32} {na : Nat} {σ1 : rS} (cs : (σ1.1 16).toNatClampNeg = na) (r7 : σ1.2.2.1 7 p.toNatClampNeg = x) : ar6 tok p σ1 = siU (siU (riU (riU (riU σ1 22 na tok) 23 na x) 24 na (σ1.1 17)) 17 (σ1.1 17 + x)) 16 (σ1.1 16 + 1) := by
  have h1 : (riU σ1 22 na tok).2.2.1 7 p.toNatClampNeg = x := by rw [ri_o6 (show (7 : Nat) ≠ 22 by decide)]; exact r7
  have h2 : (riU (riU (riU σ1 22 na tok) 23 na x) 24 na (σ1.1 17)).2.2.1 7 p.toNatClampNeg = x := by rw [ri_o6 (show (7 : Nat) ≠ 24 by decide), ri_o6 (show (7 : Nat) ≠ 23 by decide)]; exact h1
  unfold ar6
  rw [pb_e5, pb_e5, pb_e5, pb_e5, pb_e5]
  show siU (siU (riU (riU (riU σ1 22 (σ1.1 16).toNatClampNeg tok) 23 (σ1.1 16).toNatClampNeg ((riU σ1 22 (σ1.1 16).toNatClampNeg tok).2.2.1 7 p.toNatClampNeg)) 24 (σ1.1 16).toNatClampNeg (σ1.1 17)) 17 (σ1.1 17 + (riU (riU (riU σ1 22 (σ1.1 16).toNatClampNeg tok) 23 (σ1.1 16).toNatClampNeg ((riU σ1 22 (σ1.1 16).toNatClampNeg tok).2.2.1 7 p.toNatClampNeg)) 24 (σ1.1 16).toNatClampNeg (σ1.1 17)).2.2.1 7 p.toNatClampNeg)) 16 (σ1.1 16 + 1) = _
  rw [cs, h1, h2]
section
variable {T : T5} {X : X5} {Bk N : Nat} {Z : Int32} {nv na a a' b f m t s q o : Nat} {R : List Qq6} {e e' : E5} {σ σ' : rS}
/-- the last of an array: from its number on -/
theorem a59_6 {tok r x p : Int32} {y : Nat} (H : TR5 T X Bk N Z) (hE : T.2.1 (N - 1) = 142) (S : SR6 T X Bk N Z a (o + 1) R e σ) (P : MP6 T Bk nv na a b f m s q e σ) (n3 : na < 3) (s16 : σ.1 16 = Int32.ofNat na) (kT : T.2.1 a = 141) (hx : x = Int32.ofNat y) (h8 : y ≤ 8) (h7 : σ.2.2.1 7 p.toNatClampNeg = x) (h : f5_Pa_arrayItem_59 r x e = .inl (e', ())) : SR6 T X Bk N Z (a + 3) o R e' (g5_tellArr_56 tok p σ) ∧ MP6 T Bk nv (na + 1) (a + 3) b f m s q e' (g5_tellArr_56 tok p σ) ∧ e'.1 512 = e.1 512 := by
  unfold f5_Pa_arrayItem_59 at h
  obtain ⟨e1, _, t1, h⟩ := rb_s6 h
  obtain ⟨S1, f1⟩ := sk_6 H hE S (by rw [kT]; decide) t1
  obtain ⟨e2, _, t2, h⟩ := rb_s6 h
  obtain ⟨_, S2, f2⟩ := scl_6 H hE S1 (by decide) (by decide) t2
  obtain ⟨e3, _, t3, h⟩ := rb_s6 h
  obtain ⟨_, S3, f3⟩ := sp_6 H hE S2 (by decide) (by decide) t3
  have F := sf_t6 (sf_t6 f1 f2) f3
  clear f1 f2 f3 t1 t2 t3 S1 S2
  have P3 := MP_s6 (a' := a + 3) P (by omega) F
  have l3 : (3 : Int32).toInt = 3 := rfl
  have e10 : e3.1 510 = Int32.ofNat na := P3.1.2.1
  have cn : (e3.1 510).toNatClampNeg = na := cln_6 e10 (by omega)
  rw [if_neg (show ¬ (3 : Int32) ≤ e3.1 coArrays from fun y => by
    have y : (3 : Int32) ≤ e3.1 510 := y
    rw [e10, lei, l3, ofn_i (by omega)] at y
    omega)] at h
  have z := congrArg Prod.fst (Sum.inl.inj h)
  have z : ((fun g => if g = 511 then e3.1 511 + x else if g = 510 then e3.1 510 + 1 else e3.1 g, fun g j => if g = 502 ∧ j = (e3.1 510).toNatClampNeg then x else if g = 501 ∧ j = (e3.1 510).toNatClampNeg then e3.1 511 else if g = 1007 ∧ j = (e3.1 510).toNatClampNeg then r else e3.2.1 g j, e3.2.2) : E5) = e' := z
  have e12 : e3.1 512 = e.1 512 := F.1.1 512 (by decide) (by decide) (by decide) (by decide) (by decide)
  have s16' : (g5_sign 59 (g5_close 93 (g5_go σ))).1 16 = Int32.ofNat na := (F.2.2.1.1 16 (by decide) (by decide) (by decide) (by decide) (by decide)).trans s16
  have er : g5_tellArr_56 tok p σ = ar6 tok p (g5_sign 59 (g5_close 93 (g5_go σ))) := by
    unfold g5_tellArr_56 ar6
    rw [pb_e5, pb_e5, pb_e5, pb_e5, (ok_goz6 S3.2.2.1).2, if_neg ne105]
  rw [er]
  have r7 : (g5_sign 59 (g5_close 93 (g5_go σ))).2.2.1 7 p.toNatClampNeg = x := by rw [F.2.2.2.1]; exact h7
  clear er
  generalize g5_sign 59 (g5_close 93 (g5_go σ)) = σ1 at S3 F P3 s16' r7
  have cs : (σ1.1 16).toNatClampNeg = na := cln_6 s16' (by omega)
  rw [arw_6 cs r7]
  obtain ⟨σ2, hσ2⟩ : ∃ σ2 : rS, σ2 = siU (siU (riU (riU (riU σ1 22 na tok) 23 na x) 24 na (σ1.1 17)) 17 (σ1.1 17 + x)) 16 (σ1.1 16 + 1) := ⟨_, rfl⟩
  rw [← hσ2]
  have c1 : ∀ g, g ≠ 510 → g ≠ 511 → e'.1 g = e3.1 g := fun g w1 w2 => by
    rw [← z]
    show (if g = 511 then _ else if g = 510 then _ else e3.1 g) = _
    rw [if_neg w2, if_neg w1]
  have c10 : e'.1 510 = Int32.ofNat (na + 1) := by
    rw [← z]
    show e3.1 510 + 1 = _
    rw [e10, on_15 (by omega)]
  have c11 : e'.1 511 = e3.1 511 + x := by rw [← z]; rfl
  have c2 : ∀ g, g ≠ 501 → g ≠ 502 → g ≠ 1007 → e'.2.1 g = e3.2.1 g := fun g w1 w2 w3 => by
    rw [← z]
    funext j
    show (if g = 502 ∧ j = (e3.1 510).toNatClampNeg then x else if g = 501 ∧ j = (e3.1 510).toNatClampNeg then e3.1 511 else if g = 1007 ∧ j = (e3.1 510).toNatClampNeg then r else e3.2.1 g j) = _
    rw [if_neg (fun v => w2 v.1), if_neg (fun v => w1 v.1), if_neg (fun v => w3 v.1)]
  have c51 : ∀ j, e'.2.1 501 j = if j = na then e3.1 511 else e3.2.1 501 j := fun j => by
    rw [← z]
    show (if 501 = 502 ∧ j = (e3.1 510).toNatClampNeg then x else if 501 = 501 ∧ j = (e3.1 510).toNatClampNeg then e3.1 511 else if 501 = 1007 ∧ j = (e3.1 510).toNatClampNeg then r else e3.2.1 501 j) = _
    rw [cn, if_neg (fun v => absurd v.1 (by decide))]
    by_cases w : j = na
    · rw [if_pos ⟨rfl, w⟩, if_pos w]
    · rw [if_neg (fun v => w v.2), if_neg w, if_neg (fun v => absurd v.1 (by decide))]
  have c52 : ∀ j, e'.2.1 502 j = if j = na then x else e3.2.1 502 j := fun j => by
    rw [← z]
    show (if 502 = 502 ∧ j = (e3.1 510).toNatClampNeg then x else if 502 = 501 ∧ j = (e3.1 510).toNatClampNeg then e3.1 511 else if 502 = 1007 ∧ j = (e3.1 510).toNatClampNeg then r else e3.2.1 502 j) = _
    rw [cn]
    by_cases w : j = na
    · rw [if_pos ⟨rfl, w⟩, if_pos w]
    · rw [if_neg (fun v => w v.2), if_neg w, if_neg (fun v => absurd v.1 (by decide)), if_neg (fun v => absurd v.1 (by decide))]
  have c3 : e'.2.2 = e3.2.2 := by rw [← z]
  clear z
  have d1 : ∀ g, g ≠ 16 → g ≠ 17 → σ2.1 g = σ1.1 g := fun g w1 w2 => by
    rw [hσ2, si1, if_neg w1, si1, if_neg w2]
    rfl
  have d17 : σ2.1 17 = σ1.1 17 + x := by
    rw [hσ2, si1, if_neg (by decide), si1, if_pos rfl]
  have d2 : ∀ g, g ≠ 22 → g ≠ 23 → g ≠ 24 → σ2.2.2.1 g = σ1.2.2.1 g := fun g w1 w2 w3 => by
    rw [hσ2]
    show (riU (riU (riU σ1 22 na tok) 23 na x) 24 na (σ1.1 17)).2.2.1 g = _
    rw [ri_o6 w3, ri_o6 w2, ri_o6 w1]
  have d23 : ∀ j, σ2.2.2.1 23 j = if j = na then x else σ1.2.2.1 23 j := fun j => by
    rw [hσ2]
    show (riU (riU (riU σ1 22 na tok) 23 na x) 24 na (σ1.1 17)).2.2.1 23 j = _
    rw [ri_o6 (by decide), ri_s6, ri_o6 (by decide)]
  have d24 : ∀ j, σ2.2.2.1 24 j = if j = na then σ1.1 17 else σ1.2.2.1 24 j := fun j => by
    rw [hσ2]
    show (riU (riU (riU σ1 22 na tok) 23 na x) 24 na (σ1.1 17)).2.2.1 24 j = _
    rw [ri_s6, ri_o6 (by decide), ri_o6 (by decide)]
  have d3 : σ2.2.2.2 = σ1.2.2.2 := by rw [hσ2]; rfl
  clear hσ2
  obtain ⟨p10, p11, p12, p13, p14⟩ := P3.2.2.2.2.2.2
  have xi : x.toInt = y := by rw [hx, ofn_i (by omega)]
  obtain ⟨k, hk⟩ : ∃ k : Nat, (e3.1 511).toInt = k := ⟨(e3.1 511).toInt.toNat, by omega⟩
  have ek : e3.1 511 = Int32.ofNat k := Int32.toInt_inj.mp (by rw [ofn_i (by omega), hk])
  have ek' : e'.1 511 = Int32.ofNat (k + y) := by
    rw [c11, ek, hx]
    exact Int32.toInt_inj.mp (by rw [add_i (by rw [ofn_i (by omega), ofn_i (by omega)]; omega) (by rw [ofn_i (by omega), ofn_i (by omega)]; omega), ofn_i (by omega), ofn_i (by omega), ofn_i (by omega)]; omega)
  have ei' : (e'.1 511).toInt = k + y := by rw [ek', ofn_i (by omega)]; omega
  refine ⟨SR_o6 S3 (fun g w => c1 g (by rcases w with w | w | w | w | w | w <;> rw [w] <;> decide) (by rcases w with w | w | w | w | w | w <;> rw [w] <;> decide)) (fun g w => c2 g (by rcases w with w | w | w | w | w | w <;> rw [w] <;> decide) (by rcases w with w | w | w | w | w | w <;> rw [w] <;> decide) (by rcases w with w | w | w | w | w | w <;> rw [w] <;> decide)) c3 (fun g w => d1 g (by rcases w with w | w | w | w | w | w <;> rw [w] <;> decide) (by rcases w with w | w | w | w | w | w <;> rw [w] <;> decide)) (fun g w => d2 g (by rcases w with w | w | w | w <;> rw [w] <;> decide) (by rcases w with w | w | w | w <;> rw [w] <;> decide) (by rcases w with w | w | w | w <;> rw [w] <;> decide)) d3, MP_g6 P3 (Nat.le_refl _) (Nat.le_refl _) (by omega) ⟨by rw [c1 509 (by decide) (by decide)]; exact P3.1.1, c10, by omega⟩ ⟨fun k hk => ?_, fun j hj => ?_, ?_, ?_, ?_⟩ (c1 515 (by decide) (by decide)) (fun g w => c2 g (by rcases w with w | w | w | w | w | w | w <;> rw [w] <;> decide) (by rcases w with w | w | w | w | w | w | w <;> rw [w] <;> decide) (by rcases w with w | w | w | w | w | w | w <;> rw [w] <;> decide)) (fun g w => d2 g (by rcases w with w | w | w | w | w | w | w | w | w | w | w | w <;> rw [w] <;> decide) (by rcases w with w | w | w | w | w | w | w | w | w | w | w | w <;> rw [w] <;> decide) (by rcases w with w | w | w | w | w | w | w | w | w | w | w | w <;> rw [w] <;> decide)), (c1 512 (by decide) (by decide)).trans e12⟩
  · rw [c2 500 (by decide) (by decide) (by decide), d2 21 (by decide) (by decide) (by decide)]; exact p10 k hk
  · rw [c51, c52, d23, d24, ei']
    by_cases w : j = na
    · rw [if_pos w, if_pos w, if_pos w, if_pos w]
      exact ⟨p12, rfl, k, y, by rw [← p12]; exact ek, hx, Int.le_refl _⟩
    · rw [if_neg w, if_neg w, if_neg w, if_neg w]
      obtain ⟨q1, q2, u, v, q3, q4, q5⟩ := p11 j (by omega)
      exact ⟨q1, q2, u, v, q3, q4, by omega⟩
  · rw [c11, d17, p12]
  · rw [ei']; omega
  · rw [ei']; omega
/-- an array -/
theorem ai_6 (H : TR5 T X Bk N Z) (hE : T.2.1 (N - 1) = 142) (O : oI5 T X Bk N Z a s e σ) (P : PO6 T X Bk N Z nv na a f s e σ) (hk : e.1 paKind = 151) (h : f5_Pa_item_35 151 e = .inl (e', ())) : ∃ a' na', a < a' ∧ oI5 T X Bk N Z a' s e' (g5_tellArr σ) ∧ PO6 T X Bk N Z nv na' a' f s e' (g5_tellArr σ) := by
  have L := O.1
  have G := O.2.1
  obtain ⟨⟨R, S⟩, P, p512, f10⟩ := P
  have old := sr_arr H L G O.2.2.1 hk
  have h0 := h
  have k4 : T.2.1 a = 151 := S.2.1.2.2.1.symm.trans hk
  -- where it ends
  have done : ∀ a' na' R', SR6 T X Bk N Z a' 0 R' e' (g5_tellArr σ) → MP6 T Bk nv na' a' 0 f f s s e' (g5_tellArr σ) → e'.1 512 = e.1 512 → ∃ a' na', a < a' ∧ oI5 T X Bk N Z a' s e' (g5_tellArr σ) ∧ PO6 T X Bk N Z nv na' a' f s e' (g5_tellArr σ) := fun a' na' R' S' M' h5 => by
    have kk : e'.1 paKind ≠ 143 := by
      have y : e'.1 paKind = T.2.1 a' := S'.2.1.2.2.1
      rw [y]; exact nb_6 H hE S'.2.1.1
    obtain ⟨a2, h2, I2⟩ := oi_6 O (sr_x6 old h0 kk)
    have ea := ea_6 H S' I2.1.2.2.1.2.1 I2.1.2.2.1.1
    rw [ea] at I2 h2
    exact ⟨a', na', h2, I2, ⟨R', S'⟩, M', h5.trans p512, f10⟩
  unfold f5_Pa_item_35 at h
  obtain ⟨e1, _, t1, h⟩ := rb_s6 h
  rw [if_neg (show ¬ (151 : Int32) = 150 by decide), if_pos rfl, rb_u5] at h
  obtain ⟨S1, f1⟩ := sk_6 H hE S (by rw [k4]; decide) t1
  unfold f5_Pa_arrayItem at h
  obtain ⟨e2, r2, t2, h⟩ := rb_s6 h
  have P1 := MP_s6 (a' := a + 1) P (by omega) f1
  have v9 : e1.1 coArrays = Int32.ofNat na := P1.1.2.1
  have n3 := P1.1.2.2
  have s16 : σ.1 16 = Int32.ofNat na := by
    obtain ⟨v, p1⟩ := G.2.1
    have z1 : e.1 510 = Int32.ofNat v := p1.2.1
    have z2 : σ.1 16 = Int32.ofNat v := p1.2.2.1
    rw [z2, ← z1]; exact P.1.2.1
  have s161 : (g5_go σ).1 16 = Int32.ofNat na := (f1.2.2.1.1 16 (by decide) (by decide) (by decide) (by decide) (by decide)).trans s16
  have G1 : nG5 T Bk N (gE5 e1) (gS5 (g5_go σ)) := by rw [G_ge6 f1.1, Nz_gs6 f1.2.2.1]; exact G
  have O1 : vow5 (gE5 e1) = 0 := (f1.1.1 1010 (by decide) (by decide) (by decide) (by decide) (by decide)).trans O.2.2.1
  rw [v9] at t2
  obtain ⟨k140, rr, lt, fr, S2, f2⟩ := snn_6 (inF := 0) H hE S1 G1 (Or.inl ⟨rfl, O1⟩) t2
  have na3 : na < 3 := by
    have l3 : (3 : Int32).toInt = 3 := rfl
    rw [lti, l3, ofn_i (by omega)] at lt
    omega
  have F2 := sf_t6 f1 f2
  have tv : g5_tellArr σ = pb5 (g5_open 91 (g5_fresh 0 (Int32.ofNat na) 3 (g5_go σ)).1) (fun σ5 => pm5 (g5_due 2 σ5) (fun σ7 r8 => pb5 (g5_isRight σ7) (fun r10 => if r10 = 0 then g5_tellArr_56 (g5_fresh 0 (Int32.ofNat na) 3 (g5_go σ)).2 r8 σ7 else pb5 (g5_within (σ7.2.2.1 7 r8.toNatClampNeg) 1 8 σ7) (fun r12 => if r12 = 0 then pb5 (g5_flaw 12 r8 σ7) (fun σ13 => g5_tellArr_56 (g5_fresh 0 (Int32.ofNat na) 3 (g5_go σ)).2 r8 σ13) else g5_tellArr_56 (g5_fresh 0 (Int32.ofNat na) 3 (g5_go σ)).2 r8 σ7)))) := by
    unfold g5_tellArr
    rw [pb_e5, s161, pm_e5]
  rw [fr] at tv
  generalize (g5_fresh 0 (Int32.ofNat na) 3 (g5_go σ)).1 = σ2 at S2 f2 F2 tv
  obtain ⟨e3, _, t3, h⟩ := rb_s6 h
  obtain ⟨_, _, S3, f3⟩ := sop_6 H hE S2 (by decide) (by decide) t3
  have F3 := sf_t6 F2 f3
  rw [pb_e5] at tv
  generalize g5_open 91 σ2 = σ3 at S3 f3 F3 tv
  obtain ⟨e4, _, t4, h⟩ := rb_s6 h
  have k141 : e3.1 paKind = 141 ∧ e4 = e3 := by
    unfold f5_Pa_expect at t4
    by_cases y : e3.1 paKind = 141
    · rw [if_pos y] at t4
      exact ⟨y, (congrArg Prod.fst (Sum.inl.inj t4)).symm⟩
    · rw [if_neg y] at t4; cases t4
  obtain ⟨k141, ee⟩ := k141
  rw [ee] at h
  have kT : T.2.1 (a + 3) = 141 := S3.2.1.2.2.1.symm.trans k141
  have hN3 := S3.2.1.1
  have nT : f5_Ta_numberAt (tq5 e3) (e3.1 paAt) = X.2.2.1 (Bk + (a + 3)) := by
    have z1 : e3.1 paAt = Int32.ofNat (a + 3) := S3.2.1.2.1
    rw [S3.1.1, z1]
    exact H.2.2.2.2.1 (a + 3) hN3 kT
  obtain ⟨so1, so2, so3⟩ := so_6 H S3.1.2.1 hN3 S3.2.1.2.2.2
  have ed : g5_due 2 σ3 = (σ3, σ3.1 10) := by
    unfold g5_due
    rw [so1, if_pos ((kd_o5 (H.2.2.1 (a + 3) hN3)).2.2.1.mpr kT)]
  have n7 : σ3.2.2.1 7 (σ3.1 10).toNatClampNeg = X.2.2.1 (Bk + (a + 3)) := so2
  rw [ed, pm_e5, pb_e5] at tv
  dsimp only at tv
  rw [(ok_goz6 S3.2.2.1).2, if_neg ne105, pb_e5, n7] at tv
  rw [pb_e5, nT] at h
  generalize X.2.2.1 (Bk + (a + 3)) = x at h tv n7 nT so2
  have l1 : (1 : Int32).toInt = 1 := rfl
  have l8 : (8 : Int32).toInt = 8 := rfl
  by_cases c1 : x < 1
  · rw [if_pos c1] at h
    unfold f5_Pa_arrayItem_49 at h
    cases h
  · rw [if_neg c1] at h
    by_cases c2 : x ≤ 8
    · rw [if_pos c2] at h
      have c3 : ¬ 8 < x := by rw [lei] at c2; rw [lti]; omega
      have ew : g5_within x 1 8 σ3 = 1 := by
        unfold g5_within
        rw [if_neg c1, if_neg c3]
      rw [ew, if_neg ne105] at tv
      rw [lei, l8] at c2
      rw [lti, l1] at c1
      obtain ⟨y, hy⟩ : ∃ y : Nat, x.toInt = y := ⟨x.toInt.toNat, by omega⟩
      have hx : x = Int32.ofNat y := Int32.toInt_inj.mp (by rw [ofn_i (by omega), hy])
      have P3 := MP_s6 (a' := a + 3) P (by omega) F3
      have s163 : σ3.1 16 = Int32.ofNat na := (F3.2.2.1.1 16 (by decide) (by decide) (by decide) (by decide) (by decide)).trans s16
      obtain ⟨y1, y2, y3⟩ := a59_6 (tok := Int32.ofNat (Bk + (a + 1))) H hE S3 P3 na3 s163 kT hx (by omega) n7 h
      rw [← tv] at y1 y2
      exact done _ _ _ y1 y2 (y3.trans (F3.1.1 512 (by decide) (by decide) (by decide) (by decide) (by decide)))
    · rw [if_neg c2] at h
      unfold f5_Pa_arrayItem_49 at h
      cases h
end

end
section
set_option maxHeartbeats 1600000
/-! items: a function's head -/
section
variable {T : T5} {X : X5} {Bk N : Nat} {Z : Int32} {nv na a a' b b' f f' m m' t s q o w : Nat} {R : List Qq6} {e e' : E5} {σ σ' : rS}
theorem SR_lo6 (H : TR5 T X Bk N Z) (hE : T.2.1 (N - 1) = 142) (S : SR6 T X Bk N Z a o R e σ) : LR5 T X Bk N Z (gE5 e) (gS5 σ) a o e σ := by
  obtain ⟨⟨s1, s2, s3⟩, ⟨s4, s5, s6, s7⟩, s8, ⟨s9, s10, s11⟩, s12, s13⟩ := S
  have z : e.1 paOpen = Int32.ofNat o := s10
  refine ⟨⟨s1, s2, s3⟩, ⟨rfl, rfl⟩, ⟨s4, s5, s7, s6, nb_6 H hE s4⟩, s8, s11.trans s10.symm, ?_, ?_⟩
  · rw [z, ofn_i (by omega)]; omega
  · rw [z, ofn_i (by omega)]; omega
/-- rows of open blocks stored at the outermost only -/
theorem MP_h6 (P : MP6 T Bk nv na a 0 f m s q e σ) (hm9 : m ≤ m') (ha : a ≤ a') (hb : b' = 0 ∨ (b' = 1 ∧ e'.2.1 1012 0 = -1 ∧ σ'.2.2.1 44 0 = -1)) (c1 : ∀ g, g = 509 ∨ g = 510 ∨ g = 511 ∨ g = 515 → e'.1 g = e.1 g) (c2 : ∀ g, g = 500 ∨ g = 501 ∨ g = 502 ∨ g = 506 ∨ g = 507 ∨ g = 508 → e'.2.1 g = e.2.1 g) (d1 : σ'.1 17 = σ.1 17) (d2 : ∀ g, g = 21 ∨ g = 23 ∨ g = 24 ∨ g = 30 ∨ g = 31 ∨ g = 32 ∨ g = 33 ∨ g = 34 ∨ g = 35 ∨ g = 36 ∨ g = 38 ∨ g = 39 → σ'.2.2.1 g = σ.2.2.1 g) (F : tf6 f' m' s e' σ') : MP6 T Bk nv na a' b' f' m' s q e' σ' := by
  obtain ⟨⟨p1, p2⟩, p3, p4, p5, p6, _, p10, p11, p12, p13, p14⟩ := P
  have f511 := c1 511 (by decide)
  have hm : cm6 e e' := cm_e6 (c1 515 (by decide)) (c2 507 (by decide)) (c2 508 (by decide))
  refine ⟨⟨by rw [c1 509 (by decide)]; exact p1, by rw [c1 510 (by decide)]; exact p2⟩, fun j hj => ?_, fun j hj => ?_, fun i hi => ?_, fun i i0 hi => ?_, F, fun k hk => ?_, fun k hk => ?_, ?_, ?_, ?_⟩
  · obtain ⟨z, z1, z2⟩ := p3 j hj
    exact ⟨z, by omega, st_m6 z2 hm (Nat.le_refl _) (Nat.le_refl _) (fun c _ => by rw [c2 506 (by decide)]) (by rw [d2 30 (by decide)]) (by rw [d2 31 (by decide)]) (by rw [d2 32 (by decide)]) (fun t _ _ _ => by rw [d2 39 (by decide)])⟩
  · have l := p4 j hj
    unfold lj6 at l ⊢
    rw [c2 506 (by decide), d2 33 (by decide), d2 34 (by decide), d2 35 (by decide), d2 36 (by decide), d2 38 (by decide), d2 30 (by decide)]
    obtain ⟨l1, l2, l3, l4, l5, g9, ⟨y1, y2⟩, y3⟩ := l
    exact ⟨l1, l2, l3, l4, l5, g9, ⟨by omega, y2⟩, y3⟩
  · rcases hb with y | ⟨y, y1, y2⟩
    · omega
    · have z : i = 0 := by omega
      rw [z, y1, y2]
      exact ⟨rfl, Or.inl rfl⟩
  · rcases hb with y | ⟨y, y1, y2⟩ <;> omega
  · rw [c2 500 (by decide), d2 21 (by decide)]; exact p10 k hk
  · rw [c2 501 (by decide), c2 502 (by decide), d2 23 (by decide), d2 24 (by decide), f511]; exact p11 k hk
  · rw [f511, d1]; exact p12
  · rw [f511]; exact p13
  · rw [f511]; exact p14
/-- the end of a head -/
theorem h88_6 {tok : Int32} (H : TR5 T X Bk N Z) (hE : T.2.1 (N - 1) = 142) (h0 : hN5 T X Bk N Z a f w s e σ) (S : SR6 T X Bk N Z a 1 R e σ) (P : MP6 T Bk nv na a 0 f (f + 1) s s e σ) (ht : t < N) (kt : T.2.1 t = 140) (h : f5_Pa_functionHead_88 (Int32.ofNat t) e = .inl (e', ())) : ∃ σ' a', a < a' ∧ g5_tellFunc_218 tok σ = tlF5 fu5 tok σ' ∧ iS5 T X Bk N Z a' 1 f t s s e' σ' ∧ PI6 T X Bk N Z nv na a' 1 f s e' σ' := by
  unfold f5_Pa_functionHead_88 at h
  obtain ⟨e1, _, t1, h⟩ := rb_s6 h
  obtain ⟨_, S1, f1⟩ := scl_6 H hE S (by decide) (by decide) t1
  obtain ⟨e2, _, t2, h⟩ := rb_s6 h
  obtain ⟨_, _, S2, f2⟩ := sop_6 H hE S1 (by decide) (by decide) t2
  have F := sf_t6 f1 f2
  clear S1 f1 f2 t1 t2
  rw [tlF_5]
  generalize g5_open 123 (g5_close 41 σ) = σ2 at S2 F
  have P2 := MP_s6 (a' := a + 2) P (by omega) F
  have gE : gE5 e2 = gE5 e := G_ge6 F.1
  have gW : gS5 σ2 = gS5 σ := Nz_gs6 F.2.2.1
  have L2 : LR5 T X Bk N Z (gE5 e2) (gS5 σ2) (a + 2) 1 e2 σ2 := SR_lo6 H hE S2
  have h2 := hN_t5 h0 (by rw [← gE, ← gW]; exact L2)
  obtain ⟨_, G, O, h26, hi, hb, hS⟩ := h2
  obtain ⟨o1, o2, o3, o4⟩ := O
  have e2f : e2.1 coFunctions = Int32.ofNat f := o3
  have c1 : (e2.1 coFunctions).toNatClampNeg = f := by rw [e2f, cl_5 (by omega)]
  have hb2 : e2.1 paBlocks = 0 := hb
  have hln : e2.2.2 paOwners = 41 := G.2.2.2.2.2.2.2
  rw [if_neg (show ¬ (10 : Int32) ≤ e2.1 coFunctions from fun q => absurd ((lti_n5 (m := 10) e2f (by omega) (by decide)).mp q) (by omega))] at h
  have q8 : ∀ k, (if 1008 = 1008 ∧ k = (e2.1 coFunctions).toNatClampNeg then Int32.ofNat t else e2.2.1 1008 k) = if k = f then Int32.ofNat t else e2.2.1 1008 k := fun k => by
    rw [c1]
    by_cases z : k = f
    · rw [if_pos ⟨rfl, z⟩, if_pos z]
    · rw [if_neg (fun w => z w.2), if_neg z]
  have q4 : ∀ k, (if 504 = 504 ∧ k = (e2.1 coFunctions).toNatClampNeg then e2.1 paOwns else e2.2.1 504 k) = if k = f then e2.1 paOwns else e2.2.1 504 k := fun k => by
    rw [c1]
    by_cases z : k = f
    · rw [if_pos ⟨rfl, z⟩, if_pos z]
    · rw [if_neg (fun w => z w.2), if_neg z]
  have q9 : ∀ g : Nat, g ≠ 504 → g ≠ 1008 → (fun j => if g = coNameCounts ∧ j = (e2.1 coFunctions).toNatClampNeg then e2.1 paOwns else if g = paFunctionNames ∧ j = (e2.1 coFunctions).toNatClampNeg then Int32.ofNat t else e2.2.1 g j) = e2.2.1 g := fun g y1 y2 => by
    funext j
    rw [if_neg (fun w => y1 w.1), if_neg (fun w => y2 w.1)]
  obtain ⟨e3, x1, x2, x3, x4, x5, x6, x7, x8, x9⟩ : ∃ e3 : E5, (rdB5 (sa5 paFunctionNames (e2.1 coFunctions).toNatClampNeg (Int32.ofNat t) e2) (fun e9 _ => rdB5 (sa5 coNameCounts (e9.1 coFunctions).toNatClampNeg (e9.1 paOwns) e9) (fun e11 _ => f5_Pa_functionHead_144 e11)) = rdB5 (f5_Pa_pushBlock (-1) 0 e3) (fun e2 _ => .inl (e2, ()))) ∧ (tq5 e3 = tq5 e2 ∧ e3.1 paAt = e2.1 paAt ∧ e3.1 paKind = e2.1 paKind ∧ e3.1 paOpen = e2.1 paOpen ∧ e3.2.2 = e2.2.2) ∧ (e3.1 509 = e2.1 509 ∧ e3.2.1 1006 = e2.2.1 1006 ∧ e3.1 510 = e2.1 510 ∧ e3.2.1 1007 = e2.2.1 1007 ∧ e3.1 512 = e2.1 512) ∧ (∀ k, e3.2.1 1008 k = if k = f then Int32.ofNat t else e2.2.1 1008 k) ∧ (∀ k, e3.2.1 504 k = if k = f then e2.1 paOwns else e2.2.1 504 k) ∧ (e3.1 1010 = e2.1 1010 ∧ e3.2.1 1009 = e2.2.1 1009 ∧ e3.1 513 = e2.1 513 ∧ e3.2.1 506 = e2.2.1 506 ∧ e3.1 1014 = e2.1 1014) ∧ e3.1 1005 = 1 ∧ (∀ g, g ≠ 1005 → e3.1 g = e2.1 g) ∧ (∀ g, g ≠ 504 → g ≠ 1008 → e3.2.1 g = e2.2.1 g) := ⟨((fun g => if g = paInside then 1 else e2.1 g), (fun g j => if g = coNameCounts ∧ j = (e2.1 coFunctions).toNatClampNeg then e2.1 paOwns else if g = paFunctionNames ∧ j = (e2.1 coFunctions).toNatClampNeg then Int32.ofNat t else e2.2.1 g j), e2.2.2), rfl, ⟨rfl, rfl, rfl, rfl, rfl⟩, ⟨rfl, rfl, rfl, rfl, rfl⟩, q8, q4, ⟨rfl, rfl, rfl, rfl, rfl⟩, rfl, fun g y => if_neg y, q9⟩
  have hb3 : e3.1 1014 = Int32.ofNat 0 := by rw [x6.2.2.2.2]; exact hb2
  have hl3 : e3.2.2 1011 = 41 := by rw [x2.2.2.2.2]; exact hln
  have hp : f5_Pa_pushBlock (-1) 0 e3 = .inl (puB5 (-1) 0 0 e3, ()) := puB_5 (b := 0) hl3 hb3 (by decide)
  rw [x1, hp, rdl_5] at h
  have he' : puB5 (-1) 0 0 e3 = e' := congrArg Prod.fst (Sum.inl.inj h)
  obtain ⟨v1, v2, v3, v4, v5⟩ := pb_c6 hp hb3 (by decide) hl3
  rw [he'] at v1 v2 v3 v4 v5
  obtain ⟨σ3, y1, y2⟩ : ∃ σ3 : rS, σ3 = siU σ2 42 0 ∧ gS5 σ3 = (σ2.1 15, σ2.2.2.1 20, σ2.1 16, σ2.2.2.1 22, σ2.1 18, σ2.2.2.1 25, σ2.2.2.1 26, σ2.2.2.1 27, σ2.2.2.1 28, σ2.1 41, σ2.1 19, σ2.2.2.1 30, σ2.2.2.1 32, 0, σ2.2.2.1 43, σ2.2.2.1 45) := ⟨_, rfl, rfl⟩
  have L3 : LR5 T X Bk N Z (gE5 e3) (gS5 σ3) (a + 2) (0 + 1) e3 σ3 := lr_V5 L2 x2.1 ⟨x2.2.1, x2.2.2.1, x2.2.2.2.1⟩ (by rw [y1]; rfl) (by rw [y1]; exact ⟨rfl, rfl, rfl, rfl, rfl, rfl⟩)
  rw [← y1]
  have h42 : σ3.1 42 = Int32.ofNat 0 := by rw [y1]; rfl
  obtain ⟨u41, u42, u43, u44, u45⟩ := pb_r6 (x := -1) (y := 0) h42 (by decide)
  have lf : ∀ v k : Nat, e2.1 512 = Int32.ofNat v → v ≤ 10 → k < v → k ≠ f := fun v k hv hv2 hk => by
    have y := congrArg Int32.toInt (hv.symm.trans e2f)
    rw [ofn_i (by omega), ofn_i (by omega)] at y
    omega
  have bK := bK_p5 (x := -1) (y := 0) (b := 0) (s := s) (e := e3) (σ := σ3) ⟨hb3, h42, fun j hj => absurd hj (by omega)⟩ (by decide) (fun _ => rfl) (fun w => absurd w (by omega))
  obtain ⟨e4, r1, r2, z1, z2, z3, z4⟩ := puB_f5 (x := -1) (y := 0) (b := 0) (e := e3)
  obtain ⟨σ4, b4, r3, r4, u1, u2, u3, u4⟩ := oB_f5 (x := -1) (y := 0) (σ := σ3)
  rw [← z1, ← u1] at bK
  rw [← u1] at u41 u42 u43 u44 u45
  rw [← u1]
  rw [he'] at z1
  rw [z1] at bK z2 z3 z4
  have y3 : σ3.1 15 = σ2.1 15 ∧ σ3.2.2.1 20 = σ2.2.2.1 20 ∧ σ3.1 16 = σ2.1 16 ∧ σ3.2.2.1 22 = σ2.2.2.1 22 ∧ σ3.1 18 = σ2.1 18 ∧ σ3.2.2.1 25 = σ2.2.2.1 25 ∧ σ3.2.2.1 26 = σ2.2.2.1 26 ∧ σ3.2.2.1 27 = σ2.2.2.1 27 ∧ σ3.2.2.1 28 = σ2.2.2.1 28 ∧ σ3.1 41 = σ2.1 41 ∧ σ3.1 19 = σ2.1 19 ∧ σ3.2.2.1 30 = σ2.2.2.1 30 ∧ σ3.2.2.1 32 = σ2.2.2.1 32 := by rw [y1]; exact ⟨rfl, rfl, rfl, rfl, rfl, rfl, rfl, rfl, rfl, rfl, rfl, rfl, rfl⟩
  have g1 : ∀ g, g ≠ 42 → σ4.1 g = σ2.1 g := fun g y => by rw [u41, if_neg y, y1, si1, if_neg y]
  have g2 : ∀ g, g ≠ 43 → g ≠ 44 → g ≠ 45 → σ4.2.2.1 g = σ2.2.2.1 g := fun g w1 w2 w3 => by rw [u42 g w1 w2 w3, y1]; rfl
  have g3 : σ4.2.2.2 = σ2.2.2.2 := by rw [u44, y1]; rfl
  have k1 : ∀ g, g ≠ 1005 → g ≠ 1014 → e'.1 g = e2.1 g := fun g w1 w2 => by rw [v1, if_neg w2, x8 g w1]
  have k2 : ∀ g, g ≠ 504 → g ≠ 1008 → g ≠ 1011 → g ≠ 1012 → g ≠ 1013 → e'.2.1 g = e2.2.1 g := fun g w1 w2 w3 w4 w5 => by rw [v2 g w3 w4 w5, x9 g w1 w2]
  have k3 : e'.2.2 = e2.2.2 := v3.trans x2.2.2.2.2
  have L4 : LR5 T X Bk N Z (gE5 e') (gS5 σ4) (a + 2) 1 e' σ4 := lr_V5 L3 z3 z4 u3 u4
  obtain ⟨i1, i2, i3, i4, i5, i6, i7, i8, i9, i10, i11, i12, i13⟩ := y3
  refine ⟨σ4, a + 2, by omega, rfl, ⟨L4, ⟨?_, ⟨w, ?_⟩, ?_, ⟨?_, ht, kt⟩, ?_, bK, by decide⟩, ?_⟩, ⟨R, ?_⟩, ?_⟩
  · refine nG_k5 G (by rw [z2]; exact x3.1) (by rw [z2]; exact x3.2.1) (by rw [z2]; exact x3.2.2.1) (by rw [z2]; exact x3.2.2.2.1) (by rw [z2]; exact x3.2.2.2.2) (fun v k h1 h2 h3 => ?_) (fun v k h1 h2 h3 => ?_) (by rw [z2]; exact x2.2.2.2.2) (by rw [u2]; exact i1) (by rw [u2]; exact i2) (by rw [u2]; exact i3) (by rw [u2]; exact i4) (by rw [u2]; exact i5) (by rw [u2]; exact i6) (fun v k h1 h2 h3 => by rw [u2]; exact congrFun i7 k)
    · rw [z2]
      show e3.2.1 1008 k = e2.2.1 1008 k
      rw [x4, if_neg (lf v k h1 h2 h3)]
    · rw [z2]
      show e3.2.1 504 k = e2.2.1 504 k
      rw [x5, if_neg (lf v k h1 h2 h3)]
  · exact fO_k5 ⟨o1, o2, o3, o4⟩ (by rw [z2]; exact x3.2.2.2.2) (by rw [z2]; exact x6.1) (by rw [z2]; exact x6.2.1) (by rw [u2]; exact i10) (by rw [u2]; exact i8) (by rw [u2]; exact i9)
  · rw [z2, u2]
    show e3.2.1 504 f = σ3.2.2.1 26 f
    rw [x5, if_pos rfl, i7]
    have z1 : e2.1 paOwns = Int32.ofNat w := o4.2.1
    rw [z1]
    exact h26.symm
  · rw [z2]
    show e3.2.1 1008 f = _
    rw [x4, if_pos rfl]
  · rw [z2]; exact x7
  · exact SS_k5 hS (by rw [z2]; exact x6.2.2.1) (by rw [z2]; exact x6.2.2.2.1) (by rw [u2]; exact i11) (by rw [u2]; exact i12) (by rw [u2]; exact i13)
  · exact SR_o6 S2 (fun g y => k1 g (by rcases y with y | y | y | y | y | y <;> rw [y] <;> decide) (by rcases y with y | y | y | y | y | y <;> rw [y] <;> decide)) (fun g y => k2 g (by rcases y with y | y | y | y | y | y <;> rw [y] <;> decide) (by rcases y with y | y | y | y | y | y <;> rw [y] <;> decide) (by rcases y with y | y | y | y | y | y <;> rw [y] <;> decide) (by rcases y with y | y | y | y | y | y <;> rw [y] <;> decide) (by rcases y with y | y | y | y | y | y <;> rw [y] <;> decide)) k3 (fun g y => g1 g (by rcases y with y | y | y | y | y | y <;> rw [y] <;> decide)) (fun g y => g2 g (by rcases y with y | y | y | y <;> rw [y] <;> decide) (by rcases y with y | y | y | y <;> rw [y] <;> decide) (by rcases y with y | y | y | y <;> rw [y] <;> decide)) g3
  · refine MP_h6 P2 (by omega) (Nat.le_refl _) (Or.inr ⟨rfl, by rw [v5, if_pos rfl], by rw [u45, if_pos rfl]⟩) (fun g y => k1 g (by rcases y with y | y | y | y <;> rw [y] <;> decide) (by rcases y with y | y | y | y <;> rw [y] <;> decide)) (fun g y => k2 g (by rcases y with y | y | y | y | y | y <;> rw [y] <;> decide) (by rcases y with y | y | y | y | y | y <;> rw [y] <;> decide) (by rcases y with y | y | y | y | y | y <;> rw [y] <;> decide) (by rcases y with y | y | y | y | y | y <;> rw [y] <;> decide) (by rcases y with y | y | y | y | y | y <;> rw [y] <;> decide)) (g1 17 (by decide)) (fun g y => g2 g (by rcases y with y | y | y | y | y | y | y | y | y | y | y | y <;> rw [y] <;> decide) (by rcases y with y | y | y | y | y | y | y | y | y | y | y | y <;> rw [y] <;> decide) (by rcases y with y | y | y | y | y | y | y | y | y | y | y | y <;> rw [y] <;> decide)) ?_
    obtain ⟨p7, p8, p9⟩ := P2.2.2.2.2.2.1
    refine ⟨fun g hg => ?_, fun g hg => ?_, fun g y1 y2 => ?_⟩
    · rw [k2 505 (by decide) (by decide) (by decide) (by decide) (by decide), g2 27 (by decide) (by decide) (by decide)]; exact p7 g hg
    · rw [k2 503 (by decide) (by decide) (by decide) (by decide) (by decide), g2 29 (by decide) (by decide) (by decide)]; exact p8 g hg
    · rw [k2 503 (by decide) (by decide) (by decide) (by decide) (by decide)]; exact p9 g y1 y2
/-- the names of a head -/
theorem h37_6 {tok : Int32} (H : TR5 T X Bk N Z) (hE : T.2.1 (N - 1) = 142) (ht : t < N) (kt : T.2.1 t = 140) : ∀ (m mr w a : Nat) (mo : Int32) (e : E5) (σ : rS), hN5 T X Bk N Z a f w s e σ → SR6 T X Bk N Z a 1 R e σ → MP6 T Bk nv na a 0 f (f + 1) s s e σ → w ≤ 4 → 6 - w ≤ mr → (mo = 0 ∨ mo = 1) → f5_Pa_functionHead_37 m (Int32.ofNat t) mo (Int32.ofNat w) e = .inl (e', ()) → ∃ σ' a', a < a' ∧ g5_tellFunc_102 mr tok mo σ = tlF5 fu5 tok σ' ∧ iS5 T X Bk N Z a' 1 f t s s e' σ' ∧ PI6 T X Bk N Z nv na a' 1 f s e' σ'
  | 0, _, _, _, _, _, _, _, _, _, _, _, _, h => by rw [f5_Pa_functionHead_37] at h; cases h
  | m + 1, mr, w, a, mo, e, σ, h0, S, P, hw, hmr, hmo, h => by
    obtain ⟨mr, rfl⟩ : ∃ k, mr = k + 1 := ⟨mr - 1, by omega⟩
    obtain ⟨L, G, O, h26, hi, hb, hS⟩ := h0
    have h0 : hN5 T X Bk N Z a f w s e σ := ⟨L, G, O, h26, hi, hb, hS⟩
    rw [f5_Pa_functionHead_37] at h
    have er : g5_tellFunc_102 (mr + 1) tok mo σ = if mo = 0 then g5_tellFunc_218 tok σ else pm5 (g5_fresh 1 (σ.2.2.1 27 (σ.1 41).toNatClampNeg) 4 σ) (fun σ3 r4 => pb5 (g5_isRight σ3) (fun r6 => (if r6 = 0 then (g5_tellFunc_185 (g5_tellFunc_102 mr) tok (σ3)) else pb5 (riU σ3 28 ((((8 : Int32) * (σ3.1 41)) + (σ3.2.2.1 27 ((σ3.1 41)).toNatClampNeg))).toNatClampNeg r4) (fun σ7 => pb5 (riU σ7 27 ((σ7.1 41)).toNatClampNeg ((σ7.2.2.1 27 ((σ7.1 41)).toNatClampNeg) + (1 : Int32))) (fun σ8 => pb5 (riU σ8 26 ((σ8.1 41)).toNatClampNeg ((σ8.2.2.1 26 ((σ8.1 41)).toNatClampNeg) + (1 : Int32))) (fun σ9 => (g5_tellFunc_185 (g5_tellFunc_102 mr) tok (σ9)))))))) := by
      rw [g5_tellFunc_102, pb_e5, lr_ir5 L, if_neg ne105]
    rcases hmo with rfl | rfl
    · rw [if_pos rfl] at h er
      rw [er]
      exact h88_6 H hE h0 S P ht kt h
    · have lw := ofn_i (n := w) (by omega)
      rw [if_neg ne105] at er
      rw [if_neg ne105, if_neg (by rw [lti, lw]; have : (4 : Int32).toInt = 4 := rfl; omega)] at h
      have ow : e.1 paOwns = Int32.ofNat w := O.2.2.2.2.1
      have s41 : σ.1 41 = Int32.ofNat f := O.2.1
      have f10 := O.1
      have s27 : σ.2.2.1 27 (σ.1 41).toNatClampNeg = Int32.ofNat w := by
        rw [s41, cl_5 (by omega)]
        exact O.2.2.2.2.2.1
      rw [ow] at h
      rw [s27, pm_e5] at er
      obtain ⟨e1, r1, t1, h⟩ := rb_s6 h
      obtain ⟨k140, rr, lt, fr, S1, f1⟩ := snn_6 (inF := 1) H hE S G (Or.inr ⟨rfl, fO_n5 O⟩) t1
      have hw4 : w < 4 := by
        have l4 : (4 : Int32).toInt = 4 := rfl
        rw [lti, l4, ofn_i (by omega)] at lt
        omega
      rw [fr, pb_e5, (ok_goz6 S1.2.2.1).2, if_neg ne105] at er
      have P1 := MP_s6 (a' := a + 1) P (by omega) f1
      generalize (g5_fresh 1 (Int32.ofNat w) 4 σ).1 = σ1 at S1 f1 P1 er
      have L1 : LR5 T X Bk N Z (gE5 e1) (gS5 σ1) (a + 1) 1 e1 σ1 := SR_lo6 H hE S1
      have h1 := hN_t5 h0 (by rw [← G_ge6 f1.1, ← Nz_gs6 f1.2.2.1]; exact L1)
      obtain ⟨e2, σ2, z1, z2, z3, z4⟩ := hN_a5 (t := a) (x := Int32.ofNat (Bk + a)) H h1 (by omega) rfl S.2.1.1 k140
      rw [rr] at h
      rw [z1, rdl_5] at h
      obtain ⟨q1, q2, q3⟩ := ao_6 z1
      have s411 : σ1.1 41 = Int32.ofNat f := (f1.2.2.1.1 41 (by decide) (by decide) (by decide) (by decide) (by decide)).trans s41
      have c41 : (σ1.1 41).toNatClampNeg = f := cln_6 s411 (by omega)
      have er : g5_tellFunc_102 (mr + 1) tok 1 σ = g5_tellFunc_185 (g5_tellFunc_102 mr) tok (riU (riU (riU σ1 28 ((8 : Int32) * σ1.1 41 + σ1.2.2.1 27 (σ1.1 41).toNatClampNeg).toNatClampNeg (Int32.ofNat (Bk + a))) 27 (σ1.1 41).toNatClampNeg (σ1.2.2.1 27 (σ1.1 41).toNatClampNeg + 1)) 26 (σ1.1 41).toNatClampNeg (σ1.2.2.1 26 (σ1.1 41).toNatClampNeg + 1)) := er
      rw [z3] at er
      rw [c41] at z3
      have d1 : ∀ g, σ2.1 g = σ1.1 g := fun g => by rw [← z3]; rfl
      have d2 : ∀ g, g ≠ 26 → g ≠ 27 → g ≠ 28 → σ2.2.2.1 g = σ1.2.2.1 g := fun g w1 w2 w3 => by rw [← z3, ri_o6 w1, ri_o6 w2, ri_o6 w3]
      have d27 : ∀ j, j ≠ f → σ2.2.2.1 27 j = σ1.2.2.1 27 j := fun j w1 => by rw [← z3, ri_o6 (show (27 : Nat) ≠ 26 by decide), ri_s6, if_neg w1, ri_o6 (show (27 : Nat) ≠ 28 by decide)]
      have d3 : σ2.2.2.2 = σ1.2.2.2 := by rw [← z3]; rfl
      have S2 : SR6 T X Bk N Z (a + 1) 1 R e2 σ2 := SR_o6 S1 (fun g y => q1 g (by rcases y with y | y | y | y | y | y <;> rw [y] <;> decide)) (fun g y => q2 g (by rcases y with y | y | y | y | y | y <;> rw [y] <;> decide)) q3 (fun g _ => d1 g) (fun g y => d2 g (by rcases y with y | y | y | y <;> rw [y] <;> decide) (by rcases y with y | y | y | y <;> rw [y] <;> decide) (by rcases y with y | y | y | y <;> rw [y] <;> decide)) d3
      have P2 : MP6 T Bk nv na (a + 1) 0 f (f + 1) s s e2 σ2 := by
        refine MP_h6 P1 (by omega) (Nat.le_refl _) (Or.inl rfl) (fun g y => q1 g (by rcases y with y | y | y | y <;> rw [y] <;> decide)) (fun g y => q2 g (by rcases y with y | y | y | y | y | y <;> rw [y] <;> decide)) (d1 17) (fun g y => d2 g (by rcases y with y | y | y | y | y | y | y | y | y | y | y | y <;> rw [y] <;> decide) (by rcases y with y | y | y | y | y | y | y | y | y | y | y | y <;> rw [y] <;> decide) (by rcases y with y | y | y | y | y | y | y | y | y | y | y | y <;> rw [y] <;> decide)) ?_
        obtain ⟨p7, p8, p9⟩ := P1.2.2.2.2.2.1
        refine ⟨fun g hg => ?_, fun g hg => ?_, fun g y1 y2 => ?_⟩
        · rw [q2 505 (by decide), d27 g (by omega)]; exact p7 g hg
        · rw [q2 503 (by decide), d2 29 (by decide) (by decide) (by decide)]; exact p8 g hg
        · rw [q2 503 (by decide)]; exact p9 g y1 y2
      clear z3
      unfold g5_tellFunc_185 g5_tellFunc_206 at er
      rw [pb_e5, (ok_goz6 S2.2.2.1).2, if_neg ne105, pb_e5, sn_6 H S2 (by decide) (by decide)] at er
      unfold f5_Pa_functionHead_73 at h
      have k2 : e2.1 paKind = T.2.1 (a + 1) := S2.2.1.2.2.1
      rw [k2] at h
      by_cases c : T.2.1 (a + 1) = 44
      · rw [if_pos c, if_neg ne105, if_neg ne105, pb_e5] at er
        rw [if_pos c, if_neg ne105] at h
        obtain ⟨e3, _, t3, h⟩ := rb_s6 h
        obtain ⟨S3, f3⟩ := sk_6 H hE S2 (by rw [c]; decide) t3
        have P3 := MP_s6 (a' := a + 2) P2 (by omega) f3
        have L3 : LR5 T X Bk N Z (gE5 e3) (gS5 (g5_go σ2)) (a + 2) 1 e3 (g5_go σ2) := SR_lo6 H hE S3
        have h3 := hN_t5 z4 (by rw [← G_ge6 f3.1, ← Nz_gs6 f3.2.2.1]; exact L3)
        rw [pb_e5, on_15 (by omega)] at h
        obtain ⟨σ', a', y1, y2, y3⟩ := h37_6 H hE ht kt m mr (w + 1) (a + 2) 1 e3 _ h3 S3 P3 (by omega) (by omega) (Or.inr rfl) h
        exact ⟨σ', a', by omega, er.trans y2, y3⟩
      · rw [if_neg c, if_pos rfl, if_pos rfl] at er
        rw [if_neg c, if_pos rfl, pb_e5, on_15 (by omega)] at h
        obtain ⟨σ', a', y1, y2, y3⟩ := h37_6 H hE ht kt m mr (w + 1) (a + 1) 0 e2 _ z4 S2 P2 (by omega) (by omega) (Or.inl rfl) h
        exact ⟨σ', a', by omega, er.trans y2, y3⟩
/-- a function's head -/
theorem fi_6 (H : TR5 T X Bk N Z) (hE : T.2.1 (N - 1) = 142) (O : oI5 T X Bk N Z a s e σ) (P : PO6 T X Bk N Z nv na a f s e σ) (hk : e.1 paKind = 152) (h : f5_Pa_item_35 152 e = .inl (e', ())) : ∃ σ' a' t, a < a' ∧ t < N ∧ f < 10 ∧ g5_tellFunc σ = tlF5 fu5 (Int32.ofNat (Bk + t)) σ' ∧ iS5 T X Bk N Z a' 1 f t s s e' σ' ∧ PI6 T X Bk N Z nv na a' 1 f s e' σ' := by
  obtain ⟨L, G, hO, hi, hb, hS⟩ := O
  obtain ⟨⟨R, S⟩, P, p512, f10⟩ := P
  have k4 : T.2.1 a = 152 := S.2.1.2.2.1.symm.trans hk
  unfold f5_Pa_item_35 at h
  obtain ⟨e1, _, t1, h⟩ := rb_s6 h
  rw [if_neg (show ¬ (152 : Int32) = 150 by decide), if_neg (show ¬ (152 : Int32) = 151 by decide), rb_u5] at h
  obtain ⟨S1, f1⟩ := sk_6 H hE S (by rw [k4]; decide) t1
  unfold f5_Pa_functionHead at h
  obtain ⟨e2, r2, t2, h⟩ := rb_s6 h
  have s18 : σ.1 18 = Int32.ofNat f := by
    obtain ⟨v, p1, _⟩ := G.2.2.1
    have z1 : e.1 512 = Int32.ofNat v := p1.2.1
    have z2 : σ.1 18 = Int32.ofNat v := p1.2.2.1
    rw [z2, ← z1]; exact p512
  have e12 : e1.1 coFunctions = Int32.ofNat f := (f1.1.1 512 (by decide) (by decide) (by decide) (by decide) (by decide)).trans p512
  have s181 : (g5_go σ).1 18 = Int32.ofNat f := (f1.2.2.1.1 18 (by decide) (by decide) (by decide) (by decide) (by decide)).trans s18
  have G1 : nG5 T Bk N (gE5 e1) (gS5 (g5_go σ)) := by rw [G_ge6 f1.1, Nz_gs6 f1.2.2.1]; exact G
  have O1 : vow5 (gE5 e1) = 0 := (f1.1.1 1010 (by decide) (by decide) (by decide) (by decide) (by decide)).trans hO
  rw [e12] at t2
  obtain ⟨k140, rr, lt, fr, S2, f2⟩ := snn_6 (inF := 0) H hE S1 G1 (Or.inl ⟨rfl, O1⟩) t2
  have f10' : f < 10 := by
    have l10 : (10 : Int32).toInt = 10 := rfl
    rw [lti, l10, ofn_i (by omega)] at lt
    omega
  have F2 := sf_t6 f1 f2
  have P2 := MP_s6 (a' := a + 2) P (by omega) F2
  have tv : g5_tellFunc σ = if (10 : Int32) ≤ (g5_fresh 0 (Int32.ofNat f) 10 (g5_go σ)).1.1 18 then g5_tellFunc_34 (g5_fresh 0 (Int32.ofNat f) 10 (g5_go σ)).2 0 (g5_fresh 0 (Int32.ofNat f) 10 (g5_go σ)).1 else g5_tellFunc_34 (g5_fresh 0 (Int32.ofNat f) 10 (g5_go σ)).2 ((g5_fresh 0 (Int32.ofNat f) 10 (g5_go σ)).1.1 18) (g5_fresh 0 (Int32.ofNat f) 10 (g5_go σ)).1 := by
    unfold g5_tellFunc
    rw [pb_e5, s181, pm_e5]
  have s182 : (g5_fresh 0 (Int32.ofNat f) 10 (g5_go σ)).1.1 18 = Int32.ofNat f := (F2.2.2.1.1 18 (by decide) (by decide) (by decide) (by decide) (by decide)).trans s18
  rw [fr, s182, if_neg (show ¬ (10 : Int32) ≤ Int32.ofNat f from fun q => absurd ((lti_n5 (m := 10) rfl (by omega) (by decide)).mp q) (by omega))] at tv
  have gE2 : gE5 e2 = gE5 e := G_ge6 F2.1
  have gW2 : gS5 (g5_fresh 0 (Int32.ofNat f) 10 (g5_go σ)).1 = gS5 σ := Nz_gs6 F2.2.2.1
  generalize (g5_fresh 0 (Int32.ofNat f) 10 (g5_go σ)).1 = σ2 at S2 f2 F2 P2 tv s182 gW2
  have L2 : LR5 T X Bk N Z (gE5 e2) (gS5 σ2) (a + 2) 0 e2 σ2 := SR_lo6 H hE S2
  unfold g5_tellFunc_34 at tv
  have ir : g5_isRight (siU σ2 41 (Int32.ofNat f)) = 1 := if_pos (show (siU σ2 41 (Int32.ofNat f)).1 11 = 0 from L2.2.2.2.1.1)
  rw [pb_e5, pb_e5, ir, if_neg ne105] at tv
  obtain ⟨σ3, r6, r7, u1, u2, u3, u4, u5, u6⟩ := hf_f5 (σ := σ2) (f := f) (x := Int32.ofNat f)
  have cv : ((siU σ2 41 (Int32.ofNat f)).1 41).toNatClampNeg = f := by
    show (Int32.ofNat f).toNatClampNeg = f
    exact cl_5 (by omega)
  have tv : g5_tellFunc σ = g5_tellFunc_74 (Int32.ofNat (Bk + (a + 1))) (riU (riU (riU (siU σ2 41 (Int32.ofNat f)) 27 ((siU σ2 41 (Int32.ofNat f)).1 41).toNatClampNeg 0) 26 ((siU σ2 41 (Int32.ofNat f)).1 41).toNatClampNeg 0) 29 ((siU σ2 41 (Int32.ofNat f)).1 41).toNatClampNeg (-1)) := tv
  rw [cv, ← u1] at tv
  have L3 : LR5 T X Bk N Z (gE5 e2) (gS5 σ3) (a + 2) 0 e2 σ3 := lr_V5 L2 rfl ⟨rfl, rfl, rfl⟩ u5 u6
  rw [← gE2, ← gW2] at G hS
  have e22 : e2.1 512 = Int32.ofNat f := (F2.1.1 512 (by decide) (by decide) (by decide) (by decide) (by decide)).trans p512
  have lf : ∀ v' k : Nat, e2.1 512 = Int32.ofNat v' → v' ≤ 10 → k < v' → k ≠ f := fun v' k hv hv2 hk => by
    have y := congrArg Int32.toInt (hv.symm.trans e22)
    rw [ofn_i (by omega), ofn_i (by omega)] at y
    omega
  have G3 : nG5 T Bk N (gE5 e2) (gS5 σ3) := by
    refine nG_k5 G rfl rfl rfl rfl rfl (fun _ _ _ _ _ => rfl) (fun _ _ _ _ _ => rfl) rfl (by rw [u2]; rfl) (by rw [u2]; rfl) (by rw [u2]; rfl) (by rw [u2]; rfl) (by rw [u2]; rfl) (by rw [u2]; rfl) (fun v' k h1 h2 h3 => ?_)
    rw [u2]
    show r6 k = σ2.2.2.1 26 k
    rw [u3, if_neg (lf v' k h1 h2 h3)]
  have hS3 : SS5 T X Bk N s s (gE5 e2) (gS5 σ3) := SS_k5 hS rfl rfl (by rw [u2]; rfl) (by rw [u2]; rfl) (by rw [u2]; rfl)
  have O3 : fO5 T Bk N f 0 (gE5 e2) (gS5 σ3) := by
    refine ⟨f10', by rw [u2], e22, by decide, ?_, ?_, fun k hk => absurd hk (by omega)⟩
    · exact (F2.1.1 1010 (by decide) (by decide) (by decide) (by decide) (by decide)).trans hO
    · rw [u2]
      show r7 f = 0
      rw [u4, if_pos rfl]
  have i26 : σ3.2.2.1 26 f = Int32.ofNat 0 := by
    have z : σ3.2.2.1 26 = r6 := congrArg (fun W : W5 => w26_5 W) u2
    rw [z, u3, if_pos rfl]
    rfl
  have d1 : ∀ g, g ≠ 41 → σ3.1 g = σ2.1 g := fun g y => by
    rw [u1]
    show (siU σ2 41 (Int32.ofNat f)).1 g = _
    rw [si1, if_neg y]
  have d2 : ∀ g, g ≠ 26 → g ≠ 27 → g ≠ 29 → σ3.2.2.1 g = σ2.2.2.1 g := fun g w1 w2 w3 => by
    rw [u1, ri_o6 w3, ri_o6 w1, ri_o6 w2]
    rfl
  have d27 : ∀ j, j ≠ f → σ3.2.2.1 27 j = σ2.2.2.1 27 j := fun j w1 => by
    rw [u1, ri_o6 (show (27 : Nat) ≠ 29 by decide), ri_o6 (show (27 : Nat) ≠ 26 by decide), ri_s6, if_neg w1]
    rfl
  have d29 : ∀ j, σ3.2.2.1 29 j = if j = f then -1 else σ2.2.2.1 29 j := fun j => by
    rw [u1, ri_s6, ri_o6 (show (29 : Nat) ≠ 26 by decide), ri_o6 (show (29 : Nat) ≠ 27 by decide)]
    rfl
  have d3 : σ3.2.2.2 = σ2.2.2.2 := by rw [u1]; rfl
  clear u1
  have S3 : SR6 T X Bk N Z (a + 2) 0 R e2 σ3 := SR_o6 S2 (fun _ _ => rfl) (fun _ _ => rfl) rfl (fun g y => d1 g (by rcases y with y | y | y | y | y | y <;> rw [y] <;> decide)) (fun g y => d2 g (by rcases y with y | y | y | y <;> rw [y] <;> decide) (by rcases y with y | y | y | y <;> rw [y] <;> decide) (by rcases y with y | y | y | y <;> rw [y] <;> decide)) d3
  have P3 : MP6 T Bk nv na (a + 2) 0 f (f + 1) s s e2 σ3 := by
    refine MP_h6 P2 (by omega) (Nat.le_refl _) (Or.inl rfl) (fun _ _ => rfl) (fun _ _ => rfl) (d1 17 (by decide)) (fun g y => d2 g (by rcases y with y | y | y | y | y | y | y | y | y | y | y | y <;> rw [y] <;> decide) (by rcases y with y | y | y | y | y | y | y | y | y | y | y | y <;> rw [y] <;> decide) (by rcases y with y | y | y | y | y | y | y | y | y | y | y | y <;> rw [y] <;> decide)) ?_
    obtain ⟨p7, p8, p9⟩ := P2.2.2.2.2.2.1
    refine ⟨fun g hg => ?_, fun g hg => ?_, fun g y1 y2 => p9 g (by omega) y2⟩
    · rw [d27 g (by omega)]; exact p7 g hg
    · rw [d29]
      by_cases y : g = f
      · rw [if_pos y, y]
        exact ⟨p9 f (Nat.le_refl _) f10', Or.inl rfl⟩
      · rw [if_neg y]; exact p8 g (by omega)
  unfold g5_tellFunc_74 at tv
  rw [pb_e5] at tv
  obtain ⟨e4, _, t4, h⟩ := rb_s6 h
  obtain ⟨_, _, S4, f4⟩ := sop_6 H hE S3 (by decide) (by decide) t4
  have P4 := MP_s6 (a' := a + 3) P3 (by omega) f4
  have gE4 : gE5 e4 = gE5 e2 := G_ge6 f4.1
  have gW4 : gS5 (g5_open 40 σ3) = gS5 σ3 := Nz_gs6 f4.2.2.1
  generalize g5_open 40 σ3 = σ4 at S4 f4 P4 gW4 tv
  have L4 : LR5 T X Bk N Z (gE5 e4) (gS5 σ4) (a + 3) 1 e4 σ4 := SR_lo6 H hE S4
  have hN : hN5 T X Bk N Z (a + 3) f 0 s e4 σ4 := by
    refine ⟨L4, by rw [gE4, gW4]; exact G3, by rw [gE4, gW4]; exact O3, ?_, ?_, ?_, by rw [gE4, gW4]; exact hS3⟩
    · have z : σ4.2.2.1 26 = σ3.2.2.1 26 := congrArg (fun W : W5 => w26_5 W) gW4
      rw [z]; exact i26
    · have z : e4.1 1005 = e.1 1005 := congrArg (fun V : V5 => vin5 V) (gE4.trans gE2)
      exact z.trans hi
    · have z : e4.1 1014 = e.1 1014 := congrArg (fun V : V5 => vbl5 V) (gE4.trans gE2)
      exact z.trans hb
  rw [pb_e5, (ok_goz6 S4.2.2.1).2, if_neg ne105, pb_e5, sn_6 H S4 (by decide) (by decide)] at tv
  have k4' : e4.1 paKind = T.2.1 (a + 3) := S4.2.1.2.2.1
  unfold f5_Pa_functionHead_34 at h
  rw [k4', rr] at h
  have go : ∀ mo : Int32, mo = 0 ∨ mo = 1 → f5_Pa_functionHead_37 fu5 (Int32.ofNat (a + 1)) mo 0 e4 = .inl (e', ()) → g5_tellFunc σ = g5_tellFunc_102 fu5 (Int32.ofNat (Bk + (a + 1))) mo σ4 → ∃ σ' a' t, a < a' ∧ t < N ∧ f < 10 ∧ g5_tellFunc σ = tlF5 fu5 (Int32.ofNat (Bk + t)) σ' ∧ iS5 T X Bk N Z a' 1 f t s s e' σ' ∧ PI6 T X Bk N Z nv na a' 1 f s e' σ' := fun mo hmo h ev => by
    obtain ⟨σ', a', y1, y2, y3, y4⟩ := h37_6 (tok := Int32.ofNat (Bk + (a + 1))) H hE S1.2.1.1 k140 fu5 fu5 0 (a + 3) mo e4 σ4 hN S4 P4 (by omega) (by unfold fu5; omega) hmo h
    exact ⟨σ', a', a + 1, by omega, S1.2.1.1, f10', ev.trans y2, y3, y4⟩
  by_cases c : T.2.1 (a + 3) = 41
  · rw [if_pos c] at h
    rw [if_pos c, if_neg ne105] at tv
    exact go 0 (Or.inl rfl) h tv
  · rw [if_neg c] at h
    rw [if_neg c, if_pos rfl] at tv
    exact go 1 (Or.inr rfl) h tv
end

end
section
set_option maxHeartbeats 1600000
/-! the whole text read on both sides -/
/-- where the reading ends: what is still to do is to look at the calls -/
def EN6 (T : T5) (X : X5) (Bk N : Nat) (Z : Int32) (e' : E5) (τ : rS) : Prop := ∃ (a nv na f s : Nat) (e : E5) (σ : rS), oI5 T X Bk N Z a s e σ ∧ PO6 T X Bk N Z nv na a f s e σ ∧ e.1 coMain = -1 ∧ e.1 paKind = 142 ∧ f5_Pa_findCalled e = .inl (e', ()) ∧ τ = g5_lookAtCalls σ
section
variable {T : T5} {X : X5} {Bk N : Nat} {Z : Int32} {e' : E5}
theorem rl_6 (H : TR5 T X Bk N Z) (hE : T.2.1 (N - 1) = 142) : ∀ m : Nat,
    (∀ (mr n a nv na f s : Nat) (e : E5) (σ : rS), oI5 T X Bk N Z a s e σ → PO6 T X Bk N Z nv na a f s e σ → e.1 coMain = -1 → n ≤ a → N - a + 2 ≤ mr → f5_Pa_read_50 m (Int32.ofNat n) e = .inl (e', ()) → EN6 T X Bk N Z e' (g5_tellProgram_84 mr σ)) ∧
    (∀ (mr fs n a b nv na f t s : Nat) (tok : Int32) (e : E5) (σ : rS), iS5 T X Bk N Z a b f t s s e σ → PI6 T X Bk N Z nv na a b f s e σ → e.1 coMain = -1 → tok = Int32.ofNat (Bk + t) → n ≤ a → N - a + 2 ≤ mr → N - a + 2 ≤ fs → f5_Pa_read_50 m (Int32.ofNat n) e = .inl (e', ()) → EN6 T X Bk N Z e' (g5_tellProgram_84 mr (tlF5 fs tok σ)))
  | 0 => ⟨fun _ _ _ _ _ _ _ _ _ _ _ _ _ _ h => (by rw [f5_Pa_read_50] at h; cases h), fun _ _ _ _ _ _ _ _ _ _ _ _ _ _ _ _ _ _ _ _ h => (by rw [f5_Pa_read_50] at h; cases h)⟩
  | m + 1 => by
    obtain ⟨ih1, ih2⟩ := rl_6 H hE m
    have hh := H.1
    constructor
    · intro mr n a nv na f s e σ h P hm hn hmr hr
      have L := h.1
      have aN := L.2.2.1.1
      obtain ⟨mr, rfl⟩ : ∃ k, mr = k + 1 := ⟨mr - 1, by omega⟩
      have ln := ofn_i (n := n) (by omega)
      have lN := ofn_i (n := N) (by omega)
      have eT := lr_T5 H L
      obtain ⟨so, _, _⟩ := lr_so5 H L
      have ko := kd_o5 (lr_kd5 H L)
      rw [f5_Pa_read_50, eT, if_neg (show ¬ Int32.ofNat N < Int32.ofNat n by rw [lti]; omega), if_pos h.2.2.2.1] at hr
      rw [g5_tellProgram_84, pb_e5, lr_ir5 L, if_neg ne105, so]
      by_cases k142 : e.1 paKind = 142
      · rw [if_pos k142] at hr
        rw [if_pos (ko.2.2.2.mpr k142)]
        unfold f5_Pa_read_122 at hr
        unfold g5_tellProgram_161
        rw [pb_e5, lr_ir5 L, if_neg ne105, pb_e5]
        exact ⟨a, nv, na, f, s, e, σ, h, P, hm, k142, hr, rfl⟩
      rw [if_neg k142] at hr
      rw [if_neg (fun q => k142 (ko.2.2.2.mp q))]
      unfold f5_Pa_read_78 at hr
      rw [if_pos h.2.2.2.1] at hr
      obtain ⟨e1, u, t1, hr⟩ := rb_s6 hr
      rw [pb_e5, on_15 (by omega)] at hr
      have km : e1.1 coMain = -1 := km_Pa_item hm _ _ t1
      rw [pb_e5, pb_e5, pb_e5, lr_wk5 H L (k := 150) (by decide) (by decide) rfl, lr_wk5 H L (k := 151) (by decide) (by decide) rfl, lr_wk5 H L (k := 152) (by decide) (by decide) rfl]
      by_cases k150 : e.1 paKind = 150
      · rw [if_pos k150, if_neg ne105, pb_e5]
        rw [it_15 k150 (Or.inl rfl)] at t1
        obtain ⟨a', nv', q1, q2, q3⟩ := vi_6 H hE h P k150 t1
        exact ih1 mr (n + 1) a' nv' na f s e1 _ q2 q3 km (by omega) (by omega) hr
      rw [if_neg k150, if_pos rfl]
      by_cases k151 : e.1 paKind = 151
      · rw [if_pos k151, if_neg ne105, pb_e5]
        rw [it_15 k151 (Or.inr (Or.inl rfl))] at t1
        obtain ⟨a', na', q1, q2, q3⟩ := ai_6 H hE h P k151 t1
        exact ih1 mr (n + 1) a' nv na' f s e1 _ q2 q3 km (by omega) (by omega) hr
      rw [if_neg k151, if_pos rfl]
      by_cases k152 : e.1 paKind = 152
      · rw [if_pos k152, if_neg ne105, pb_e5]
        rw [it_15 k152 (Or.inr (Or.inr rfl))] at t1
        obtain ⟨σ', a', t, q1, q2, q3, q4, q5, q6⟩ := fi_6 H hE h P k152 t1
        rw [q4]
        exact ih2 mr fu5 (n + 1) a' 1 nv na f t s _ e1 σ' q5 q6 km rfl (by omega) (by omega) (by unfold fu5; omega) hr
      rw [it_n5 k150 k151 k152] at t1
      cases t1
    · intro mr fs n a b nv na f t s tok e σ h P hm htok hn hmr hfs hr
      have L := h.1
      have aN := L.2.2.1.1
      obtain ⟨fs, rfl⟩ : ∃ k, fs = k + 2 := ⟨fs - 2, by omega⟩
      have ln := ofn_i (n := n) (by omega)
      have lN := ofn_i (n := N) (by omega)
      have eT := lr_T5 H L
      have hin : ¬ e.1 paInside = 0 := by
        have z : e.1 1005 = 1 := h.2.1.2.2.2.2.1
        rw [show e.1 paInside = 1 from z]
        decide
      have hbk := h.2.1.2.2.2.2.2.1
      have b0 := h.2.1.2.2.2.2.2.2
      have b40 : b ≤ 40 := by have := L.2.2.2.2.2; omega
      have s42 : σ.1 42 = Int32.ofNat b := hbk.2.1
      have lb := ofn_i (n := b) (by omega)
      have h42 : ¬ σ.1 42 ≤ 0 := by rw [s42, lei, lb, t0i]; omega
      rw [f5_Pa_read_50, eT, if_neg (show ¬ Int32.ofNat N < Int32.ofNat n by rw [lti]; omega), if_neg hin] at hr
      unfold f5_Pa_read_78 at hr
      rw [if_neg hin] at hr
      by_cases k125 : e.1 paKind = 125
      · rw [if_pos k125] at hr
        obtain ⟨e1, u, t1, hr⟩ := rb_s6 hr
        rw [pb_e5, on_15 (by omega)] at hr
        have km : e1.1 coMain = -1 := km_Pa_closeBlock hm _ _ t1
        have hA : g5_isAt 125 σ = 1 := by rw [lr_at5 H L (by decide) (by decide), if_pos k125]
        by_cases b1 : b = 1
        · subst b1
          obtain ⟨a', q1, q2, q3⟩ := fe_6 (fs := fs) H hE h P k125 htok t1
          exact ih1 mr (n + 1) a' nv na (f + 1) s e1 _ q2 q3 km (by omega) (by omega) hr
        · obtain ⟨b', rfl⟩ : ∃ k, b = k + 1 := ⟨b - 1, by omega⟩
          have n1 : ¬ σ.1 42 = 1 := fun q => by
            have y := congrArg Int32.toInt (s42.symm.trans q)
            have l1 : (1 : Int32).toInt = 1 := rfl
            rw [lb, l1] at y
            omega
          rw [tlF_e5 (lr_ir5 L) h42 hA n1]
          obtain ⟨a', b2, q1, q2, q3⟩ := eb_6 H hE h (by omega) P t1
          exact ih2 mr (fs + 1) (n + 1) a' b2 nv na f t s tok e1 _ q2 q3 km htok (by omega) (by omega) (by omega) hr
      · rw [if_neg k125, ← rdB_a5] at hr
        have hA : g5_isAt 125 σ = 0 := by rw [lr_at5 H L (by decide) (by decide), if_neg k125]
        rw [tlF_s5 (lr_ir5 L) h42 hA]
        obtain ⟨e1, u, t1, hr⟩ := rb_s6 hr
        rw [pb_e5, on_15 (by omega)] at hr
        have kM : km5 (-1) (rdB5 (f5_Pa_addStatement e) (fun e1 r2 => f5_Pa_statement r2 e1)) := km_b5 (km_Pa_addStatement hm) (fun _ _ h1 => km_Pa_statement h1)
        have km : e1.1 coMain = -1 := kM _ _ t1
        obtain ⟨a', b2, q1, q2, q3⟩ := it_6 H hE h P t1
        exact ih2 mr (fs + 1) (n + 1) a' b2 nv na f t (s + 1) tok e1 _ q2 q3 km htok (by omega) (by omega) (by omega) hr
end

end
