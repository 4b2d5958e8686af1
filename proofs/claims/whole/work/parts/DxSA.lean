section
set_option maxHeartbeats 1600000
/-! both machines begin -/
def BG6 (e0 e' : E5) : Prop := (e'.1 702 = sh36 e0 ∧ e'.1 703 = 1 ∧ e'.1 704 = sh36 e0 ∧ e'.1 709 = fo6 (e0.1 514) e0 ∧ e'.1 710 = 0 ∧ e'.1 711 = 0) ∧ (∀ g, g < 600 → e'.1 g = e0.1 g) ∧ (∀ g, g ≠ 701 → e'.2.1 g = e0.2.1 g) ∧ (∀ j, j < 142 → e'.2.1 701 j = if j < (if 10 < e0.1 509 then 10 else e0.1 509 : Int32).toNatClampNeg then e0.2.1 500 j else 0) ∧ e'.2.2 = e0.2.2
theorem BG_6 {C : zC} {n0 m : Nat} {κ1 κ9 κ12 κ16 κ18 κ20 κ22 κ24 κ26 κ28 κ36 κ38 : zS} {x y w : Int32} (W1 : zW C n0 κ1) (T1 : zT κ1 m = 7) (hl : zN κ1 (zR κ1 maMemory m) = 142) (hx : x = sh6 (am6 κ1 m)) (e9 : κ9 = ui κ1 maShared m (if (34 : Int32) < x then 34 else x)) (W9 : zW C n0 κ9) (e12 : κ12 = uff κ9 (zR κ9 maMemory m) 0 (zN κ9 (zR κ9 maMemory m)) 0) (W12 : zW C n0 κ12) (hw : w = (if (10 : Int32) < zI κ12 coVars (zR κ1 maCode m) then (10 : Int32) else zI κ12 coVars (zR κ1 maCode m))) (e16 : κ16 = uc κ12 (zR κ12 coVarStarts (zR κ1 maCode m)) (zR κ12 maMemory m) (0 : Int32).toNatClampNeg (0 : Int32).toNatClampNeg w.toNatClampNeg) (e18 : κ18 = ui κ16 maOpen m 1) (e20 : κ20 = ui κ18 maFrame m (zI κ18 maShared m)) (e22 : κ22 = ui κ20 maFailure m 0) (e24 : κ24 = ui κ22 maGained m 0) (e26 : κ26 = ui κ24 maWants m (-1)) (e28 : κ28 = ui κ26 maOutcome m 0) (hy : y = fo6 (zI κ28 coMain (zR κ1 maCode m)) (am6 κ28 m)) (e36 : κ36 = ui κ28 maGoing m y) (e38 : κ38 = ui κ36 maAnswer m 0) : BG6 (am6 κ1 m) (am6 κ38 m) := by
  have i9 := am_1f6 e9 (by decide)
  have i18 := am_1f6 e18 (by decide)
  have i20 := am_1f6 e20 (by decide)
  have i22 := am_1f6 e22 (by decide)
  have i24 := am_1f6 e24 (by decide)
  have i26 := am_1f6 e26 (by decide)
  have i28 := am_1f6 e28 (by decide)
  have i36 := am_1f6 e36 (by decide)
  have i38 := am_1f6 e38 (by decide)
  have T9 : zT κ9 m = 7 := by rw [e9]; exact T1
  have T12 : zT κ12 m = 7 := by rw [e12]; exact T9
  have r9 : zR κ9 = zR κ1 := by rw [e9]; rfl
  have r12 : zR κ12 = zR κ1 := by rw [e12]; exact r9
  have n9 : zN κ9 = zN κ1 := by rw [e9]; rfl
  have a12 := am_ur6 (τ := κ12) (f := maMemory) W9 T9 (by decide) (by rw [e12]; rfl) (by rw [e12]; rfl) (by rw [e12]; rfl) (fun y q => by rw [e12]; exact if_neg q)
  have a16 := am_ur6 (τ := κ16) (f := maMemory) W12 T12 (by decide) (by rw [e16]; rfl) (by rw [e16]; rfl) (by rw [e16]; rfl) (fun y q => by rw [e16]; exact if_neg q)
  have f16 : (am6 κ16 m).1 = fun g => if g = 702 then (if (34 : Int32) < x then 34 else x) else (am6 κ1 m).1 g := by
    rw [a16]
    show (am6 κ12 m).1 = _
    rw [a12]
    show (am6 κ9 m).1 = _
    rw [i9]
    rfl
  have l16 : (am6 κ16 m).2.2 = (am6 κ1 m).2.2 := by
    rw [a16]
    show (am6 κ12 m).2.2 = _
    rw [a12]
    show (am6 κ9 m).2.2 = _
    rw [i9]
    rfl
  have r16 : ∀ g, g ≠ 701 → (am6 κ16 m).2.1 g = (am6 κ1 m).2.1 g := fun g q => by
    rw [a16]
    show (if g = maMemory then _ else (am6 κ12 m).2.1 g) = _
    rw [if_neg q, a12]
    show (if g = maMemory then _ else (am6 κ9 m).2.1 g) = _
    rw [if_neg q, i9]
    rfl
  have d28 : am6 κ28 m = fl6 711 0 (fl6 715 (-1) (fl6 714 0 (fl6 713 0 (fl6 704 (zI κ18 maShared m) (fl6 703 1 (am6 κ16 m)))))) := by rw [i28, i26, i24, i22, i20, i18]
  have sh : zI κ18 maShared m = sh36 (am6 κ1 m) := by
    rw [← am_i6 (f := 702) (m := m) (κ := κ18) (by decide), i18, fl_o6 (by decide), f16]
    show (if (34 : Int32) < x then 34 else x) = _
    rw [hx]
    rfl
  have c28 : zR κ28 maCode m = zR κ1 maCode m := by
    rw [e28, e26, e24, e22, e20, e18, e16]
    show zR κ12 maCode m = _
    rw [r12]
  have y1 : y = fo6 ((am6 κ1 m).1 514) (am6 κ1 m) := by
    rw [hy, ← c28, ← am_c6 (f := 514) (m := m) (κ := κ28) (by decide)]
    have q1 : (am6 κ28 m).1 514 = (am6 κ1 m).1 514 := by rw [d28, fl_o6 (by decide), fl_o6 (by decide), fl_o6 (by decide), fl_o6 (by decide), fl_o6 (by decide), fl_o6 (by decide), f16]; rfl
    have q2 : (am6 κ28 m).2.1 503 = (am6 κ1 m).2.1 503 := by rw [d28]; exact r16 503 (by decide)
    have q2 : (am6 κ28 m).2.1 coFirstStatements = (am6 κ1 m).2.1 coFirstStatements := q2
    rw [q1]
    unfold fo6
    rw [q2]
  have d38 : am6 κ38 m = fl6 710 0 (fl6 709 y (am6 κ28 m)) := by rw [i38, i36]
  have v9 : ∀ f b, f ≠ maShared → zI κ9 f b = zI κ1 f b := fun f b hf => by rw [e9]; exact if_neg (fun y => hf y.1)
  have w1 : w = (if (10 : Int32) < (am6 κ1 m).1 509 then 10 else (am6 κ1 m).1 509) := by
    have q : zI κ12 coVars (zR κ1 maCode m) = (am6 κ1 m).1 509 := by
      rw [am_c6 (f := 509) (m := m) (κ := κ1) (by decide), e12]
      exact v9 coVars _ (by decide)
    rw [hw, q]
  refine ⟨⟨?_, ?_, ?_, ?_, ?_, ?_⟩, fun g q => ?_, fun g q => ?_, fun j hj => ?_, ?_⟩
  · rw [d38, fl_o6 (by decide), fl_o6 (by decide), d28, fl_o6 (by decide), fl_o6 (by decide), fl_o6 (by decide), fl_o6 (by decide), fl_o6 (by decide), fl_o6 (by decide), f16]
    show (if (34 : Int32) < x then 34 else x) = _
    rw [hx]
    rfl
  · rw [d38, fl_o6 (by decide), fl_o6 (by decide), d28, fl_o6 (by decide), fl_o6 (by decide), fl_o6 (by decide), fl_o6 (by decide), fl_o6 (by decide), fl_s6]
  · rw [d38, fl_o6 (by decide), fl_o6 (by decide), d28, fl_o6 (by decide), fl_o6 (by decide), fl_o6 (by decide), fl_o6 (by decide), fl_s6, sh]
  · rw [d38, fl_o6 (by decide), fl_s6, y1]
  · rw [d38, fl_s6]
  · rw [d38, fl_o6 (by decide), fl_o6 (by decide), d28, fl_s6]
  · rw [d38, fl_o6 (by omega), fl_o6 (by omega), d28, fl_o6 (by omega), fl_o6 (by omega), fl_o6 (by omega), fl_o6 (by omega), fl_o6 (by omega), fl_o6 (by omega), f16]
    exact if_neg (by omega)
  · rw [d38, d28]
    exact r16 g q
  · rw [d38, d28]
    show (am6 κ16 m).2.1 701 j = _
    rw [a16]
    show (if 701 = maMemory then zA κ16 (zR κ12 maMemory m) else (am6 κ12 m).2.1 701) j = _
    have z : zA κ16 (zR κ12 maMemory m) = va_cpy (zA κ12 (zR κ12 coVarStarts (zR κ1 maCode m))) (zA κ12 (zR κ12 maMemory m)) (0 : Int32).toNatClampNeg (0 : Int32).toNatClampNeg w.toNatClampNeg := by rw [e16]; exact if_pos rfl
    rw [if_pos rfl, z]
    unfold va_cpy
    rw [show (0 : Int32).toNatClampNeg = 0 from rfl, ← w1]
    have z2 : zA κ12 (zR κ12 maMemory m) j = 0 := by
      have z3 : zA κ12 (zR κ9 maMemory m) = fun k => if 0 ≤ k ∧ k < zN κ9 (zR κ9 maMemory m) then 0 else zA κ9 (zR κ9 maMemory m) k := by rw [e12]; exact if_pos rfl
      rw [r12, ← r9, z3]
      exact if_pos ⟨Nat.zero_le _, by rw [n9, r9, hl]; exact hj⟩
    have z4 : (am6 κ1 m).2.1 500 = zA κ12 (zR κ12 coVarStarts (zR κ1 maCode m)) := by
      rw [am_cr6 (f := 500) (m := m) (κ := κ1) (by decide), r12]
      have nm : zR κ1 500 (zR κ1 maCode m) ≠ zR κ1 maMemory m := ow_ne W1 (show zr 500 = some 20 by decide +kernel) (by decide) (ty_maCode W1 T1) (show zr maMemory = some 20 by decide +kernel) (by decide) T1 (by decide)
      have q : zA κ12 (zR κ1 500 (zR κ1 maCode m)) = zA κ9 (zR κ1 500 (zR κ1 maCode m)) := by rw [e12]; exact if_neg (by rw [r9]; exact nm)
      show _ = zA κ12 (zR κ1 500 (zR κ1 maCode m))
      rw [q, e9]
      rfl
    rw [z4]
    by_cases c : j < w.toNatClampNeg
    · rw [if_pos ⟨Nat.zero_le _, by omega⟩, if_pos c]
      congr 1
      omega
    · rw [if_neg (fun q => c (by omega)), if_neg c, z2]
  · rw [d38, d28]
    exact l16
/-- the reference's memory at a beginning -/
theorem b45_6 : ∀ (n m i : Nat) (σ : rS), n + i = 8 → n < m → ∃ σ1, g5_begin_45 m (Int32.ofNat i) σ = g5_moveTo (σ.2.2.1 29 (σ.1 40).toNatClampNeg) σ1 ∧ σ1.1 = σ.1 ∧ (∀ g, g ≠ 60 → σ1.2.2.1 g = σ.2.2.1 g) ∧ (∀ j, σ1.2.2.1 60 j = if i ≤ j ∧ j < 8 then 0 else σ.2.2.1 60 j) ∧ σ1.2.2.2 = σ.2.2.2
  | 0, m, i, σ, h, hm => by
    obtain ⟨m, rfl⟩ : ∃ m9, m = m9 + 1 := ⟨m - 1, by omega⟩
    refine ⟨σ, ?_, rfl, fun _ _ => rfl, fun j => (if_neg (by omega)).symm, rfl⟩
    rw [g5_begin_45, if_pos (by rw [lei, ofn_i (by omega), show (8 : Int32).toInt = 8 from rfl]; omega), pmq_6]
  | n + 1, m, i, σ, h, hm => by
    obtain ⟨m, rfl⟩ : ∃ m9, m = m9 + 1 := ⟨m - 1, by omega⟩
    obtain ⟨σ1, a1, a2, a3, a4, a5⟩ := b45_6 n m (i + 1) (riU σ 60 i 0) (by omega) (by omega)
    refine ⟨σ1, ?_, a2, fun g q => (a3 g q).trans (ri_o6 q), fun j => ?_, a5⟩
    · rw [g5_begin_45, if_neg (by rw [lei, ofn_i (by omega), show (8 : Int32).toInt = 8 from rfl]; omega), pb_e5, pb_e5, cl_5 (by omega), show Int32.ofNat i + 1 = Int32.ofNat (i + 1) from on_5 (a := i) (b := 1) (by omega), a1, ri_o6 (by decide)]
      rfl
    · rw [a4, ri_s6]
      by_cases c : j = i
      · rw [if_neg (by omega), if_pos c, if_pos (by omega)]
      · rw [if_neg c]
        by_cases c2 : i + 1 ≤ j ∧ j < 8
        · rw [if_pos c2, if_pos (by omega)]
        · rw [if_neg c2, if_neg (by omega)]
theorem b2_6 {nv : Nat} (hv : nv ≤ 10) : ∀ (n m i : Nat) (σ : rS), n + i = 34 → n < m → σ.1 15 = Int32.ofNat nv → ∃ σ1, g5_begin_2 m (Int32.ofNat i) σ = g5_begin_45 fu5 0 σ1 ∧ σ1.1 58 = 1 ∧ (∀ g, g ≠ 58 → σ1.1 g = σ.1 g) ∧ (∀ g, g ≠ 57 → σ1.2.2.1 g = σ.2.2.1 g) ∧ (∀ j, σ1.2.2.1 57 j = if i ≤ j ∧ j < 34 then (if j < nv then σ.2.2.1 21 j else 0) else σ.2.2.1 57 j) ∧ σ1.2.2.2 = σ.2.2.2
  | 0, m, i, σ, h, hm, h15 => by
    obtain ⟨m, rfl⟩ : ∃ m9, m = m9 + 1 := ⟨m - 1, by omega⟩
    refine ⟨siU σ 58 1, ?_, by rw [si1, if_pos rfl], fun g q => by rw [si1, if_neg q], fun _ _ => rfl, fun j => (if_neg (by omega)).symm, rfl⟩
    rw [g5_begin_2, if_pos (by rw [lei, ofn_i (by omega), show (34 : Int32).toInt = 34 from rfl]; omega), pb_e5]
  | n + 1, m, i, σ, h, hm, h15 => by
    obtain ⟨m, rfl⟩ : ∃ m9, m = m9 + 1 := ⟨m - 1, by omega⟩
    obtain ⟨x, hx⟩ : ∃ x, x = (if i < nv then σ.2.2.1 21 i else 0) := ⟨_, rfl⟩
    obtain ⟨σ1, a1, a2, a3, a4, a5, a6⟩ := b2_6 hv n m (i + 1) (riU σ 57 i x) (by omega) (by omega) h15
    refine ⟨σ1, ?_, a2, a3, fun g q => (a4 g q).trans (ri_o6 q), fun j => ?_, a6⟩
    · have e : ∀ y, g5_begin_31 (g5_begin_2 m) (Int32.ofNat i) (Int32.ofNat i) y σ = g5_begin_2 m (Int32.ofNat (i + 1)) (riU σ 57 i y) := fun y => by
        unfold g5_begin_31
        rw [pb_e5, pb_e5, cl_5 (by omega), show Int32.ofNat i + 1 = Int32.ofNat (i + 1) from on_5 (a := i) (b := 1) (by omega)]
      rw [g5_begin_2, if_neg (by rw [lei, ofn_i (by omega), show (34 : Int32).toInt = 34 from rfl]; omega), e, e, h15, cl_5 (by omega), ← a1, hx]
      by_cases c : i < nv
      · rw [if_neg (by rw [lei, ofn_i (by omega), ofn_i (by omega)]; omega), if_pos c]
      · rw [if_pos (by rw [lei, ofn_i (by omega), ofn_i (by omega)]; omega), if_neg c]
    · rw [a5, ri_s6, ri_o6 (by decide)]
      by_cases c : j = i
      · rw [if_neg (by omega), if_pos c, if_pos (by omega), hx, c]
      · rw [if_neg c]
        by_cases c2 : i + 1 ≤ j ∧ j < 34
        · rw [if_pos c2, if_pos (show i ≤ j ∧ j < 34 by omega)]
        · rw [if_neg c2, if_neg (by omega)]
theorem bgr_6 {nv : Nat} {σ : rS} (hv : nv ≤ 10) (h15 : σ.1 15 = Int32.ofNat nv) : ∃ σ1, g5_begin σ = g5_moveTo (σ.2.2.1 29 (σ.1 40).toNatClampNeg) σ1 ∧ σ1.1 58 = 1 ∧ (∀ g, g ≠ 58 → σ1.1 g = σ.1 g) ∧ (∀ g, g ≠ 57 → g ≠ 60 → σ1.2.2.1 g = σ.2.2.1 g) ∧ (∀ j, j < 34 → σ1.2.2.1 57 j = if j < nv then σ.2.2.1 21 j else 0) ∧ (∀ j, j < 8 → σ1.2.2.1 60 j = 0) ∧ σ1.2.2.2 = σ.2.2.2 := by
  obtain ⟨σ1, a1, a2, a3, a4, a5, a6⟩ := b2_6 hv 34 fu5 0 σ (by omega) (by unfold fu5; omega) h15
  obtain ⟨σ2, b1, b2, b3, b4, b5⟩ := b45_6 8 fu5 0 σ1 (by omega) (by unfold fu5; omega)
  have a1 : g5_begin_2 fu5 0 σ = g5_begin_45 fu5 0 σ1 := a1
  have b1 : g5_begin_45 fu5 0 σ1 = g5_moveTo (σ1.2.2.1 29 (σ1.1 40).toNatClampNeg) σ2 := b1
  refine ⟨σ2, ?_, by rw [b2]; exact a2, fun g q => by rw [b2]; exact a3 g q, fun g q1 q2 => (b3 g q2).trans (a4 g q1), fun j hj => ?_, fun j hj => ?_, b5.trans a6⟩
  · unfold g5_begin
    rw [a1, b1, a4 29 (by decide), a3 40 (by decide)]
  · rw [b3 57 (by decide), a5, if_pos (by omega)]
  · rw [b4, if_pos (by omega)]
section
variable {T : T5} {X : X5} {Bk N nv na f s w : Nat} {Z : Int32} {e0 e1 : E5} {σ : rS}
theorem FN_v6 {e e' : E5} {σ σ' : rS} (h : FN6 T Bk N nv na f s e σ) (k : ((∀ g, g < 600 → e'.1 g = e.1 g) ∧ (∀ g, g < 600 → e'.2.1 g = e.2.1 g) ∧ e'.2.2 = e.2.2) ∧ (∀ g, g = 11 ∨ g = 15 ∨ g = 16 ∨ g = 17 ∨ g = 18 ∨ g = 19 ∨ g = 40 → σ'.1 g = σ.1 g) ∧ (∀ g, g ≤ 45 → σ'.2.2.1 g = σ.2.2.1 g) ∧ σ'.2.2.2 = σ.2.2.2) : FN6 T Bk N nv na f s e' σ' := by
  obtain ⟨⟨c1, c2, _⟩, d1, d2, _⟩ := k
  obtain ⟨⟨a1, a2, a3, a4, i, i1, i2, i3, i4⟩, ⟨b0, b1, b2, b3, b4⟩, p3, p4, p5, p6, ⟨q1, q2, q3⟩, ⟨g1, g2, g3, g4, g5⟩, R, r1, r2⟩ := h
  have hm : cm6 e e' := cm_e6 (c1 515 (by decide)) (c2 507 (by decide)) (c2 508 (by decide))
  refine ⟨⟨by rw [c1 509 (by decide)]; exact a1, by rw [c1 510 (by decide)]; exact a2, by rw [c1 512 (by decide)]; exact a3, by rw [c1 513 (by decide)]; exact a4, i, i1, by rw [c1 514 (by decide)]; exact i2, by rw [d1 40 (by decide)]; exact i3, by rw [c2 504 (by decide)]; exact i4⟩, ⟨by rw [d1 11 (by decide)]; exact b0, by rw [d1 15 (by decide)]; exact b1, by rw [d1 16 (by decide)]; exact b2, by rw [d1 18 (by decide)]; exact b3, by rw [d1 19 (by decide)]; exact b4⟩, fun j hj => ?_, fun j hj => ?_, fun j hj k5 => ?_, fun k hk => ?_, ⟨fun g hg => ?_, fun g hg => ?_, fun g x y => ?_⟩, ⟨fun k hk => ?_, fun k hk => ?_, ?_, ?_, ?_⟩, R, cd_e6 r1 (c1 515 (by decide)) (c2 507 (by decide)) (c2 508 (by decide)), r2⟩
  · obtain ⟨z, z1, z2⟩ := p3 j hj
    exact ⟨z, z1, st_m6 z2 hm (Nat.le_refl _) (Nat.le_refl _) (fun c _ => by rw [c2 506 (by decide)]) (by rw [d2 30 (by decide)]) (by rw [d2 31 (by decide)]) (by rw [d2 32 (by decide)]) (fun t _ _ _ => by rw [d2 39 (by decide)])⟩
  · have l := p4 j hj
    unfold lf6 at l ⊢
    rw [c2 506 (by decide), d2 33 (by decide), d2 34 (by decide), d2 37 (by decide), d2 38 (by decide)]
    exact l
  · rw [d2 30 (by decide)] at k5
    have l := p5 j hj k5
    unfold cl6 at l ⊢
    rw [c2 506 (by decide), c2 504 (by decide), d2 32 (by decide), d2 39 (by decide)]
    exact l
  · rw [c2 504 (by decide), d2 26 (by decide)]; exact p6 k hk
  · rw [c2 505 (by decide), d2 27 (by decide)]; exact q1 g hg
  · rw [c2 503 (by decide), d2 29 (by decide)]; exact q2 g hg
  · rw [c2 503 (by decide)]; exact q3 g x y
  · rw [c2 500 (by decide), d2 21 (by decide)]; exact g1 k hk
  · rw [c2 501 (by decide), c2 502 (by decide), d2 23 (by decide), d2 24 (by decide), c1 511 (by decide)]; exact g2 k hk
  · rw [c1 511 (by decide), d1 17 (by decide)]; exact g3
  · rw [c1 511 (by decide)]; exact g4
  · rw [c1 511 (by decide)]; exact g5
theorem mv1_6 {g : Int32} {σ : rS} (h : σ.1 58 = 1) : g5_moveTo g σ = if g = -1 then (siU (siU σ 58 0) 61 0, 1) else (riU σ 59 (σ.1 58 - 1).toNatClampNeg g, 0) := by
  unfold g5_moveTo
  by_cases c : g = -1
  · rw [if_pos c, if_pos c, pmq_6]
    have e : g5_leave 0 σ = g5_leave_2 (fu5 - 1 + 1) 0 σ := rfl
    rw [e]
    generalize fu5 - 1 = m
    rw [g5_leave_2, pb_e5, h, show (1 : Int32) - 1 = 0 by decide, if_pos (by rw [si1, if_pos rfl]), pb_e5]
  · rw [if_neg c, if_neg c, pb_e5]
theorem mv11_6 {g r : Int32} {σ σ' : rS} (h : σ.1 58 = 1) (v : g5_moveTo g (siU σ 11 0) = (σ', r)) : ∃ σ'', g5_moveTo g σ = (σ'', r) ∧ (∀ k, k ≠ 11 → σ''.1 k = σ'.1 k) ∧ σ''.2 = σ'.2 := by
  have h' : (siU σ 11 0).1 58 = 1 := by rw [si1, if_neg (by decide)]; exact h
  rw [mv1_6 h'] at v
  rw [mv1_6 h]
  by_cases c : g = -1
  · rw [if_pos c] at v ⊢
    have y1 : siU (siU (siU σ 11 0) 58 0) 61 0 = σ' := congrArg Prod.fst v
    have y2 : (1 : Int32) = r := congrArg Prod.snd v
    refine ⟨siU (siU σ 58 0) 61 0, by rw [y2], fun k q => ?_, by rw [← y1]; rfl⟩
    rw [← y1, si1, si1, si1, si1, si1]
    by_cases c1 : k = 61
    · rw [if_pos c1, if_pos c1]
    · rw [if_neg c1, if_neg c1]
      by_cases c2 : k = 58
      · rw [if_pos c2, if_pos c2]
      · rw [if_neg c2, if_neg c2, if_neg q]
  · rw [if_neg c] at v ⊢
    have y1 : riU (siU σ 11 0) 59 ((siU σ 11 0).1 58 - 1).toNatClampNeg g = σ' := congrArg Prod.fst v
    have y2 : (0 : Int32) = r := congrArg Prod.snd v
    rw [h'] at y1
    refine ⟨riU σ 59 (σ.1 58 - 1).toNatClampNeg g, by rw [y2], fun k q => ?_, by rw [← y1, h]; rfl⟩
    rw [← y1]
    show σ.1 k = (siU σ 11 0).1 k
    rw [si1, if_neg q]
theorem OU_116 {e : E5} {r : Int32} {σ σ' : rS} (O : OU6 nv w s e σ r) (h : ∀ k, k ≠ 11 → σ'.1 k = σ.1 k) (h2 : σ'.2 = σ.2) : OU6 nv w s e σ' r := by
  have mb : ∀ d, MB6 nv w s d e σ → MB6 nv w s d e σ' := fun d M => by
    unfold MB6 zt6 at M ⊢
    rw [h 58 (by decide), h2]
    exact M
  have at' : ∀ d, AT6 w s d e σ → AT6 w s d e σ' := fun d M => by
    unfold AT6 at M ⊢
    rw [h2]
    exact M
  obtain ⟨o1, o2⟩ := O
  refine ⟨o1, ?_⟩
  unfold zt6 at o2 ⊢
  rw [h 61 (by decide), h2]
  rcases o2 with ⟨a, d, b, c, f⟩ | o2
  · exact Or.inl ⟨a, d, b, mb _ c, at' _ f⟩
  · exact Or.inr o2
/-- both sides begin -/
theorem bgn_6 (hB : Bk ≤ 65537) (hN : N ≤ 65537) (F : FN6 T Bk N nv na f s e0 (siU σ 11 0)) (hw : (w : Int) = nv + (e0.1 511).toInt) (w34 : w ≤ 34) (l : e0.2.2 701 = 142) (B : BG6 e0 e1) : ∃ e' σ' r, f5_Ma_proceed e1 = .inl (e', ()) ∧ g5_begin σ = (σ', r) ∧ OU6 nv w s e' σ' r ∧ (r = 0 ∨ (r = 1 ∧ σ'.1 61 = 0)) ∧ (e'.1 702 = Int32.ofNat w ∧ (∀ g, g < 600 → e'.1 g = e0.1 g) ∧ (∀ g, g ≠ 701 → e'.2.1 g = e0.2.1 g) ∧ e'.2.2 = e0.2.2) ∧ (∀ g, g ≠ 11 → g ≠ 58 → g ≠ 61 → σ'.1 g = σ.1 g) ∧ (∀ g, g ≠ 57 → g ≠ 59 → g ≠ 60 → σ'.2.2.1 g = σ.2.2.1 g) ∧ σ'.2.2.2 = σ.2.2.2 := by
  obtain ⟨⟨b1, b2, b3, b4, b5, b6⟩, B2, B3, B4, B5⟩ := B
  obtain ⟨⟨⟨a1, a2⟩, a3, ⟨a4, a5⟩, ⟨a6, a7⟩, i, i1, i2, i3, i4⟩, ⟨_, c15, _⟩, _, _, _, _, tf, gl, _⟩ := id F
  have g0 := gl.2.2.2.1
  rw [si1, if_neg (by decide)] at c15 i3
  obtain ⟨σ1, u1, u2, u3, u4, u5, u6, u7⟩ := bgr_6 a2 c15
  have s36 : sh36 e0 = Int32.ofNat w := by
    have y : sh6 e0 = Int32.ofNat w := Int32.toInt_inj.mp (by
      have a1' : e0.1 coVars = Int32.ofNat nv := a1
      unfold sh6
      rw [a1', add_i (by rw [ofn_i (by omega)]; show -2147483648 ≤ (nv : Int) + (e0.1 511).toInt; omega) (by rw [ofn_i (by omega)]; show (nv : Int) + (e0.1 511).toInt < 2147483648; omega), ofn_i (by omega), ofn_i (by omega)]
      show (nv : Int) + (e0.1 511).toInt = _
      omega)
    unfold sh36
    rw [y, if_neg (by rw [lti, ofn_i (by omega), show (34 : Int32).toInt = 34 from rfl]; omega)]
  have e10 : (if 10 < e0.1 509 then 10 else e0.1 509 : Int32).toNatClampNeg = nv := by
    rw [a1, if_neg (by rw [lti, ofn_i (by omega), show (10 : Int32).toInt = 10 from rfl]; omega), cl_5 (by omega)]
  rw [e10] at B4
  have go : fo6 (e0.1 514) e0 = σ.2.2.1 29 i := by
    unfold fo6
    rw [i2, if_neg (by rw [lti, ofn_i (by omega), t0i]; omega), if_neg (by rw [lei, ofn_i (by omega), show (10 : Int32).toInt = 10 from rfl]; omega), cl_5 (by omega)]
    exact (tf.2.1 i i1).1
  have F1 : FN6 T Bk N nv na f s e1 (siU σ1 11 0) := FN_v6 F ⟨⟨fun g q => B2 g q, fun g q => B3 g (by omega), B5⟩, fun g q => by
    rw [si1, si1]
    by_cases c : g = 11
    · rw [if_pos c, if_pos c]
    · rw [if_neg c, if_neg c]; exact u3 g (by omega), fun g q => u4 g (by omega) (by omega), u7⟩
  have wn : nv ≤ w := by omega
  have M : MB6 nv w s 1 e1 σ1 := by
    refine ⟨⟨b1.trans s36, wn, w34, fun j h1 h2 => ?_⟩, ⟨b2, u2, by omega, b3.trans (by rw [s36]; rfl), by rw [B5]; exact l⟩, fun j hj => ?_, fun c hc => by omega, fun c k hc hk => ?_⟩
    · rw [u5 j h2, if_neg (by omega)]
    · rw [B4 j (by omega), u5 j (by omega)]
      by_cases c : j < nv
      · rw [if_pos c, if_pos c]; exact gl.1 j c
      · rw [if_neg c, if_neg c]
    · have c0 : c = 0 := by omega
      rw [c0, B4 _ (by omega), if_neg (by omega), show 8 * 0 + k = k by omega, u6 k hk]
  have ci : (σ.1 40).toNatClampNeg = i := cln_6 i3 (by omega)
  rw [ci] at u1
  obtain ⟨e', σ', r, v1, v2, v3, v4, v5, v6, v7⟩ := mv_6 hB hN F1 (MB_116 M) (by omega) (b4.trans go) b5 (tf.2.1 i i1).2
  have O : OU6 nv w s e' σ' r := by
    rcases v4 with ⟨y1, y2, y3⟩ | ⟨y1, y2, y3⟩
    · exact ⟨(y2.trans b6).trans y1.symm, Or.inl ⟨y1, y3⟩⟩
    · exact ⟨y2.trans y1.symm, Or.inr (Or.inl ⟨y1, y3⟩)⟩
  obtain ⟨σ'', w1, w2, w3⟩ := mv11_6 u2 v2
  refine ⟨e', σ'', r, v1, u1.trans w1, OU_116 O w2 w3, ?_, ⟨(v5.1 702 (by decide)).trans (b1.trans s36), fun g q => (v5.1 g (by omega)).trans (B2 g q), fun g q => (v5.2 g q).trans (B3 g q), v3.1.2.2.trans B5⟩, fun g q0 q1 q2 => ?_, fun g q1 q2 q3 => ?_, ?_⟩
  · rcases v4 with ⟨y1, _⟩ | ⟨y1, _⟩
    · exact Or.inl y1
    · refine Or.inr ⟨y1, ?_⟩
      rw [mv1_6 u2] at w1
      by_cases c : σ.2.2.1 29 i = -1
      · rw [if_pos c] at w1
        have y : siU (siU σ1 58 0) 61 0 = σ'' := congrArg Prod.fst w1
        rw [← y, si1, if_pos rfl]
      · rw [if_neg c] at w1
        have y : (0 : Int32) = r := congrArg Prod.snd w1
        rw [y1] at y
        exact absurd y (by decide)
  · rw [w2 g q0, v6 g q1 q2, si1, if_neg q0]
    exact u3 g q1
  · rw [w3]
    exact (v7 g q1 q2 q3).trans (u4 g q1 q3)
  · rw [w3]
    exact v3.2.2.2.trans u7
end

end
section
set_option maxHeartbeats 1600000
/-! the class tells a next as the reference does: addNext, lead -/
theorem At_addNext_q6 {C : zC} {n0 : Nat} {a0 : Nat} {a1 : Int32} {a2 : Int32} {a3 : Int32} {κ : zS} {Q : Int32 → zS → Prop} (W : zW C n0 κ) (Ta0 : zT κ a0 = 3)  (hp : atL κ a0 ∧ 0 ≤ (zI κ atNexts a0).toInt ∧ (zI κ atNexts a0).toInt ≤ (zN κ (zR κ atNumbers a0))) (h : ∀ (v : Int32) (κ' : zS), (((v = 0 ∧ κ' = κ) ∨ (v = 1 ∧ adN κ κ' a0 a1 a2 a3)) ∧ ((v = 0 → ¬ zI κ atNexts a0 < 20000) ∧ (v = 1 → zI κ atNexts a0 < 20000))) → Q v κ') : zRun C 2 mAt_addNext [.ref a0, .int a1, .int a2, .int a3] κ (oI Q noX) := by
  refine At_addNext_run W Ta0 ?_
  replace W := W.lo (Nat.le_trans W.1.2.1 W.1.2.2) (Nat.le_refl (zn κ))
  unfold w_At_addNext_0
  obtain ⟨H, p0, p1⟩ := hp
  have oN := W.n (ty_atSorts W Ta0)
  have H1 := H.1
  have H2 := H.2
  have hj77 : ∀ (l0 : Nat) (l1 : Int32) (l2 : Int32) (l3 : Int32) (τ : zS), zW C (zn κ) τ → zT τ l0 = 3 → ((a0 = l0 ∧ a1 = l1 ∧ a2 = l2 ∧ a3 = l3 ∧ adJ κ τ a0) ∧ zI κ atNexts a0 < 20000) → w_At_addNext_77 C (zn κ) Q  l0 l1 l2 l3 τ := by
    rintro _ _ _ _ τ77 W77 T77_0 ⟨⟨rfl, rfl, rfl, rfl, j77⟩, hE⟩
    unfold w_At_addNext_77
    refine ⟨?_, ?_⟩
    · have a := j77.2.2.2.1.1.1
      have c := j77.2.2.2.2.1
      rw [j77.2.1, inb_iff]; omega
    intro κ_1 hκ_1
    intro W2
    refine ⟨?_, ?_⟩
    · have c := j77.2.2.2.2.1
      rw [hκ_1]
      show inb (zI τ77 atNexts a0) (zN τ77 (zR τ77 atNumbers a0))
      rw [j77.2.1, inb_iff]; omega
    intro κ_3 hκ_3
    intro W4
    refine ⟨?_, ?_⟩
    · have a := j77.2.2.2.1.1.2
      have c := j77.2.2.2.2.1
      rw [hκ_3, hκ_1]
      show inb (zI τ77 atNexts a0) (zN τ77 (zR τ77 atWeights a0))
      rw [j77.2.1, inb_iff]; omega
    intro κ_5 hκ_5
    intro W6
    intro κ_7 hκ_7
    intro W8
    refine h _ _ ?_
    · refine and_5 ?_ (fun o9 => ⟨fun z => absurd z (by decide), fun _ => hE⟩)  -- q4
      exact Or.inr ⟨rfl, ad_n W77 T77_0 j77 p0 hκ_1 hκ_3 hκ_5 hκ_7⟩
  refine ⟨fun c9 => ?_, fun c9 => ?_⟩
  · skip
    refine ⟨fun c10 => ?_, fun c10 => ?_⟩
    · skip
      refine hj77 _ _ _ _ _ W ?_ ?_
      · exact Ta0  -- t5
      · refine and_5 ?_ (fun o9 => c9)  -- k6
        rw [lti, ofn_i oN] at c10
        exact ⟨rfl, rfl, rfl, rfl, zF.rf, rfl, fun _ _ _ => rfl, H, by omega, fun _ _ => ⟨rfl, rfl, rfl⟩⟩
    · skip
      intro x11 hx11
      intro T12
      have e20 : (20000 : Int32).toInt = 20000 := rfl
      rw [lti, e20] at c9
      have d9 : (zI κ atNexts a0).toInt = zN κ (zR κ atNumbers a0) := by rw [lti, ofn_i oN] at c10; omega
      have e2 : (zI κ atNexts a0 * 2).toInt = (zI κ atNexts a0).toInt * 2 := by rw [mul_i (by rw [t2i]; omega) (by rw [t2i]; omega), t2i]
      have xb : (x11.toInt = 20000 ∨ x11.toInt = 2 * zN κ (zR κ atNumbers a0)) ∧ x11.toInt ≤ 20000 := by
        rw [hx11]
        split
        · rw [e20]; omega
        · rename_i z
          rw [lti, e20, e2] at z
          rw [e2]; omega
      have kn := cnk (x := x11) (by omega)
      have xn : x11.toNatClampNeg = 20000 ∨ x11.toNatClampNeg = 2 * zN κ (zR κ atNumbers a0) := by omega
      refine Ar_copyOf_c W T12  ?_ (fun r13 κ_14 q15 => ?_)
      · exact ⟨⟨by rw [lei, t0i]; omega, by omega⟩, fun e => by
          have e9 := congrArg Int32.toInt e
          rw [ofn_i oN] at e9
          omega⟩
      intro W16
      intro M17
      intro T18
      refine ⟨?_, ?_⟩
      · rw [q15.1]; exact q15.2.2.1  -- b8
      intro κ_19 hκ_19
      intro W20
      intro T21
      have h19 : κ_19 = uo κ_14 atSorts a0 (zn κ) := by rw [hκ_19, q15.1]
      have k1 := ad_c (f := atSorts) (o := zN κ (zR κ atSorts a0)) (n := x11.toNatClampNeg) (Or.inl rfl) (by omega) (by omega) (by omega)
      obtain ⟨F1, u1, u2, u3, u4, u5, u6⟩ := gr_g (f := atSorts) W (show zr atSorts = some 20 by decide +kernel) (by decide) Ta0 q15.2 h19 k1.1 k1.2
      have T19 := F1.t Ta0 (by decide)
      have rN : zR κ_19 atNumbers a0 = zR κ atNumbers a0 := u2 atNumbers a0 (fun z => absurd z.1 (by decide))
      have nN := u5 _ _ (ty_atNumbers W Ta0)
      have pN := W20.n (ty_atNumbers W20 T19)
      refine Ar_copyOf_c W20 T21  ?_ (fun r22 κ_23 q24 => ?_)
      · exact ⟨⟨by rw [lei, t0i]; omega, by omega⟩, fun e => by
          have e9 := congrArg Int32.toInt e
          rw [ofn_i pN, rN, nN.1] at e9
          omega⟩
      intro W25
      intro M26
      intro T27
      refine ⟨?_, ?_⟩
      · rw [q24.1]; exact q24.2.2.1  -- b10
      intro κ_28 hκ_28
      intro W29
      intro T30
      have h28 : κ_28 = uo κ_23 atNumbers a0 (zn κ_19) := by rw [hκ_28, q24.1]
      have k2 := ad_c (f := atNumbers) (o := zN κ_19 (zR κ_19 atNumbers a0)) (n := x11.toNatClampNeg) (Or.inr (Or.inl rfl)) (by rw [rN, nN.1]; omega) (by rw [rN, nN.1]; omega) (by rw [rN, nN.1]; omega)
      obtain ⟨F2, v1, v2, v3, v4, v5, v6⟩ := gr_g (f := atNumbers) W20 (show zr atNumbers = some 20 by decide +kernel) (by decide) T19 q24.2 h28 k2.1 k2.2
      have T28 := F2.t T19 (by decide)
      have rw1 : zR κ_19 atWeights a0 = zR κ atWeights a0 := u2 atWeights a0 (fun z => absurd z.1 (by decide))
      have rw2 : zR κ_28 atWeights a0 = zR κ_19 atWeights a0 := v2 atWeights a0 (fun z => absurd z.1 (by decide))
      have nw1 := u5 _ _ (ty_atWeights W Ta0)
      have nw2 := v5 _ _ (ty_atWeights W20 T19)
      have ln : zN κ_28 (zR κ_28 atWeights a0) = zN κ (zR κ atNumbers a0) := by rw [rw2, nw2.1, rw1, nw1.1]; omega
      have lN := W29.n (ty_atWeights W29 T28)
      refine Ar_copyOf_c W29 T30  ?_ (fun r31 κ_32 q33 => ?_)
      · exact ⟨⟨by rw [lei, t0i]; omega, by omega⟩, fun e => by
          have e9 := congrArg Int32.toInt e
          rw [ofn_i lN, ln] at e9
          omega⟩
      intro W34
      intro M35
      intro T36
      refine ⟨?_, ?_⟩
      · rw [q33.1]; exact q33.2.2.1  -- b12
      intro κ_37 hκ_37
      intro W38
      have h37 : κ_37 = uo κ_32 atWeights a0 (zn κ_28) := by rw [hκ_37, q33.1]
      have k3 := ad_c (f := atWeights) (o := zN κ_28 (zR κ_28 atWeights a0)) (n := x11.toNatClampNeg) (Or.inr (Or.inr rfl)) (by rw [ln]; omega) (by rw [ln]; omega) (by rw [ln]; omega)
      obtain ⟨F3, w1, w2, w3, w4, w5, w6⟩ := gr_g (f := atWeights) W29 (show zr atWeights = some 20 by decide +kernel) (by decide) T28 q33.2 h37 k3.1 k3.2
      refine hj77 _ _ _ _ _ W38 ?_ ?_
      · exact F3.t T28 (by decide)  -- t13
      · refine and_5 ?_ (fun o9 => (lti.mpr (show (zI κ atNexts a0).toInt < (20000 : Int32).toInt from c9)))  -- k14
        have tS : zT κ_19 (zn κ) = 20 := by rw [← u3]; exact ty_atSorts W20 T19
        have tN : zT κ_28 (zn κ_19) = 20 := by rw [← v3]; exact ty_atNumbers W29 T28
        have rS : zR κ_37 atSorts a0 = zn κ := (w2 atSorts a0 (fun z => absurd z.1 (by decide))).trans ((v2 atSorts a0 (fun z => absurd z.1 (by decide))).trans u3)
        have rM : zR κ_37 atNumbers a0 = zn κ_19 := (w2 atNumbers a0 (fun z => absurd z.1 (by decide))).trans v3
        have nS : zN κ_37 (zn κ) = x11.toNatClampNeg := ((w5 _ _ (F2.t tS (by decide))).1).trans (((v5 _ _ tS).1).trans u4)
        have nM : zN κ_37 (zn κ_19) = x11.toNatClampNeg := ((w5 _ _ tN).1).trans v4
        refine ⟨rfl, rfl, rfl, rfl, ((F1.mono (fun f x z => ⟨z.2, Or.inl z.1⟩)).tr (F2.mono (fun f x z => ⟨z.2, Or.inr (Or.inl z.1)⟩))).tr (F3.mono (fun f x z => ⟨z.2, Or.inr (Or.inr (Or.inl z.1))⟩)), w1.trans (v1.trans u1), fun f b z => ?_, ?_, ?_, fun i hi => ⟨?_, ?_, ?_⟩⟩
        · rw [w2 f b (fun e => z ⟨e.2, Or.inr (Or.inr (Or.inl e.1))⟩), v2 f b (fun e => z ⟨e.2, Or.inr (Or.inl e.1)⟩), u2 f b (fun e => z ⟨e.2, Or.inl e.1⟩)]
        · unfold atL
          rw [rS, rM, w3, nS, nM, w4]
          exact ⟨⟨rfl, rfl⟩, by omega, by omega⟩
        · rw [rM, nM]; omega
        · rw [rS, (w5 _ _ (F2.t tS (by decide))).2, (v5 _ _ tS).2]
          exact u6 i (by omega) (by omega)
        · rw [rM, (w5 _ _ tN).2, v6 i (by omega) (by rw [rN, nN.1]; omega), rN, nN.2]
        · rw [w3, w6 i (by omega) (by rw [ln]; omega), rw2, nw2.2, rw1, nw1.2]
  · skip
    refine h _ _ ?_
    · refine and_5 ?_ (fun o9 => ⟨fun _ => c9, fun z => absurd z (by decide)⟩)  -- q15
      exact Or.inl ⟨rfl, rfl⟩

theorem At_lead_q6 {C : zC} {n0 : Nat} {a0 : Nat} {a1 : Int32} {a2 : Int32} {a3 : Int32} {κ : zS} {Q : Int32 → zS → Prop} (W : zW C n0 κ) (Ta0 : zT κ a0 = 3) (w : Int) (hU : lU9 κ a0) (hp : ldA κ a0 ∧ ldX κ a0 a1.toNatClampNeg w ∧ (0 ≤ a1.toInt ∧ a1.toInt < 1000) ∧ (0 ≤ a2.toInt ∧ w + a2.toInt ≤ 8000000) ∧ (zA κ (zR κ atChooses a0) a1.toNatClampNeg ≠ 0 → a2.toInt = 1)) (h : ∀ (v : Int32) (κ' : zS), ((ldA κ' a0 ∧ ldP κ κ' a0 ((zA κ (zR κ atFirsts a0) a1.toNatClampNeg).toInt) ∧ nb v ∧ (v ≠ 0 → ldX κ' a0 a1.toNatClampNeg (w + a2.toInt)) ∧ stB κ κ' a0 a3) ∧ (ldS6 κ κ' a0 a1 a2 a3 v)) → Q v κ') : zRun C 3 mAt_lead [.ref a0, .int a1, .int a2, .int a3] κ (oI Q noX) := by
  refine At_lead_run W Ta0 ?_
  replace W := W.lo (Nat.le_trans W.1.2.1 W.1.2.2) (Nat.le_refl (zn κ))
  unfold w_At_lead_0
  have pk := hp.2.2.1
  have hj195 : ∀ (l0 : Nat) (l2 : Int32) (l4 : Int32) (l5 : Int32) (τ : zS), zW C (zn κ) τ → zT τ l0 = 3 → ((a0 = l0 ∧ a2 = l2 ∧ ldA τ a0 ∧ ldP κ τ a0 ((zA κ (zR κ atFirsts a0) a1.toNatClampNeg).toInt) ∧ ldX τ a0 a1.toNatClampNeg w ∧ ((l4 = 0 → 0 ≤ l5.toInt ∧ l5.toInt < (zI τ hoTotal (zR τ atStates a0)).toInt) ∧ (l4 = 1 → 0 ≤ l5.toInt ∧ l5.toInt < (zI τ hoTotal (zR τ atEndings a0)).toInt)) ∧ stB κ τ a0 a3) ∧ ((ldE6 κ τ a0 a1 a3 l4 l5 ∧ ¬ l5 = -1) ∧ (zA τ (zR τ atChooses a0) a1.toNatClampNeg ≠ 0 ∨ ∀ j : Nat, (zA τ (zR τ atFirsts a0) a1.toNatClampNeg).toInt ≤ (j : Int) → (j : Int) < (zI τ atNexts a0).toInt → ¬ (zA τ (zR τ atSorts a0) j = l4 ∧ zA τ (zR τ atNumbers a0) j = l5)))) → w_At_lead_195 C (zn κ) Q  l0 l2 l4 l5 τ := by
    rintro _ _ y195_4 y195_5 τ195 W195 T195_0 ⟨⟨rfl, rfl, j195⟩, hE⟩
    unfold w_At_lead_195
    intro T1
    refine At_addNext_q6 W195 T1  ?_ (fun r2 κ_3 q4 => ?_)
    · exact ⟨j195.1.2.1, j195.1.2.2.2.2.1.1, j195.1.2.2.2.2.1.2⟩  -- p1
    obtain ⟨q4, z9⟩ := q4
    intro W5
    intro M6
    refine ⟨?_, h _ _ ?_⟩
    · rcases q4 with ⟨e, -⟩ | ⟨e, -⟩
      · rw [e]; exact nb_0
      · rw [e]; exact nb_1
    · refine and_5 ?_ (fun o9 => ldS_a6 W195 T195_0 hE.1.1 hE.1.2 j195.2.2.1.1 hE.2 q4 z9)  -- q3
      rcases q4 with ⟨e1, e2⟩ | ⟨e1, J⟩
      · rw [e1, e2]
        exact ⟨j195.1, j195.2.1, nb_0, fun z => absurd rfl z, j195.2.2.2.2⟩
      · have qq := (ld_r W Ta0 j195.2.1.1).2.2
        have qC := (qq atChooses (by decide) (by decide)).1
        have qF := (qq atFirsts (by decide) (by decide)).1
        obtain ⟨B, P, X⟩ := ld_n W195 T195_0 j195.1 j195.2.2.1 j195.2.2.2.1 hp.2.2.2.1.1 (fun z => hp.2.2.2.2 (by rw [← qC]; exact z)) J
        rw [qF] at P
        rw [e1]
        refine ⟨B, ldP.tr W Ta0 j195.2.1 P, nb_1, fun _ => X, fun z => ?_⟩
        have nS := (at_ne W195 T195_0).1.2.1
        rw [J.2.2.1 atStates a0 (fun y => absurd y.2 (by decide)), J.2.1 hoTotal (zR τ195 atStates a0) (fun y => nS y.2)]
        exact j195.2.2.2.2 z
  have hj118 : ∀ (l0 : Nat) (l1 : Int32) (l2 : Int32) (l4 : Int32) (l5 : Int32) (τ : zS), zW C (zn κ) τ → zT τ l0 = 3 → ((a0 = l0 ∧ a1 = l1 ∧ a2 = l2 ∧ ldA τ a0 ∧ ldP κ τ a0 ((zA κ (zR κ atFirsts a0) a1.toNatClampNeg).toInt) ∧ ldX τ a0 a1.toNatClampNeg w ∧ (l5 ≠ -1 → (l4 = 0 → 0 ≤ l5.toInt ∧ l5.toInt < (zI τ hoTotal (zR τ atStates a0)).toInt) ∧ (l4 = 1 → 0 ≤ l5.toInt ∧ l5.toInt < (zI τ hoTotal (zR τ atEndings a0)).toInt)) ∧ stB κ τ a0 a3) ∧ ldE6 κ τ a0 a1 a3 l4 l5) → w_At_lead_118 C (zn κ) Q  l0 l1 l2 l4 l5 τ := by
    rintro _ _ _ y118_4 y118_5 τ118 W118 T118_0 ⟨⟨rfl, rfl, rfl, j118⟩, hE⟩
    unfold w_At_lead_118
    refine ⟨fun c7 => ?_, fun c7 => ?_⟩
    · skip
      refine ⟨?_, ?_⟩
      · have L := j118.1.1.1
        rw [inb_iff]; omega
      intro x8 hx8
      unfold w_At_lead_134
      refine ⟨fun n l0 l1 l2 l4 l5 l6 τ => n = ((zI τ118 atNexts a0).toInt - l6.toInt).toNat ∧ ((a0 = l0 ∧ a1 = l1 ∧ a2 = l2 ∧ τ = τ118 ∧ l4 = y118_4 ∧ l5 = y118_5 ∧ (zA τ118 (zR τ118 atFirsts a0) a1.toNatClampNeg).toInt ≤ l6.toInt) ∧ (ldE6 κ τ a0 a1 a3 l4 l5 ∧ ∀ j : Nat, (zA τ (zR τ atFirsts a0) a1.toNatClampNeg).toInt ≤ (j : Int) → (j : Int) < l6.toInt → ¬ (zA τ (zR τ atSorts a0) j = l4 ∧ zA τ (zR τ atNumbers a0) j = l5))), ⟨_, rfl, ?_⟩, ?_⟩
      · refine and_5 ?_ (fun o9 => ⟨hE, fun j h1 h2 => absurd h2 (by rw [hx8]; omega)⟩)  -- j5
        exact ⟨rfl, rfl, rfl, rfl, rfl, rfl, by rw [hx8]; exact Int.le_refl _⟩
      rintro n134 _ _ _ x134_4 x134_5 x134_6 κ134 W134 T134_0 ⟨hn134, ⟨rfl, rfl, rfl, i134⟩, hE⟩
      have hL9 := hE
      obtain ⟨rfl, rfl, rfl, l6⟩ := i134
      have nb0 := j118.1.2.2.2.2.1
      have L := j118.1.2.1.1
      have f0 := j118.2.2.1.1.1
      refine ⟨fun c9 => ?_, fun c9 => ?_⟩
      · skip
        refine hj195 _ _ _ _ _ W134 ?_ ?_
        · exact T134_0  -- t6
        · refine and_5 ?_ (fun o9 => ⟨⟨hL9.1, c7⟩, Or.inr (fun j h1 h2 => hL9.2 j h1 (Int.lt_of_lt_of_le h2 (lei.mp c9)))⟩)  -- k7
          exact ⟨rfl, rfl, j118.1, j118.2.1, j118.2.2.1, j118.2.2.2.1 c7, j118.2.2.2.2⟩
      · skip
        refine ⟨?_, ?_⟩
        · have L9 := j118.1.1.2.2.2.2.1
          rw [inb_iff]; omega
        refine ⟨fun c10 => ?_, fun c10 => ?_⟩
        · skip
          refine hj195 _ _ _ _ _ W134 ?_ ?_
          · exact T134_0  -- t9
          · refine and_5 ?_ (fun o9 => ⟨⟨hL9.1, c7⟩, Or.inl c10⟩)  -- k10
            exact ⟨rfl, rfl, j118.1, j118.2.1, j118.2.2.1, j118.2.2.2.1 c7, j118.2.2.2.2⟩
        · skip
          rw [lei] at c9
          have l7 : x134_6.toInt < (zI κ134 atNexts a0).toInt := by omega
          have e1 := inc_i (x := x134_6) (y := zI κ134 atNexts a0) (by omega) l7
          have kn := cnk (x := x134_6) (by omega)
          refine ⟨?_, ?_⟩
          · rw [inb_iff]; omega  -- b11
          refine ⟨fun c11 => ?_, fun c11 => ?_⟩
          · skip
            intro x12 hx12
            refine lp_b5 ?_ (fun d9 => ⟨rfl, ?_⟩)
            · rw [hn134, hx12, e1]; omega  -- d12
            · refine and_5 ?_ (fun o9 => ?_)  -- i13
              · exact ⟨rfl, rfl, rfl, rfl, rfl, rfl, by rw [hx12, e1]; omega⟩
              · refine ⟨hL9.1, fun j h1 h2 => ?_⟩
                by_cases y : (j : Int) < x134_6.toInt
                · exact hL9.2 j h1 y
                · have ej : j = x134_6.toNatClampNeg := by rw [hx12, e1] at h2; omega
                  rw [ej]
                  exact fun z => c11 z.1
          · skip
            refine ⟨?_, ?_⟩
            · rw [inb_iff]; omega  -- b14
            refine ⟨fun c13 => ?_, fun c13 => ?_⟩
            · skip
              intro x14 hx14
              refine lp_b5 ?_ (fun d9 => ⟨rfl, ?_⟩)
              · rw [hn134, hx14, e1]; omega  -- d15
              · refine and_5 ?_ (fun o9 => ?_)  -- i16
                · exact ⟨rfl, rfl, rfl, rfl, rfl, rfl, by rw [hx14, e1]; omega⟩
                · refine ⟨hL9.1, fun j h1 h2 => ?_⟩
                  by_cases y : (j : Int) < x134_6.toInt
                  · exact hL9.2 j h1 y
                  · have ej : j = x134_6.toNatClampNeg := by rw [hx14, e1] at h2; omega
                    rw [ej]
                    exact fun z => c13 z.2
            · skip
              refine ⟨?_, ?_⟩
              · rw [inb_iff]; omega  -- b17
              refine ⟨?_, ?_⟩
              · rw [inb_iff]; omega  -- b18
              intro κ_15 hκ_15
              intro W16
              refine h _ _ ?_
              · refine and_5 ?_ (fun o9 => ldS_w6 (i := x134_6.toNatClampNeg) W134 T134_0 hL9.1 c7 c10 f0 (by omega) (by omega) c11 c13 (fun j h1 h2 => hL9.2 j h1 (by omega)) hκ_15)  -- q19
                have qF := ((ld_r W Ta0 j118.2.1.1).2.2 atFirsts (by decide) (by decide)).1
                obtain ⟨B, P, X⟩ := ld_w W134 T134_0 j118.1 j118.2.2.1 c10 (by omega) (by omega) hp.2.2.2.1.1 hp.2.2.2.1.2 hκ_15
                rw [qF] at P
                refine ⟨B, ldP.tr W Ta0 j118.2.1 P, nb_1, fun _ => X, fun z => ?_⟩
                rw [hκ_15]
                exact j118.2.2.2.2 z
    · skip
      refine h _ _ ?_
      · refine and_5 ?_ (fun o9 => ldS_n6 hE c7)  -- q20
        exact ⟨j118.1, j118.2.1, nb_0, fun z => absurd rfl z, j118.2.2.2.2⟩
  intro x17 hx17
  refine ⟨fun c18 => ?_, fun c18 => ?_⟩
  · skip
    refine ⟨fun c19 => ?_, fun c19 => ?_⟩
    · skip
      refine ⟨fun c20 => ?_, fun c20 => ?_⟩
      · skip
        refine hj118 _ _ _ _ _ _ W ?_ ?_
        · exact Ta0  -- t21
        · refine and_5 ?_ (fun o9 => ldE_36 hU hx17 c18 c19 c20)  -- k22
          exact ⟨rfl, rfl, rfl, hp.1, ldP.rf, hp.2.1, fun _ => ⟨fun z => absurd z c18, fun z => absurd z c19⟩, fun z => z⟩
      · skip
        intro x21 hx21
        refine hj118 _ _ _ _ _ _ W ?_ ?_
        · exact Ta0  -- t23
        · refine and_5 ?_ (fun o9 => ldE_26 hU hx17 c20 hx21)  -- k24
          exact ⟨rfl, rfl, rfl, hp.1, ldP.rf, hp.2.1, fun _ => ⟨fun z => absurd z c18, fun z => absurd z c19⟩, fun z => z⟩
    · skip
      have A4 := hp.1.2.2.2.1
      have sb := A4.2.1
      have Lm := A4.1.1.1
      refine ⟨?_, ?_⟩
      · rw [inb_iff]; omega  -- b25
      intro κ_22 hκ_22
      intro W23
      intro T24
      intro T25
      have f := mF_ua W (ty_atMachine W Ta0) (show zr maMemory = some 20 by decide +kernel) (by decide) hκ_22
      obtain ⟨B, P, X⟩ := ld_m (lo := ((zA κ (zR κ atFirsts a0) a1.toNatClampNeg).toInt)) W Ta0 hp.1 hp.2.1 f.1 f.2.1 f.2.2
      have e1 : (zI κ_22 maShared (zR κ_22 atMachine a0) + 1).toInt = (zI κ maShared (zR κ atMachine a0)).toInt + 1 := by
        have e : zI κ_22 maShared (zR κ_22 atMachine a0) = zI κ maShared (zR κ atMachine a0) := by rw [hκ_22]; rfl
        rw [e, add_i (by rw [t1i]; omega) (by rw [t1i]; omega), t1i]
      refine Ho_enter_c2 W23 T24 T25 1000 35 2048 ?_ (fun r26 κ_27 q28 => ?_)
      · have U22 := lU_m6 W Ta0 hκ_22 hU
        exact ⟨B.2.2.1.2, hP2, by rw [e1]; omega, U22.2.1, U22.2.2.2, by rw [e1, hκ_22]; show _ ≤ ((zN κ (zR κ maMemory (zR κ atMachine a0)) : Nat) : Int); omega⟩
      obtain ⟨⟨qa, qb, qA, qd⟩, pE⟩ := q28
      have q28 := And.intro qa (And.intro qb qd)
      intro W29
      intro M30
      refine hj118 _ _ _ _ _ _ W29 ?_ ?_
      · exact q28.1.t (P.1.t Ta0 (by decide)) (by decide)  -- t27
      · refine and_5 ?_ (fun o9 => ldE_16 W Ta0 W23 hp.1.2.2.2.2.2 hU hx17 c19 hκ_22 qa qA qd.1 qd.2.2 pE)  -- k28
        have T22 := P.1.t Ta0 (by decide)
        obtain ⟨B2, P2, X2⟩ := ld_e (lo := ((zA κ (zR κ atFirsts a0) a1.toNatClampNeg).toInt)) W23 T22 B X q28
        have rE := (ld_r W23 T22 P2.1).1 atEndings (by decide)
        have neE : zR κ_22 atStates a0 ≠ zR κ_22 atEndings a0 := B.2.2.2.2.2
        have sb9 : stB κ κ_27 a0 a3 := fun z => by
          rw [(ld_r W23 T22 P2.1).1 atStates (by decide), q28.1.i (fun y => neE y.1), hκ_22]
          exact z
        refine ⟨rfl, rfl, rfl, B2, ldP.tr W Ta0 P P2, X2, fun z => ⟨fun y => absurd y c18, fun y => ?_⟩, sb9⟩
        have n1 : r26.toInt ≠ -1 := fun e => z (Int32.toInt_inj.mp (e.trans tmi.symm))
        rw [rE]
        have u := q28.2.2.1
        exact ⟨by omega, q28.2.2.2.1⟩
  · skip
    intro T31
    refine Ma_length_q6 W T31  (fun r32 q34 => ?_)
    obtain ⟨q34, z9⟩ := q34
    intro W35
    intro M36
    intro T37
    intro T38
    refine Ho_enter_c2 W35 T37 T38 1000 142 2048 ?_ (fun r39 κ_40 q41 => ?_)
    · have O := hp.1.2.2.2.1.2.2.resolve_right (fun e => by rw [hx17] at c18; rw [e] at c18; exact absurd c18 (by decide))
      have Om := mO_m9 O
      have Lm := hp.1.2.2.2.1.1.1.1
      exact ⟨hp.1.2.2.1.1, hP1, by rw [q34]; exact mO_l O, hU.1, hU.2.2.1, by rw [q34, Om.1, Lm]; exact Om.2.1⟩
    obtain ⟨⟨qa, qb, qA, qd⟩, pE⟩ := q41
    have q41 := And.intro qa (And.intro qb qd)
    intro W42
    intro M43
    refine hj118 _ _ _ _ _ _ W42 ?_ ?_
    · exact q41.1.t Ta0 (by decide)  -- t30
    · refine and_5 ?_ (fun o9 => ldE_06 (m := 0) W Ta0 hp.1.2.2.2.2.2 hU hx17 c18 q34 qa qA qd.1 qd.2.2 pE)  -- k31
      obtain ⟨B2, P2, X2⟩ := ld_s (lo := ((zA κ (zR κ atFirsts a0) a1.toNatClampNeg).toInt)) W Ta0 hp.1 hp.2.1 q41
      have rS := (ld_r W Ta0 P2.1).1 atStates (by decide)
      have sb9 : stB κ κ_40 a0 a3 := fun z => by
        rw [rS]
        rcases q41.2.2.2.2 with e | e
        · rw [e]; exact z
        · have e1 := e.1
          have e2 := e.2.2.1
          omega
      refine ⟨rfl, rfl, rfl, B2, P2, X2, fun z => ⟨fun y => ?_, fun y => by rw [c18] at y; exact absurd y (by decide)⟩, sb9⟩
      have n1 : r39.toInt ≠ -1 := fun e => z (Int32.toInt_inj.mp (e.trans tmi.symm))
      rw [rS]
      have u := q41.2.2.1
      exact ⟨by omega, q41.2.2.2.1⟩

end
section
set_option maxHeartbeats 1600000
/-! the class: a state loaded -/
theorem Ho_copyTo_q6 {C : zC} {n0 : Nat} {a0 : Nat} {a1 : Int32} {a2 : Nat} {κ : zS} {Q : zS → Prop} (W : zW C n0 κ) (Ta0 : zT κ a0 = 6) (Ta2 : zT κ a2 = 20) (M D S : Nat) (hp : hoI κ a0 M D S ∧ hoP M D S) (h : ∀ (κ' : zS), ((κ' = κ ∨ ∃ i n, κ' = uc κ (zR κ hoPool a0) a2 i 0 n) ∧ (cpS6 κ κ' a0 a1 a2)) → Q κ') : zRun C 1 mHo_copyTo [.ref a0, .int a1, .ref a2] κ (oV Q noX) := by
  refine Ho_copyTo_run W Ta0 Ta2 ?_
  replace W := W.lo (Nat.le_trans W.1.2.1 W.1.2.2) (Nat.le_refl (zn κ))
  unfold w_Ho_copyTo_0
  obtain ⟨H, P⟩ := hp
  have B := hoP_b P
  have nN := W.n Ta2
  intro T1
  refine Ho_lengthOf_c2 W T1 M D S ?_ (fun r2 q4 => ?_)
  · exact ⟨H, P⟩  -- p1
  have q9 := q4
  replace q4 := lo_6 q4
  intro W5
  intro M6
  intro x7 hx7
  refine ⟨fun c8 => ?_, fun c8 => ?_⟩
  · skip
    refine h _ ?_
    · refine and_5 ?_ (fun o9 => cpS_16 nN q9 hx7 c8)  -- q2
      exact Or.inl rfl
  · skip
    have c9 : 0 < x7.toInt := by rw [lei, t0i] at c8; omega
    have m1 : x7.toInt ≤ r2.toInt ∧ x7.toInt ≤ zN κ a2 := by
      rw [hx7]
      by_cases z : Int32.ofNat (zN κ a2) < r2
      · rw [if_pos z, ofn_i nN]
        rw [lti, ofn_i nN] at z
        omega
      · rw [if_neg z]
        rw [lti, ofn_i nN] at z
        omega
    obtain ⟨k0, k1, ek⟩ := q4.2.2 (by omega)
    have k9 := cnk k0
    have tM := H.2.1.2
    have A := hoI_A H (Or.inl (by omega))
    have sl : zN κ (zR κ hoStarts a0) = M + 1 := A.2.1
    have a := hoA_0 A (k := a1.toNatClampNeg) (by omega)
    have t : (zA κ (zR κ hoStarts a0) (a1.toNatClampNeg + 1)).toInt ≤ zN κ (zR κ hoPool a0) := hoA_t A (k := a1.toNatClampNeg + 1) (by omega)
    refine ⟨?_, ?_⟩
    · rw [inb_iff, sl]; omega  -- b3
    refine ⟨?_, ?_⟩
    · have e1 : (zA κ (zR κ hoStarts a0) a1.toNatClampNeg).toInt = (zA κ (zR κ hoStarts a0) a1.toNatClampNeg).toInt := rfl
      refine ⟨by rw [lei, t0i, e1]; exact a, by decide, by rw [lei, t0i]; omega, ?_, ?_⟩
      · have u1 := cnk a
        have u2 := cnk (x := x7) (by omega)
        omega
      · have u2 := cnk (x := x7) (by omega)
        have u3 : (0 : Int32).toNatClampNeg = 0 := rfl
        omega
    intro κ_9 hκ_9
    intro W10
    refine h _ ?_
    · refine and_5 ?_ (fun o9 => cpS_26 nN q9 hx7 hκ_9)  -- q5
      exact Or.inr ⟨_, _, hκ_9⟩

theorem Ma_load_q6 {C : zC} {n0 : Nat} {a0 : Nat} {a1 : Nat} {a2 : Int32} {κ : zS} {Q : zS → Prop} (W : zW C n0 κ) (Ta0 : zT κ a0 = 7) (Ta1 : zT κ a1 = 6)  (hp : mkI κ a0 ∧ (0 ≤ (zI κ maShared a0).toInt ∧ (zI κ maShared a0).toInt ≤ 34) ∧ hoI κ a1 1000 142 2048) (h : ∀ (κ' : zS), ((mF κ κ' a0 ∧ mG κ κ' a0 ∧ zI κ' maShared a0 = zI κ maShared a0 ∧ mO κ' a0) ∧ (∀ (K : Nat → Int32) (l : Nat), l ≤ 142 → 0 < l → 0 ≤ a2.toInt → hk9 κ a1 K (Int32.ofNat l).toInt a2.toNatClampNeg → LM6 (am6 κ a0) (am6 κ' a0) K l)) → Q κ') : zRun C 2 mMa_load [.ref a0, .ref a1, .int a2] κ (oV Q noX) := by
  refine Ma_load_run W Ta0 Ta1 ?_
  replace W := W.lo (Nat.le_trans W.1.2.1 W.1.2.2) (Nat.le_refl (zn κ))
  unfold w_Ma_load_0
  intro T1
  intro T2
  refine Ho_copyTo_q6 W T1 T2 1000 142 2048 ?_ (fun κ_3 q4 => ?_)
  · exact ⟨hp.2.2, Or.inl ⟨rfl, rfl, rfl⟩⟩  -- p1
  obtain ⟨q4, z9⟩ := q4
  have zc := z9
  have U : (mF κ κ_3 a0 ∧ mS κ κ_3 a0 ∧ zI κ_3 = zI κ) ∧ hoI κ_3 a1 1000 142 2048 := by
    rcases q4 with e | ⟨i, n, e⟩
    · rw [e]; exact ⟨⟨mF.rf, mS.rf, rfl⟩, hp.2.2⟩
    · exact ⟨mF_uc W Ta0 (show zr maMemory = some 20 by decide +kernel) (by decide) e, hoI_m W Ta0 Ta1 e hp.2.2⟩
  obtain ⟨⟨F0, S0, I0⟩, H0⟩ := U
  intro W5
  intro M6
  intro T7
  refine Ho_lengthOf_c2 W5 T7 1000 142 2048 ?_ (fun r8 q10 => ?_)
  · exact ⟨H0, Or.inl ⟨rfl, rfl, rfl⟩⟩  -- p2
  have q9 := q10
  replace q10 := lo_6 q10
  intro W11
  intro M12
  refine ⟨?_, ?_⟩
  · decide  -- b3
  intro κ_13 hκ_13
  intro W14
  intro κ_15 hκ_15
  intro W16
  intro κ_17 hκ_17
  intro W18
  refine h _ ?_
  · refine and_5 ?_ (fun o9 => fun K l l1 l0 k0 H => LM_6 W Ta0 Ta1 W5 l1 l0 k0 hp.1.1.1 H zc q9 hκ_13 hκ_15 hκ_17)  -- q4
    have e9 : (9 : Int32).toInt = 9 := rfl
    have sh : zI κ_3 maShared a0 = zI κ maShared a0 := by rw [I0]
    obtain ⟨o, ho⟩ : ∃ o, o = (if (r8 - zI κ_3 maShared a0) / (9 : Int32) < (1 : Int32) then (1 : Int32) else (r8 - zI κ_3 maShared a0) / (9 : Int32)) := ⟨_, rfl⟩
    have ob := ld_o (r := r8) (s := zI κ_3 maShared a0) q10.1 q10.2.1 (by rw [sh]; exact hp.2.1.1) (by rw [sh]; exact hp.2.1.2)
    rw [← ho] at ob hκ_13
    have s13 : zI κ_13 maShared a0 = zI κ maShared a0 := by rw [hκ_13]; exact sh
    have o13 : zI κ_13 maOpen a0 = o := by rw [hκ_13]; exact if_pos ⟨rfl, rfl⟩
    have s17 : zI κ_17 maShared a0 = zI κ maShared a0 := by rw [hκ_17, hκ_15]; exact s13
    have o17 : zI κ_17 maOpen a0 = o := by rw [hκ_17, hκ_15]; exact o13
    have f17 : zI κ_17 maFrame a0 = zI κ maShared a0 + (o - 1) * 9 := by
      rw [hκ_17]
      show zI κ_15 maFrame a0 = _
      rw [hκ_15]
      refine (if_pos ⟨rfl, rfl⟩).trans ?_
      rw [s13, o13]
    have b := hp.2.1
    rw [sh] at ob
    have d1 : (o - 1).toInt = o.toInt - 1 := dec_i (by omega)
    have d2 : ((o - 1) * 9).toInt = (o.toInt - 1) * 9 := by rw [mul_i (by rw [d1, e9]; omega) (by rw [d1, e9]; omega), d1, e9]
    have d3 : (zI κ maShared a0 + (o - 1) * 9).toInt = (zI κ maShared a0).toInt + (o.toInt - 1) * 9 := by rw [add_i (by rw [d2]; omega) (by rw [d2]; omega), d2]
    refine ⟨((F0.tr (mF_ui hκ_13 (by decide))).tr (mF_ui hκ_15 (by decide))).tr (mF_ui hκ_17 (by decide)), ((S0.2.tr (mG_ui hκ_13 (by decide))).tr (mG_ui hκ_15 (by decide))).tr (mG_ui hκ_17 (by decide)), s17, ?_⟩
    unfold mO
    rw [s17, o17, f17, d3]
    exact ⟨b, ⟨by omega, by omega⟩, by omega⟩

end
section
set_option maxHeartbeats 1600000
/-! the class expands a state as the reference does -/
theorem At_expand_q6 {C : zC} {n0 : Nat} {a0 : Nat} {a1 : Int32} {a2 : Int32} {κ : zS} {Q : Int32 → zS → Prop} (W : zW C n0 κ) (Ta0 : zT κ a0 = 3) (m9 : Int32) (hU : lU9 κ a0) (u9 s9 w9 l9 : Nat) (σ9 : rS) (hX : XP6 u9 s9 w9 l9 κ a0 a1.toNatClampNeg σ9) (hl9 : a2 = Int32.ofNat l9) (hk9 : a1.toInt < (σ9.1 70).toInt) (hp : ldA κ a0 ∧ (0 ≤ a1.toInt ∧ a1.toInt < 1000) ∧ exU9 κ a0 a1.toNatClampNeg ∧ (0 < a1.toNatClampNeg → (zA κ (zR κ atFirsts a0) a1.toNatClampNeg).toInt = (zI κ atNexts a0).toInt)) (h : ∀ (v : Int32) (κ' : zS), ((ldA κ' a0 ∧ zF (exF κ a0) κ κ' ∧ nb v ∧ (v ≠ 0 → exU9 κ' a0 (a1.toNatClampNeg + 1) ∧ (zA κ' (zR κ' atFirsts a0) (a1.toNatClampNeg + 1)).toInt = (zI κ' atNexts a0).toInt) ∧ (stB κ κ' a0 a2 ∧ stG9 κ κ' a0 m9)) ∧ (∃ σ', g5_expand a1 σ9 = (σ', v) ∧ (v ≠ 0 → lU9 κ' a0 ∧ XP6 u9 s9 w9 l9 κ' a0 (a1.toNatClampNeg + 1) σ'))) → Q v κ') : zRun C 5 mAt_expand [.ref a0, .int a1, .int a2] κ (oI Q noX) := by
  refine At_expand_run W Ta0 ?_
  replace W := W.lo (Nat.le_trans W.1.2.1 W.1.2.2) (Nat.le_refl (zn κ))
  unfold w_At_expand_0
  obtain ⟨A0, k01, E0, F0⟩ := hp
  have kn := cnk k01.1
  have en := cn1 k01.1 (by omega)
  have hj231 : ∀ (l0 : Nat) (l1 : Int32) (l4 : Int32) (τ : zS), zW C (zn κ) τ → zT τ l0 = 3 → ((a0 = l0 ∧ a1 = l1 ∧ (stB κ τ a0 a2 ∧ stG9 κ τ a0 m9) ∧ exZ κ τ a0 a1.toNatClampNeg l4) ∧ E231 u9 s9 w9 l9 a1 σ9 τ a0 a1.toNatClampNeg l4) → w_At_expand_231 C (zn κ) Q  l0 l1 l4 τ := by
    rintro _ _ y231_4 τ231 W231 T231_0 ⟨⟨rfl, rfl, j231⟩, hE⟩
    unfold w_At_expand_231
    obtain ⟨b231, j231⟩ := j231
    refine ⟨?_, ?_⟩
    · have L := j231.1.1.1
      rw [inb_iff, en.2]; omega
    intro κ_1 hκ_1
    intro W2
    refine ⟨?_, h _ _ ?_⟩
    · exact j231.2.2.1  -- b2
    · refine and_5 ?_ (fun o9 => exZ_6 W231 T231_0 k01 hE hκ_1)  -- q3
      obtain ⟨A, Z, b, q⟩ := j231
      rw [en.1] at hκ_1
      have ow : zO τ231 (zR τ231 atFirsts a0) = (atFirsts, a0) := atRf_o W231 T231_0 (by decide)
      have R : zR κ_1 = zR τ231 := by rw [hκ_1]; rfl
      have I : zI κ_1 = zI τ231 := by rw [hκ_1]; rfl
      have N : zN κ_1 = zN τ231 := by rw [hκ_1]; rfl
      refine ⟨(ld_own W231 T231_0 A (by rw [hκ_1]; exact zF_ua (by rw [ow])) R N I).1, Z.tr (by rw [hκ_1]; exact zF_ua (by rw [ow]; exact Or.inl ⟨rfl, Or.inl rfl⟩)), b, fun hr => ?_, ⟨fun z => by rw [R, I]; exact b231.1 z, fun z => by rw [R, I]; exact b231.2 z⟩⟩
      obtain ⟨E, w, X, w1, wt⟩ := q hr
      exact ex_2 W231 T231_0 A E X w1 wt hκ_1
  have hh143 : ∀ (l0 : Nat) (l1 : Int32) (l2 : Int32) (l3 : Int32) (l4 : Int32) (l5 : Int32) (τ : zS), zW C (zn κ) τ → zT τ l0 = 3 → ((a0 = l0 ∧ a1 = l1 ∧ a2 = l2 ∧ (stB κ τ a0 a2 ∧ stG9 κ τ a0 m9) ∧ exL κ τ a0 a1.toNatClampNeg l3 l4 l5) ∧ E143 u9 s9 w9 l9 a1 σ9 τ a0 a1.toNatClampNeg l4 l5) → w_At_expand_143 C (zn κ) Q  l0 l1 l2 l3 l4 l5 τ := by
    intro z0 z1 z2 z3 z4 z5 τi Wi _ hinit
    unfold w_At_expand_143
    refine ⟨fun n l0 l1 l2 l3 l4 l5 τ => n = (64 - l5.toInt).toNat ∧ ((a0 = l0 ∧ a1 = l1 ∧ a2 = l2 ∧ (stB κ τ a0 a2 ∧ stG9 κ τ a0 m9) ∧ exL κ τ a0 a1.toNatClampNeg l3 l4 l5) ∧ E143 u9 s9 w9 l9 a1 σ9 τ a0 a1.toNatClampNeg l4 l5), ⟨_, rfl, hinit⟩, ?_⟩
    clear hinit
    rintro n143 _ _ _ x143_3 x143_4 x143_5 κ143 W143 T143_0 ⟨hn143, ⟨rfl, rfl, rfl, i143⟩, hE⟩
    obtain ⟨b143, i143⟩ := i143
    have hL9 := hE
    have hj156 : ∀ (l0 : Nat) (l1 : Int32) (l2 : Int32) (l3 : Int32) (l4 : Int32) (l5 : Int32) (τ : zS), zW C (zn κ) τ → zT τ l0 = 3 → ((a0 = l0 ∧ a1 = l1 ∧ a2 = l2 ∧ κ143 = τ ∧ x143_3 = l3 ∧ x143_4 = l4 ∧ x143_5 = l5 ∧ (l4 ≠ 0 → zI τ maWants (zR τ atMachine a0) ≠ -1)) ∧ True) → w_At_expand_156 C (zn κ) Q (fun (l0' : Nat) (l1' : Int32) (l2' : Int32) (l3' : Int32) (l4' : Int32) (l5' : Int32) (τ : zS) => ∃ k < n143, (fun (n : Nat) (l0 : Nat) (l1 : Int32) (l2 : Int32) (l3 : Int32) (l4 : Int32) (l5 : Int32) (τ : zS) => n = (64 - l5.toInt).toNat ∧ ((a0 = l0 ∧ a1 = l1 ∧ a2 = l2 ∧ (stB κ τ a0 a2 ∧ stG9 κ τ a0 m9) ∧ exL κ τ a0 a1.toNatClampNeg l3 l4 l5) ∧ E143 u9 s9 w9 l9 a1 σ9 τ a0 a1.toNatClampNeg l4 l5)) k l0' l1' l2' l3' l4' l5' τ) l0 l1 l2 l3 l4 l5 τ := by
      rintro _ _ _ y156_3 y156_4 y156_5 τ156 W156 T156_0 ⟨⟨rfl, rfl, rfl, j156⟩, hE⟩
      unfold w_At_expand_156
      obtain ⟨rfl, rfl, rfl, rfl, jw⟩ := j156
      refine ⟨fun c3 => ?_, fun c3 => ?_⟩
      · skip
        refine hj231 _ _ _ _ W156 ?_ ?_
        · exact T143_0  -- t4
        · refine and_5 ?_ (fun o9 => E231_6 hL9 (Or.inr (Or.inr c3)))  -- k5
          rw [lei] at c3
          exact ⟨rfl, rfl, b143, exZ_L i143 (fun hr hw => by
            have := (i143.2.2.2.2.2 hr).2.2.2 hw
            omega)⟩
      · skip
        refine ⟨fun c4 => ?_, fun c4 => ?_⟩
        · skip
          refine hj231 _ _ _ _ W156 ?_ ?_
          · exact T143_0  -- t6
          · refine and_5 ?_ (fun o9 => E231_6 hL9 (Or.inl c4))  -- k7
            exact ⟨rfl, rfl, b143, exZ_L i143 (fun hr => absurd c4 hr)⟩
        · skip
          have jh := jw c4
          have e4 : x143_4 = 1 := i143.2.2.2.1.resolve_left c4
          have LL := i143
          rw [e4] at LL
          obtain ⟨A, Z, R, b, x0, L⟩ := i143
          obtain ⟨E, M, X, xw⟩ := L c4
          rw [lei] at c3
          have h1 : x143_5.toInt < (zI κ143 maWays (zR κ143 atMachine a0)).toInt := by omega
          have ww := ex_w M jh x0.1 h1
          have kx := cnk x0.1
          have e1 := cn1 x0.1 (by omega)
          refine ⟨?_, ?_⟩
          · have Lm := A.2.2.2.1.1.1.2.2.2.2
            rw [inb_iff]; omega
          refine ⟨fun c5 => ?_, fun c5 => ?_⟩
          · skip
            intro x6 hx6
            refine lp_b5 ?_ (fun d9 => ⟨rfl, ?_⟩)
            · rw [hn143, hx6, e1.2]; omega  -- d9
            · refine and_5 ?_ (fun o9 => ?_)  -- i10
              · rw [lei, t0i] at c5
                have e : exW κ143 a0 x6 = exW κ143 a0 x143_5 := by rw [hx6, ww.2.1]; omega
                exact ⟨rfl, rfl, rfl, b143, A, Z, R, b, by rw [hx6, e1.2]; omega, fun hr => ⟨E, M, by rw [e]; exact X, fun _ => by rw [hx6, e1.2]; omega⟩⟩
              · rw [hx6]
                exact E143_36 hL9 c4 jh x0.1 h1 c5
          · skip
            intro T7
            intro T8
            refine Ma_load_q6 W156 T7 T8  ?_ (fun κ_9 q10 => ?_)
            · exact ⟨A.2.2.2.1.1, A.2.2.2.1.2.1, A.2.2.1.1⟩  -- p11
            obtain ⟨q10, z9⟩ := q10
            have zl := z9
            obtain ⟨A1, P1, X1⟩ := ld_f (lo := (zA κ143 (zR κ143 atFirsts a0) a1.toNatClampNeg).toInt) W143 T143_0 A X q10.1 q10.2.1 q10.2.2.1 (Or.inl q10.2.2.2)
            have r1 := (ld_r W143 T143_0 P1.1).1
            have T1 := P1.1.t T143_0 (by decide)
            have rm1 := r1 atMachine (by decide)
            have M1 := exM_P W143 T143_0 P1 M
            intro W11
            intro M12
            intro T13
            refine Ma_settle_q6 W11 T13  ?_ (fun κ_14 q15 => ?_)
            · exact ⟨A1.2.2.2.1.1, by rw [rm1]; exact q10.2.2.2, by rw [M1.2.2.2.1]; exact ww.1⟩  -- p12
            obtain ⟨q15, z9⟩ := q15
            have G9 := E143_46 (τ := κ_14) (a3 := a2) (v := 0) W143 T143_0 hL9 M.2.2.1 c4 jh k01 x0.1 h1 (by omega) c5 q10.1 zl W11 q15.1 z9
            have zs := z9
            obtain ⟨A2, P2, X2⟩ := ld_f (lo := (zA κ143 (zR κ143 atFirsts a0) a1.toNatClampNeg).toInt) W11 T1 A1 X1 q15.1 q15.2.2.2 q15.2.1 q15.2.2.1
            have P12 := ldP.tr W143 T143_0 P1 P2
            have M2 := exM_P W143 T143_0 P12 M
            have T2 := P2.1.t T1 (by decide)
            intro W16
            intro M17
            refine ⟨?_, ?_⟩
            · have L2 := A2.2.2.2.1.1.1.2.2.2.2
              rw [inb_iff]; omega
            intro T18
            refine At_lead_q6 W16 T18 (exW κ143 a0 x143_5) G9.1 ?_ (fun r19 κ_20 q21 => ?_)
            · have qC := ((ld_r W143 T143_0 P12.1).2.2 atChooses (by decide) (by decide)).1
              have w2 := ww.2.1
              have w3 := ww.2.2.2.1
              refine ⟨A2, X2, k01, ⟨by rw [M2.2.2.2.2]; exact ww.2.2.1, by rw [M2.2.2.2.2]; omega⟩, fun z => ?_⟩
              rw [qC] at z
              rw [M2.2.2.2.2]
              exact ww.2.2.2.2 z
            obtain ⟨q21, z9⟩ := q21
            intro W22
            intro M23
            intro x24 hx24
            refine lp_b5 ?_ (fun d9 => ⟨rfl, ?_⟩)
            · rw [hn143, hx24, e1.2]; omega  -- d15
            · refine and_5 ?_ (fun o9 => ?_)  -- i16
              · have nS := (at_ne W143 T143_0).2.1
                have nS1 := (at_ne W11 T1).2.1
                have t1 : zI κ_14 hoTotal (zR κ_14 atStates a0) = zI κ143 hoTotal (zR κ143 atStates a0) := by
                  rw [(ld_r W11 T1 P2.1).1 atStates (by decide), q15.1.1.i (fun y => nS1 y.symm), r1 atStates (by decide), q10.1.1.i (fun y => nS y.symm)]
                exact ⟨rfl, rfl, rfl, ⟨fun z => q21.2.2.2.2 (by rw [t1]; exact b143.1 z), fun z => ld_g9 W16 T2 q21.2.1 (by rw [t1]; exact b143.2 z)⟩, exL_s W143 T143_0 LL jh h1 P12 W16 T2 q21.1 q21.2.1 q21.2.2.1 q21.2.2.2.1 hx24⟩
              · rw [hx24]
                have G8 := E143_46 (τ := κ_20) (a3 := a2) (v := r19) W143 T143_0 hL9 M.2.2.1 c4 jh k01 x0.1 h1 (by omega) c5 q10.1 zl W11 q15.1 zs
                refine G8.2 W16 T2 q21.2.1.1 hl9 ?_
                rw [M2.2.2.2.2] at z9
                exact z9
    refine ⟨fun c25 => ?_, fun c25 => ?_⟩
    · skip
      refine hj156 _ _ _ _ _ _ _ W143 ?_ ?_
      · exact T143_0  -- t17
      · refine and_5 ?_ (fun o9 => trivial)  -- k18
        exact ⟨rfl, rfl, rfl, rfl, rfl, rfl, rfl, fun hr => by
          rw [(i143.2.2.2.2.2 hr).2.1.2.1.mp c25]; decide⟩
    · skip
      refine ⟨?_, ?_⟩
      · have L := i143.1.1.2.2.2.2.1
        rw [inb_iff]; omega
      refine ⟨fun c26 => ?_, fun c26 => ?_⟩
      · skip
        refine hj231 _ _ _ _ W143 ?_ ?_
        · exact T143_0  -- t20
        · refine and_5 ?_ (fun o9 => ?_)  -- k21
          · exact ⟨rfl, rfl, b143, exZ_L i143 (fun hr hw => by
              have M := (i143.2.2.2.2.2 hr).2.1
              rcases M.1 with z | ⟨z, -⟩ | ⟨z, -⟩
              · exact absurd z hw
              · exact absurd c25 (M.2.1.mpr z)
              · exact absurd c26 (M.2.2.1.mpr z))⟩
          · refine E231_6 hL9 ?_
            by_cases hr : x143_4 = 0
            · exact Or.inl hr
            · have M := (i143.2.2.2.2.2 hr).2.1
              rcases M.1 with z | ⟨z, -⟩ | ⟨z, -⟩
              · exact Or.inr (Or.inl z)
              · exact absurd c25 (M.2.1.mpr z)
              · exact absurd c26 (M.2.2.1.mpr z)
      · skip
        refine hj156 _ _ _ _ _ _ _ W143 ?_ ?_
        · exact T143_0  -- t22
        · refine and_5 ?_ (fun o9 => trivial)  -- k23
          exact ⟨rfl, rfl, rfl, rfl, rfl, rfl, rfl, fun hr => by
            rw [(i143.2.2.2.2.2 hr).2.1.2.2.1.mp c26]; decide⟩
  have hj101 : ∀ (l0 : Nat) (l1 : Int32) (l2 : Int32) (l3 : Int32) (s0 : Nat) (s1 : Int32) (s2 : Int32) (τ : zS), zW C (zn κ) τ → zT τ l0 = 3 → zT τ s0 = 20 → ((a0 = l0 ∧ a1 = l1 ∧ a2 = l2 ∧ exI κ τ a0 a1.toNatClampNeg ∧ mDw τ (zR κ atMachine a0) ∧ (l3 ≠ 0 ↔ zI τ maWants (zR κ atMachine a0) = 3) ∧ s0 = zR τ atTotals a0 ∧ a1 = s1 ∧ (zA τ (zR τ atChooses a0) a1.toNatClampNeg ≠ 0 ↔ zI τ maWants (zR κ atMachine a0) = 4) ∧ (zI τ maWants (zR κ atMachine a0) = 3 → s2 = zI τ maTotal (zR κ atMachine a0)) ∧ (zI τ maWants (zR κ atMachine a0) = -1 → s2 = 1)) ∧ E101 u9 s9 w9 l9 a1 σ9 τ a0 a1.toNatClampNeg s2) → w_At_expand_101 C (zn κ) Q  l0 l1 l2 l3 s0 s1 s2 τ := by
    rintro _ _ _ y101_3 y101_s0 y101_s1 y101_s2 τ101 W101 T101_0 T101_1 ⟨⟨rfl, rfl, rfl, j101⟩, hE⟩
    unfold w_At_expand_101
    obtain ⟨H, D, d3, rfl, rfl, cC, t3, t1⟩ := j101
    refine ⟨?_, ?_⟩
    · have L := H.1.1.2.1
      rw [inb_iff]; omega
    intro κ_27 hκ_27
    intro W28
    have U1 := ex_u W101 T101_0 H (Or.inr (Or.inl rfl)) hκ_27
    have T27 : zT κ_27 a0 = 3 := by rw [hκ_27]; exact T101_0
    refine ⟨?_, ?_⟩
    · have L := U1.1.1.1.2.2.1
      rw [inb_iff]; omega
    intro κ_29 hκ_29
    intro W30
    have U2 := ex_u W28 T27 U1.1 (Or.inr (Or.inr rfl)) hκ_29
    have T29 : zT κ_29 a0 = 3 := by rw [hκ_29]; exact T27
    have G := U1.2.1.tr U2.2.1
    have rm : zR κ_29 atMachine a0 = zR κ atMachine a0 := U2.1.2.2.2.2.1
    have gw := (G maWants (by decide)).1
    have gt := (G maTotal (by decide)).1
    have cr : zA κ_29 (zR κ_29 atChooses a0) = zA τ101 (zR τ101 atChooses a0) := by
      rw [U2.2.2.1, U2.2.2.2.2.1 atChooses (by decide) (by decide), U1.2.2.1, U1.2.2.2.2.1 atChooses (by decide) (by decide)]
    have tr9 : zA κ_29 (zR κ_29 atTotals a0) a1.toNatClampNeg = y101_s2 := by
      rw [U2.2.2.1, U2.2.2.2.2.1 atTotals (by decide) (by decide), U1.2.2.1, U1.2.2.2.2.2]
      exact if_pos rfl
    have sb29 : stB κ κ_29 a0 a2 := fun z => by
      rw [U2.1.2.2.2.2.2.1, U2.1.2.2.2.2.2.2.2]
      exact z
    have sg29 : stG9 κ κ_29 a0 m9 := fun z => by
      rw [U2.1.2.2.2.2.2.1, U2.1.2.2.2.2.2.2.2]
      exact z
    have M9 : exM κ_29 a0 a1.toNatClampNeg y101_3 := by
      unfold exM
      rw [rm, cr, tr9, gw, gt]
      exact ⟨mDw_g G D, d3, cC, fun z => by rw [t3 z], fun z => by rw [t1 z]; rfl⟩
    have G9 := E29_6 W101 T101_0 hE hκ_27 W28 hκ_29
    refine ⟨fun c31 => ?_, fun c31 => ?_⟩
    · skip
      refine hh143 _ _ _ _ _ _ _ W30 (by assumption) ?_
      · refine and_5 ?_ (fun o9 => E143_06 G9 (by rw [M9.2.1.mp c31]; decide))  -- j26
        exact ⟨rfl, rfl, rfl, ⟨sb29, sg29⟩, exL_0 U2.1 M9 (by rw [M9.2.1.mp c31]; decide)⟩
    · skip
      refine ⟨?_, ?_⟩
      · have L := U2.1.1.1.2.2.2.2.1
        rw [inb_iff]; omega
      refine ⟨fun c32 => ?_, fun c32 => ?_⟩
      · skip
        refine hh143 _ _ _ _ _ _ _ W30 (by assumption) ?_
        · refine and_5 ?_ (fun o9 => E143_06 G9 (by rw [M9.2.2.1.mp c32]; decide))  -- j28
          exact ⟨rfl, rfl, rfl, ⟨sb29, sg29⟩, exL_0 U2.1 M9 (by rw [M9.2.2.1.mp c32]; decide)⟩
      · skip
        intro T33
        refine At_lead_q6 W30 T33 0 (by obtain ⟨_, _, _, _, E, _⟩ := G9; exact E.1.2.2.2) ?_ (fun r34 κ_35 q36 => ?_)
        · exact ⟨U2.1.1, ld_o3 U2.1.1 U2.1.2.2.1, k01, by decide, fun z => absurd c32 z⟩  -- p29
        obtain ⟨q36, z9⟩ := q36
        have T35 := q36.2.1.1.t T29 (by decide)
        intro W37
        intro M38
        refine hh143 _ _ _ _ _ _ _ W37 (by assumption) ?_
        · refine and_5 ?_ (fun o9 => ?_)  -- j30
          · have hw : zI κ_29 maWants (zR κ_29 atMachine a0) = -1 := by
              rcases M9.1 with z | ⟨z, -⟩ | ⟨z, -⟩
              · exact z
              · exact absurd c31 (M9.2.1.mpr z)
              · exact absurd c32 (M9.2.2.1.mpr z)
            exact ⟨rfl, rfl, rfl, ⟨fun z => q36.2.2.2.2 (sb29 z), fun z => ld_g9 W30 T29 q36.2.1 (sg29 z)⟩, exL_1 W30 T29 U2.1 M9 hw q36.1 q36.2.1 q36.2.2.1 q36.2.2.2.1⟩
          · refine E143_16 W30 T29 G9 ?_ q36.2.1.1 hl9 z9
            rcases M9.1 with z | ⟨z, -⟩ | ⟨z, -⟩
            · exact z
            · exact absurd c31 (M9.2.1.mpr z)
            · exact absurd c32 (M9.2.2.1.mpr z)
  have hj67 : ∀ (l0 : Nat) (l1 : Int32) (l2 : Int32) (l3 : Int32) (s0 : Nat) (s1 : Int32) (s2 : Int32) (τ : zS), zW C (zn κ) τ → zT τ l0 = 3 → zT τ s0 = 23 → ((a0 = l0 ∧ a1 = l1 ∧ a2 = l2 ∧ exI κ τ a0 a1.toNatClampNeg ∧ mDw τ (zR κ atMachine a0) ∧ (l3 ≠ 0 ↔ zI τ maWants (zR κ atMachine a0) = 3) ∧ s0 = zR τ atChooses a0 ∧ a1 = s1 ∧ (s2 = 0 ∨ s2 = 1) ∧ (s2 ≠ 0 ↔ zI τ maWants (zR κ atMachine a0) = 4)) ∧ E67 u9 s9 w9 l9 a1 σ9 τ a0 a1.toNatClampNeg s2) → w_At_expand_67 C (zn κ) Q  l0 l1 l2 l3 s0 s1 s2 τ := by
    rintro _ _ _ y67_3 y67_s0 y67_s1 y67_s2 τ67 W67 T67_0 T67_1 ⟨⟨rfl, rfl, rfl, j67⟩, hE⟩
    unfold w_At_expand_67
    obtain ⟨H, D, d3, rfl, rfl, s01, s4⟩ := j67
    refine ⟨?_, ?_⟩
    · have L := H.1.1.2.2.2.2.1
      rw [inb_iff]; omega
    intro κ_39 hκ_39
    intro W40
    have nv : vp_nar .boolean y67_s2 = y67_s2 := by
      rcases s01 with e | e
      · rw [e]; rfl
      · rw [e]; rfl
    rw [nv] at hκ_39
    have U := ex_u W67 T67_0 H (Or.inl rfl) hκ_39
    have T39 : zT κ_39 a0 = 3 := by rw [hκ_39]; exact T67_0
    have gw := (U.2.1 maWants (by decide)).1
    have cv : zA κ_39 (zR κ_39 atChooses a0) a1.toNatClampNeg = y67_s2 := by
      rw [U.2.2.1, U.2.2.2.2.2]; exact if_pos rfl
    have D9 := mDw_g U.2.1 D
    rw [← gw] at d3 s4
    have s5 := s4
    rw [← cv] at s5
    have rm9 : zR κ_39 atMachine a0 = zR κ atMachine a0 := U.1.2.2.2.2.1
    refine ⟨fun c41 => ?_, fun c41 => ?_⟩
    · skip
      refine ⟨?_, ?_⟩
      · have L := U.1.1.1.2.2.2.2.1
        rw [inb_iff]; omega
      refine ⟨fun c42 => ?_, fun c42 => ?_⟩
      · skip
        refine hj101 _ _ _ _ _ _ _ _ W40 ?_ ?_ ?_
        · exact T39  -- t33
        · exact ty_atTotals W40 T39  -- t34
        · refine and_5 ?_ (fun o9 => E101_6 W67 T67_0 hE hκ_39 (fun z => absurd c41 (d3.mpr (by rw [← rm9]; exact z))) (fun z => absurd c42 (s5.mpr (by rw [← rm9]; exact z))) (fun _ => rfl))  -- k35
          exact ⟨rfl, rfl, rfl, U.1, D9, d3, rfl, rfl, s5, fun z => absurd c41 (d3.mpr z), fun _ => rfl⟩
      · skip
        refine hj101 _ _ _ _ _ _ _ _ W40 ?_ ?_ ?_
        · exact T39  -- t36
        · exact ty_atTotals W40 T39  -- t37
        · refine and_5 ?_ (fun o9 => ?_)  -- k38
          · exact ⟨rfl, rfl, rfl, U.1, D9, d3, rfl, rfl, s5, fun z => absurd c41 (d3.mpr z), fun z => by
              have y := s5.mp c42
              rw [z] at y
              exact absurd y (by decide)⟩
          · refine E101_6 W67 T67_0 hE hκ_39 (fun z => absurd c41 (d3.mpr (by rw [← rm9]; exact z))) (fun _ => rfl) (fun z => ?_)
            have y := s5.mp c42
            rw [← rm9, z] at y
            exact absurd y (by decide)
    · skip
      refine hj101 _ _ _ _ _ _ _ _ W40 ?_ ?_ ?_
      · exact T39  -- t39
      · exact ty_atTotals W40 T39  -- t40
      · refine and_5 ?_ (fun o9 => ?_)  -- k41
        · have rm : zR κ_39 atMachine a0 = zR κ atMachine a0 := U.1.2.2.2.2.1
          exact ⟨rfl, rfl, rfl, U.1, D9, d3, rfl, rfl, s5, fun _ => by rw [rm], fun z => by
            have y := d3.mp c41
            rw [z] at y
            exact absurd y (by decide)⟩
        · refine E101_6 W67 T67_0 hE hκ_39 (fun _ => rfl) (fun z => ?_) (fun z => ?_)
          · have y := d3.mp c41
            rw [← rm9, z] at y
            exact absurd y (by decide)
          · have y := d3.mp c41
            rw [← rm9, z] at y
            exact absurd y (by decide)
  have hj45 : ∀ (l0 : Nat) (l1 : Int32) (l2 : Int32) (s0 : Int32) (τ : zS), zW C (zn κ) τ → zT τ l0 = 3 → ((a0 = l0 ∧ a1 = l1 ∧ a2 = l2 ∧ exI κ τ a0 a1.toNatClampNeg ∧ mDw τ (zR κ atMachine a0) ∧ (s0 ≠ 0 ↔ zI τ maWants (zR κ atMachine a0) = 3)) ∧ E45 u9 s9 w9 l9 a1 σ9 τ a0 a1.toNatClampNeg) → w_At_expand_45 C (zn κ) Q  l0 l1 l2 s0 τ := by
    rintro _ _ _ y45_s0 τ45 W45 T45_0 ⟨⟨rfl, rfl, rfl, j45⟩, hE⟩
    unfold w_At_expand_45
    have rm : zR τ45 atMachine a0 = zR κ atMachine a0 := j45.1.2.2.2.2.1
    refine ⟨fun c43 => ?_, fun c43 => ?_⟩
    · skip
      refine hj67 _ _ _ _ _ _ _ _ W45 ?_ ?_ ?_
      · exact T45_0  -- t42
      · exact ty_atChooses W45 T45_0  -- t43
      · refine and_5 ?_ (fun o9 => E67_6 hE (fun z => absurd z c43) (fun _ => rfl))  -- k44
        rw [rm] at c43
        exact ⟨rfl, rfl, rfl, j45.1, j45.2.1, j45.2.2, rfl, rfl, Or.inl rfl, fun z => absurd rfl z, fun z => absurd z c43⟩
    · skip
      refine hj67 _ _ _ _ _ _ _ _ W45 ?_ ?_ ?_
      · exact T45_0  -- t45
      · exact ty_atChooses W45 T45_0  -- t46
      · refine and_5 ?_ (fun o9 => E67_6 hE (fun _ => rfl) (fun z => absurd c43 z))  -- k47
        rw [rm] at c43
        exact ⟨rfl, rfl, rfl, j45.1, j45.2.1, j45.2.2, rfl, rfl, Or.inr rfl, fun _ => c43, fun _ => by decide⟩
  refine ⟨?_, ?_⟩
  · have L := A0.1.1
    rw [inb_iff]; omega
  intro κ_44 hκ_44
  intro W45
  intro T46
  intro T47
  have H1 := ex_1 W Ta0 A0 E0 F0 hκ_44
  have T44 : zT κ_44 a0 = 3 := by rw [hκ_44]; exact Ta0
  refine Ma_load_q6 W45 T46 T47  ?_ (fun κ_48 q49 => ?_)
  · exact ⟨H1.1.2.2.2.1.1, H1.1.2.2.2.1.2.1, H1.1.2.2.1.1⟩  -- p49
  obtain ⟨q49, z9⟩ := q49
  have zl := z9
  have H2 := exI_a W45 T44 H1 q49.1 q49.2.2.1 (Or.inl q49.2.2.2)
  have T48 := q49.1.1.t T44 (by decide)
  intro W50
  intro M51
  intro T52
  refine Ma_act_q6 W50 T52  ?_ (fun κ_53 q54 => ?_)
  · exact ⟨H2.1.2.2.2.1.1, by rw [q49.1.2.1]; exact q49.2.2.2⟩  -- p50
  obtain ⟨q54, z9⟩ := q54
  have H3 := exI_a W50 T48 H2 q54.1 q54.2.1 q54.2.2.1
  have T53 := q54.1.1.t T48 (by decide)
  have rm : zR κ_53 atMachine a0 = zR κ atMachine a0 := H3.2.2.2.2.1
  have rm2 : zR κ_48 atMachine a0 = zR κ atMachine a0 := H2.2.2.2.2.1
  have D : mDw κ_53 (zR κ atMachine a0) := by rw [← rm2]; exact q54.2.2.2
  intro W55
  intro M56
  refine ⟨fun c57 => ?_, fun c57 => ?_⟩
  · skip
    refine hj45 _ _ _ _ _ W55 ?_ ?_
    · exact T53  -- t51
    · refine and_5 ?_ (fun o9 => exA_6 W Ta0 hU hX k01.1 hk9 hκ_44 W45 q49.1 zl W50 q54.1 z9)  -- k52
      rw [rm] at c57
      exact ⟨rfl, rfl, rfl, H3, D, fun z => absurd rfl z, fun z => absurd z c57⟩
  · skip
    refine hj45 _ _ _ _ _ W55 ?_ ?_
    · exact T53  -- t53
    · refine and_5 ?_ (fun o9 => exA_6 W Ta0 hU hX k01.1 hk9 hκ_44 W45 q49.1 zl W50 q54.1 z9)  -- k54
      rw [rm] at c57
      exact ⟨rfl, rfl, rfl, H3, D, fun _ => c57, fun _ => by decide⟩

end
section
set_option maxHeartbeats 1600000
/-! the class's machine begins -/
theorem Ma_begin_q6 {C : zC} {n0 : Nat} {a0 : Nat} {a1 : Nat} {κ : zS} {Q : zS → Prop} (W : zW C n0 κ) (Ta0 : zT κ a0 = 7) (Ta1 : zT κ a1 = 5)  (hp : maL κ a0 ∧ coI κ a1) (h : ∀ (κ' : zS), ((zF (objF a0) κ κ' ∧ zR κ' maCode a0 = a1 ∧ mkI κ' a0 ∧ (0 ≤ (zI κ' maShared a0).toInt ∧ (zI κ' maShared a0).toInt ≤ 34) ∧ (mO κ' a0 ∨ zI κ' maOutcome a0 = 1) ∧ zI κ' maWants a0 = -1 ∧ (zI κ' maShared a0).toInt = (zI κ coVars a1).toInt + (zI κ coCells a1).toInt) ∧ (∃ e1, BG6 (am6 (ur κ maCode a0 a1) a0) e1 ∧ f5_Ma_proceed e1 = .inl (am6 κ' a0, ()))) → Q κ') : zRun C 2 mMa_begin [.ref a0, .ref a1] κ (oV Q noX) := by
  refine Ma_begin_run W Ta0 Ta1 ?_
  replace W := W.lo (Nat.le_trans W.1.2.1 W.1.2.2) (Nat.le_refl (zn κ))
  unfold w_Ma_begin_0
  have nab : a1 ≠ a0 := fun e => by rw [e, Ta0] at Ta1; exact absurd Ta1 (by decide)
  obtain ⟨HL, HC⟩ := hp
  have hV := HC.1.1
  have hv := HC.2.1
  have ha := HC.2.2.1
  have hc := HC.2.2.2.1
  intro κ_1 hκ_1
  intro W2
  intro T3
  have Z1 : zF (objF a0) κ κ_1 := by rw [hκ_1]; exact zF_ur rfl (show zr maCode = some 5 by decide +kernel) (by decide)
  have C1 : coI κ_1 a1 := coI_zF Z1 W Ta1 (fun f e => nab e) HC
  have T1 : zT κ_1 a0 = 7 := Z1.t Ta0 (by decide)
  have R1 : zR κ_1 maCode a0 = a1 := by rw [hκ_1]; exact if_pos ⟨rfl, rfl⟩
  have K1 : mkI κ_1 a0 := ⟨by rw [hκ_1]; exact HL, by rw [R1]; exact C1⟩
  refine Co_shared_q6 W2 T3  ?_ (fun r4 q6 => ?_)
  · exact C1  -- p1
  obtain ⟨q6, z9⟩ := q6
  have zs := z9 a0 T1 R1
  intro W7
  intro M8
  intro κ_9 hκ_9
  intro W10
  intro T11
  refine Ar_fill_c W10 T11  (fun κ_12 q13 => ?_)
  have F9 := mF_ui hκ_9 (by decide)
  have F12 := mF_uf W10 (F9.1.t T1 (by decide)) (show zr maMemory = some 20 by decide +kernel) (by decide) q13
  have T12 : zT κ_12 a0 = 7 := F12.1.1.t (F9.1.t T1 (by decide)) (by decide)
  have FF := F9.tr F12.1
  have K12 := (mkI_f FF W2 T1 K1).1
  have Lm := K12.1.1
  have C12 := K12.2
  rw [FF.2.1, R1] at C12
  have lv := C12.1.1
  have vv := C12.2.1
  have e10 : (10 : Int32).toInt = 10 := rfl
  obtain ⟨w, hw⟩ : ∃ w, w = (if (10 : Int32) < zI κ_12 coVars a1 then (10 : Int32) else zI κ_12 coVars a1) := ⟨_, rfl⟩
  have wb : 0 ≤ w.toInt ∧ w.toInt ≤ 10 := by
    rw [hw]
    split
    · decide
    · exact vv
  rw [← hw]
  have kw := cnk wb.1
  intro W14
  intro M15
  refine ⟨?_, ?_⟩
  · exact ⟨by decide, by decide, by rw [lei, t0i]; exact wb.1, by show 0 + w.toNatClampNeg ≤ _; omega, by show 0 + w.toNatClampNeg ≤ _; omega⟩  -- b2
  intro κ_16 hκ_16
  intro W17
  intro κ_18 hκ_18
  intro W19
  intro κ_20 hκ_20
  intro W21
  intro κ_22 hκ_22
  intro W23
  intro κ_24 hκ_24
  intro W25
  intro κ_26 hκ_26
  intro W27
  intro κ_28 hκ_28
  intro W29
  intro T30
  have F16 := mF_uc W14 T12 (show zr maMemory = some 20 by decide +kernel) (by decide) hκ_16
  have G := (((((((FF.tr F16.1).tr (mF_ui hκ_18 (by decide))).tr (mF_ui hκ_20 (by decide))).tr (mF_ui hκ_22 (by decide))).tr (mF_ui hκ_24 (by decide))).tr (mF_ui hκ_26 (by decide))).tr (mF_ui hκ_28 (by decide)))
  refine Co_firstOf_q6 W29 T30  ?_ (fun r31 q33 => ?_)
  · have K28 := (mkI_f G W2 T1 K1).1.2
    rw [G.2.1, R1] at K28
    exact K28
  obtain ⟨q33, z9⟩ := q33
  have zf := z9 a0 (G.1.t T1 (by decide)) (by rw [G.2.1]; exact R1)
  intro W34
  intro M35
  intro κ_36 hκ_36
  intro W37
  intro κ_38 hκ_38
  intro W39
  intro T40
  have G2 := (G.tr (mF_ui hκ_36 (by decide))).tr (mF_ui hκ_38 (by decide))
  have K38 := (mkI_f G2 W2 T1 K1).1
  have e34 : (34 : Int32).toInt = 34 := rfl
  have s9 : zI κ_9 maShared a0 = (if (34 : Int32) < r4 then (34 : Int32) else r4) := by rw [hκ_9]; exact if_pos ⟨rfl, rfl⟩
  have v1 : (zI κ_1 coVars a1).toInt = (zI κ coVars a1).toInt := by rw [hκ_1]; rfl
  have v2 : (zI κ_1 coCells a1).toInt = (zI κ coCells a1).toInt := by rw [hκ_1]; rfl
  have sb : 0 ≤ (zI κ_9 maShared a0).toInt ∧ (zI κ_9 maShared a0).toInt ≤ 34 := by
    rw [s9]
    split
    · decide
    · rename_i z
      rw [lti, e34] at z
      omega
  have se : (zI κ_9 maShared a0).toInt = (zI κ coVars a1).toInt + (zI κ coCells a1).toInt := by
    rw [s9]
    split
    · rename_i z
      rw [lti, e34] at z
      omega
    · omega
  have s12 : zI κ_12 maShared a0 = zI κ_9 maShared a0 := by rw [F12.2.2]
  have s16 : zI κ_16 maShared a0 = zI κ_9 maShared a0 := by rw [F16.2.2, s12]
  have s18 : zI κ_18 maShared a0 = zI κ_9 maShared a0 := by rw [hκ_18]; exact s16
  have s38 : zI κ_38 maShared a0 = zI κ_9 maShared a0 := by rw [hκ_38, hκ_36, hκ_28, hκ_26, hκ_24, hκ_22, hκ_20]; exact s18
  have o38 : zI κ_38 maOpen a0 = 1 := by
    rw [hκ_38, hκ_36, hκ_28, hκ_26, hκ_24, hκ_22, hκ_20, hκ_18]
    exact if_pos ⟨rfl, rfl⟩
  have f38 : zI κ_38 maFrame a0 = zI κ_9 maShared a0 := by
    rw [hκ_38, hκ_36, hκ_28, hκ_26, hκ_24, hκ_22]
    show zI κ_20 maFrame a0 = _
    rw [hκ_20]
    exact (if_pos ⟨rfl, rfl⟩).trans s18
  have w38 : zI κ_38 maWants a0 = -1 := by
    rw [hκ_38, hκ_36, hκ_28]
    show zI κ_26 maWants a0 = _
    rw [hκ_26]
    exact if_pos ⟨rfl, rfl⟩
  have O38 : mO κ_38 a0 := by
    unfold mO
    rw [s38, o38, f38, t1i]
    exact ⟨sb, by omega, by omega⟩
  refine Ma_proceed_q6 W39 T40  ?_ (fun κ_41 q42 => ?_)
  · exact ⟨K38, O38⟩  -- p4
  obtain ⟨q42, z9⟩ := q42
  intro W43
  intro M44
  refine h _ ?_
  · refine and_5 ?_ (fun o9 => ?_)  -- q5
    · have G3 := G2.tr q42.1
      refine ⟨Z1.tr G3.1, by rw [G3.2.1]; exact R1, (mkI_f G3 W2 T1 K1).1, by rw [q42.2.1, s38]; exact sb, q42.2.2.1, (q42.2.2.2 maWants (by decide)).1.trans w38, by rw [q42.2.1, s38]; exact se⟩
    · refine ⟨am6 κ_38 a0, ?_, z9⟩
      rw [← hκ_1]
      refine BG_6 (x := r4) (y := r31) (w := w) W2 T1 K1.1.1 zs hκ_9 W10 q13 W14 (by rw [R1]; exact hw) (by rw [R1]; exact hκ_16) hκ_18 hκ_20 hκ_22 hκ_24 hκ_26 hκ_28 (by rw [R1]; exact zf) hκ_36 hκ_38

end
section
set_option maxHeartbeats 1600000
/-! both sides explore: what is carried along -/
def gxl : Nat → Int32 → Int32 → rS → rS × Int32
  | 0, r, _, σ => (σ, r)
  | m + 1, r, k, σ => if σ.1 70 ≤ k then (σ, r) else if r = 0 then (σ, r) else pm5 (g5_expand k σ) (fun σ1 r1 => gxl m r1 (k + 1) σ1)
def gx1 (σ : rS) : rS × Int32 := pm5 (g5_begin σ) (fun σ1 r => if r = 0 then pm5 (g5_stateNumber σ1) (fun σ2 v => (σ2, if v = -1 then 0 else 1)) else pm5 (g5_endingNumber σ1) (fun σ2 v => (σ2, if v = -1 then 0 else 1)))
def gx0 (a1 : Int32) (σ : rS) : rS := siU (siU (siU (siU (siU (siU (siU σ 0 0) 85 a1) 70 0) 71 0) 72 0) 94 0) 114 0
def gxE (a1 : Int32) (σ : rS) : rS × Int32 := pm5 (gx1 (gx0 a1 σ)) (fun σ1 r => gxl fu5 r 0 σ1)
/-- the code of both sides, before a machine begins -/
def CR6 (nv s w : Nat) (e : E5) (σ : rS) : Prop := ∃ T X Bk N Z na f, (TR5 T X Bk N Z ∧ T.2.1 (N - 1) = 142) ∧ FN6 T Bk N nv na f s e (siU σ 11 0) ∧ sx5 σ = X ∧ (∀ k, k < f → ∃ n, n ≤ 4 ∧ σ.2.2.1 26 k = Int32.ofNat n) ∧ (nv ≤ w ∧ w ≤ 34 ∧ (w : Int) = nv + (e.1 511).toInt) ∧ (e.2.2 705 = 256 ∧ e.2.2 707 = 16 ∧ e.2.2 701 = 142)
theorem mr_c6 : ∀ f, f ∈ mr6 → f ≠ maCode := by decide
theorem cr_c6 : ∀ f, (f = 506 ∨ f = 507 ∨ f = 508) ∨ f ∈ cr6 → f ≠ maCode := fun f h => by
  rcases h with (h | h | h) | h
  · rw [h]; decide
  · rw [h]; decide
  · rw [h]; decide
  · have z : ∀ f, f ∈ cr6 → f ≠ maCode := by decide
    exact z f h
theorem am_r6 {C : zC} {n0 m c : Nat} {κ τ : zS} {F : Nat → Nat → Prop} (W : zW C n0 κ) (T : zT κ m = 7) (Tc : zT κ c = 5) (Z : zF F κ τ) (h1 : ∀ f, ¬ F f m) (h2 : ∀ f, ¬ F f c) : am6 (ur τ maCode m c) m = am6 (ur κ maCode m c) m := by
  have rc : ∀ υ : zS, zR (ur υ maCode m c) maCode m = c := fun υ => if_pos ⟨rfl, rfl⟩
  have ro : ∀ (υ : zS) f b, f ≠ maCode → zR (ur υ maCode m c) f b = zR υ f b := fun υ f b q => if_neg (fun y => q y.1)
  have i1 : ∀ f, zI (ur τ maCode m c) f m = zI (ur κ maCode m c) f m := fun f => Z.i (h1 f)
  have i2 : ∀ f, zI (ur τ maCode m c) f c = zI (ur κ maCode m c) f c := fun f => Z.i (h2 f)
  have a1 : ∀ f, f ∈ mr6 → zA (ur τ maCode m c) (zR (ur τ maCode m c) f m) = zA (ur κ maCode m c) (zR (ur κ maCode m c) f m) ∧ zN (ur τ maCode m c) (zR (ur τ maCode m c) f m) = zN (ur κ maCode m c) (zR (ur κ maCode m c) f m) := fun f hf => by
    obtain ⟨f1, f2⟩ := mr_t6 f hf
    rw [ro τ f m (mr_c6 f hf), ro κ f m (mr_c6 f hf)]
    exact ⟨(Z.row W f1 (by decide) (T.trans f2.symm) (h1 f)).1, by rw [Z.r (h1 f)]; exact Z.l (W.r f1 (T.trans f2.symm))⟩
  have a2 : ∀ f, ((f = 506 ∨ f = 507 ∨ f = 508) ∨ f ∈ cr6) → zA (ur τ maCode m c) (zR (ur τ maCode m c) f c) = zA (ur κ maCode m c) (zR (ur κ maCode m c) f c) ∧ zN (ur τ maCode m c) (zR (ur τ maCode m c) f c) = zN (ur κ maCode m c) (zR (ur κ maCode m c) f c) := fun f hf => by
    obtain ⟨f1, f2⟩ := cr_t6 f hf
    rw [ro τ f c (cr_c6 f hf), ro κ f c (cr_c6 f hf)]
    exact ⟨(Z.row W f1 (by decide) (Tc.trans f2.symm) (h2 f)).1, by rw [Z.r (h2 f)]; exact Z.l (W.r f1 (Tc.trans f2.symm))⟩
  have rt := rc τ
  have rk := rc κ
  generalize ur τ maCode m c = υ at *
  generalize ur κ maCode m c = μ at *
  unfold am6 mb6
  rw [rt, rk, i2 513, i2 515]
  refine Prod.ext (funext fun g => ?_) (Prod.ext (funext fun g => ?_) (funext fun g => ?_))
  · show (if g ∈ ci6 then zI υ g c else if g ∈ mi6 then zI υ g m else 0) = (if g ∈ ci6 then zI μ g c else if g ∈ mi6 then zI μ g m else 0)
    rw [i1, i2]
  · show (if g = 506 ∨ g = 507 ∨ g = 508 then _ else if g ∈ cr6 then _ else if g ∈ mr6 then _ else _) = (if g = 506 ∨ g = 507 ∨ g = 508 then _ else if g ∈ cr6 then _ else if g ∈ mr6 then _ else _)
    by_cases q1 : g = 506 ∨ g = 507 ∨ g = 508
    · rw [if_pos q1, if_pos q1, (a2 g (Or.inl q1)).1]
    · rw [if_neg q1, if_neg q1]
      by_cases q2 : g ∈ cr6
      · rw [if_pos q2, if_pos q2, (a2 g (Or.inr q2)).1]
      · rw [if_neg q2, if_neg q2]
        by_cases q3 : g ∈ mr6
        · rw [if_pos q3, if_pos q3, (a1 g q3).1]
        · rw [if_neg q3, if_neg q3]
  · show (if g ∈ cr6 then _ else if g ∈ mr6 then _ else _) = (if g ∈ cr6 then _ else if g ∈ mr6 then _ else _)
    by_cases q2 : g ∈ cr6
    · rw [if_pos q2, if_pos q2, (a2 g (Or.inr q2)).2]
    · rw [if_neg q2, if_neg q2]
      by_cases q3 : g ∈ mr6
      · rw [if_pos q3, if_pos q3, (a1 g q3).2]
      · rw [if_neg q3, if_neg q3]
theorem gx0_f6 {a1 : Int32} {σ : rS} : (gx0 a1 σ).1 70 = 0 ∧ (gx0 a1 σ).1 71 = 0 ∧ (gx0 a1 σ).1 72 = 0 ∧ (gx0 a1 σ).1 85 = a1 ∧ (∀ g, g = 11 ∨ g = 15 ∨ g = 16 ∨ g = 17 ∨ g = 18 ∨ g = 19 ∨ g = 40 → (gx0 a1 σ).1 g = σ.1 g) ∧ (gx0 a1 σ).2 = σ.2 := by
  unfold gx0
  refine ⟨?_, ?_, ?_, ?_, fun g q => ?_, rfl⟩
  · simp only [si1]; rfl
  · simp only [si1]; rfl
  · simp only [si1]; rfl
  · simp only [si1]; rfl
  · simp only [si1]
    rw [if_neg (by omega), if_neg (by omega), if_neg (by omega), if_neg (by omega), if_neg (by omega), if_neg (by omega), if_neg (by omega)]
section
variable {C : zC} {n0 a : Nat} {κ τ : zS} {nv s w lim : Nat} {σ : rS} {a2 : Int32}
def DA6 (nv s w lim : Nat) (κ : zS) (a : Nat) (σ1 : rS) (r : Int32) : Prop := CF6 nv s w (am6 κ (zR κ atMachine a)) σ1 ∧ RL6 κ a w s lim σ1 ∧ OU6 nv w s (am6 κ (zR κ atMachine a)) σ1 r ∧ (r = 0 ∨ (r = 1 ∧ σ1.1 61 = 0))
/-- both sides have begun -/
theorem dsA_6 {e0 e1 : E5} (hR : CR6 nv s w e0 σ) (B : BG6 e0 e1) (hz : f5_Ma_proceed e1 = .inl (am6 κ (zR κ atMachine a), ())) (hl : a2 = Int32.ofNat lim) (l1 : lim ≤ 1000) (hU : lU9 κ a) (tS : zI κ hoTotal (zR κ atStates a) = 0) (tE : zI κ hoTotal (zR κ atEndings a) = 0) (tN : zI κ atNexts a = 0) : ∃ σ1 r, g5_begin (gx0 a2 σ) = (σ1, r) ∧ DA6 nv s w lim κ a σ1 r := by
  obtain ⟨T, X, Bk, N, Z, na, f, ⟨h1, h2⟩, h3, h4, h5, ⟨h6, h7, h8⟩, h9, h10, h11⟩ := hR
  obtain ⟨g1, g2, g3, g4, g5, g6⟩ := gx0_f6 (a1 := a2) (σ := σ)
  have F : FN6 T Bk N nv na f s e0 (siU (gx0 a2 σ) 11 0) := FN_v6 h3 ⟨⟨fun _ _ => rfl, fun _ _ => rfl, rfl⟩, fun g q => by
    rw [si1, si1]
    by_cases c : g = 11
    · rw [if_pos c, if_pos c]
    · rw [if_neg c, if_neg c]; exact g5 g q, fun g _ => by show (gx0 a2 σ).2.2.1 g = σ.2.2.1 g; rw [g6], by show (gx0 a2 σ).2.2.2 = σ.2.2.2; rw [g6]⟩
  obtain ⟨e', σ', r, u1, u2, u3, u4, ⟨u5, u6, u7, u8⟩, u9, u10, u11⟩ := bgn_6 h1.1.2.2.2 h1.1.2.2.1 F h8 h7 h11 B
  have ee : e' = am6 κ (zR κ atMachine a) := congrArg Prod.fst (Sum.inl.inj (u1.symm.trans hz))
  rw [ee] at u3 u5 u6 u7 u8
  have r57 : ∀ g, g ≤ 45 → σ'.2.2.1 g = σ.2.2.1 g := fun g q => by rw [u10 g (by omega) (by omega) (by omega), g6]
  have t57 : σ'.2.2.2 = σ.2.2.2 := by rw [u11, g6]
  have F2 : FN6 T Bk N nv na f s (am6 κ (zR κ atMachine a)) (siU σ' 11 0) := FN_v6 F ⟨⟨u6, fun g q => u7 g (by omega), u8⟩, fun g q => by
    rw [si1, si1]
    by_cases c : g = 11
    · rw [if_pos c, if_pos c]
    · rw [if_neg c, if_neg c]; exact u9 g c (by omega) (by omega), fun g q => u10 g (by omega) (by omega) (by omega), u11⟩
  refine ⟨σ', r, u2, ⟨T, X, Bk, N, Z, na, f, ⟨h1, h2⟩, F2, ?_, fun k hk => by show ∃ n, n ≤ 4 ∧ σ'.2.2.1 26 k = Int32.ofNat n; rw [r57 26 (by decide)]; exact h5 k hk, ⟨u5, h6, h7, by rw [u6 511 (by decide)]; exact h8⟩, by rw [u8]; exact ⟨h9, h10, h11⟩⟩, ?_, u3, u4⟩
  · rw [← h4]
    unfold sx5
    show (σ'.2.2.1 5, σ'.2.2.1 6, σ'.2.2.1 7, σ'.2.2.1 9, σ'.2.2.2 8) = _
    rw [r57 5 (by decide), r57 6 (by decide), r57 7 (by decide), r57 9 (by decide), t57]
  · refine ⟨0, 0, 0, ⟨hU.2.2.1, tS, by omega, fun g hg => by omega⟩, ⟨hU.2.2.2, tE, by omega, fun g hg => by omega⟩, ⟨?_, ?_, ?_, ?_⟩, ⟨by omega, l1, by omega⟩, fun j hj => by omega, tN, fun t ht => by omega⟩
    · rw [u9 70 (by decide) (by decide) (by decide)]; exact g1
    · rw [u9 71 (by decide) (by decide) (by decide)]; exact g2
    · rw [u9 72 (by decide) (by decide) (by decide)]; exact g3
    · rw [u9 85 (by decide) (by decide) (by decide), g4]; exact hl
def E104 (nv s w lim : Nat) (a2 : Int32) (σ : rS) (τ : zS) (a : Nat) (l3 : Int32) : Prop := ∃ m σc, gxE a2 σ = gxl m 1 l3 σc ∧ (1000 - l3.toInt).toNat + 1 < m ∧ XP6 nv s w lim τ a l3.toNatClampNeg σc ∧ lU9 τ a
def E137 (nv s w lim : Nat) (a2 : Int32) (σ : rS) (τ : zS) (a : Nat) : Prop := ∃ σc n, gxE a2 σ = (σc, 1) ∧ σc.1 70 = Int32.ofNat n ∧ XP6 nv s w lim τ a n σc ∧ lU9 τ a
/-- the first state or the first ending entered -/
theorem dsB_6 {x v : Int32} {σ1 : rS} {r : Int32} (hb : g5_begin (gx0 a2 σ) = (σ1, r)) (D : DA6 nv s w lim κ a σ1 r) (hl : a2 = Int32.ofNat lim) (E : ∀ k, ldE6 κ τ a k a2 x v) (hv : ¬ v = -1) : E104 nv s w lim a2 σ τ a 0 := by
  obtain ⟨c1, c2, c3, c4⟩ := D
  obtain ⟨lU, ⟨_, _, _, MM, _⟩, E⟩ := E 0
  have hw : zI κ maShared (zR κ atMachine a) = Int32.ofNat w ∧ w ≤ 34 := by
    obtain ⟨_, _, _, _, _, _, _, _, _, _, _, ⟨q1, _, q2, _⟩, _⟩ := id c1
    exact ⟨(am_i6 (f := 702) (by decide)).symm.trans q1, q2⟩
  have L : ∃ c, LDi6 κ a 0 a2 nv w s lim σ1 r c := by
    by_cases q : zA κ (zR κ atChooses a) (0 : Int32).toNatClampNeg = 0
    · exact ⟨1, c2, c3, ⟨hl, hw⟩, fun _ => q, fun z => absurd z (by decide)⟩
    · exact ⟨0, c2, c3, ⟨hl, hw⟩, fun z => absurd rfl z, fun _ => Or.inl q⟩
  obtain ⟨c, L⟩ := L
  obtain ⟨σ2, z1, _, z2⟩ := E nv w s lim σ1 r c L
  obtain ⟨_, R2, NF⟩ := z2.resolve_left (fun q => hv q.1)
  have gx : gx1 (gx0 a2 σ) = (σ2, 1) := by
    unfold gx1
    rw [hb, pmp_6]
    unfold whr6 at z1
    rcases c4 with q | ⟨q, _⟩
    · rw [q, if_pos rfl] at z1 ⊢
      rw [z1, pmp_6, if_neg hv]
    · rw [q, if_neg (by decide)] at z1 ⊢
      rw [if_pos rfl] at z1
      rw [z1, pmp_6, if_neg hv]
  refine ⟨fu5, σ2, ?_, by rw [t0i]; unfold fu5; omega, ⟨?_, R2, fun j hj => absurd hj (Nat.not_lt_zero _), fun hj => absurd hj (Nat.lt_irrefl _)⟩, lU⟩
  · unfold gxE
    rw [gx, pmp_6]
  · rw [MM.1]
    exact CF_w6 c1 ⟨⟨fun g _ => by rw [MM.2.1], fun g q => MM.2.2.1 g (by omega), MM.2.2.2⟩, fun g q => NF.1 g (by omega) (by omega) (by omega), fun g q => NF.2.1 g (by omega) (by omega) (by omega) (by omega) (by omega) (by omega) (by omega), NF.2.2⟩
/-- no state is left -/
theorem E137_6 {l3 : Int32} (H : E104 nv s w lim a2 σ τ a l3) (h0 : 0 ≤ l3.toInt) (h : (zI τ hoTotal (zR τ atStates a)).toInt ≤ l3.toInt ∨ (lim : Int) ≤ l3.toInt) : E137 nv s w lim a2 σ τ a := by
  obtain ⟨m, σc, g, hm, ⟨c1, c2, c3, c4⟩, lU⟩ := H
  obtain ⟨m, rfl⟩ : ∃ m9, m = m9 + 1 := ⟨m - 1, by omega⟩
  have kk := cnk h0
  obtain ⟨n, _, _, q1, _, ⟨q3, _⟩, ⟨q7, q8, _⟩, _⟩ := id c2
  rw [q1.2.1, ofn_i (by omega)] at h
  have nk : n ≤ l3.toNatClampNeg := by omega
  refine ⟨σc, n, ?_, q3, ⟨c1, c2, fun j hj => c3 j (by omega), fun hn => ?_⟩, lU⟩
  · rw [g, gxl, if_pos (by rw [q3, lei, ofn_i (by omega)]; omega)]
  · by_cases y : n = l3.toNatClampNeg
    · rw [y]; exact c4 (by omega)
    · exact (c3 n (by omega)).1
theorem lt70_6 {l3 : Int32} {σc : rS} {k : Nat} (X : XP6 nv s w lim τ a k σc) (h : l3.toInt < (zI τ hoTotal (zR τ atStates a)).toInt) : l3.toInt < (σc.1 70).toInt := by
  obtain ⟨_, ⟨n, _, _, q1, _, ⟨q3, _⟩, _⟩, _⟩ := X
  rw [q3, ← q1.2.1]
  exact h
/-- a state expanded: on to the next, or no room -/
theorem E104_s6 {l3 v : Int32} {m : Nat} {σc σ' : rS} (g : gxE a2 σ = gxl m 1 l3 σc) (hm : (1000 - l3.toInt).toNat + 1 < m) (h0 : 0 ≤ l3.toInt ∧ l3.toInt < 1000) (h7 : l3.toInt < (σc.1 70).toInt) (hx : g5_expand l3 σc = (σ', v)) : ∃ m', gxE a2 σ = gxl m' v (l3 + 1) σ' ∧ (1000 - (l3 + 1).toInt).toNat + 1 < m' := by
  obtain ⟨m, rfl⟩ : ∃ m9, m = m9 + 1 := ⟨m - 1, by omega⟩
  have e := cn1 h0.1 (by omega)
  refine ⟨m, ?_, by rw [e.2]; omega⟩
  rw [g, gxl, if_neg (by rw [lei]; omega), if_neg (by decide), hx, pmp_6]
theorem E104_06 {l3 : Int32} {m : Nat} {σ' : rS} (hm : 1 < m) : gxl m 0 l3 σ' = (σ', 0) := by
  obtain ⟨m, rfl⟩ : ∃ m9, m = m9 + 1 := ⟨m - 1, by omega⟩
  rw [gxl]
  by_cases c : σ'.1 70 ≤ l3
  · rw [if_pos c]
  · rw [if_neg c, if_pos rfl]
def DX6 (nv s w lim : Nat) (κ : zS) (a : Nat) (σc : rS) : Prop := ∃ n, σc.1 70 = Int32.ofNat n ∧ RL6 κ a w s lim σc ∧ TB6 κ a n σc ∧ (0 < n → zA κ (zR κ atFirsts a) n = σc.2.2.1 76 n)
theorem DX_6 {F : Nat → Nat → Prop} {n : Nat} (W : zW C n0 κ) (T : zT κ a = 3) (Z : zF F κ τ) (h1 : ∀ f, f = atNexts ∨ f = atSorts ∨ f = atNumbers ∨ f = atWeights ∨ f = atStates ∨ f = atEndings ∨ f = atMachine ∨ f = atFirsts ∨ f = atChooses ∨ f = atTotals ∨ f = atGains → ¬ F f a) (h2 : ∀ f, ¬ F f (zR κ atStates a)) (h3 : ∀ f, ¬ F f (zR κ atEndings a)) (X : XP6 nv s w lim κ a n σ) (h70 : σ.1 70 = Int32.ofNat n) : zI τ hoTotal (zR τ atStates a) = σ.1 70 ∧ DX6 nv s w lim τ a σ := by
  obtain ⟨_, R, B, f0⟩ := X
  have N : NP6 κ τ a := ⟨Z.i (h1 atNexts (by decide)), (Z.row W (show zr atSorts = some 20 by decide +kernel) (by decide) T (h1 atSorts (by decide))).1, (Z.row W (show zr atNumbers = some 20 by decide +kernel) (by decide) T (h1 atNumbers (by decide))).1, (Z.row W (show zr atWeights = some 20 by decide +kernel) (by decide) T (h1 atWeights (by decide))).1, Z.r (h1 atStates (by decide)), Z.r (h1 atEndings (by decide)), Z.r (h1 atMachine (by decide)), (Z.row W (show zr atFirsts = some 20 by decide +kernel) (by decide) T (h1 atFirsts (by decide))).1, (Z.row W (show zr atChooses = some 23 by decide +kernel) (by decide) T (h1 atChooses (by decide))).1⟩
  have TR : TR6 κ τ a := ⟨N.2.2.2.2.2.2.2.1, (Z.row W (show zr atTotals = some 20 by decide +kernel) (by decide) T (h1 atTotals (by decide))).1, (Z.row W (show zr atGains = some 20 by decide +kernel) (by decide) T (h1 atGains (by decide))).1, N.2.2.2.2.2.2.2.2⟩
  have H1 := HS_z6 W (ty_atStates W T) Z h2
  have R2 := RL_n6 N H1 (HS_z6 W (ty_atEndings W T) Z h3) R (σ' := σ) (fun _ _ => rfl) (fun _ _ => rfl)
  refine ⟨?_, n, h70, R2, TB_r6 TR B (fun _ _ => rfl), fun q => by rw [TR.1]; exact f0 q⟩
  obtain ⟨n', _, _, q1, _, ⟨q3, _⟩, _⟩ := R2
  rw [q1.2.1, q3]
end

end
section
set_option maxHeartbeats 1600000
/-! Tarjan's walk: what holds on the way, by numbers alone -/
def Rf8 (E : Nat → Nat → Prop) (a b : Nat) : Prop := a = b ∨ Tr E a b
theorem Rf_t8 {E : Nat → Nat → Prop} {a b c : Nat} (h : Rf8 E a b) (g : Rf8 E b c) : Rf8 E a c := by
  rcases h with rfl | h
  · exact g
  · rcases g with rfl | g
    · exact Or.inr h
    · exact Or.inr (Tr_tr h g)
theorem Rf_18 {E : Nat → Nat → Prop} {a b : Nat} (h : E a b) : Rf8 E a b := Or.inr (Tr_1 h)
/-- what links keep, ways keep -/
theorem pth_p8 {E : Nat → Nat → Prop} {P : Nat → Prop} (h : ∀ a b, P a → E a b → P b) : ∀ (j a b : Nat), P a → pth E j a b → P b
  | 0, a, b, pa, e => h a b pa e
  | j + 1, a, b, pa, e => by
    obtain ⟨c, g1, g2⟩ := e
    exact pth_p8 h j c b (h a c pa g1) g2
theorem Rf_p8 {E : Nat → Nat → Prop} {P : Nat → Prop} (h : ∀ a b, P a → E a b → P b) {a b : Nat} (pa : P a) (r : Rf8 E a b) : P b := by
  rcases r with rfl | ⟨j, r⟩
  · exact pa
  · exact pth_p8 h j a b pa r
def Ed8 (fs : Nat → Int) (tg : Nat → Nat) (x y : Nat) : Prop := ∃ i : Nat, fs x ≤ (i : Int) ∧ (i : Int) < fs (x + 1) ∧ tg i = y
def Ee8 (fs cu : Nat → Int) (tg : Nat → Nat) (x y : Nat) : Prop := ∃ i : Nat, fs x ≤ (i : Int) ∧ (i : Int) < cu x ∧ tg i = y
def OH8 (hp : Nat → Nat) (H : Int) (v : Nat) : Prop := ∃ i : Nat, (i : Int) < H ∧ hp i = v
def sg8 (se : Nat → Int) (pa : Nat → Nat) (d : Int) (j v : Nat) : Prop := (j : Int) < d ∧ se (pa j) ≤ se v ∧ ∀ j' : Nat, j < j' → (j' : Int) < d → se v < se (pa j')
/-- heap and path -/
def TB8 (n : Nat) (se : Nat → Int) (pa hp : Nat → Nat) (ko : Nat → Int) (H d : Int) : Prop := (∀ i : Nat, (i : Int) < H → hp i < n ∧ 0 < se (hp i) ∧ ko (hp i) = -1) ∧ (∀ i j : Nat, i < j → (j : Int) < H → se (hp i) < se (hp j)) ∧ (∀ s, s < n → 0 ≤ se s ∧ (se s ≠ 0 → ko s = -1 → OH8 hp H s) ∧ (se s = 0 → ko s = -1)) ∧ (∀ j : Nat, (j : Int) < d → OH8 hp H (pa j)) ∧ (∀ i j : Nat, i < j → (j : Int) < d → se (pa i) < se (pa j)) ∧ 0 ≤ d ∧ 0 ≤ H
/-- segments, lows, knots -/
def TJ8 (n : Nat) (fs : Nat → Int) (tg : Nat → Nat) (se lo cu : Nat → Int) (pa hp : Nat → Nat) (ko : Nat → Int) (H d : Int) : Prop :=
  (∀ v, OH8 hp H v → ∃ j, sg8 se pa d j v ∧ Rf8 (Ed8 fs tg) (pa j) v) ∧
  (∀ v, OH8 hp H v → (∀ j : Nat, (j : Int) < d → pa j ≠ v) → cu v = fs (v + 1) ∧ ∃ u, OH8 hp H u ∧ se u < se v ∧ Rf8 (Ed8 fs tg) v u) ∧
  (∀ v, OH8 hp H v → ∀ u, Ee8 fs cu tg v u → se u ≠ 0 ∧ (ko u = -1 → ∀ j, sg8 se pa d j v → lo (pa j) ≤ se u)) ∧
  (∀ j : Nat, (j : Int) < d → lo (pa j) ≤ se (pa j) ∧ ∃ u, OH8 hp H u ∧ se u = lo (pa j) ∧ Rf8 (Ed8 fs tg) (pa j) u) ∧
  (∀ j : Nat, (j : Int) + 1 < d → Rf8 (Ed8 fs tg) (pa j) (pa (j + 1))) ∧
  (∀ v u, v < n → ko v ≠ -1 → Ed8 fs tg v u → ko u ≠ -1 ∧ ko u ≤ ko v) ∧
  (∀ u v, u < n → v < n → ko u ≠ -1 → ko u = ko v → Rf8 (Ed8 fs tg) u v)
section
variable {n : Nat} {fs : Nat → Int} {tg : Nat → Nat} {se lo cu se' lo' cu' : Nat → Int} {pa hp pa' hp' : Nat → Nat} {ko ko' : Nat → Int} {H d S : Int}
/-- at the beginning -/
theorem TJ_08 (k0 : ∀ v, v < n → ko v = -1) (h0 : H = 0) (d0 : d = 0) : TJ8 n fs tg se lo cu pa hp ko H d := by
  have no : ∀ v, ¬ OH8 hp H v := fun v ⟨i, h, _⟩ => by omega
  exact ⟨fun v h => absurd h (no v), fun v h => absurd h (no v), fun v h => absurd h (no v), fun j h => by omega, fun j h => by omega, fun v u hv h => absurd (k0 v hv) h, fun u v hu hv h => absurd (k0 u hu) h⟩
/-- a state is come to -/
theorem TJ_v8 {v : Nat} (B : TB8 n se pa hp ko H d) (J : TJ8 n fs tg se lo cu pa hp ko H d) (v0 : se v = 0) (S0 : 0 ≤ S) (hS : ∀ s, s < n → se s ≤ S)
    (ed : 0 < d → fs (pa (d - 1).toNat) ≤ cu (pa (d - 1).toNat) ∧ 0 ≤ cu (pa (d - 1).toNat) ∧ cu (pa (d - 1).toNat) < fs (pa (d - 1).toNat + 1) ∧ tg (cu (pa (d - 1).toNat)).toNat = v ∧ cu' (pa (d - 1).toNat) = cu (pa (d - 1).toNat) + 1)
    (s1 : ∀ x, x ≠ v → se' x = se x) (s2 : se' v = S + 1) (l1 : ∀ x, x ≠ v → lo' x = lo x) (l2 : lo' v = S + 1)
    (c1 : ∀ x, x ≠ v → (0 < d ∧ x = pa (d - 1).toNat) ∨ cu' x = cu x) (c2 : cu' v = fs v)
    (p1 : ∀ j : Nat, (j : Int) < d → pa' j = pa j) (p2 : pa' d.toNat = v) (h1 : ∀ i : Nat, (i : Int) < H → hp' i = hp i) (h2 : hp' H.toNat = v) : TJ8 n fs tg se' lo' cu' pa' hp' ko (H + 1) (d + 1) := by
  obtain ⟨B1, B2, B3, B4, B5, B6, B7⟩ := B
  obtain ⟨J1, J2, J3, J4, J5, J6, J7⟩ := J
  have oh : ∀ x, OH8 hp' (H + 1) x ↔ OH8 hp H x ∨ x = v := fun x => by
    constructor
    · rintro ⟨i, i1, i2⟩
      by_cases c : (i : Int) < H
      · exact Or.inl ⟨i, c, by rw [← h1 i c]; exact i2⟩
      · have e : i = H.toNat := by omega
        rw [e, h2] at i2
        exact Or.inr i2.symm
    · rintro (⟨i, i1, i2⟩ | e)
      · exact ⟨i, by omega, by rw [h1 i i1]; exact i2⟩
      · exact ⟨H.toNat, by omega, by rw [h2, e]⟩
  have ohp : ∀ x, OH8 hp H x → x < n ∧ 0 < se x ∧ x ≠ v := fun x ⟨i, i1, i2⟩ => by
    have q := B1 i i1
    rw [i2] at q
    exact ⟨q.1, q.2.1, fun e => by rw [e] at q; omega⟩
  have pv : ∀ j : Nat, (j : Int) < d → pa j ≠ v ∧ pa j < n ∧ 0 < se (pa j) := fun j hj => by
    have q := ohp _ (B4 j hj)
    exact ⟨q.2.2, q.1, q.2.1⟩
  have sgo : ∀ j x, OH8 hp H x → (sg8 se' pa' (d + 1) j x ↔ sg8 se pa d j x) := fun j x hx => by
    have q := ohp x hx
    have xs := hS x q.1
    constructor
    · rintro ⟨a1, a2, a3⟩
      have jd : (j : Int) < d := by
        refine Decidable.byContradiction (fun c => ?_)
        have e : j = d.toNat := by omega
        rw [e, p2, s2, s1 x q.2.2] at a2
        omega
      rw [p1 j jd, s1 _ (pv j jd).1, s1 x q.2.2] at a2
      refine ⟨jd, a2, fun j' k1 k2 => ?_⟩
      have y := a3 j' k1 (by omega)
      rw [p1 j' k2, s1 _ (pv j' k2).1, s1 x q.2.2] at y
      exact y
    · rintro ⟨a1, a2, a3⟩
      refine ⟨by omega, ?_, fun j' k1 k2 => ?_⟩
      · rw [p1 j a1, s1 _ (pv j a1).1, s1 x q.2.2]; exact a2
      · by_cases c : (j' : Int) < d
        · rw [p1 j' c, s1 _ (pv j' c).1, s1 x q.2.2]; exact a3 j' k1 c
        · have e : j' = d.toNat := by omega
          rw [e, p2, s2, s1 x q.2.2]
          omega
  refine ⟨fun x hx => ?_, fun x hx np => ?_, fun x hx u he => ?_, fun j hj => ?_, fun j hj => ?_, J6, J7⟩
  · rcases (oh x).mp hx with hx | rfl
    · obtain ⟨j, j1, j2⟩ := J1 x hx
      exact ⟨j, (sgo j x hx).mpr j1, by rw [p1 j j1.1]; exact j2⟩
    · exact ⟨d.toNat, ⟨by omega, by rw [p2]; exact Int.le_refl _, fun j' k1 k2 => by omega⟩, Or.inl p2⟩
  · rcases (oh x).mp hx with hx | rfl
    · have q := ohp x hx
      have np2 : ∀ j : Nat, (j : Int) < d → pa j ≠ x := fun j hj => by
        have y := np j (by omega)
        rw [p1 j hj] at y
        exact y
      obtain ⟨k1, u, k2, k3, k4⟩ := J2 x hx np2
      have ec : cu' x = cu x := by
        rcases c1 x q.2.2 with ⟨z1, z2⟩ | z
        · exact absurd z2.symm (np2 _ (by omega))
        · exact z
      refine ⟨by rw [ec]; exact k1, u, (oh u).mpr (Or.inl k2), ?_, k4⟩
      rw [s1 u (ohp u k2).2.2, s1 x q.2.2]
      exact k3
    · exact absurd p2 (np d.toNat (by omega))
  · rcases (oh x).mp hx with hx | rfl
    · have q := ohp x hx
      have old : Ee8 fs cu tg x u → se' u ≠ 0 ∧ (ko u = -1 → ∀ j, sg8 se' pa' (d + 1) j x → lo' (pa' j) ≤ se' u) := fun he => by
        obtain ⟨k1, k2⟩ := J3 x hx u he
        have uv : u ≠ v := fun e => k1 (by rw [e]; exact v0)
        rw [s1 u uv]
        refine ⟨k1, fun y j hj => ?_⟩
        have hj := (sgo j x hx).mp hj
        rw [p1 j hj.1, l1 _ (pv j hj.1).1]
        exact k2 y j hj
      rcases c1 x q.2.2 with ⟨z1, z2⟩ | z
      · obtain ⟨y1, y1', y2, y3, y4⟩ := ed z1
        rw [← z2] at y1 y1' y2 y3 y4
        obtain ⟨i, i1, i2, i3⟩ := he
        rw [y4] at i2
        by_cases c : (i : Int) < cu x
        · exact old ⟨i, i1, c, i3⟩
        · have ei : i = (cu x).toNat := by omega
          rw [ei, y3] at i3
          rw [← i3, s2]
          refine ⟨by omega, fun _ j hj => ?_⟩
          have hj := (sgo j x hx).mp hj
          have w := (J4 j hj.1).1
          have w2 := hS _ (pv j hj.1).2.1
          rw [p1 j hj.1, l1 _ (pv j hj.1).1]
          omega
      · obtain ⟨i, i1, i2, i3⟩ := he
        rw [z] at i2
        exact old ⟨i, i1, i2, i3⟩
    · obtain ⟨i, i1, i2, i3⟩ := he
      rw [c2] at i2
      omega
  · by_cases c : (j : Int) < d
    · obtain ⟨k1, u, k2, k3, k4⟩ := J4 j c
      rw [p1 j c, l1 _ (pv j c).1, s1 _ (pv j c).1]
      exact ⟨k1, u, (oh u).mpr (Or.inl k2), by rw [s1 u (ohp u k2).2.2]; exact k3, k4⟩
    · have e : j = d.toNat := by omega
      rw [e, p2, l2, s2]
      exact ⟨Int.le_refl _, v, (oh v).mpr (Or.inr rfl), s2, Or.inl rfl⟩
  · by_cases c : (j : Int) + 1 < d
    · rw [p1 j (by omega), p1 (j + 1) (by omega)]
      exact J5 j c
    · have e : j + 1 = d.toNat := by omega
      have e2 : j = (d - 1).toNat := by omega
      obtain ⟨y1, y1', y2, y3, y4⟩ := ed (by omega)
      rw [p1 j (by omega), e, p2, e2]
      exact Rf_18 ⟨(cu (pa (d - 1).toNat)).toNat, by omega, by omega, y3⟩
/-- a link to a state that was come to before -/
theorem TJ_e8 {k u0 : Nat} (B : TB8 n se pa hp ko H d) (J : TJ8 n fs tg se lo cu pa hp ko H d) (hd : 0 < d) (hk : pa (d - 1).toNat = k) (y1 : fs k ≤ cu k ∧ 0 ≤ cu k) (y2 : cu k < fs (k + 1)) (y3 : tg (cu k).toNat = u0) (hu : u0 < n) (su : se u0 ≠ 0)
    (c1 : ∀ x, x ≠ k → cu' x = cu x) (c2 : cu' k = cu k + 1) (l1 : ∀ x, x ≠ k → lo' x = lo x) (l2 : lo' k ≤ lo k) (l3 : lo' k = lo k ∨ (lo' k = se u0 ∧ ko u0 = -1)) (l4 : ko u0 = -1 → lo' k ≤ se u0) : TJ8 n fs tg se lo' cu' pa hp ko H d := by
  obtain ⟨B1, B2, B3, B4, B5, B6, B7⟩ := B
  obtain ⟨J1, J2, J3, J4, J5, J6, J7⟩ := J
  have le : ∀ x, lo' x ≤ lo x := fun x => by
    by_cases c : x = k
    · rw [c]; exact l2
    · rw [l1 x c]; exact Int.le_refl _
  refine ⟨J1, fun x hx np => ?_, fun x hx u he => ?_, fun j hj => ?_, J5, J6, J7⟩
  · have xk : x ≠ k := fun e => np (d - 1).toNat (by omega) (by rw [hk, e])
    rw [c1 x xk]
    exact J2 x hx np
  · have old : Ee8 fs cu tg x u → se u ≠ 0 ∧ (ko u = -1 → ∀ j, sg8 se pa d j x → lo' (pa j) ≤ se u) := fun he => by
      obtain ⟨k1, k2⟩ := J3 x hx u he
      exact ⟨k1, fun y j hj => Int.le_trans (le _) (k2 y j hj)⟩
    obtain ⟨i, i1, i2, i3⟩ := he
    by_cases c : x = k
    · rw [c] at i1 i2 hx old
      rw [c2] at i2
      by_cases c3 : (i : Int) < cu k
      · rw [c]; exact old ⟨i, i1, c3, i3⟩
      · have ei : i = (cu k).toNat := by omega
        rw [ei, y3] at i3
        rw [← i3]
        refine ⟨su, fun y j hj => ?_⟩
        have jd : j = (d - 1).toNat := by
          refine Decidable.byContradiction (fun z => ?_)
          have hj1 := hj.1
          have w := hj.2.2 (d - 1).toNat (by omega) (by omega)
          rw [hk, c] at w
          omega
        rw [jd, hk]
        exact l4 y
    · rw [c1 x c] at i2
      exact old ⟨i, i1, i2, i3⟩
  · obtain ⟨k1, u, k2, k3, k4⟩ := J4 j hj
    refine ⟨Int.le_trans (le _) k1, ?_⟩
    by_cases c : pa j = k
    · rcases l3 with z | ⟨z1, z2⟩
      · rw [c, z, ← c]
        exact ⟨u, k2, k3, k4⟩
      · rw [c, z1]
        exact ⟨u0, (B3 u0 hu).2.1 su z2, rfl, Rf_18 ⟨(cu k).toNat, by omega, by omega, y3⟩⟩
    · rw [l1 _ c]
      exact ⟨u, k2, k3, k4⟩
/-- back along the path, no knot -/
theorem TJ_p8 {k b : Nat} (B : TB8 n se pa hp ko H d) (J : TJ8 n fs tg se lo cu pa hp ko H d) (hd : 1 < d) (hk : pa (d - 1).toNat = k) (hb : pa (d - 2).toNat = b) (ck : cu k = fs (k + 1)) (lk : lo k ≠ se k)
    (l1 : ∀ x, x ≠ b → lo' x = lo x) (l2 : lo' b ≤ lo b ∧ lo' b ≤ lo k) (l3 : lo' b = lo b ∨ lo' b = lo k) : TJ8 n fs tg se lo' cu pa hp ko H (d - 1) := by
  obtain ⟨B1, B2, B3, B4, B5, B6, B7⟩ := B
  obtain ⟨J1, J2, J3, J4, J5, J6, J7⟩ := J
  have bk := B5 (d - 2).toNat (d - 1).toNat (by omega) (by omega)
  rw [hk, hb] at bk
  have rbk : Rf8 (Ed8 fs tg) b k := by
    have y := J5 (d - 2).toNat (by omega)
    rw [show (d - 2).toNat + 1 = (d - 1).toNat by omega, hk, hb] at y
    exact y
  have le : ∀ x, lo' x ≤ lo x := fun x => by
    by_cases c : x = b
    · rw [c]; exact l2.1
    · rw [l1 x c]; exact Int.le_refl _
  obtain ⟨j41, u4, j42, j43, j44⟩ := J4 (d - 1).toNat (by omega)
  rw [hk] at j41 j43 j44
  refine ⟨fun x hx => ?_, fun x hx np => ?_, fun x hx u he => ?_, fun j hj => ?_, fun j hj => J5 j (by omega), J6, J7⟩
  · obtain ⟨j, ⟨a1, a2, a3⟩, j2⟩ := J1 x hx
    by_cases c : (j : Int) < d - 1
    · exact ⟨j, ⟨c, a2, fun j' k1 k2 => a3 j' k1 (by omega)⟩, j2⟩
    · have e : j = (d - 1).toNat := by omega
      rw [e, hk] at a2 j2
      exact ⟨(d - 2).toNat, ⟨by omega, by rw [hb]; omega, fun j' k1 k2 => by omega⟩, by rw [hb]; exact Rf_t8 rbk j2⟩
  · by_cases c : x = k
    · rw [c]
      exact ⟨ck, u4, j42, by omega, j44⟩
    · refine J2 x hx (fun j hj => ?_)
      by_cases c2 : (j : Int) < d - 1
      · exact np j c2
      · have e : j = (d - 1).toNat := by omega
        rw [e, hk]
        exact fun y => c y.symm
  · obtain ⟨k1, k2⟩ := J3 x hx u he
    refine ⟨k1, fun y j hj => ?_⟩
    obtain ⟨a1, a2, a3⟩ := hj
    by_cases c : se x < se k
    · refine Int.le_trans (le _) (k2 y j ⟨by omega, a2, fun j' q1 q2 => ?_⟩)
      by_cases c2 : (j' : Int) < d - 1
      · exact a3 j' q1 c2
      · have e : j' = (d - 1).toNat := by omega
        rw [e, hk]; exact c
    · have w := k2 y (d - 1).toNat ⟨by omega, by rw [hk]; omega, fun j' q1 q2 => by omega⟩
      rw [hk] at w
      have jd : j = (d - 2).toNat := by
        refine Decidable.byContradiction (fun z => ?_)
        have w := a3 (d - 2).toNat (by omega) (by omega)
        rw [hb] at w
        omega
      rw [jd, hb]
      exact Int.le_trans l2.2 w
  · obtain ⟨k1, u, k2, k3, k4⟩ := J4 j (by omega)
    refine ⟨Int.le_trans (le _) k1, ?_⟩
    by_cases c : pa j = b
    · rcases l3 with z | z
      · rw [c, z, ← c]
        exact ⟨u, k2, k3, k4⟩
      · rw [c, z]
        exact ⟨u4, j42, j43, Rf_t8 rbk j44⟩
    · rw [l1 _ c]
      exact ⟨u, k2, k3, k4⟩
/-- a knot is tied -/
theorem TJ_t8 {k pos : Nat} {K : Int} (B : TB8 n se pa hp ko H d) (J : TJ8 n fs tg se lo cu pa hp ko H d) (hE : ∀ x y, x < n → Ed8 fs tg x y → y < n) (hd : 0 < d) (hk : pa (d - 1).toNat = k) (ck : cu k = fs (k + 1)) (lk : lo k = se k) (hpos : (pos : Int) < H ∧ hp pos = k)
    (l1 : ∀ j : Nat, (j : Int) < d - 1 → lo' (pa j) = lo (pa j)) (K0 : 0 ≤ K) (K1 : ∀ s, s < n → ko s ≠ -1 → ko s < K) (k1 : ∀ i : Nat, pos ≤ i → (i : Int) < H → ko' (hp i) = K) (k2 : ∀ s, (∀ i : Nat, pos ≤ i → (i : Int) < H → hp i ≠ s) → ko' s = ko s) : TJ8 n fs tg se lo' cu pa hp ko' pos (d - 1) := by
  obtain ⟨B1, B2, B3, B4, B5, B6, B7⟩ := B
  obtain ⟨J1, J2, J3, J4, J5, J6, J7⟩ := J
  have mono : ∀ i : Nat, (i : Int) < H → (pos ≤ i ↔ se k ≤ se (hp i)) := fun i hi => by
    constructor
    · intro q
      by_cases c : i = pos
      · rw [c, hpos.2]; exact Int.le_refl _
      · have w := B2 pos i (by omega) hi
        rw [hpos.2] at w
        omega
    · intro q
      refine Decidable.byContradiction (fun c => ?_)
      have w := B2 i pos (by omega) hpos.1
      rw [hpos.2] at w
      omega
  have Tk : ∀ s, (∃ i : Nat, pos ≤ i ∧ (i : Int) < H ∧ hp i = s) ↔ OH8 hp H s ∧ se k ≤ se s := fun s => by
    constructor
    · rintro ⟨i, i1, i2, i3⟩
      exact ⟨⟨i, i2, i3⟩, by rw [← i3]; exact (mono i i2).mp i1⟩
    · rintro ⟨⟨i, i1, i2⟩, q⟩
      exact ⟨i, (mono i i1).mpr (by rw [i2]; exact q), i1, i2⟩
  have ohq : ∀ s, OH8 hp pos s ↔ OH8 hp H s ∧ se s < se k := fun s => by
    constructor
    · rintro ⟨i, i1, i2⟩
      have hp1 := hpos.1
      have w := B2 i pos (by omega) hpos.1
      rw [hpos.2, i2] at w
      exact ⟨⟨i, by omega, i2⟩, w⟩
    · rintro ⟨⟨i, i1, i2⟩, q⟩
      refine ⟨i, ?_, i2⟩
      refine Decidable.byContradiction (fun c => ?_)
      have w := (mono i i1).mp (by omega)
      rw [i2] at w
      omega
  have okn : ∀ s, OH8 hp H s → s < n ∧ 0 < se s ∧ ko s = -1 := fun s ⟨i, i1, i2⟩ => by
    have q := B1 i i1
    rw [i2] at q
    exact q
  have oT : ∀ s, OH8 hp H s ∧ se k ≤ se s → ko' s = K := fun s hs => by
    obtain ⟨i, i1, i2, i3⟩ := (Tk s).mpr hs
    rw [← i3]
    exact k1 i i1 i2
  have oN : ∀ s, ¬ (OH8 hp H s ∧ se k ≤ se s) → ko' s = ko s := fun s hs => k2 s (fun i i1 i2 e => hs ((Tk s).mp ⟨i, i1, i2, e⟩))
  have sgd : ∀ j x, se k ≤ se x → sg8 se pa d j x → j = (d - 1).toNat := fun j x q hj => by
    refine Decidable.byContradiction (fun z => ?_)
    have hj1 := hj.1
    have w := hj.2.2 (d - 1).toNat (by omega) (by omega)
    rw [hk] at w
    omega
  have F1 : ∀ x, OH8 hp H x ∧ se k ≤ se x → Rf8 (Ed8 fs tg) k x := fun x ⟨h1, h2⟩ => by
    obtain ⟨j, j1, j2⟩ := J1 x h1
    rw [sgd j x h2 j1, hk] at j2
    exact j2
  have np : ∀ x, se k ≤ se x → x ≠ k → ∀ j : Nat, (j : Int) < d → pa j ≠ x := fun x q xk j hj e => by
    by_cases c : j = (d - 1).toNat
    · rw [c, hk] at e; exact xk e.symm
    · have w := B5 j (d - 1).toNat (by omega) (by omega)
      rw [hk, e] at w
      omega
  have F3 : ∀ x u, OH8 hp H x ∧ se k ≤ se x → Ed8 fs tg x u → ko u ≠ -1 ∨ (OH8 hp H u ∧ se k ≤ se u) := fun x u ⟨h1, h2⟩ he => by
    have cx : cu x = fs (x + 1) := by
      by_cases c : x = k
      · rw [c]; exact ck
      · exact (J2 x h1 (np x h2 c)).1
    have ee : Ee8 fs cu tg x u := by
      obtain ⟨i, i1, i2, i3⟩ := he
      exact ⟨i, i1, by rw [cx]; exact i2, i3⟩
    obtain ⟨w1, w2⟩ := J3 x h1 u ee
    by_cases c : ko u = -1
    · obtain ⟨j, j1, _⟩ := J1 x h1
      have w := w2 c j j1
      rw [sgd j x h2 j1, hk, lk] at w
      exact Or.inr ⟨(B3 u (hE x u (okn x h1).1 he)).2.1 w1 c, w⟩
    · exact Or.inl c
  have cl : ∀ x u, (x < n ∧ (ko x ≠ -1 ∨ (OH8 hp H x ∧ se k ≤ se x))) → Ed8 fs tg x u → (u < n ∧ (ko u ≠ -1 ∨ (OH8 hp H u ∧ se k ≤ se u))) := fun x u hx he => by
    refine ⟨hE x u hx.1 he, ?_⟩
    rcases hx.2 with z | z
    · exact Or.inl (J6 x u hx.1 z he).1
    · exact F3 x u z he
  have F4 : ∀ (m : Nat) (x : Nat), (OH8 hp H x ∧ se k ≤ se x) → se x ≤ m → Rf8 (Ed8 fs tg) x k := by
    intro m
    induction m with
    | zero =>
      intro x hx hm
      have := (okn x hx.1).2.1
      omega
    | succ m ih =>
      intro x hx hm
      by_cases c : x = k
      · exact Or.inl c
      · obtain ⟨_, u, u1, u2, u3⟩ := J2 x hx.1 (np x hx.2 c)
        have w := (Rf_p8 cl ⟨(okn x hx.1).1, Or.inr hx⟩ u3).2
        have w2 := w.resolve_left (fun z => z (okn u u1).2.2)
        exact Rf_t8 u3 (ih u w2 (by omega))
  refine ⟨fun x hx => ?_, fun x hx nq => ?_, fun x hx u he => ?_, fun j hj => ?_, fun j hj => J5 j (by omega), fun x u hx kx he => ?_, fun x y hx hy kx exy => ?_⟩
  · obtain ⟨h1, h2⟩ := (ohq x).mp hx
    obtain ⟨j, ⟨a1, a2, a3⟩, j2⟩ := J1 x h1
    have jd : (j : Int) < d - 1 := by
      refine Decidable.byContradiction (fun z => ?_)
      have e : j = (d - 1).toNat := by omega
      rw [e, hk] at a2
      omega
    exact ⟨j, ⟨jd, a2, fun j' q1 q2 => a3 j' q1 (by omega)⟩, j2⟩
  · obtain ⟨h1, h2⟩ := (ohq x).mp hx
    obtain ⟨w1, u, w2, w3, w4⟩ := J2 x h1 (fun j hj e => by
      by_cases c : (j : Int) < d - 1
      · exact nq j c e
      · have ej : j = (d - 1).toNat := by omega
        rw [ej, hk] at e
        rw [e] at h2
        omega)
    exact ⟨w1, u, (ohq u).mpr ⟨w2, by omega⟩, w3, w4⟩
  · obtain ⟨h1, h2⟩ := (ohq x).mp hx
    obtain ⟨w1, w2⟩ := J3 x h1 u he
    refine ⟨w1, fun y j hj => ?_⟩
    have yk : ko u = -1 := by
      by_cases c : OH8 hp H u ∧ se k ≤ se u
      · exact (okn u c.1).2.2
      · rw [← oN u c]; exact y
    rw [l1 j hj.1]
    refine w2 yk j ⟨by have := hj.1; omega, hj.2.1, fun j' q1 q2 => ?_⟩
    by_cases c : (j' : Int) < d - 1
    · exact hj.2.2 j' q1 c
    · have ej : j' = (d - 1).toNat := by omega
      rw [ej, hk]; exact h2
  · obtain ⟨w1, u, w2, w3, w4⟩ := J4 j (by omega)
    have w := B5 j (d - 1).toNat (by omega) (by omega)
    rw [hk] at w
    rw [l1 j hj]
    exact ⟨w1, u, (ohq u).mpr ⟨w2, by omega⟩, w3, w4⟩
  · by_cases c : OH8 hp H x ∧ se k ≤ se x
    · rw [oT x c]
      rcases F3 x u c he with z | z
      · have nu : ¬ (OH8 hp H u ∧ se k ≤ se u) := fun y => z (okn u y.1).2.2
        have w := K1 u (hE x u hx he) z
        rw [oN u nu]
        exact ⟨z, by omega⟩
      · rw [oT u z]
        exact ⟨by omega, Int.le_refl _⟩
    · rw [oN x c] at kx ⊢
      obtain ⟨w1, w2⟩ := J6 x u hx kx he
      have nu : ¬ (OH8 hp H u ∧ se k ≤ se u) := fun y => w1 (okn u y.1).2.2
      rw [oN u nu]
      exact ⟨w1, w2⟩
  · by_cases c : OH8 hp H x ∧ se k ≤ se x
    · by_cases c2 : OH8 hp H y ∧ se k ≤ se y
      · exact Rf_t8 (F4 (se x).toNat x c (by omega)) (F1 y c2)
      · rw [oT x c, oN y c2] at exy
        have w := K1 y hy (by omega)
        omega
    · rw [oN x c] at kx exy
      by_cases c2 : OH8 hp H y ∧ se k ≤ se y
      · rw [oT y c2] at exy
        have w := K1 x hx kx
        omega
      · rw [oN y c2] at exy
        exact J7 x y hx hy kx exy
/-- behind the walk: knots are the states that come to each other -/
theorem TJ_z8 (hE : ∀ x y, x < n → Ed8 fs tg x y → y < n) (J : TJ8 n fs tg se lo cu pa hp ko H d) (ka : ∀ v, v < n → ko v ≠ -1) {u v : Nat} (hu : u < n) (hv : v < n) : ko u = ko v ↔ Rf8 (Ed8 fs tg) u v ∧ Rf8 (Ed8 fs tg) v u := by
  obtain ⟨J1, J2, J3, J4, J5, J6, J7⟩ := J
  have dn : ∀ x y, x < n → Rf8 (Ed8 fs tg) x y → ko y ≤ ko x := fun x y hx r => by
    have w := Rf_p8 (P := fun z => z < n ∧ ko z ≤ ko x) (fun a b ha he => ⟨hE a b ha.1 he, Int.le_trans (J6 a b ha.1 (ka a ha.1) he).2 ha.2⟩) ⟨hx, Int.le_refl _⟩ r
    exact w.2
  constructor
  · intro e
    exact ⟨J7 u v hu hv (ka u hu) e, J7 v u hv hu (ka v hv) e.symm⟩
  · rintro ⟨r1, r2⟩
    have a := dn u v hu r1
    have b := dn v u hv r2
    omega
end

end
