section
set_option maxHeartbeats 1600000
/-! the class: value by what it answers -/
/-- a state's row as the class reads it -/
def SF8 (κ : zS) (t : Nat) (K : Nat → Int32) (w d : Nat) (k : Int32) : Prop := 0 ≤ k.toInt ∧ hk9 κ (zR κ atStates t) K ((w + 9 * d : Nat) : Int) k.toNatClampNeg ∧ (zI κ coVars (zR κ atCode t)).toInt + (zI κ coCells (zR κ atCode t)).toInt = w ∧ (0 < d ∧ d ≤ 12 ∧ w ≤ 34)
theorem d9_8 : ∀ d, d ≤ 12 → Int32.ofNat (9 * d) / (9 : Int32) = Int32.ofNat d := by decide
theorem At_callsOf_c8 {C : zC} {n0 : Nat} {a0 : Nat} {a1 : Int32} {κ : zS} {Q : Int32 → zS → Prop} {K : Nat → Int32} {w d : Nat} (W : zW C n0 κ) (Ta0 : zT κ a0 = 3) (hp : atG κ a0) (F : SF8 κ a0 K w d a1) (h : ∀ (v : Int32), (v = Int32.ofNat d) → Q v κ) : zRun C 1 mAt_callsOf [.ref a0, .int a1] κ (oI Q noX) := by
  refine At_callsOf_run W Ta0 ?_
  replace W := W.lo (Nat.le_trans W.1.2.1 W.1.2.2) (Nat.le_refl (zn κ))
  obtain ⟨k0, ⟨hk1, hk2, _⟩, hw, d0, d1, w1⟩ := F
  have kn := cnk k0
  unfold w_At_callsOf_0
  intro T1
  refine Ho_lengthOf_c2 W T1 1000 142 2048 ⟨hp.1.1, hP1⟩ (fun r2 q4 => ?_)
  intro W5 M6 T7
  refine Co_shared_c W5 T7 hp.2 (fun r8 q10 => ?_)
  intro W11 M12
  refine ⟨by decide, h _ ?_⟩
  have e2 : r2.toInt = (w + 9 * d : Nat) := by
    rw [q4.2, if_pos ⟨k0, by omega⟩]
    exact hk2
  have e8 : r8.toInt = w := q10.trans hw
  have e : r2 - r8 = Int32.ofNat (9 * d) := Int32.toInt_inj.mp (by rw [sub_i (by omega) (by omega), ofn_i (by omega)]; omega)
  rw [e]
  exact d9_8 d d1
theorem At_statementOf_c8 {C : zC} {n0 : Nat} {a0 : Nat} {a1 : Int32} {a2 : Int32} {κ : zS} {Q : Int32 → zS → Prop} {K : Nat → Int32} {w d : Nat} (W : zW C n0 κ) (Ta0 : zT κ a0 = 3) (hp : atG κ a0) (F : SF8 κ a0 K w d a1) (c0 : 0 ≤ a2.toInt) (c1 : a2.toInt < d) (h : ∀ (v : Int32), (v = K (w + 9 * a2.toNatClampNeg)) → Q v κ) : zRun C 2 mAt_statementOf [.ref a0, .int a1, .int a2] κ (oI Q noX) := by
  refine At_statementOf_run W Ta0 ?_
  replace W := W.lo (Nat.le_trans W.1.2.1 W.1.2.2) (Nat.le_refl (zn κ))
  obtain ⟨k0, hk, hw, d0, d1, w1⟩ := F
  have cn := cnk c0
  have t9 : (9 : Int32).toInt = 9 := rfl
  unfold w_At_statementOf_0
  intro T1
  refine Co_shared_c W T1 hp.2 (fun r2 q4 => ?_)
  intro W5 M6 T7
  refine Ho_part_c2 W5 T7 1000 142 2048 ⟨hp.1.1, hP1⟩ (fun r8 q10 => ?_)
  intro W11 M12
  refine h _ ?_
  have e2 : r2.toInt = w := q4.trans hw
  have e3 : (a2 * (9 : Int32)).toInt = a2.toInt * 9 := by rw [mul_i (by rw [t9]; omega) (by rw [t9]; omega), t9]
  have e4 : (r2 + (a2 * (9 : Int32))).toInt = w + a2.toInt * 9 := by rw [add_i (by rw [e3]; omega) (by rw [e3]; omega), e3, e2]
  have en := cnk (x := r2 + (a2 * (9 : Int32))) (by omega)
  rw [q10, pV9_k k0 hk (by omega) (by omega)]
  congr 1
  omega
theorem At_variableOf_c8 {C : zC} {n0 : Nat} {a0 : Nat} {a1 : Int32} {a2 : Int32} {a3 : Int32} {κ : zS} {Q : Int32 → zS → Prop} {K : Nat → Int32} {w d : Nat} (W : zW C n0 κ) (Ta0 : zT κ a0 = 3) (hp : atG κ a0) (F : SF8 κ a0 K w d a1) (hv : (a2 = -1 ∧ 0 ≤ a3.toInt ∧ a3.toInt < w) ∨ (a2 ≠ -1 ∧ (0 ≤ a2.toInt ∧ a2.toInt < d) ∧ 0 ≤ a3.toInt ∧ a3.toInt < 8)) (h : ∀ (v : Int32), (v = if a2 = -1 then K a3.toNatClampNeg else K (w + 9 * a2.toNatClampNeg + 1 + a3.toNatClampNeg)) → Q v κ) : zRun C 2 mAt_variableOf [.ref a0, .int a1, .int a2, .int a3] κ (oI Q noX) := by
  refine At_variableOf_run W Ta0 ?_
  replace W := W.lo (Nat.le_trans W.1.2.1 W.1.2.2) (Nat.le_refl (zn κ))
  obtain ⟨k0, hk, hw, d0, d1, w1⟩ := F
  have t9 : (9 : Int32).toInt = 9 := rfl
  unfold w_At_variableOf_0
  refine ⟨fun c1 => ?_, fun c1 => ?_⟩
  · obtain ⟨_, ⟨c0, c2⟩, i0, i1⟩ := hv.resolve_left (fun z => c1 z.1)
    have cn := cnk c0
    have inn := cnk i0
    intro T2
    refine Co_shared_c W T2 hp.2 (fun r3 q5 => ?_)
    intro W6 M7 T8
    refine Ho_part_c2 W6 T8 1000 142 2048 ⟨hp.1.1, hP1⟩ (fun r9 q11 => ?_)
    intro W12 M13
    refine h _ ?_
    have e2 : r3.toInt = w := q5.trans hw
    have e3 : (a2 * (9 : Int32)).toInt = a2.toInt * 9 := by rw [mul_i (by rw [t9]; omega) (by rw [t9]; omega), t9]
    have e4 : (r3 + (a2 * (9 : Int32))).toInt = w + a2.toInt * 9 := by rw [add_i (by rw [e3]; omega) (by rw [e3]; omega), e3, e2]
    have e5 : ((r3 + (a2 * (9 : Int32))) + (1 : Int32)).toInt = w + a2.toInt * 9 + 1 := by rw [add_i (by rw [e4, t1i]; omega) (by rw [e4, t1i]; omega), e4, t1i]
    have e6 : (((r3 + (a2 * (9 : Int32))) + (1 : Int32)) + a3).toInt = w + a2.toInt * 9 + 1 + a3.toInt := by rw [add_i (by rw [e5]; omega) (by rw [e5]; omega), e5]
    have en := cnk (x := ((r3 + (a2 * (9 : Int32))) + (1 : Int32)) + a3) (by omega)
    rw [q11, pV9_k k0 hk (by omega) (by omega), if_neg c1]
    congr 1
    omega
  · obtain ⟨_, i0, i1⟩ := hv.resolve_right (fun z => z.1 c1)
    intro T14
    refine Ho_part_c2 W T14 1000 142 2048 ⟨hp.1.1, hP1⟩ (fun r9 q11 => ?_)
    intro W12 M13
    refine h _ ?_
    rw [q11, pV9_k k0 hk i0 (by omega), if_pos c1]
theorem Co_isShared_c8 {C : zC} {n0 : Nat} {a0 : Nat} {a1 : Int32} {κ : zS} {Q : Int32 → zS → Prop} (W : zW C n0 κ) (Ta0 : zT κ a0 = 5)  (hp : coI κ a0) (h : ∀ (v : Int32), (nb v ∧ (v ≠ 0 ↔ 0 ≤ a1.toInt ∧ a1.toInt < (zI κ coVars a0).toInt + (zI κ coCells a0).toInt)) → Q v κ) : zRun C 0 mCo_isShared [.ref a0, .int a1] κ (oI Q noX) := by
  refine Co_isShared_run W Ta0 ?_
  replace W := W.lo (Nat.le_trans W.1.2.1 W.1.2.2) (Nat.le_refl (zn κ))
  unfold w_Co_isShared_0
  obtain ⟨-, hv, ha, hc, -⟩ := hp
  have e : (zI κ coVars a0 + zI κ coCells a0).toInt = (zI κ coVars a0).toInt + (zI κ coCells a0).toInt := add_i (by omega) (by omega)
  refine ⟨fun c1 => ?_, fun c1 => ?_⟩
  · refine h _ ⟨nb_0, fun h => absurd rfl h, fun z => ?_⟩
    rw [lti, t0i] at c1
    omega
  · refine ⟨fun c2 => ?_, fun c2 => ?_⟩
    · refine h _ ⟨nb_0, fun h => absurd rfl h, fun z => ?_⟩
      rw [lei, e] at c2
      omega
    · refine h _ ⟨nb_1, fun _ => ?_, fun _ => by decide⟩
      rw [lti, t0i] at c1
      rw [lei, e] at c2
      omega
theorem Co_column_c8 {C : zC} {n0 : Nat} {a0 : Nat} {a1 : Int32} {a2 : Int32} {κ : zS} {Q : Int32 → zS → Prop} (W : zW C n0 κ) (Ta0 : zT κ a0 = 5)  (hp : coI κ a0 ∧ 0 ≤ a2.toInt ∧ a2.toInt < 11) (hs : 0 ≤ a1.toInt ∧ a1.toInt < (zI κ coStatements a0).toInt) (h : ∀ (v : Int32), (v = zA κ (zR κ coRows a0) (11 * a1.toNatClampNeg + a2.toNatClampNeg)) → Q v κ) : zRun C 0 mCo_column [.ref a0, .int a1, .int a2] κ (oI Q noX) := by
  refine Co_column_run W Ta0 ?_
  replace W := W.lo (Nat.le_trans W.1.2.1 W.1.2.2) (Nat.le_refl (zn κ))
  unfold w_Co_column_0
  obtain ⟨H, p0, p1⟩ := hp
  obtain ⟨-, -, -, -, -, hs9, hrw, -⟩ := H
  refine ⟨fun c1 => ?_, fun c1 => ?_⟩
  · rw [lti, t0i] at c1
    omega
  · refine ⟨fun c2 => ?_, fun c2 => ?_⟩
    · rw [lei] at c2
      omega
    · have ci := col_i (x := a1) (y := a2) (by omega) (by omega) p0 p1
      refine ⟨?_, ?_⟩
      · rw [inb_iff, ci]
        omega
      refine h _ ?_
      have n1 := cnk hs.1
      have n2 := cnk p0
      have n3 := cnk (x := (a1 * (11 : Int32)) + a2) (by rw [ci]; omega)
      rw [show ((a1 * (11 : Int32)) + a2).toNatClampNeg = 11 * a1.toNatClampNeg + a2.toNatClampNeg by omega]
/-- the names of a call's function, of both sides -/
def CU8 (κ : zS) (c : Nat) (K : Nat → Int32) (w d s : Nat) (U : Nat → Nat) : Prop := zI κ coStatements c = Int32.ofNat s ∧ s ≤ 150 ∧ ∀ i, i < d → ∃ j g, j < s ∧ K (w + 9 * i) = Int32.ofNat j ∧ g < 10 ∧ zA κ (zR κ coRows c) (11 * j + 10) = Int32.ofNat g ∧ zA κ (zR κ coOwnCounts c) g = Int32.ofNat (U i) ∧ U i ≤ 8
theorem At_hasVariable_c8 {C : zC} {n0 : Nat} {a0 : Nat} {a1 : Int32} {a2 : Int32} {a3 : Int32} {κ : zS} {Q : Int32 → zS → Prop} {K : Nat → Int32} {w d s : Nat} {U : Nat → Nat} (W : zW C n0 κ) (Ta0 : zT κ a0 = 3) (hp : atG κ a0) (F : SF8 κ a0 K w d a1) (hU : CU8 κ (zR κ atCode a0) K w d s U) (h : ∀ (v : Int32), (nb v ∧ (v ≠ 0 ↔ (a2 = -1 ∧ 0 ≤ a3.toInt ∧ a3.toInt < w) ∨ (a2 ≠ -1 ∧ (0 ≤ a2.toInt ∧ a2.toInt < d) ∧ 0 ≤ a3.toInt ∧ a3.toInt < U a2.toNatClampNeg))) → Q v κ) : zRun C 3 mAt_hasVariable [.ref a0, .int a1, .int a2, .int a3] κ (oI Q noX) := by
  refine At_hasVariable_run W Ta0 ?_
  replace W := W.lo (Nat.le_trans W.1.2.1 W.1.2.2) (Nat.le_refl (zn κ))
  have d1 := F.2.2.2.2.1
  unfold w_At_hasVariable_0
  refine ⟨fun c1 => ?_, fun c1 => ?_⟩
  · refine ⟨fun c2 => ?_, fun c2 => ?_⟩
    · refine h _ ⟨nb_0, fun z => absurd rfl z, fun z => ?_⟩
      rw [lti, t0i] at c2
      rcases z with z | z
      · exact absurd z.1 c1
      · omega
    · rw [lti, t0i] at c2
      intro T3
      refine At_callsOf_c8 W T3 hp F (fun r4 q6 => ?_)
      intro W7 M8
      have e4 : r4.toInt = d := by rw [q6, ofn_i (by omega)]
      refine ⟨fun c9 => ?_, fun c9 => ?_⟩
      · refine h _ ⟨nb_0, fun z => absurd rfl z, fun z => ?_⟩
        rw [lei] at c9
        rcases z with z | z
        · exact absurd z.1 c1
        · omega
      · rw [lei] at c9
        have cn := cnk (x := a2) (by omega)
        obtain ⟨j, g, js, k1, g10, k2, k3, k4⟩ := hU.2.2 a2.toNatClampNeg (by omega)
        have s150 := hU.2.1
        refine ⟨fun c10 => ?_, fun c10 => ?_⟩
        · rw [lei, t0i] at c10
          intro T11
          refine At_statementOf_c8 W7 T11 hp F (by omega) (by omega) (fun r12 q14 => ?_)
          intro W15 M16 T17
          have e12 : r12 = Int32.ofNat j := q14.trans k1
          have t12 : r12.toInt = j := by rw [e12, ofn_i (by omega)]
          have n12 := cnk (x := r12) (by omega)
          refine Co_column_c8 W15 T17 ⟨hp.2, by decide, by decide⟩ ⟨by omega, by rw [hU.1, ofn_i (by omega)]; omega⟩ (fun r18 q20 => ?_)
          intro W21 M22
          have e18 : r18 = Int32.ofNat g := by
            rw [q20, show r12.toNatClampNeg = j by omega]
            exact k2
          have t18 : r18.toInt = g := by rw [e18, ofn_i (by omega)]
          have n18 := cnk (x := r18) (by omega)
          refine ⟨fun c23 => ?_, fun c23 => ?_⟩
          · rw [lti, t0i] at c23
            omega
          · refine ⟨fun c24 => ?_, fun c24 => ?_⟩
            · rw [lei, show (10 : Int32).toInt = 10 from rfl] at c24
              omega
            · refine ⟨?_, ?_⟩
              · have L := hp.2.1.2.2.2.2.2
                rw [inb_iff]; omega
              have ow : zA κ (zR κ coOwnCounts (zR κ atCode a0)) r18.toNatClampNeg = Int32.ofNat (U a2.toNatClampNeg) := by
                rw [show r18.toNatClampNeg = g by omega]
                exact k3
              refine ⟨fun c25 => ?_, fun c25 => ?_⟩
              · rw [ow, lei, ofn_i (by omega)] at c25
                refine h _ ⟨nb_0, fun z => absurd rfl z, fun z => ?_⟩
                rcases z with z | z
                · exact absurd z.1 c1
                · omega
              · rw [ow, lei, ofn_i (by omega)] at c25
                exact h _ ⟨nb_1, fun _ => Or.inr ⟨c1, ⟨by omega, by omega⟩, c10, by omega⟩, fun _ => by decide⟩
        · rw [lei, t0i] at c10
          refine h _ ⟨nb_0, fun z => absurd rfl z, fun z => ?_⟩
          rcases z with z | z
          · exact absurd z.1 c1
          · omega
  · intro T26
    refine Co_isShared_c8 W T26 hp.2 (fun r27 q29 => ?_)
    intro W30 M31
    refine ⟨q29.1, h _ ⟨q29.1, fun z => ?_, fun z => ?_⟩⟩
    · have y := q29.2.mp z
      rw [F.2.2.1] at y
      exact Or.inl ⟨c1, y⟩
    · refine q29.2.mpr ?_
      rw [F.2.2.1]
      exact (z.resolve_right (fun y => y.1 c1)).2
/-- the names' counts, of both sides -/
theorem cv_8 {κ : zS} {c nv s w : Nat} {σ : rS} (cr : CR7 nv s w (cu7 κ c) σ) : zI κ coStatements c = Int32.ofNat s ∧ s ≤ 150 ∧ ∀ j, j < s → ∃ g u, g < 10 ∧ zA κ (zR κ coRows c) (11 * j + 10) = Int32.ofNat g ∧ σ.2.2.1 38 j = Int32.ofNat g ∧ u ≤ 8 ∧ zA κ (zR κ coOwnCounts c) g = Int32.ofNat u ∧ σ.2.2.1 27 g = Int32.ofNat u := by
  obtain ⟨T, X, Bk, N, Z, na, f, _, F, _⟩ := cr
  obtain ⟨⟨_, _, _, ⟨a6, a7⟩, _⟩, _, _, p4, _, _, ⟨q1, _, _⟩, _⟩ := F
  have i3 : (cu7 κ c).1 513 = zI κ coStatements c := by
    show (if 513 ∈ ci6 then zI κ 513 c else 0) = _
    rw [if_pos (by decide)]
  have es : zI κ coStatements c = Int32.ofNat s := i3.symm.trans a6
  refine ⟨es, a7, fun j hj => ?_⟩
  obtain ⟨_, _, _, l5, g, ⟨gf, g10⟩, lg⟩ := p4 j hj
  obtain ⟨o1, u, u8, o2⟩ := q1 g gf
  have r6 : (cu7 κ c).2.1 506 (11 * j + 10) = zA κ (zR κ coRows c) (11 * j + 10) := by
    show (if 506 = 506 ∨ 506 = 507 ∨ 506 = 508 then (fun x => if x < mb6 κ c 506 then zA κ (zR κ 506 c) x else 0) else if 506 ∈ cr6 then zA κ (zR κ 506 c) else fun _ => 0) (11 * j + 10) = _
    rw [if_pos (Or.inl rfl)]
    show (if 11 * j + 10 < mb6 κ c 506 then zA κ (zR κ 506 c) (11 * j + 10) else 0) = _
    have m5 : mb6 κ c 506 = 11 * s := by
      unfold mb6
      rw [if_pos rfl, es, cl_5 (by omega)]
    rw [if_pos (by rw [m5]; omega)]
  have r5 : (cu7 κ c).2.1 505 = zA κ (zR κ coOwnCounts c) := by
    show (if 505 = 506 ∨ 505 = 507 ∨ 505 = 508 then (fun x => if x < mb6 κ c 505 then zA κ (zR κ 505 c) x else 0) else if 505 ∈ cr6 then zA κ (zR κ 505 c) else fun _ => 0) = _
    rw [if_neg (by decide), if_pos (by decide)]
  have lg' : σ.2.2.1 38 j = Int32.ofNat g := lg
  have o2' : σ.2.2.1 27 g = Int32.ofNat u := o2
  refine ⟨g, u, g10, ?_, lg', u8, ?_, o2'⟩
  · rw [← r6]
    exact l5.trans lg
  · rw [← r5]
    exact o1.trans o2
theorem iv_8 {k x : Int32} {n : Int} (k0 : 0 ≤ k.toInt) (k1 : k.toInt < 1000) (h : (((143 : Int32) * k) + x).toInt = n) (n0 : 0 ≤ n) : (((143 : Int32) * k) + x).toNatClampNeg = n.toNat := by rw [nc_5, h]
theorem jv_8 {k : Int32} (k0 : 0 ≤ k.toInt) (k1 : k.toInt < 1000) : ((143 : Int32) * k).toInt = 143 * k.toInt := by
  have t : (143 : Int32).toInt = 143 := rfl
  rw [mul_i (by rw [t]; omega) (by rw [t]; omega), t]
theorem kv_8 {c : Int32} (c0 : -1 ≤ c.toInt) (c1 : c.toInt < 12) : ((9 : Int32) * c).toInt = 9 * c.toInt := by
  have t : (9 : Int32).toInt = 9 := rfl
  rw [mul_i (by rw [t]; omega) (by rw [t]; omega), t]
theorem Ch_value_c8 {C : zC} {n0 : Nat} {a0 : Nat} {a1 : Int32} {a2 : Int32} {a3 : Int32} {κ : zS} {Q : Int32 → zS → Prop} {X : zXp} (W : zW C n0 κ) (Ta0 : zT κ a0 = 15) (ρ : Nat → Nat) (L9 : Int) (σ9 : rS) (hr8 : RC8 κ a0 σ9) (hp : chI9 ρ κ a0 L9) (h : ∀ (v : Int32) (κ' : zS), (κ = κ' ∧ vc8 σ9 a1 a2 a3 ∧ v = vv8 σ9 a1 a2 a3) → Q v κ') (hx : ∀ (cls : String) (κ' : zS), (cls = "java/lang/IndexOutOfBoundsException" ∧ κ' = ut κ ∧ ¬ vc8 σ9 a1 a2 a3) → X cls κ') : zRun C 8 mCh_value [.ref a0, .int a1, .int a2, .int a3] κ (oI Q X) := by
  refine Ch_value_run W Ta0 ?_
  replace W := W.lo (Nat.le_trans W.1.2.1 W.1.2.2) (Nat.le_refl (zn κ))
  unfold w_Ch_value_0
  intro T1
  refine At_holds_c8 W T1  (fun r2 q4 => ?_)
  intro W5
  intro M6
  refine ⟨fun c7 => ?_, fun c7 => ?_⟩
  · intro κ_8 hκ_8
    exact hx _ _ ⟨rfl, hκ_8, fun z => q4.2.mpr ((hs_8 hr8).mpr z.1.1) c7⟩
  · have H := ch_h9 hp ⟨q4.1, q4.2.mp⟩ c7
    have S := (hs_8 hr8).mp (q4.2.mp c7)
    obtain ⟨nv, s, w, cr, n, m, x, ⟨f1, f2, f3⟩, ⟨b1, b2, b3⟩, ⟨v1, v2, v3⟩, hS, _⟩ := (hr8.2.2.1 S.1).1
    obtain ⟨s1, s2, s3⟩ := sh_8 cr
    obtain ⟨cs, s150, cg⟩ := cv_8 cr
    have xe : zI κ atExplored (zR κ chAtlas a0) ≠ 0 := (q4.2.mp c7).1
    have ac : zR κ atCode (zR κ chAtlas a0) = zR κ chCode a0 := (hp.2.1.2.2 xe).1.1
    have v1' : zI κ hoTotal (zR κ atStates (zR κ chAtlas a0)) = Int32.ofNat n := v1
    have k0 := S.2.1
    have k1 := S.2.2
    rw [lei, t0i] at k0
    rw [lti, f1, ofn_i (by omega)] at k1
    have kn := cnk k0
    obtain ⟨d, K, ⟨⟨d0, d1, w1, qd⟩, g2, g3, g4, g5⟩, hk⟩ := hS a1.toNatClampNeg (by omega)
    have F : SF8 κ (zR κ chAtlas a0) K w d a1 := by
      refine ⟨k0, ?_, by rw [ac]; exact s1, d0, d1, w1⟩
      unfold hk9
      rw [v1', ofn_i (by omega)]
      exact hk
    obtain ⟨U, hUd⟩ : ∃ U : Nat → Nat, ∀ i, U i = (σ9.2.2.1 27 (σ9.2.2.1 38 (K (w + 9 * i)).toNatClampNeg).toNatClampNeg).toNatClampNeg := ⟨_, fun _ => rfl⟩
    have ug : ∀ i, i < d → ∃ j g, j < s ∧ K (w + 9 * i) = Int32.ofNat j ∧ g < 10 ∧ zA κ (zR κ coRows (zR κ chCode a0)) (11 * j + 10) = Int32.ofNat g ∧ zA κ (zR κ coOwnCounts (zR κ chCode a0)) g = Int32.ofNat (U i) ∧ U i ≤ 8 ∧ σ9.2.2.1 27 (σ9.2.2.1 38 (K (w + 9 * i)).toNatClampNeg).toNatClampNeg = Int32.ofNat (U i) := fun i hi => by
      obtain ⟨j, j1, j2⟩ := g5 i hi
      obtain ⟨g, u, y1, y2, y3, y4, y5, y6⟩ := cg j j1
      have eU : U i = u := by rw [hUd, j2, cl_5 (by omega), y3, cl_5 (by omega), y6, cl_5 (by omega)]
      refine ⟨j, g, j1, j2, y1, y2, by rw [eU]; exact y5, by omega, ?_⟩
      rw [j2, cl_5 (by omega), y3, cl_5 (by omega), y6, eU]
    have hU : CU8 κ (zR κ atCode (zR κ chAtlas a0)) K w d s U := by
      rw [ac]
      refine ⟨cs, s150, fun i hi => ?_⟩
      obtain ⟨j, g, z1, z2, z3, z4, z5, z6, _⟩ := ug i hi
      exact ⟨j, g, z1, z2, z3, z4, z5, z6⟩
    have i143 := jv_8 k0 (by omega)
    have r0 : σ9.2.2.1 73 ((143 : Int32) * a1).toNatClampNeg = Int32.ofNat d := by
      rw [nc_5, i143, show (143 * a1.toInt).toNat = 143 * a1.toNatClampNeg + 0 by omega]
      exact qd
    have r35 : -1 ≤ a2.toInt → a2.toInt < d → a2.toInt ≠ -1 → σ9.2.2.1 73 ((((143 : Int32) * a1) + (35 : Int32)) + ((9 : Int32) * a2)).toNatClampNeg = K (w + 9 * a2.toNatClampNeg) := fun y1 y2 y3 => by
      have cn := cnk (x := a2) (by omega)
      have t35 : (35 : Int32).toInt = 35 := rfl
      have e9 := kv_8 y1 (by omega)
      have e1 : (((143 : Int32) * a1) + (35 : Int32)).toInt = 143 * a1.toInt + 35 := by rw [add_i (by rw [i143, t35]; omega) (by rw [i143, t35]; omega), i143, t35]
      rw [nc_5, add_i (by rw [e1, e9]; omega) (by rw [e1, e9]; omega), e1, e9, show (143 * a1.toInt + 35 + 9 * a2.toInt).toNat = 143 * a1.toNatClampNeg + (35 + 9 * a2.toNatClampNeg) by omega]
      exact (g3 a2.toNatClampNeg (by omega)).symm
    have m1 : ∀ y : Int32, y.toInt = -1 ↔ y = -1 := fun y => ⟨fun e => Int32.toInt_inj.mp (by rw [e]; rfl), fun e => by rw [e]; rfl⟩
    have PV : ((a2 = -1 ∧ 0 ≤ a3.toInt ∧ a3.toInt < w) ∨ (a2 ≠ -1 ∧ (0 ≤ a2.toInt ∧ a2.toInt < d) ∧ 0 ≤ a3.toInt ∧ a3.toInt < U a2.toNatClampNeg)) ↔ vc8 σ9 a1 a2 a3 := by
      constructor
      · rintro (⟨y1, y2, y3⟩ | ⟨y1, ⟨y2, y3⟩, y4, y5⟩)
        · exact ⟨⟨S, by rw [lei, t0i]; exact y2, by rw [y1]; exact Int32.le_refl _⟩, Or.inl ⟨y1, by rw [lti, s2]; exact y3⟩⟩
        · have cn := cnk y2
          obtain ⟨_, _, _, _, _, _, _, u8, uu⟩ := ug a2.toNatClampNeg (by omega)
          refine ⟨⟨S, by rw [lei, t0i]; exact y4, by rw [lei, show (-1 : Int32).toInt = -1 from rfl]; omega⟩, Or.inr ⟨y1, ?_, ?_⟩⟩
          · rw [r0, lti, ofn_i (by omega)]
            exact y3
          · rw [r35 (by omega) y3 (by omega), uu, lti, ofn_i (by omega)]
            exact y5
      · rintro ⟨⟨_, z2, z3⟩, z4⟩
        rw [lei, t0i] at z2
        rw [lei, show (-1 : Int32).toInt = -1 from rfl] at z3
        rcases z4 with ⟨y1, y2⟩ | ⟨y1, y2, y3⟩
        · rw [lti, s2] at y2
          exact Or.inl ⟨y1, z2, y2⟩
        · have y4 : a2.toInt ≠ -1 := fun e => y1 ((m1 a2).mp e)
          rw [r0, lti, ofn_i (by omega)] at y2
          have cn := cnk (x := a2) (by omega)
          obtain ⟨_, _, _, _, _, _, _, u8, uu⟩ := ug a2.toNatClampNeg (by omega)
          rw [r35 z3 y2 y4, uu, lti, ofn_i (by omega)] at y3
          exact Or.inr ⟨y1, ⟨by omega, y2⟩, z2, y3⟩
    intro T9
    refine At_hasVariable_c8 W5 T9 H.1 F hU (fun r10 q12 => ?_)
    intro W13
    intro M14
    refine ⟨fun c15 => ?_, fun c15 => ?_⟩
    · have P := q12.2.mp c15
      have cc := PV.mp P
      intro T16
      refine At_variableOf_c8 W13 T16 H.1 F (P.imp id (fun z => ⟨z.1, z.2.1, z.2.2.1, by
        have cn := cnk z.2.1.1
        obtain ⟨_, _, _, _, _, _, _, u8, _⟩ := ug a2.toNatClampNeg (by have := z.2.1.2; omega)
        have := z.2.2.2
        omega⟩)) (fun r17 q19 => ?_)
      intro W20
      intro M21
      refine h _ _ ⟨rfl, cc, ?_⟩
      unfold vv8
      rw [q19]
      rcases P with ⟨y1, y2, y3⟩ | ⟨y1, ⟨y2, y3⟩, y4, y5⟩
      · have i3 := cnk y2
        have e1 : (((143 : Int32) * a1) + (1 : Int32)).toInt = 143 * a1.toInt + 1 := by rw [add_i (by rw [i143, t1i]; omega) (by rw [i143, t1i]; omega), i143, t1i]
        have e3 : ((((143 : Int32) * a1) + (1 : Int32)) + a3).toNatClampNeg = 143 * a1.toNatClampNeg + (1 + a3.toNatClampNeg) := by
          rw [nc_5, add_i (by rw [e1]; omega) (by rw [e1]; omega), e1]
          omega
        rw [if_pos y1, if_pos y1, e3]
        exact g2 a3.toNatClampNeg (by omega)
      · have cn := cnk y2
        have i3 := cnk y4
        obtain ⟨_, _, _, _, _, _, _, u8, _⟩ := ug a2.toNatClampNeg (by omega)
        have t36 : (36 : Int32).toInt = 36 := rfl
        have e9 := kv_8 (c := a2) (by omega) (by omega)
        have e1 : (((143 : Int32) * a1) + (36 : Int32)).toInt = 143 * a1.toInt + 36 := by rw [add_i (by rw [i143, t36]; omega) (by rw [i143, t36]; omega), i143, t36]
        have e2 : ((((143 : Int32) * a1) + (36 : Int32)) + ((9 : Int32) * a2)).toInt = 143 * a1.toInt + 36 + 9 * a2.toInt := by rw [add_i (by rw [e1, e9]; omega) (by rw [e1, e9]; omega), e1, e9]
        have e3 : (((((143 : Int32) * a1) + (36 : Int32)) + ((9 : Int32) * a2)) + a3).toNatClampNeg = 143 * a1.toNatClampNeg + (36 + 9 * a2.toNatClampNeg + a3.toNatClampNeg) := by
          rw [nc_5, add_i (by rw [e2]; omega) (by rw [e2]; omega), e2]
          omega
        rw [if_neg y1, if_neg y1, e3]
        exact g4 a2.toNatClampNeg a3.toNatClampNeg (by omega) (by omega)
    · intro κ_22 hκ_22
      exact hx _ _ ⟨rfl, hκ_22, fun z => q12.2.mpr (PV.mpr z) (by first | exact c15 | exact Classical.not_not.mp c15)⟩

end
section
set_option maxHeartbeats 1600000
/-! the class: state by what it answers -/
theorem Ch_state_c8 {C : zC} {n0 : Nat} {a0 : Nat} {a1 : Int32} {a2 : Int32} {κ : zS} {Q : Int32 → zS → Prop} {X : zXp} (W : zW C n0 κ) (Ta0 : zT κ a0 = 15) (ρ : Nat → Nat) (L9 : Int) (σ9 : rS) (hr8 : RC8 κ a0 σ9) (hp : chI9 ρ κ a0 L9) (h : ∀ (v : Int32) (κ' : zS), (κ = κ' ∧ sc8 σ9 a1 a2 ∧ v = sv8 σ9 a1 a2) → Q v κ') (hx : ∀ (cls : String) (κ' : zS), (cls = "java/lang/IndexOutOfBoundsException" ∧ κ' = ut κ ∧ ¬ sc8 σ9 a1 a2) → X cls κ') : zRun C 8 mCh_state [.ref a0, .int a1, .int a2] κ (oI Q X) := by
  refine Ch_state_run W Ta0 ?_
  replace W := W.lo (Nat.le_trans W.1.2.1 W.1.2.2) (Nat.le_refl (zn κ))
  unfold w_Ch_state_0
  intro T1
  refine At_holds_c8 W T1  (fun r2 q4 => ?_)
  intro W5
  intro M6
  refine ⟨fun c7 => ?_, fun c7 => ?_⟩
  · intro κ_8 hκ_8
    exact hx _ _ ⟨rfl, hκ_8, fun z => q4.2.mpr ((hs_8 hr8).mpr z.1) c7⟩
  · have H := ch_h9 hp ⟨q4.1, q4.2.mp⟩ c7
    have HL := H.2.2.1
    have S := (hs_8 hr8).mp (q4.2.mp c7)
    have NX := nx_8 hr8 S
    obtain ⟨⟨nv, s, w, cr, n, m, x, ⟨f1, f2, f3⟩, ⟨b1, b2, b3⟩, ⟨v1, v2, v3⟩, hS, _, _, hb, _⟩, hq, _⟩ := hr8.2.2.1 S.1
    obtain ⟨s1, s2, s3⟩ := sh_8 cr
    have xe : zI κ atExplored (zR κ chAtlas a0) ≠ 0 := (q4.2.mp c7).1
    have ac : zR κ atCode (zR κ chAtlas a0) = zR κ chCode a0 := (hp.2.1.2.2 xe).1.1
    have v1' : zI κ hoTotal (zR κ atStates (zR κ chAtlas a0)) = Int32.ofNat n := v1
    have k0 := S.2.1
    have k1 := S.2.2
    rw [lei, t0i] at k0
    rw [lti, f1, ofn_i (by omega)] at k1
    have kn := cnk k0
    obtain ⟨d, K, ⟨⟨d0, d1, w1, qd⟩, g2, g3, g4, g5⟩, hk⟩ := hS a1.toNatClampNeg (by omega)
    have F : SF8 κ (zR κ chAtlas a0) K w d a1 := by
      refine ⟨k0, ?_, by rw [ac]; exact s1, d0, d1, w1⟩
      unfold hk9
      rw [v1', ofn_i (by omega)]
      exact hk
    have i143 := jv_8 k0 (by omega)
    have r0 : σ9.2.2.1 73 ((143 : Int32) * a1).toNatClampNeg = Int32.ofNat d := by
      rw [nc_5, i143, show (143 * a1.toInt).toNat = 143 * a1.toNatClampNeg + 0 by omega]
      exact qd
    have HB := hb a1.toNatClampNeg (by omega)
    have h80 : zA κ (zR κ atTotals (zR κ chAtlas a0)) a1.toNatClampNeg = σ9.2.2.1 80 a1.toNatClampNeg := HB.2.1
    have h81 : zA κ (zR κ atChooses (zR κ chAtlas a0)) a1.toNatClampNeg = σ9.2.2.1 81 a1.toNatClampNeg := HB.2.2.2
    have h87 : zA κ (zR κ atHopeless (zR κ chAtlas a0)) a1.toNatClampNeg ≠ 0 ↔ σ9.2.2.1 87 a1.toNatClampNeg ≠ 0 := hq _ (by rw [f1, cl_5 (by omega)]; omega)
    refine ⟨fun c9 => ?_, fun c9 => ?_⟩
    · intro κ_10 hκ_10
      exact hx _ _ ⟨rfl, hκ_10, fun z => absurd c9 (Int32.not_lt.mpr z.2.1)⟩
    · refine ⟨fun c11 => ?_, fun c11 => ?_⟩
      · have cc : sc8 σ9 a1 a2 := ⟨S, Int32.not_lt.mp c9, c11⟩
        refine ⟨fun c12 => ?_, fun c12 => ?_, fun c12 => ?_, fun c12 => ?_, fun c12 => ?_, fun c12 => ?_⟩
        · refine ⟨?_, h _ _ ⟨rfl, cc, ?_⟩⟩
          · rw [inb_iff, H.2.1.2.1]
            omega
          · unfold sv8
            rw [if_neg (by omega), if_neg (by omega), if_neg (by omega), if_neg (by omega), if_neg (by omega)]
            exact h80
        · intro T13
          refine At_callsOf_c8 W5 T13 H.1 F (fun r14 q16 => ?_)
          intro W17
          intro M18
          intro T19
          have e14 : (r14 - (1 : Int32)).toInt = (d : Int) - 1 := by rw [q16, sub_i (by rw [ofn_i (by omega), t1i]; omega) (by rw [ofn_i (by omega), t1i]; omega), ofn_i (by omega), t1i]
          have n14 := cnk (x := r14 - (1 : Int32)) (by omega)
          refine At_statementOf_c8 W17 T19 H.1 F (by omega) (by omega) (fun r20 q22 => ?_)
          intro W23
          intro M24
          refine h _ _ ⟨rfl, cc, ?_⟩
          unfold sv8
          rw [if_pos c12, q22]
          unfold sl8
          rw [r0, ← q16]
          have t35 : (35 : Int32).toInt = 35 := rfl
          have e9 := kv_8 (c := r14 - (1 : Int32)) (by omega) (by omega)
          have e1 : (((143 : Int32) * a1) + (35 : Int32)).toInt = 143 * a1.toInt + 35 := by rw [add_i (by rw [i143, t35]; omega) (by rw [i143, t35]; omega), i143, t35]
          have e3 : ((((143 : Int32) * a1) + (35 : Int32)) + ((9 : Int32) * (r14 - (1 : Int32)))).toNatClampNeg = 143 * a1.toNatClampNeg + (35 + 9 * (r14 - (1 : Int32)).toNatClampNeg) := by
            rw [nc_5, add_i (by rw [e1, e9]; omega) (by rw [e1, e9]; omega), e1, e9]
            omega
          rw [e3]
          exact g3 (r14 - (1 : Int32)).toNatClampNeg (by omega)
        · intro T25
          refine At_callsOf_c8 W5 T25 H.1 F (fun r26 q28 => ?_)
          intro W29
          intro M30
          refine h _ _ ⟨rfl, cc, ?_⟩
          unfold sv8
          rw [if_neg (by omega), if_pos c12, q28, r0]
        · intro T31
          refine At_waysOf_c W5 T31  ⟨H.2.1.1, HL⟩ (fun r32 q34 => ?_)
          intro W35
          intro M36
          refine h _ _ ⟨rfl, cc, ?_⟩
          unfold sv8
          rw [if_neg (by omega), if_neg (by omega), if_pos c12, q34, NX.1, NX.2.1]
        · refine ⟨?_, fun c37 => ?_, fun c37 => ?_⟩
          · rw [inb_iff, H.2.1.2.2.2.2.1]
            omega
          · refine h _ _ ⟨rfl, cc, ?_⟩
            rw [h81] at c37
            unfold sv8
            rw [if_neg (by omega), if_neg (by omega), if_neg (by omega), if_pos c12, if_pos c37]
          · refine h _ _ ⟨rfl, cc, ?_⟩
            rw [h81] at c37
            unfold sv8
            rw [if_neg (by omega), if_neg (by omega), if_neg (by omega), if_pos c12, if_neg c37]
        · refine ⟨?_, fun c38 => ?_, fun c38 => ?_⟩
          · rw [inb_iff, H.2.1.2.2.2.2.2]
            omega
          · refine h _ _ ⟨rfl, cc, ?_⟩
            have z : σ9.2.2.1 87 a1.toNatClampNeg = 0 := Decidable.byContradiction (fun y => h87.mpr y c38)
            unfold sv8
            rw [if_neg (by omega), if_neg (by omega), if_neg (by omega), if_neg (by omega), if_pos c12, if_pos z]
          · refine h _ _ ⟨rfl, cc, ?_⟩
            have z := h87.mp c38
            unfold sv8
            rw [if_neg (by omega), if_neg (by omega), if_neg (by omega), if_neg (by omega), if_pos c12, if_neg z]
      · intro κ_39 hκ_39
        exact hx _ _ ⟨rfl, hκ_39, fun z => c11 z.2.2⟩

end
section
set_option maxHeartbeats 1600000
/-! the class: count by what it answers -/
section
variable {κ : zS} {a : Nat} {σ : rS} {nv s w : Nat}
theorem cu_i8 {c g : Nat} (h : g ∈ ci6) : (cu7 κ c).1 g = zI κ g c := by
  show (if g ∈ ci6 then zI κ g c else 0) = _
  rw [if_pos h]
theorem cd_8 (cr : CR7 nv s w (cu7 κ (zR κ chCode a)) σ) : zI κ coVars (zR κ chCode a) = σ.1 15 ∧ zI κ coArrays (zR κ chCode a) = σ.1 16 ∧ zI κ coFunctions (zR κ chCode a) = σ.1 18 ∧ zI κ coStatements (zR κ chCode a) = σ.1 19 := by
  obtain ⟨T, X, Bk, N, Z, na, f, _, F, _⟩ := cr
  obtain ⟨⟨⟨a0, _⟩, ⟨a1, _⟩, ⟨a2, _⟩, ⟨a3, _⟩, _⟩, ⟨_, c0, c1, c2, c3⟩, _⟩ := F
  rw [cu_i8 (by decide)] at a0 a1 a2 a3
  rw [si1, if_neg (by decide)] at c0 c1 c2 c3
  exact ⟨a0.trans c0.symm, a1.trans c1.symm, a2.trans c2.symm, a3.trans c3.symm⟩
theorem cn_e8 {f g : Nat → Int32} {n : Nat} (h : ∀ k, k < n → (f k ≠ 0 ↔ g k ≠ 0)) : cn8 f n = cn8 g n := ct_e8 h
theorem Ch_count_c8 {C : zC} {n0 : Nat} {a0 : Nat} {a1 : Int32} {κ : zS} {Q : Int32 → zS → Prop} {X : zXp} (W : zW C n0 κ) (Ta0 : zT κ a0 = 15) (ρ : Nat → Nat) (L9 : Int) (σ9 : rS) (hr8 : RC8 κ a0 σ9) (hp : chI9 ρ κ a0 L9) (h : ∀ (v : Int32) (κ' : zS), (κ = κ' ∧ kc8 σ9 a1 ∧ v = kv8 σ9 a1) → Q v κ') (hx : ∀ (cls : String) (κ' : zS), (cls = "java/lang/IndexOutOfBoundsException" ∧ κ' = ut κ ∧ ¬ kc8 σ9 a1) → X cls κ') : zRun C 8 mCh_count [.ref a0, .int a1] κ (oI Q X) := by
  refine Ch_count_run W Ta0 ?_
  replace W := W.lo (Nat.le_trans W.1.2.1 W.1.2.2) (Nat.le_refl (zn κ))
  unfold w_Ch_count_0
  have t4 : (4 : Int32).toInt = 4 := rfl
  have t11 : (11 : Int32).toInt = 11 := rfl
  refine ⟨fun c1 => ?_, fun c1 => ?_⟩
  · intro κ_2 hκ_2
    exact hx _ _ ⟨rfl, hκ_2, fun z => absurd c1 (Int32.not_lt.mpr z.1)⟩
  · refine ⟨fun c3 => ?_, fun c3 => ?_⟩
    · have cc : kc8 σ9 a1 := ⟨Int32.not_lt.mp c1, c3⟩
      have k0 := cc.1
      have k1 := cc.2
      rw [lei, t0i] at k0
      rw [lei, t11] at k1
      refine ⟨fun c4 => ?_, fun c4 => ?_⟩
      · have k11 : ¬ a1.toInt = 11 := fun z => c4 (Int32.toInt_inj.mp (z.trans t11.symm))
        refine ⟨fun c5 => ?_, fun c5 => ?_⟩
        · rw [lei, t4] at c5
          refine ⟨fun c6 => ?_, fun c6 => ?_⟩
          · refine h _ _ ⟨rfl, cc, ?_⟩
            have e69 := hr8.2.1.mpr c6
            obtain ⟨e70, e71, e72⟩ := hr8.2.2.2 e69
            unfold kv8
            rw [if_neg (by omega), if_neg (by omega), if_neg (by omega), if_neg (by omega), e69, e70, e71, e72, if_pos (show (0 : Int32) = 0 from rfl), if_pos (show (0 : Int32) = 0 from rfl)]
            have z0 : ∀ f : Nat → Int32, Int32.ofNat (cn8 f (0 : Int32).toNatClampNeg) = 0 := fun f => rfl
            rw [z0, z0]
            by_cases d4 : a1.toInt = 4
            · rw [if_pos d4]
            rw [if_neg d4]
            by_cases d5 : a1.toInt = 5
            · rw [if_pos d5]
            rw [if_neg d5]
            by_cases d6 : a1.toInt = 6
            · rw [if_pos d6]
            rw [if_neg d6]
            by_cases d7 : a1.toInt = 7
            · rw [if_pos d7]
            rw [if_neg d7]
            by_cases d8 : a1.toInt = 8
            · rw [if_pos d8]
            rw [if_neg d8]
            by_cases d9 : a1.toInt = 9
            · rw [if_pos d9]
            rw [if_neg d9, if_pos (by omega)]
          · have e69 : ¬ σ9.1 69 = 0 := fun z => c6 (hr8.2.1.mp z)
            obtain ⟨⟨nv, s, w, cr, n, m, x, ⟨f1, f2, f3⟩, ⟨b1, b2, b3⟩, ⟨v1, v2, v3⟩, hS, _, _, hb, _⟩, hq, hr, _⟩ := hr8.2.2.1 e69
            obtain ⟨⟨n9, A, _⟩, _⟩ := ch_x9 hp c6
            have v1' : zI κ hoTotal (zR κ atStates (zR κ chAtlas a0)) = Int32.ofNat n := v1
            have v2' : zI κ hoTotal (zR κ atEndings (zR κ chAtlas a0)) = Int32.ofNat m := v2
            have v3' : zI κ atNexts (zR κ chAtlas a0) = Int32.ofNat x := v3
            have r1' : zI κ atRings (zR κ chAtlas a0) = σ9.1 88 := hr.1
            have r2' : zI κ atGreatest (zR κ chAtlas a0) = σ9.1 89 := hr.2
            have n70 : (σ9.1 70).toNatClampNeg = n := by rw [f1, cl_5 (by omega)]
            intro T7
            refine At_howMany_q6 W T7 n v1' b1 ⟨A.2.2.2.2.1, A.2.2.2.2.2⟩ (fun r8 q9 => ?_)
            obtain ⟨_, z9⟩ := q9
            intro W10
            intro M11
            refine h _ _ ⟨rfl, cc, ?_⟩
            rw [z9]
            unfold hm8 kv8
            rw [if_neg (show ¬ a1.toInt = 0 by omega), if_neg (show ¬ a1.toInt = 1 by omega), if_neg (show ¬ a1.toInt = 2 by omega), if_neg (show ¬ a1.toInt = 3 by omega), n70, v1', v2', v3', r1', r2', f1, f2, f3, if_neg e69, if_neg e69]
            have h9 : cn8 (zA κ (zR κ atChooses (zR κ chAtlas a0))) n = cn8 (σ9.2.2.1 81) n := cn_e8 (fun k hk => by rw [show zA κ (zR κ atChooses (zR κ chAtlas a0)) k = σ9.2.2.1 81 k from (hb k hk).2.2.2])
            have h10 : cn8 (zA κ (zR κ atHopeless (zR κ chAtlas a0))) n = cn8 (σ9.2.2.1 87) n := cn_e8 (fun k hk => hq k (by rw [n70]; exact hk))
            rw [h9, h10]
            by_cases d4 : a1.toInt = 4
            · rw [if_pos d4, if_pos d4]
            rw [if_neg d4, if_neg d4]
            by_cases d5 : a1.toInt = 5
            · rw [if_pos d5, if_pos d5]
            rw [if_neg d5, if_neg d5]
            by_cases d6 : a1.toInt = 6
            · rw [if_pos d6, if_pos d6]
            rw [if_neg d6, if_neg d6]
            by_cases d7 : a1.toInt = 7
            · rw [if_pos d7, if_pos d7]
            rw [if_neg d7, if_neg d7]
            by_cases d8 : a1.toInt = 8
            · rw [if_pos d8, if_pos d8]
            rw [if_neg d8, if_neg d8]
            by_cases d9 : a1.toInt = 9
            · rw [if_pos d9, if_pos (show a1 = 9 from Int32.toInt_inj.mp (by rw [d9]; rfl))]
            rw [if_neg d9, if_neg (fun z => d9 (by rw [z]; rfl)), if_pos (by omega)]
        · rw [lei, t4] at c5
          have e14 := hr8.1.2.1
          refine ⟨fun c12 => ?_, fun c12 => ?_⟩
          · refine h _ _ ⟨rfl, cc, ?_⟩
            unfold kv8
            rw [e14.mpr c12, if_pos (show (0 : Int32) = 0 from rfl), if_pos (show (0 : Int32) = 0 from rfl), if_pos (show (0 : Int32) = 0 from rfl), if_pos (show (0 : Int32) = 0 from rfl)]
            by_cases d0 : a1.toInt = 0
            · rw [if_pos d0]
            rw [if_neg d0]
            by_cases d1 : a1.toInt = 1
            · rw [if_pos d1]
            rw [if_neg d1]
            by_cases d2 : a1.toInt = 2
            · rw [if_pos d2]
            rw [if_neg d2, if_pos (by omega)]
          · have n14 : ¬ σ9.1 14 = 0 := fun z => c12 (e14.mp z)
            obtain ⟨nv, s, w, cr⟩ := hr8.1.2.2 n14
            obtain ⟨d15, d16, d18, d19⟩ := cd_8 cr
            intro T13
            refine Co_howMany_run W T13 ?_
            unfold w_Co_howMany_0
            refine ⟨fun c14 => ?_, fun c14 => ?_, fun c14 => ?_, fun c14 => ?_⟩
            · intro W15
              intro M16
              refine h _ _ ⟨rfl, cc, ?_⟩
              unfold kv8
              rw [if_neg (by omega), if_neg (by omega), if_neg (by omega), if_pos (by omega), if_neg n14, d19]
            · intro W15
              intro M16
              refine h _ _ ⟨rfl, cc, ?_⟩
              unfold kv8
              rw [if_pos c14, if_neg n14, d15]
            · intro W15
              intro M16
              refine h _ _ ⟨rfl, cc, ?_⟩
              unfold kv8
              rw [if_neg (by omega), if_pos c14, if_neg n14, d16]
            · intro W15
              intro M16
              refine h _ _ ⟨rfl, cc, ?_⟩
              unfold kv8
              rw [if_neg (by omega), if_neg (by omega), if_pos c14, if_neg n14, d18]
      · refine h _ _ ⟨rfl, cc, ?_⟩
        have e : σ9.1 2 = zI κ taLength (zR κ chTape a0) := (mk_e9 hr8.1.1).1
        unfold kv8
        have k11 : a1.toInt = 11 := by rw [c4]; rfl
        rw [if_neg (by omega), if_neg (by omega), if_neg (by omega), if_neg (by omega), if_neg (by omega), if_neg (by omega), if_neg (by omega), if_neg (by omega), if_neg (by omega), if_neg (by omega), if_neg (by omega), e]
    · intro κ_17 hκ_17
      exact hx _ _ ⟨rfl, hκ_17, fun z => c3 z.2⟩
end

end
section
set_option maxHeartbeats 1600000
/-! the class: best by what it answers -/
theorem ft_28 {q : Rat} : f2W8 q ↔ ftW8 q := by
  unfold f2W8 ftW8
  rw [show (65536 : Nat) ^ 16 = 2 ^ 256 by decide +kernel]
/-- the tables of both sides -/
theorem tl_a8 {κ : zS} {t w s : Nat} {σ : rS} (A : AT8 w s (av8 κ t) σ) (hO : exO σ) (h0 : 0 < (σ.1 70).toNatClampNeg) : tlW8 (tcW8 κ t) (trW8 σ) (σ.1 70).toNatClampNeg := by
  obtain ⟨n, m, x, ⟨f1, f2, f3⟩, ⟨b1, b2, b3⟩, _, _, _, hN, hb, hl⟩ := A
  have e : (σ.1 70).toNatClampNeg = n := by rw [f1, cl_5 (by omega)]
  have ex : (σ.1 72).toInt = (x : Int) := by rw [f3, ofn_i (by omega)]
  rw [e] at h0
  refine ⟨fun k hk => ?_, fun k hk => ?_, fun k i hk h1 h2 => ?_⟩
  · rw [e] at hk
    by_cases c : k < n
    · exact (hb k c).1
    · have c2 : k = n := by omega
      rw [c2]
      exact hl h0
  · rw [e] at hk
    exact ⟨(hb k hk).2.1, (hb k hk).2.2.1, (hb k hk).2.2.2⟩
  · obtain ⟨⟨a0, a1, a2⟩, c⟩ := lo_r8 hO hk
    have h2' : i < (σ.2.2.1 76 (k + 1)).toNatClampNeg := h2
    have c1 := cnk (x := σ.2.2.1 76 (k + 1)) (by omega)
    rw [lei, ex] at c
    exact hN i (by omega)
theorem tl_gn8 {t u : Tw8} {n : Nat} (h : tlW8 t u n) (hw : ∀ x, x < n → loW8 u x < loW8 u (x + 1)) (g : gnW8 u n) : gnW8 t n := fun k hk => by
  obtain ⟨g1, g2, g3⟩ := g k hk
  have q := h.2.1 k hk
  have l0 := tl_lo8 h (show k ≤ n by omega)
  have l1 := tl_lo8 h (show k + 1 ≤ n by omega)
  have w := (h.2.2 k (loW8 u k) hk (Nat.le_refl _) (hw k hk)).2.2
  rw [l0, l1, q.1, q.2.1, q.2.2, w]
  exact ⟨g1, g2, g3⟩
section
variable {κ : zS} {t n : Nat} {σ : rS}
theorem wm_b8 (h : tlW8 (tcW8 κ t) (trW8 σ) (σ.1 70).toNatClampNeg) (hO : exO σ) {k : Nat} (hk : k < (σ.1 70).toNatClampNeg) : wnW8 (tcW8 κ t) (σ.1 70).toNatClampNeg k = wbW8 σ k := tl_wn8 h (fun x hx => lw_b8 hO hx) (fun x y hx e => eN_c8 hO hx ((eN_w8 hO hx).mp e)) _ k hk
theorem pm_b8 (h : tlW8 (tcW8 κ t) (trW8 σ) (σ.1 70).toNatClampNeg) (hO : exO σ) {k : Nat} (hk : k < (σ.1 70).toNatClampNeg) : pcW8 (tcW8 κ t) (wnW8 (tcW8 κ t) (σ.1 70).toNatClampNeg) k = pbW8 σ k := by
  have e6 : (tcW8 κ t) 6 k = σ.2.2.1 81 k := (h.2.1 k hk).2.2
  have em : maW8 (tcW8 κ t) (wnW8 (tcW8 κ t) (σ.1 70).toNatClampNeg) k = maW8 (trW8 σ) (wbW8 σ) k := (tl_ma8 h hk (lw_b8 hO hk)).trans (ma_c8 (fun y e => wm_b8 h hO (eN_c8 hO hk ((eN_w8 hO hk).mp e))) (lw_b8 hO hk))
  unfold pcW8 pbW8
  rw [e6, em]
  by_cases c : σ.2.2.1 81 k = 0
  · rw [if_pos c, if_neg (fun z => z c)]
  · rw [if_neg c, if_pos c]
theorem ac_b8 (h : 0 < (σ.1 70).toNatClampNeg → tlW8 (tcW8 κ t) (trW8 σ) (σ.1 70).toNatClampNeg) (A : atW κ t (σ.1 70).toNatClampNeg) (Z : ZQ8 σ) (r : zI κ atRings t = σ.1 88) (e : zI κ atRings t ≤ 0) : ∀ x, x < (σ.1 70).toNatClampNeg → ¬ Tr (el8 κ t 0 (σ.1 70).toNatClampNeg) x x := fun x hx z => by
  rw [r] at e
  have H := h (by omega)
  exact Z.2.1.2 (Int32.le_antisymm e Z.2.1.1) x hx (Tr_congr (fun a b y => ⟨y.1, (tl_e8 H y.1).mp ((el_w8 A y.1).mp y)⟩) z)
end
theorem bs_w8 {κ κ' : zS} {a t : Nat} {σ : rS} {v : Int32} (e : zR κ soAtlas a = t) (M : mkW8 κ κ' a (σ.1 70).toNatClampNeg v) (r : zI κ atRings t = σ.1 88) (r0 : 0 ≤ σ.1 88) (hw : ∀ k, k < (σ.1 70).toNatClampNeg → wmW8 κ a (σ.1 70).toNatClampNeg k = wbW8 σ k ∧ pcW8 (tcW8 κ t) (wmW8 κ a (σ.1 70).toNatClampNeg) k = pbW8 σ k) : v = bv8 σ ∧ bp9 κ κ' t σ := by
  unfold mkW8 kpW8 at M
  rw [e, r] at M
  rcases M with ⟨m1, m2, m3⟩ | ⟨m1, ⟨m2, ⟨k, k1, k2⟩, ⟨_, m3⟩, _⟩ | ⟨m2, _, m3, _⟩⟩
  · have b := bv_28 (σ := σ) (fun z => m1 (by rw [z]; decide))
    refine ⟨by rw [b]; exact m2, fun z => ?_, fun _ => by rw [m3]⟩
    rw [b] at z
    exact absurd z (by decide)
  · have z0 := Int32.le_antisymm m1 r0
    have b := bv_38 z0 ⟨k, k1, fun z => k2 (by rw [(hw k k1).1]; exact ft_28.mpr z)⟩
    refine ⟨by rw [b]; exact m2, fun z => ?_, fun _ => m3⟩
    rw [b] at z
    exact absurd z (by decide)
  · have z0 := Int32.le_antisymm m1 r0
    have b := bv_08 z0 (fun k hk => by have y := (m3 k hk).2.1; rw [(hw k hk).1] at y; exact ft_28.mp y)
    exact ⟨by rw [b]; exact m2, fun _ k hk => (m3 k hk).2.2.trans (hw k hk).2, fun z => absurd b z⟩
theorem Ch_best_c8 {C : zC} {n0 : Nat} {a0 : Nat} {κ : zS} {Q : Int32 → zS → Prop} {X : zXp} (W : zW C n0 κ) (Ta0 : zT κ a0 = 15) (ρ : Nat → Nat) (L9 : Int) (σ9 : rS) (hr8 : RC8 κ a0 σ9) (hp : chI9 ρ κ a0 L9) (h : ∀ (v : Int32) (κ' : zS), ((∃ ρ', chI9 ρ' κ' a0 L9 ∧ (∃ F, zF F κ κ') ∧ pB8 κ κ' a0) ∧ bc8 σ9 ∧ v = bv8 σ9 ∧ bp9 κ κ' (zR κ chAtlas a0) σ9) → Q v κ') (hx : ∀ (cls : String) (κ' : zS), (cls = "java/lang/IllegalStateException" ∧ κ' = ut κ ∧ ¬ bc8 σ9) → X cls κ') : zRun C 9 mCh_best [.ref a0] κ (oI Q X) := by
  refine Ch_best_run W Ta0 ?_
  replace W := W.lo (Nat.le_trans W.1.2.1 W.1.2.2) (Nat.le_refl (zn κ))
  unfold w_Ch_best_0
  refine ⟨fun c1 => ?_, fun c1 => ?_⟩
  · have e69 : bc8 σ9 := fun z => c1 (hr8.2.1.mp z)
    obtain ⟨⟨nv, s, w, _, A8⟩, _, hr, zq, _⟩ := hr8.2.2.1 e69
    obtain ⟨⟨n9, A⟩, _⟩ := ch_x9 hp c1
    have r1 : zI κ atRings (zR κ chAtlas a0) = σ9.1 88 := hr.1
    have n70 : n9 = (σ9.1 70).toNatClampNeg := by
      obtain ⟨n, m, x, ⟨f1, _⟩, ⟨b1, _⟩, ⟨v1, _⟩, _⟩ := A8
      have v1' : zI κ hoTotal (zR κ atStates (zR κ chAtlas a0)) = Int32.ofNat n := v1
      have y := A.2.2.2.1
      rw [v1', ofn_i (by omega)] at y
      rw [f1, cl_5 (by omega)]
      omega
    subst n70
    have TL := tl_a8 A8 zq.1
    have lk := hp.2.2.1.2.2.1
    intro T2
    refine So_makePlanz_q6 W T2 ρ (σ9.1 70).toNatClampNeg (by rw [lk.1]; exact fun z => ac_b8 TL A zq r1 z) (by
      rw [lk.1]
      intro k hk
      exact tl_gn8 (TL (by omega)) (fun x hx => lw_b8 zq.1 hx) zq.2.2 k hk) ?_ (fun r3 κ_4 q5 => ?_)
    · refine ⟨hp.2.2.1.1, ?_, by rw [lk.1]; exact A, hp.2.2.1.2.1⟩
      rw [lk.2]
      exact hp.2.1.1.2.2.1
    intro W6
    intro M7
    obtain ⟨q5, z9⟩ := q5
    have B := bs_w8 lk.1 z9 r1 zq.2.1.1 (fun k hk => by
      have H := TL (by omega)
      unfold wmW8
      rw [lk.1]
      exact ⟨wm_b8 H zq.1 hk, pm_b8 H zq.1 hk⟩)
    exact h _ _ ⟨ch_p9 W Ta0 hp c1 A q5, e69, B.1, B.2⟩
  · intro κ_8 hκ_8
    exact hx _ _ ⟨rfl, hκ_8, fun z => z (hr8.2.1.mpr (by first | exact c1 | (exact Classical.not_not.mp c1)))⟩

end
section
set_option maxHeartbeats 1600000
/-! the class: decide, decided by what they answer -/
section
variable {κ : zS} {a : Nat} {σ : rS}
theorem cx_8 (h : RC8 κ a σ) {k : Int32} (hk : σ.1 69 ≠ 0 ∧ 0 ≤ k ∧ k < σ.1 70) : zA κ (zR κ atChooses (zR κ chAtlas a)) k.toNatClampNeg = σ.2.2.1 81 k.toNatClampNeg ∧ plC8 κ a k.toNatClampNeg = σ.2.2.1 83 k.toNatClampNeg := by
  obtain ⟨ex, k0, k1⟩ := hk
  obtain ⟨⟨nv, s, w, _, n, m, x, ⟨e1, _, _⟩, ⟨b1, _, _⟩, _, _, _, _, hb, _⟩, _, _, _, PL, _⟩ := h.2.2.1 ex
  have n70 : (σ.1 70).toNatClampNeg = n := by rw [e1, cl_5 (by omega)]
  rw [lei, t0i] at k0
  rw [lti, e1, ofn_i (by omega)] at k1
  have kn := cnk k0
  have kk : k.toNatClampNeg < n := by omega
  exact ⟨(hb _ kk).2.2.2, PL _ (by rw [n70]; exact kk)⟩
end
theorem Ch_decided_c8 {C : zC} {n0 : Nat} {a0 : Nat} {a1 : Int32} {κ : zS} {Q : Int32 → zS → Prop} {X : zXp} (W : zW C n0 κ) (Ta0 : zT κ a0 = 15) (ρ : Nat → Nat) (L9 : Int) (σ9 : rS) (hr8 : RC8 κ a0 σ9) (hp : chI9 ρ κ a0 L9) (h : ∀ (v : Int32) (κ' : zS), (κ = κ' ∧ gc8 σ9 a1 ∧ v = gv8 σ9 a1) → Q v κ') (hx : ∀ (cls : String) (κ' : zS), (cls = "java/lang/IndexOutOfBoundsException" ∧ κ' = ut κ ∧ ¬ gc8 σ9 a1) → X cls κ') : zRun C 8 mCh_decided [.ref a0, .int a1] κ (oI Q X) := by
  refine Ch_decided_run W Ta0 ?_
  replace W := W.lo (Nat.le_trans W.1.2.1 W.1.2.2) (Nat.le_refl (zn κ))
  unfold w_Ch_decided_0
  intro T1
  refine At_holds_c8 W T1  (fun r2 q4 => ?_)
  intro W5
  intro M6
  refine ⟨fun c7 => ?_, fun c7 => ?_⟩
  · intro κ_8 hκ_8
    exact hx _ _ ⟨rfl, hκ_8, fun z => q4.2.mpr ((hs_8 hr8).mpr z.1) c7⟩
  · have H := ch_h9 hp ⟨q4.1, q4.2.mp⟩ c7
    have S := (hs_8 hr8).mp (q4.2.mp c7)
    obtain ⟨N1, N2⟩ := cx_8 hr8 S
    refine ⟨?_, ?_⟩
    · rw [inb_iff, H.2.1.2.2.2.2.1]
      have y := H.2.2.1
      omega
    refine ⟨fun c9 => ?_, fun c9 => ?_⟩
    · refine ⟨?_, ?_⟩
      · rw [inb_iff, H.2.1.2.2.2.1]
        have y := H.2.2.1
        omega
      exact h _ _ ⟨rfl, ⟨S, by rw [← N1]; exact c9⟩, N2⟩
    · intro κ_10 hκ_10
      exact hx _ _ ⟨rfl, hκ_10, fun z => z.2 (by rw [← N1]; first | exact c9 | (exact Classical.not_not.mp c9))⟩
theorem Ch_decide_c8 {C : zC} {n0 : Nat} {a0 : Nat} {a1 : Int32} {a2 : Int32} {κ : zS} {Q : Int32 → zS → Prop} {X : zXp} (W : zW C n0 κ) (Ta0 : zT κ a0 = 15) (ρ : Nat → Nat) (L9 : Int) (σ9 : rS) (hr8 : RC8 κ a0 σ9) (hp : chI9 ρ κ a0 L9) (h : ∀ (v : Int32) (κ' : zS), ((chI9 ρ κ' a0 L9 ∧ (∃ F, zF F κ κ') ∧ pDc8 κ κ' a0 σ9 a1 a2) ∧ dc8 σ9 a1 a2 ∧ v = dv8 σ9 a1 a2) → Q v κ') (hx : ∀ (cls : String) (κ' : zS), (cls = "java/lang/IndexOutOfBoundsException" ∧ κ' = ut κ ∧ ¬ dc8 σ9 a1 a2) → X cls κ') : zRun C 8 mCh_decide [.ref a0, .int a1, .int a2] κ (oI Q X) := by
  refine Ch_decide_run W Ta0 ?_
  replace W := W.lo (Nat.le_trans W.1.2.1 W.1.2.2) (Nat.le_refl (zn κ))
  unfold w_Ch_decide_0
  intro T1
  refine At_holds_c8 W T1  (fun r2 q4 => ?_)
  intro W5
  intro M6
  refine ⟨fun c7 => ?_, fun c7 => ?_⟩
  · intro κ_8 hκ_8
    exact hx _ _ ⟨rfl, hκ_8, fun z => q4.2.mpr ((hs_8 hr8).mpr z.1) c7⟩
  · have H := ch_h9 hp ⟨q4.1, q4.2.mp⟩ c7
    have S := (hs_8 hr8).mp (q4.2.mp c7)
    obtain ⟨N1, N2⟩ := cx_8 hr8 S
    obtain ⟨F1, F2, _⟩ := nx_8 hr8 S
    refine ⟨?_, ?_⟩
    · rw [inb_iff, H.2.1.2.2.2.2.1]
      have y := H.2.2.1
      omega
    refine ⟨fun c9 => ?_, fun c9 => ?_⟩
    · intro κ_10 hκ_10
      exact hx _ _ ⟨rfl, hκ_10, fun z => z.2.1 (by rw [← N1]; first | exact c9 | (exact Classical.not_not.mp c9))⟩
    · refine ⟨fun c11 => ?_, fun c11 => ?_⟩
      · intro κ_12 hκ_12
        exact hx _ _ ⟨rfl, hκ_12, fun z => absurd c11 (Int32.not_lt.mpr z.2.2.1)⟩
      · intro T13
        refine At_waysOf_c W5 T13  ?_ (fun r14 q16 => ?_)
        · exact ⟨H.2.1.1, H.2.2.1⟩
        intro W17
        intro M18
        have q15 : r14 = σ9.2.2.1 76 (a1 + (1 : Int32)).toNatClampNeg - σ9.2.2.1 76 a1.toNatClampNeg := by rw [q16, F1, F2]
        refine ⟨fun c19 => ?_, fun c19 => ?_⟩
        · have cc : dc8 σ9 a1 a2 := ⟨S, fun z => c9 (by rw [N1]; exact z), Int32.not_lt.mp c11, by rw [← q15]; first | exact c19 | exact Int32.not_le.mp c19⟩
          refine ⟨?_, ?_⟩
          · rw [inb_iff, H.2.1.2.2.2.1]
            have y := H.2.2.1
            omega
          intro x20 hx20
          refine ⟨?_, ?_⟩
          · rw [inb_iff, H.2.1.2.2.2.1]
            have y := H.2.2.1
            omega
          intro κ_21 hκ_21
          intro W22
          intro κ_23 hκ_23
          intro W24
          have o := W.o (show zr atPlan = some 20 by decide +kernel) (by decide) ((ty_chAtlas W Ta0).trans (by decide))
          have R1 : zR κ_21 = zR κ := by rw [hκ_21]; rfl
          have Z1 : zF (mkF9 κ a0) κ κ_21 := by rw [hκ_21]; exact zF_ua (by rw [o]; exact Or.inr ⟨rfl, rfl⟩)
          rw [R1] at hκ_23
          have Z3 : zF (mkF9 κ a0) κ κ_23 := Z1.tr (by rw [hκ_23]; exact zF_ui (Or.inl ⟨rfl, Or.inl rfl⟩))
          have R3 : zR κ_23 = zR κ := by rw [hκ_23]; exact R1
          have I3 := chI_m9 W Ta0 Z3 R3 (by rw [hκ_23]; exact if_pos ⟨rfl, rfl⟩) (Or.inr (by rw [hκ_23, hκ_21]; rfl)) hp
          refine h _ _ ⟨⟨I3.1, I3.2.1, I3.2.2, fun _ => ?_, fun z => absurd cc z⟩, cc, ?_⟩
          · unfold plC8
            rw [R3, hκ_23, hκ_21]
            exact if_pos rfl
          · rw [hx20]; exact N2
        · intro κ_25 hκ_25
          exact hx _ _ ⟨rfl, hκ_25, fun z => c19 (by rw [q15]; first | exact z.2.2.2 | exact Int32.not_le.mpr z.2.2.2)⟩

end
section
set_option maxHeartbeats 1600000
/-! the class: solve by what it answers -/
theorem tb_15 {κ : zS} {a : Nat} {σ : rS} (hr8 : RC8 κ a σ) (ex : σ.1 69 ≠ 0) (hP : pOK σ) (A : atW κ (zR κ chAtlas a) (σ.1 70).toNatClampNeg) : tbl15 κ (zR κ chAtlas a) (σ.1 70).toNatClampNeg σ := by
  obtain ⟨⟨nv, s, w, _, n, m, x, ⟨e1, e2, e3⟩, ⟨b1, b2, b3⟩, ⟨v1, v2, v3⟩, _, _, hx, hb, hl⟩, _, _, _, PL, UQ⟩ := hr8.2.2.1 ex
  have n70 : (σ.1 70).toNatClampNeg = n := by rw [e1, cl_5 (by omega)]
  have v3' : zI κ atNexts (zR κ chAtlas a) = Int32.ofNat x := v3
  refine ⟨⟨hP, rfl, A⟩, fun j hj => ⟨(hb j (by omega)).1, ?_⟩, fun j hj => ?_, fun j hj => ⟨(hb j (by omega)).2.2.2, (hb j (by omega)).2.1, PL j hj⟩, UQ⟩
  · by_cases c : j + 1 < n
    · exact (hb (j + 1) c).1
    · rw [show j + 1 = n by omega]
      exact hl (by omega)
  · rw [v3', ofn_i (by omega)] at hj
    exact hx j (by omega)
theorem Ch_solve_c8 {C : zC} {n0 : Nat} {a0 : Nat} {κ : zS} {Q : Int32 → zS → Prop} {X : zXp} (W : zW C n0 κ) (Ta0 : zT κ a0 = 15) (ρ : Nat → Nat) (L9 : Int) (σ9 : rS) (hr8 : RC8 κ a0 σ9) (hP : pOK σ9) (hp : chI9 ρ κ a0 L9) (h : ∀ (v : Int32) (κ' : zS), ((∃ ρ', chI9 ρ' κ' a0 L9 ∧ (∃ F, zF F κ κ') ∧ pC8 κ κ' a0) ∧ sc15 σ9 ∧ v = sw15 σ9) → Q v κ') (hx : ∀ (cls : String) (κ' : zS), (cls = "java/lang/IllegalStateException" ∧ κ' = ut κ ∧ ¬ sc15 σ9) → X cls κ') : zRun C 9 mCh_solve [.ref a0] κ (oI Q X) := by
  refine Ch_solve_run W Ta0 ?_
  replace W := W.lo (Nat.le_trans W.1.2.1 W.1.2.2) (Nat.le_refl (zn κ))
  unfold w_Ch_solve_0
  refine ⟨fun c1 => ?_, fun c1 => ?_⟩
  · have e69 : sc15 σ9 := fun z => c1 (hr8.2.1.mp z)
    obtain ⟨⟨nv, s, w, _, A8⟩, _⟩ := hr8.2.2.1 e69
    obtain ⟨⟨n9, A⟩, _⟩ := ch_x9 hp c1
    have n70 : n9 = (σ9.1 70).toNatClampNeg := by
      obtain ⟨n, m, x, ⟨f1, _⟩, ⟨b1, _⟩, ⟨v1, _⟩, _⟩ := A8
      have v1' : zI κ hoTotal (zR κ atStates (zR κ chAtlas a0)) = Int32.ofNat n := v1
      have y := A.2.2.2.1
      rw [v1', ofn_i (by omega)] at y
      rw [f1, cl_5 (by omega)]
      omega
    subst n70
    have lk := hp.2.2.1.2.2.1
    intro T2
    refine So_findVisitz_q6 W T2 ρ (σ9.1 70).toNatClampNeg σ9 (by rw [lk.1]; exact tb_15 hr8 e69 hP A) ?_ (fun r3 κ_4 q5 => ?_)
    · refine ⟨hp.2.2.1.1, ?_, by rw [lk.1]; exact A⟩
      rw [lk.2]
      exact hp.2.1.1.2.2.1
    intro W6
    intro M7
    obtain ⟨q5, z9⟩ := q5
    exact h _ _ ⟨ch_v9 W Ta0 hp c1 A q5, e69, fx_15 hP rfl z9⟩
  · intro κ_8 hκ_8
    exact hx _ _ ⟨rfl, hκ_8, fun z => z (hr8.2.1.mpr (by first | exact c1 | (exact Classical.not_not.mp c1)))⟩

end
section
/-! both answers -/
theorem an_a8 {σ σ' : rS} {v : Int32} (X : XQ15  σ σ' v) (h : sc15 σ ) : σ'.1 0 = 0 ∧ sw15 σ  = v := by
  rcases X with ⟨_, x1, x2⟩ | ⟨n, _⟩
  · exact ⟨x1, x2.symm⟩
  · exact absurd h n
theorem an_b8 {σ σ' : rS} {v : Int32} (X : XQ15  σ σ' v) (h : ¬ sc15 σ ) : σ'.1 0 = 1 := by
  rcases X with ⟨y, _⟩ | ⟨_, x1⟩
  · exact absurd y h
  · exact x1

end
section
set_option maxHeartbeats 1600000
/-! the class: ChanceWorks.program, behind its call of the parser -/
theorem fl_X12_128 : (tFL 15).lookup 128 = some (10, 17) := by decide +kernel
theorem fl_X12_132 : (tFL 15).lookup 132 = some (10, 18) := by decide +kernel
theorem fl_X12_151 : (tFL 15).lookup 151 = some (5, 13) := by decide +kernel
theorem gf_X12_23 {C : zC} {n0 d : Nat} {r : dM} {pc : Nat} {L : List (Option Value)} {st : List Value} {κ : zS} {Q : zU → zS → Prop} {a : Nat} (W : zW C n0 κ) (hd : decode r.2.1 pc = .ok (.getfield 23, 3)) (ho : r.2.2.2.2.2.1 = 15) (hT : zT κ a = 15) (K : zG C n0 d r (pc + 3) L (.ref (zR κ chSpare a) :: st) κ Q) : zG C n0 d r pc L (.ref a :: st) κ Q := y_getr W hd ho fl_X12_23 fk_chSpare (Or.inl hT) (ty_chSpare W hT) K
theorem gf_X12_31 {C : zC} {n0 d : Nat} {r : dM} {pc : Nat} {L : List (Option Value)} {st : List Value} {κ : zS} {Q : zU → zS → Prop} {a : Nat} (W : zW C n0 κ) (hd : decode r.2.1 pc = .ok (.getfield 31, 3)) (ho : r.2.2.2.2.2.1 = 15) (hT : zT κ a = 15) (K : zG C n0 d r (pc + 3) L (.ref (zR κ chParser a) :: st) κ Q) : zG C n0 d r pc L (.ref a :: st) κ Q := y_getr W hd ho fl_X12_31 fk_chParser (Or.inl hT) (ty_chParser W hT) K
theorem gf_X12_128 {C : zC} {n0 d : Nat} {r : dM} {pc : Nat} {L : List (Option Value)} {st : List Value} {κ : zS} {Q : zU → zS → Prop} {a : Nat} (hd : decode r.2.1 pc = .ok (.getfield 128, 3)) (ho : r.2.2.2.2.2.1 = 15) (hB : zBo κ a 10) (K : zG C n0 d r (pc + 3) L (.int (zI κ paFaultCode a) :: st) κ Q) : zG C n0 d r pc L (.ref a :: st) κ Q := y_geti hd ho fl_X12_128 fk_paFaultCode hB K
theorem gf_X12_132 {C : zC} {n0 d : Nat} {r : dM} {pc : Nat} {L : List (Option Value)} {st : List Value} {κ : zS} {Q : zU → zS → Prop} {a : Nat} (hd : decode r.2.1 pc = .ok (.getfield 132, 3)) (ho : r.2.2.2.2.2.1 = 15) (hB : zBo κ a 10) (K : zG C n0 d r (pc + 3) L (.int (zI κ paFaultPlace a) :: st) κ Q) : zG C n0 d r pc L (.ref a :: st) κ Q := y_geti hd ho fl_X12_132 fk_paFaultPlace hB K
theorem gf_X12_151 {C : zC} {n0 d : Nat} {r : dM} {pc : Nat} {L : List (Option Value)} {st : List Value} {κ : zS} {Q : zU → zS → Prop} {a : Nat} (hd : decode r.2.1 pc = .ok (.getfield 151, 3)) (ho : r.2.2.2.2.2.1 = 15) (hB : zBo κ a 5) (K : zG C n0 d r (pc + 3) L (.int (zI κ coStatements a) :: st) κ Q) : zG C n0 d r pc L (.ref a :: st) κ Q := y_geti hd ho fl_X12_151 fk_coStatements hB K
theorem pf_X12_131 {C : zC} {n0 d : Nat} {r : dM} {pc : Nat} {L : List (Option Value)} {st : List Value} {κ : zS} {Q : zU → zS → Prop} {a : Nat} {x : Int32} (W : zW C n0 κ) (hd : decode r.2.1 pc = .ok (.putfield 131, 3)) (ho : r.2.2.2.2.2.1 = 15) (hB : zBo κ a 15) (K : ∀ κ1, κ1 = ui κ chFaultCode a x → zG C n0 d r (pc + 3) L st κ1 Q) : zG C n0 d r pc L (.int x :: .ref a :: st) κ Q := y_puti W hd ho fl_X12_131 fk_chFaultCode rfl (Or.inl rfl) in_nar hB K
theorem pf_X12_135 {C : zC} {n0 d : Nat} {r : dM} {pc : Nat} {L : List (Option Value)} {st : List Value} {κ : zS} {Q : zU → zS → Prop} {a : Nat} {x : Int32} (W : zW C n0 κ) (hd : decode r.2.1 pc = .ok (.putfield 135, 3)) (ho : r.2.2.2.2.2.1 = 15) (hn : narrow .boolean (.int x) = .int x ∧ fits .boolean (.int x) = true) (hB : zBo κ a 15) (K : ∀ κ1, κ1 = ui κ chReady a x → zG C n0 d r (pc + 3) L st κ1 Q) : zG C n0 d r pc L (.int x :: .ref a :: st) κ Q := y_puti W hd ho fl_X12_135 fk_chReady rfl (Or.inl rfl) hn hB K
theorem pf_X12_139 {C : zC} {n0 d : Nat} {r : dM} {pc : Nat} {L : List (Option Value)} {st : List Value} {κ : zS} {Q : zU → zS → Prop} {a : Nat} {x : Int32} (W : zW C n0 κ) (hd : decode r.2.1 pc = .ok (.putfield 139, 3)) (ho : r.2.2.2.2.2.1 = 15) (hn : narrow .boolean (.int x) = .int x ∧ fits .boolean (.int x) = true) (hB : zBo κ a 3) (K : ∀ κ1, κ1 = ui κ atExplored a x → zG C n0 d r (pc + 3) L st κ1 Q) : zG C n0 d r pc L (.int x :: .ref a :: st) κ Q := y_puti W hd ho fl_X12_139 fk_atExplored rfl (Or.inl rfl) hn hB K
theorem k_X12_123 {C : zC} {n0 d : Nat} {r : dM} {pc : Nat} {L : List (Option Value)} {st : List Value} {κ : zS} {Q : zU → zS → Prop} {x0 : Nat} {x1 : Nat} {F : zS → Prop} {X : zXp} (W : zW C n0 κ) (hd : decode r.2.1 pc = .ok (.invokevirtual 123, 3)) (ho : r.2.2.2.2.2.1 = 15) (h0 : 14 ≤ d) (hc : (st.map fun v => v.category).sum ≤ 8) (hB : zBo κ x0 10) (h : zRun C 14 mPa_read [.ref x0, .ref x1] κ (oV F X)) (K : ∀ κ', zW C n0 κ' → zM (zn κ) κ κ' → F κ' → zG C n0 (d + 1) r (pc + 3) L (st) κ' Q) (KX : ∀ cls κ', X cls κ' → Q (.inr cls) κ') : zG C n0 (d + 1) r pc L (.ref x1 :: .ref x0 :: st) κ Q := by
  exact y_call (As := [.ref x1]) W hd ho (j := 143) (by decide +kernel) rfl ⟨rfl, by decide, by decide, by decide⟩ rfl (Nat.le_of_ble_eq_true rfl) h0 hc hB h (fun v κ' w9 m9 p9 => ezV K w9 m9 p9) (fun cls κ' p9 => KX cls κ' (thrV p9))
abbrev mCh_program : dM := (yX12_program, cX12_program, 3, (some .int), false, 15, 0)
theorem dX12_program_0 : decode cX12_program 0 = .ok (.iconst 1, 1) := by decide +kernel
theorem dX12_program_1 : decode cX12_program 1 = .ok (.istore_n 1, 1) := by decide +kernel
theorem dX12_program_2 : decode cX12_program 2 = .ok (.aload_n 0, 1) := by decide +kernel
theorem dX12_program_3 : decode cX12_program 3 = .ok (.getfield 31, 3) := by decide +kernel
theorem dX12_program_6 : decode cX12_program 6 = .ok (.aload_n 0, 1) := by decide +kernel
theorem dX12_program_7 : decode cX12_program 7 = .ok (.getfield 23, 3) := by decide +kernel
theorem dX12_program_10 : decode cX12_program 10 = .ok (.invokevirtual 123, 3) := by decide +kernel
theorem dX12_program_13 : decode cX12_program 13 = .ok (.goto 6, 3) := by decide +kernel
theorem dX12_program_19 : decode cX12_program 19 = .ok (.aload_n 0, 1) := by decide +kernel
theorem dX12_program_20 : decode cX12_program 20 = .ok (.getfield 12, 3) := by decide +kernel
theorem dX12_program_23 : decode cX12_program 23 = .ok (.iconst 0, 1) := by decide +kernel
theorem dX12_program_24 : decode cX12_program 24 = .ok (.putfield 100, 3) := by decide +kernel
theorem dX12_program_27 : decode cX12_program 27 = .ok (.aload_n 0, 1) := by decide +kernel
theorem dX12_program_28 : decode cX12_program 28 = .ok (.iload_n 1, 1) := by decide +kernel
theorem dX12_program_29 : decode cX12_program 29 = .ok (.ifCond .eq 7, 3) := by decide +kernel
theorem dX12_program_32 : decode cX12_program 32 = .ok (.iconst 0, 1) := by decide +kernel
theorem dX12_program_33 : decode cX12_program 33 = .ok (.goto 10, 3) := by decide +kernel
theorem dX12_program_36 : decode cX12_program 36 = .ok (.aload_n 0, 1) := by decide +kernel
theorem dX12_program_37 : decode cX12_program 37 = .ok (.getfield 31, 3) := by decide +kernel
theorem dX12_program_40 : decode cX12_program 40 = .ok (.getfield 128, 3) := by decide +kernel
theorem dX12_program_43 : decode cX12_program 43 = .ok (.putfield 131, 3) := by decide +kernel
theorem dX12_program_46 : decode cX12_program 46 = .ok (.iload_n 1, 1) := by decide +kernel
theorem dX12_program_47 : decode cX12_program 47 = .ok (.ifCond .ne 13, 3) := by decide +kernel
theorem dX12_program_50 : decode cX12_program 50 = .ok (.iconst (-1), 1) := by decide +kernel
theorem dX12_program_51 : decode cX12_program 51 = .ok (.aload_n 0, 1) := by decide +kernel
theorem dX12_program_52 : decode cX12_program 52 = .ok (.getfield 31, 3) := by decide +kernel
theorem dX12_program_55 : decode cX12_program 55 = .ok (.getfield 132, 3) := by decide +kernel
theorem dX12_program_58 : decode cX12_program 58 = .ok (.isub, 1) := by decide +kernel
theorem dX12_program_59 : decode cX12_program 59 = .ok (.ireturn, 1) := by decide +kernel
theorem dX12_program_60 : decode cX12_program 60 = .ok (.aload_n 0, 1) := by decide +kernel
theorem dX12_program_61 : decode cX12_program 61 = .ok (.getfield 19, 3) := by decide +kernel
theorem dX12_program_64 : decode cX12_program 64 = .ok (.astore_n 2, 1) := by decide +kernel
theorem dX12_program_65 : decode cX12_program 65 = .ok (.aload_n 0, 1) := by decide +kernel
theorem dX12_program_66 : decode cX12_program 66 = .ok (.aload_n 0, 1) := by decide +kernel
theorem dX12_program_67 : decode cX12_program 67 = .ok (.getfield 23, 3) := by decide +kernel
theorem dX12_program_70 : decode cX12_program 70 = .ok (.putfield 19, 3) := by decide +kernel
theorem dX12_program_73 : decode cX12_program 73 = .ok (.aload_n 0, 1) := by decide +kernel
theorem dX12_program_74 : decode cX12_program 74 = .ok (.aload_n 2, 1) := by decide +kernel
theorem dX12_program_75 : decode cX12_program 75 = .ok (.putfield 23, 3) := by decide +kernel
theorem dX12_program_78 : decode cX12_program 78 = .ok (.aload_n 0, 1) := by decide +kernel
theorem dX12_program_79 : decode cX12_program 79 = .ok (.iconst 1, 1) := by decide +kernel
theorem dX12_program_80 : decode cX12_program 80 = .ok (.putfield 135, 3) := by decide +kernel
theorem dX12_program_83 : decode cX12_program 83 = .ok (.aload_n 0, 1) := by decide +kernel
theorem dX12_program_84 : decode cX12_program 84 = .ok (.getfield 49, 3) := by decide +kernel
theorem dX12_program_87 : decode cX12_program 87 = .ok (.iconst 0, 1) := by decide +kernel
theorem dX12_program_88 : decode cX12_program 88 = .ok (.putfield 139, 3) := by decide +kernel
theorem dX12_program_91 : decode cX12_program 91 = .ok (.aload_n 0, 1) := by decide +kernel
theorem dX12_program_92 : decode cX12_program 92 = .ok (.getfield 61, 3) := by decide +kernel
theorem dX12_program_95 : decode cX12_program 95 = .ok (.iconst 0, 1) := by decide +kernel
theorem dX12_program_96 : decode cX12_program 96 = .ok (.putfield 142, 3) := by decide +kernel
theorem dX12_program_99 : decode cX12_program 99 = .ok (.aload_n 0, 1) := by decide +kernel
theorem dX12_program_100 : decode cX12_program 100 = .ok (.getfield 61, 3) := by decide +kernel
theorem dX12_program_103 : decode cX12_program 103 = .ok (.iconst 0, 1) := by decide +kernel
theorem dX12_program_104 : decode cX12_program 104 = .ok (.putfield 145, 3) := by decide +kernel
theorem dX12_program_107 : decode cX12_program 107 = .ok (.aload_n 0, 1) := by decide +kernel
theorem dX12_program_108 : decode cX12_program 108 = .ok (.iconst 0, 1) := by decide +kernel
theorem dX12_program_109 : decode cX12_program 109 = .ok (.putfield 148, 3) := by decide +kernel
theorem dX12_program_112 : decode cX12_program 112 = .ok (.aload_n 0, 1) := by decide +kernel
theorem dX12_program_113 : decode cX12_program 113 = .ok (.getfield 19, 3) := by decide +kernel
theorem dX12_program_116 : decode cX12_program 116 = .ok (.getfield 151, 3) := by decide +kernel
theorem dX12_program_119 : decode cX12_program 119 = .ok (.ireturn, 1) := by decide +kernel
def w_Ch_program_43 (C : zC) (n0 : Nat) (Q : Int32 → zS → Prop)  (a0 : Nat) (a1 : Int32) (s0 : Nat) (s1 : Int32) (κ : zS) : Prop :=
  ∀ κ1, κ1 = ui κ chFaultCode s0 s1 →
  ∀ _ : zW C n0 κ1,
  (¬ a1 = (0 : Int32) →
    ∀ v2_3 : Nat, v2_3 = (zR κ1 chCode a0) →
    ∀ κ4, κ4 = ur κ1 chCode a0 (zR κ1 chSpare a0) →
    ∀ _ : zW C n0 κ4,
    ∀ κ5, κ5 = ur κ4 chSpare a0 v2_3 →
    ∀ _ : zW C n0 κ5,
    ∀ κ8, κ8 = ui κ5 chReady a0 (1 : Int32) →
    ∀ _ : zW C n0 κ8,
    ∀ κ11, κ11 = ui κ8 atExplored (zR κ8 chAtlas a0) (0 : Int32) →
    ∀ _ : zW C n0 κ11,
    ∀ κ13, κ13 = ui κ11 soSolved (zR κ11 chSolver a0) (0 : Int32) →
    ∀ _ : zW C n0 κ13,
    ∀ κ15, κ15 = ui κ13 soPlanned (zR κ13 chSolver a0) (0 : Int32) →
    ∀ _ : zW C n0 κ15,
    ∀ κ16, κ16 = ui κ15 chPlayMade a0 (0 : Int32) →
    ∀ _ : zW C n0 κ16,
    Q (zI κ16 coStatements (zR κ16 chCode a0)) κ16) ∧
  (a1 = (0 : Int32) →
    Q ((-1 : Int32) - (zI κ1 paFaultPlace (zR κ1 chParser a0))) κ1)
theorem t_Ch_program_43 {C : zC} {n0 : Nat} {Q : Int32 → zS → Prop}   {a0 : Nat} {a1 : Int32} {s0 : Nat} {s1 : Int32} {κ : zS} (W : zW C n0 κ) (Ta0 : zT κ a0 = 15) (Ts0 : zT κ s0 = 15) (F : w_Ch_program_43 C n0 Q  a0 a1 s0 s1 κ) : zG C n0 15 mCh_program 43 [some (.ref a0), some (.int a1), none] [.int s1, .ref s0] κ (oI Q noX) := by
  unfold w_Ch_program_43 at F
  refine pf_X12_131 W dX12_program_43 rfl (Or.inl Ts0) (fun κ1 eκ1 => ?_)
  replace F := F κ1 eκ1
  have Wκ1 : zW C n0 κ1 := zW_ui W eκ1 (fun h => absurd h (by decide))
  have Mκ1 : zM (zn κ) κ κ1 := by rw [eκ1]; exact zM.of rfl rfl rfl
  replace F := F Wκ1
  refine y_iln dX12_program_46 rfl ?_
  refine y_in (a1 = (0 : Int32)) dX12_program_47 (t := 60) rfl rfl (fun c9 => ?_) (fun c9 => ?_)
  · replace F := F.1 c9
    refine y_aln dX12_program_60 rfl ?_
    have h2 := (ztm W Mκ1 Ta0)
    refine gf_X12_19 Wκ1 dX12_program_61 rfl h2 ?_
    refine y_asnb dX12_program_64 (Nat.le_of_ble_eq_true rfl) (fun v2_3 ev2_3 => ?_)
    replace F := F v2_3 ev2_3
    have Tv2_3 : zT κ1 v2_3 = 5 := by rw [ev2_3]; exact (ty_chCode Wκ1 h2)
    refine y_aln dX12_program_65 rfl ?_
    refine y_aln dX12_program_66 rfl ?_
    refine gf_X12_23 Wκ1 dX12_program_67 rfl h2 ?_
    refine pf_X12_19 Wκ1 dX12_program_70 rfl (Or.inl h2) (ty_chSpare Wκ1 h2) (fun κ4 eκ4 => ?_)
    replace F := F κ4 eκ4
    have Wκ4 : zW C n0 κ4 := zW_ur Wκ1 eκ4 (fun t ht => by cases ht; exact ⟨by decide, (ty_chSpare Wκ1 h2)⟩)
    have Mκ4 : zM (zn κ1) κ1 κ4 := by rw [eκ4]; exact zM.of rfl rfl rfl
    replace F := F Wκ4
    refine y_aln dX12_program_73 rfl ?_
    refine y_aln dX12_program_74 rfl ?_
    have h6 := (ztm Wκ1 Mκ4 Tv2_3)
    have h7 := (ztm Wκ1 Mκ4 h2)
    refine pf_X12_23 Wκ4 dX12_program_75 rfl (Or.inl h7) h6 (fun κ5 eκ5 => ?_)
    replace F := F κ5 eκ5
    have Wκ5 : zW C n0 κ5 := zW_ur Wκ4 eκ5 (fun t ht => by cases ht; exact ⟨by decide, h6⟩)
    have Mκ5 : zM (zn κ4) κ4 κ5 := by rw [eκ5]; exact zM.of rfl rfl rfl
    replace F := F Wκ5
    refine y_aln dX12_program_78 rfl ?_
    refine y_ic dX12_program_79 zi_1 ?_
    have h9 := (ztm Wκ4 Mκ5 h7)
    refine pf_X12_135 Wκ5 dX12_program_80 rfl (nb_nar nb_1) (Or.inl h9) (fun κ8 eκ8 => ?_)
    replace F := F κ8 eκ8
    have Wκ8 : zW C n0 κ8 := zW_ui Wκ5 eκ8 (fun _ => nb_1)
    have Mκ8 : zM (zn κ5) κ5 κ8 := by rw [eκ8]; exact zM.of rfl rfl rfl
    replace F := F Wκ8
    refine y_aln dX12_program_83 rfl ?_
    have h10 := (ztm Wκ5 Mκ8 h9)
    refine gf_X12_49 Wκ8 dX12_program_84 rfl h10 ?_
    refine y_ic dX12_program_87 zi_0 ?_
    refine pf_X12_139 Wκ8 dX12_program_88 rfl (nb_nar nb_0) (Or.inl (ty_chAtlas Wκ8 h10)) (fun κ11 eκ11 => ?_)
    replace F := F κ11 eκ11
    have Wκ11 : zW C n0 κ11 := zW_ui Wκ8 eκ11 (fun _ => nb_0)
    have Mκ11 : zM (zn κ8) κ8 κ11 := by rw [eκ11]; exact zM.of rfl rfl rfl
    replace F := F Wκ11
    refine y_aln dX12_program_91 rfl ?_
    have h12 := (ztm Wκ8 Mκ11 h10)
    refine gf_X12_61 Wκ11 dX12_program_92 rfl h12 ?_
    refine y_ic dX12_program_95 zi_0 ?_
    refine pf_X12_142 Wκ11 dX12_program_96 rfl (nb_nar nb_0) (Or.inl (ty_chSolver Wκ11 h12)) (fun κ13 eκ13 => ?_)
    replace F := F κ13 eκ13
    have Wκ13 : zW C n0 κ13 := zW_ui Wκ11 eκ13 (fun _ => nb_0)
    have Mκ13 : zM (zn κ11) κ11 κ13 := by rw [eκ13]; exact zM.of rfl rfl rfl
    replace F := F Wκ13
    refine y_aln dX12_program_99 rfl ?_
    have h14 := (ztm Wκ11 Mκ13 h12)
    refine gf_X12_61 Wκ13 dX12_program_100 rfl h14 ?_
    refine y_ic dX12_program_103 zi_0 ?_
    refine pf_X12_145 Wκ13 dX12_program_104 rfl (nb_nar nb_0) (Or.inl (ty_chSolver Wκ13 h14)) (fun κ15 eκ15 => ?_)
    replace F := F κ15 eκ15
    have Wκ15 : zW C n0 κ15 := zW_ui Wκ13 eκ15 (fun _ => nb_0)
    have Mκ15 : zM (zn κ13) κ13 κ15 := by rw [eκ15]; exact zM.of rfl rfl rfl
    replace F := F Wκ15
    refine y_aln dX12_program_107 rfl ?_
    refine y_ic dX12_program_108 zi_0 ?_
    have h17 := (ztm Wκ13 Mκ15 h14)
    refine pf_X12_148 Wκ15 dX12_program_109 rfl (nb_nar nb_0) (Or.inl h17) (fun κ16 eκ16 => ?_)
    replace F := F κ16 eκ16
    have Wκ16 : zW C n0 κ16 := zW_ui Wκ15 eκ16 (fun _ => nb_0)
    have Mκ16 : zM (zn κ15) κ15 κ16 := by rw [eκ16]; exact zM.of rfl rfl rfl
    replace F := F Wκ16
    refine y_aln dX12_program_112 rfl ?_
    have h18 := (ztm Wκ15 Mκ16 h17)
    refine gf_X12_19 Wκ16 dX12_program_113 rfl h18 ?_
    refine gf_X12_151 dX12_program_116 rfl (Or.inl (ty_chCode Wκ16 h18)) ?_
    exact y_ri Wκ16 dX12_program_119 rfl in_nar F
  · replace F := F.2 c9
    refine y_ic dX12_program_50 zi_m1 ?_
    refine y_aln dX12_program_51 rfl ?_
    have h19 := (ztm W Mκ1 Ta0)
    refine gf_X12_31 Wκ1 dX12_program_52 rfl h19 ?_
    refine gf_X12_132 dX12_program_55 rfl (Or.inl (ty_chParser Wκ1 h19)) ?_
    refine y_isub dX12_program_58 ?_
    exact y_ri Wκ1 dX12_program_59 rfl in_nar F

def w_Ch_program_19 (C : zC) (n0 : Nat) (Q : Int32 → zS → Prop)  (a0 : Nat) (a1 : Int32) (κ : zS) : Prop :=
  ∀ κ1, κ1 = ui κ taLength (zR κ chTape a0) (0 : Int32) →
  ∀ _ : zW C n0 κ1,
  (a1 = (0 : Int32) →
    w_Ch_program_43 C n0 Q  a0 a1 a0 (zI κ1 paFaultCode (zR κ1 chParser a0)) κ1) ∧
  (¬ a1 = (0 : Int32) →
    w_Ch_program_43 C n0 Q  a0 a1 a0 (0 : Int32) κ1)
theorem t_Ch_program_19 {C : zC} {n0 : Nat} {Q : Int32 → zS → Prop}   {a0 : Nat} {a1 : Int32} {κ : zS} (W : zW C n0 κ) (Ta0 : zT κ a0 = 15) (F : w_Ch_program_19 C n0 Q  a0 a1 κ) : zG C n0 15 mCh_program 19 [some (.ref a0), some (.int a1), none] [] κ (oI Q noX) := by
  unfold w_Ch_program_19 at F
  refine y_aln dX12_program_19 rfl ?_
  refine gf_X12_12 W dX12_program_20 rfl Ta0 ?_
  refine y_ic dX12_program_23 zi_0 ?_
  refine pf_X12_100 W dX12_program_24 rfl (Or.inl (ty_chTape W Ta0)) (fun κ1 eκ1 => ?_)
  replace F := F κ1 eκ1
  have Wκ1 : zW C n0 κ1 := zW_ui W eκ1 (fun h => absurd h (by decide))
  have Mκ1 : zM (zn κ) κ κ1 := by rw [eκ1]; exact zM.of rfl rfl rfl
  replace F := F Wκ1
  refine y_aln dX12_program_27 rfl ?_
  refine y_iln dX12_program_28 rfl ?_
  refine y_i (a1 = (0 : Int32)) dX12_program_29 (t := 36) rfl rfl (fun c9 => ?_) (fun c9 => ?_)
  · replace F := F.1 c9
    refine y_aln dX12_program_36 rfl ?_
    have h2 := (ztm W Mκ1 Ta0)
    refine gf_X12_31 Wκ1 dX12_program_37 rfl h2 ?_
    refine gf_X12_128 dX12_program_40 rfl (Or.inl (ty_chParser Wκ1 h2)) ?_
    exact y_k (t_Ch_program_43  Wκ1 h2 h2 F) ⟨rfl, rfl, trivial⟩
  · replace F := F.2 c9
    refine y_ic dX12_program_32 zi_0 ?_
    refine y_goto dX12_program_33 (t := 43) rfl ?_
    have h3 := (ztm W Mκ1 Ta0)
    exact y_k (t_Ch_program_43  Wκ1 h3 h3 F) ⟨rfl, rfl, trivial⟩


end
section
set_option maxHeartbeats 1600000
/-! the class: ChanceWorks.program, what it leaves -/
/-- the parser has read into the spare code -/
theorem chI_r9 {C : zC} {n0 a : Nat} {L L' : Int} {ρ : Nat → Nat} {κ τ : zS} (W : zW C n0 κ) (T : zT κ a = 15) (Z : zF (fun _ x => x = zR κ chParser a ∨ x = zR κ chTape a ∨ x = zR κ chSpare a) κ τ) (hA : (taI τ (zR κ chTape a) ∧ tokI τ (zR κ chTape a)) ∧ coI τ (zR κ chSpare a) ∧ (paL τ (zR κ chParser a) ∧ paC τ (zR κ chParser a)) ∧ zR τ paTape (zR κ chParser a) = zR κ chTape a) (hL : (zI τ taLength (zR κ chTape a)).toInt ≤ L') (I : chI9 ρ κ a L) : chI9 ρ τ a L' ∧ (∃ F, zF F κ τ) ∧ zI τ chTolds a = zI κ chTolds a := by
  obtain ⟨⟨A1, ⟨⟨A2, A3⟩, A4⟩, A5, A6⟩, B, ⟨C1, C2, C3, C4⟩, ⟨S1, S2⟩, ⟨D1, D2, D3, ⟨D4, D5⟩, D6, D7⟩, E0, L0, K0⟩ := I
  have tA := ty_chAtlas W T
  have tS := ty_chSolver W T
  have tO := ty_chOdds W T
  have tm := ty_chMachine W T
  have tP := ty_chParser W T
  have tt := ty_chTape W T
  have tp := ty_chSpare W T
  have tC := ty_chCode W T
  have no : ∀ x K, zT κ x = K → K ≠ 10 ∧ K ≠ 13 ∧ K ≠ 5 → ∀ f : Nat, ¬ (x = zR κ chParser a ∨ x = zR κ chTape a ∨ x = zR κ chSpare a) := fun x K h1 h2 f z => by
    rcases z with z | z | z
    · rw [z, tP] at h1; exact h2.1 h1.symm
    · rw [z, tt] at h1; exact h2.2.1 h1.symm
    · rw [z, tp] at h1; exact h2.2.2 h1.symm
  have nC : ∀ f : Nat, ¬ (zR κ chCode a = zR κ chParser a ∨ zR κ chCode a = zR κ chTape a ∨ zR κ chCode a = zR κ chSpare a) := fun f z => by
    rcases z with z | z | z
    · rw [z, tP] at tC; exact absurd tC (by decide)
    · rw [z, tt] at tC; exact absurd tC (by decide)
    · exact A4 z
  have E := chE_u9 W T Z (fun f _ => no a 15 T (by decide) f) E0
  have o := E.2.1
  have ma : maL κ (zR κ chMachine a) := by
    have y := B.1.2.1
    rw [B.2.1] at y
    exact y
  have hB := chB_u9 W T Z (fun f hf _ _ => o f hf) (fun f _ => no _ 3 tA (by decide) f) (fun f _ => no _ 6 (ty_atStates W tA) (by decide) f) (fun f _ => no _ 6 (ty_atEndings W tA) (by decide) f) (fun f _ => no _ 14 (ty_atWeb W tA) (by decide) f) (fun ex f _ => by rw [(B.2.2 ex).1.1]; exact nC f) (ma_u9 Z W tm (fun f _ => no _ 7 tm (by decide) f) ma) B
  have nS := no _ 12 tS (by decide)
  have hS := rs_h9 W tS C1 Z (fun f w y => no w 8 y (by decide) f) (fun f w y => no w 11 y (by decide) f) (fun f w y => no w 4 y (by decide) f) (fun f _ _ => nS f)
  have K1 := co_u9 Z W tC (fun f _ => nC f)
  have G := odd_u9 Z W tO (fun f _ => no _ 9 tO (by decide) f)
  have H := ho_u9 (M := 3000) (D := 3) (S := 8192) Z W (ty_odGroups W tO) (fun f _ => no _ 6 (ty_odGroups W tO) (by decide) f)
  have rS : ∀ f, zR τ f (zR κ chSolver a) = zR κ f (zR κ chSolver a) := fun f => Z.r (nS f)
  have iS : ∀ f, zI τ f (zR κ chSolver a) = zI κ f (zR κ chSolver a) := fun f => Z.i (nS f)
  have nv : zN τ (zR κ soVisits (zR κ chSolver a)) = zN κ (zR κ soVisits (zR κ chSolver a)) := Z.l (ty_soVisits W tS)
  have qw := (Z.row W (show zr soWorths = some 25 by decide +kernel) (by decide) (tS.trans (by decide)) (nS 0)).2.2
  rw [rS] at qw
  have nw : zN τ (zR κ soWorths (zR κ chSolver a)) = zN κ (zR κ soWorths (zR κ chSolver a)) := Z.l (ty_soWorths W tS)
  refine ⟨⟨⟨?_, ?_, ?_⟩, hB.1, ?_, ?_, ?_, E.1, ?_, ?_⟩, ⟨_, Z⟩, E.2.2⟩
  · rw [o chTape (by decide)]; exact hA.1
  · rw [o chCode (by decide), o chSpare (by decide)]
    exact ⟨⟨K1.1 A2, hA.2.1⟩, A4⟩
  · rw [o chParser (by decide), o chTape (by decide)]
    exact ⟨hA.2.2.1, hA.2.2.2⟩
  · unfold chC9
    rw [o chSolver (by decide), o chAtlas (by decide), o chShown (by decide), rS, rS, rS, Z.l (ty_soTaken W tS), hB.2.2.2 atWeb (by decide)]
    exact ⟨hS.1, C2, C3, C4⟩
  · unfold chS9
    rw [o chSolver (by decide), o chAtlas (by decide), iS, iS, rS, rS, nv, nw, qw, hB.2.2.1]
    refine ⟨fun z => ?_, fun z => ?_⟩
    · obtain ⟨x1, P9, x2, x3⟩ := S1 z
      refine ⟨x1, P9, x2, fun n hn => ?_⟩
      have y := x3 n ((hB.2.1 n).mp hn)
      exact ⟨vs_h9 W tS Z (fun f w y => no w 8 y (by decide) f) (fun f w y => no w 11 y (by decide) f) (fun f w y => no w 3 y (by decide) f) nS y.1, y.2⟩
    · obtain ⟨x1, x3⟩ := S2 z
      exact ⟨x1, fun n hn => x3 n ((hB.2.1 n).mp hn)⟩
  · unfold chD9
    rw [o chSolver (by decide), o chAtlas (by decide), o chOdds (by decide), G.2.2.2.2, G.2.2.1, G.2.2.2.1, G.1 odAtlas (by decide), G.1 odSolver (by decide), G.1 odCalc (by decide), G.1 odHeld (by decide), G.1 odGroups (by decide), rS, hB.2.2.2 atStates (by decide), hB.2.2.2 atEndings (by decide)]
    exact ⟨D1, D2, ⟨G.2.1 D3.1, D3.2⟩, ⟨H.1 D4, D5⟩, D6, D7⟩
  · rw [o chTape (by decide)]; exact hL
  · exact cK_z9 W T Z (o chSolver (by decide)) (o chOdds (by decide)) (fun b hb => no b 0 (zT_o9 W hb) (by decide) 0) (fun f _ => nS f) (Nat.le_of_eq (nE_z9 W tO Z (no _ 9 tO (by decide) 0)).symm) K0
/-- what a sound program stores -/
def swF9 (κ : zS) (a : Nat) : Nat → Nat → Prop := fun f x => (x = a ∧ (f = chCode ∨ f = chSpare ∨ f = chReady ∨ f = chPlayMade)) ∨ (x = zR κ chAtlas a ∧ f = atExplored) ∨ (x = zR κ chSolver a ∧ (f = soSolved ∨ f = soPlanned))
theorem chI_w9 {C : zC} {n0 a : Nat} {L : Int} {ρ : Nat → Nat} {κ τ : zS} (W : zW C n0 κ) (T : zT κ a = 15) (Z : zF (swF9 κ a) κ τ) (N : zN τ = zN κ) (R : ∀ f b, f ≠ chCode → f ≠ chSpare → zR τ f b = zR κ f b) (r1 : zR τ chCode a = zR κ chSpare a) (r2 : zR τ chSpare a = zR κ chCode a) (h0 : zI τ atExplored (zR κ chAtlas a) = 0) (h1 : zI τ soSolved (zR κ chSolver a) = 0) (h2 : zI τ soPlanned (zR κ chSolver a) = 0) (I : chI9 ρ κ a L) : chI9 ρ τ a L ∧ (∃ F, zF F κ τ) ∧ zI τ chTolds a = zI κ chTolds a := by
  obtain ⟨⟨A1, ⟨⟨A2, A3⟩, A4⟩, A5, A6⟩, ⟨⟨⟨b1, b2, b3, b4⟩, b5, ⟨b6, b7⟩, b8, b9⟩, c1, c2⟩, ⟨C1, C2, C3, C4⟩, _, ⟨D1, D2, D3, ⟨D4, D5⟩, D6, D7⟩, E0, L0, K0⟩ := I
  have tA := ty_chAtlas W T
  have tS := ty_chSolver W T
  have tO := ty_chOdds W T
  have tm := ty_atMachine W tA
  have no : ∀ x K, zT κ x = K → K ≠ 15 ∧ K ≠ 3 ∧ K ≠ 12 → ∀ f, ¬ swF9 κ a f x := fun x K h1 h2 f z => by
    rcases z with z | z | z
    · rw [z.1, T] at h1; exact h2.1 h1.symm
    · rw [z.1, tA] at h1; exact h2.2.1 h1.symm
    · rw [z.1, tS] at h1; exact h2.2.2 h1.symm
  have nS : ∀ f, f ≠ soSolved → f ≠ soPlanned → ¬ swF9 κ a f (zR κ chSolver a) := fun f h1 h2 z => by
    rcases z with z | z | z
    · have y := z.1
      rw [y, T] at tS; exact absurd tS (by decide)
    · have y := z.1
      rw [y, tA] at tS; exact absurd tS (by decide)
    · exact z.2.elim h1 h2
  have it : zI τ chTolds a = zI κ chTolds a := Z.i (fun z => by
    rcases z with z | z | z
    · exact absurd z.2 (by decide)
    · exact absurd z.2 (by decide)
    · exact absurd z.2 (by decide))
  have hS := rs_h9 W tS C1 Z (fun f w y => no w 8 y (by decide) f) (fun f w y => no w 11 y (by decide) f) (fun f w y => no w 4 y (by decide) f) nS
  have A := ta_u9 Z W (ty_chTape W T) (fun f _ => no _ 13 (ty_chTape W T) (by decide) f) A1
  have P := pa_u9 Z W (ty_chParser W T) (fun f _ => no _ 10 (ty_chParser W T) (by decide) f) A5
  have K1 := co_u9 Z W (ty_chCode W T) (fun f _ => no _ 5 (ty_chCode W T) (by decide) f)
  have K2 := co_u9 Z W (ty_chSpare W T) (fun f _ => no _ 5 (ty_chSpare W T) (by decide) f)
  have G := odd_u9 Z W tO (fun f _ => no _ 9 tO (by decide) f)
  have H := ho_u9 (M := 3000) (D := 3) (S := 8192) Z W (ty_odGroups W tO) (fun f _ => no _ 6 (ty_odGroups W tO) (by decide) f)
  have Hs := ho_u9 (M := 1000) (D := 142) (S := 2048) Z W (ty_atStates W tA) (fun f _ => no _ 6 (ty_atStates W tA) (by decide) f)
  have He := ho_u9 (M := 1000) (D := 35) (S := 2048) Z W (ty_atEndings W tA) (fun f _ => no _ 6 (ty_atEndings W tA) (by decide) f)
  have V := we_u9 Z W (ty_atWeb W tA) (fun f _ => no _ 14 (ty_atWeb W tA) (by decide) f)
  have mm := ma_u9 Z W tm (fun f _ => no _ 7 tm (by decide) f) b5
  have q : ∀ f b, f / 100 ≠ 15 → zR τ f b = zR κ f b := fun f b hf => R f b (fun e => hf (by rw [e]; rfl)) (fun e => hf (by rw [e]; rfl))
  refine ⟨⟨⟨?_, ?_, ?_⟩, ?_, ?_, ?_, ?_, ?_, ?_, ?_⟩, ⟨_, Z⟩, it⟩
  · rw [R chTape a (by decide) (by decide)]; exact A.1
  · rw [r1, r2]
    exact ⟨⟨K2.1 A3, K1.1 A2⟩, A4.symm⟩
  · rw [R chParser a (by decide) (by decide), R chTape a (by decide) (by decide)]
    exact ⟨P.1, P.2.trans A6⟩
  · unfold chB9 atI
    rw [R chAtlas a (by decide) (by decide), R chMachine a (by decide) (by decide), q atMachine _ (by decide), q atWeb _ (by decide), h0]
    refine ⟨⟨⟨?_, ?_, ⟨?_, ?_⟩, ?_⟩, mm, ⟨b6.elim (fun z => Or.inl (V.2.1 z)) (fun z => Or.inr (V.1 z)), V.2.2 b7⟩, nb_0, fun z => absurd rfl z⟩, c1, fun z => absurd rfl z⟩
    · unfold atU atM at b1 ⊢
      rw [q atPlan _ (by decide), q atFirsts _ (by decide), q atTotals _ (by decide), q atGains _ (by decide), q atChooses _ (by decide), q atHopeless _ (by decide), N]
      exact b1
    · unfold atL at b2 ⊢
      rw [q atSorts _ (by decide), q atNumbers _ (by decide), q atWeights _ (by decide), N]
      exact b2
    · rw [q atStates _ (by decide)]; exact Hs.1 b3.1
    · rw [q atEndings _ (by decide)]; exact He.1 b3.2
    · rw [q atStates _ (by decide), q atEndings _ (by decide)]; exact b4
  · unfold chC9
    rw [R chSolver a (by decide) (by decide), R chAtlas a (by decide) (by decide), R chShown a (by decide) (by decide), q soTaken _ (by decide), q soAtlas _ (by decide), q soWeb _ (by decide), q atWeb _ (by decide), N]
    exact ⟨hS.1, C2, C3, C4⟩
  · unfold chS9
    rw [R chSolver a (by decide) (by decide), h1, h2]
    exact ⟨fun z => absurd rfl z, fun z => absurd rfl z⟩
  · unfold chD9
    rw [R chSolver a (by decide) (by decide), R chAtlas a (by decide) (by decide), R chOdds a (by decide) (by decide), G.2.2.2.2, G.2.2.1, G.2.2.2.1, G.1 odAtlas (by decide), G.1 odSolver (by decide), G.1 odCalc (by decide), G.1 odHeld (by decide), G.1 odGroups (by decide), q soCalc _ (by decide), q atStates _ (by decide), q atEndings _ (by decide)]
    exact ⟨D1, D2, ⟨G.2.1 D3.1, D3.2⟩, ⟨H.1 D4, D5⟩, D6, D7⟩
  · unfold chE9 dwI9
    rw [R chTold a (by decide) (by decide), R chRecord a (by decide) (by decide), R chLastShared a (by decide) (by decide), R chDrawnWeights a (by decide) (by decide), R chDrawnTotals a (by decide) (by decide), it, N]
    exact E0
  · rw [R chTape a (by decide) (by decide), A.2]; exact L0
  · exact cK_z9 W T Z (R chSolver a (by decide) (by decide)) (R chOdds a (by decide) (by decide)) (fun b hb => no b 0 (zT_o9 W hb) (by decide) 0) (fun f hf => nS f (by rcases hf with y | y | y <;> rw [y] <;> decide) (by rcases hf with y | y | y <;> rw [y] <;> decide)) (Nat.le_of_eq (nE_z9 W tO Z (no _ 9 tO (by decide) _)).symm) K0
/-- behind the parser: faultCode stored, and a sound program taken -/
theorem pg_f9 {C : zC} {n0 a : Nat} {L : Int} {ρ : Nat → Nat} {κ : zS} {x y : Int32} (W : zW C n0 κ) (T : zT κ a = 15) (hl : zI κ taLength (zR κ chTape a) = 0) (I : chI9 ρ κ a L) : w_Ch_program_43 C n0 (fun v κ' => chI9 ρ κ' a L ∧ (∃ F, zF F κ κ') ∧ (oC9 κ' a = ((fun _ => 0, 0, y) : Ob9) ∧ (x = 0 → v = (-1 : Int32) - zI κ paFaultPlace (zR κ chParser a)) ∧ (¬ x = 0 → v = zI κ coStatements (zR κ chSpare a)) ∧ (x = 0 → kC7 κ κ' a ∧ kA8 κ κ' a) ∧ (¬ x = 0 → zI κ' chReady a ≠ 0 ∧ cu7 κ' (zR κ' chCode a) = cu7 κ (zR κ chSpare a) ∧ zI κ' atExplored (zR κ' chAtlas a) = 0)) ∧ zc κ' = zc κ) a x a y κ := by
  unfold w_Ch_program_43
  intro κ3 e3 W3
  have Z3 : zF (fun f b => b = a ∧ f = chFaultCode) κ κ3 := by rw [e3]; exact zF_ui ⟨rfl, rfl⟩
  have R3 : zR κ3 = zR κ := by rw [e3]; rfl
  have N3 : zN κ3 = zN κ := by rw [e3]; rfl
  have i3 : zI κ3 chTolds a = zI κ chTolds a := by rw [e3]; rfl
  have I3 : chI9 ρ κ3 a L := chI_o9 W T Z3 (fun f x z => z.1) (fun f _ _ _ => by rw [R3]) (by
    have E := I.2.2.2.2.2.1
    unfold chE9 dwI9 at E ⊢
    rw [R3, N3, i3]
    exact E) I
  have T3 := Z3.t T (by decide)
  have l3 : zI κ3 taLength (zR κ chTape a) = 0 := by rw [e3]; exact hl
  have f3 : zI κ3 chFaultCode a = y := by rw [e3]; exact if_pos ⟨rfl, rfl⟩
  have o3 : oC9 κ3 a = ((fun _ => 0, 0, y) : Ob9) := by
    unfold oC9
    rw [R3, l3, f3]
    exact mk_09
  have p3 : zI κ3 paFaultPlace (zR κ chParser a) = zI κ paFaultPlace (zR κ chParser a) := by rw [e3]; rfl
  refine ⟨fun c => ?_, fun c => ⟨I3, ⟨_, Z3⟩, ⟨o3, fun _ => by rw [R3, p3], fun z => absurd c z, fun _ => ⟨kC_z7 W T Z3 (fun z => absurd z.2 (by decide)) (fun z => absurd z.2 (by decide)) (fun f hf z => absurd hf (by rw [z.2]; decide)), kA_z8 W T Z3 (fun z => absurd z.2 (by decide)) (fun f hf _ z => absurd hf (by rw [z.2]; decide)) (fun f hf z => absurd hf (by rw [z.2]; decide)) (fun f hf z => absurd hf (by rw [z.2]; decide))⟩, fun z => absurd c z⟩, by rw [e3]; rfl⟩⟩
  intro v ev κ4 e4 W4 κ5 e5 W5 κ8 e8 W8 κ11 e11 W11 κ13 e13 W13 κ15 e15 W15 κ16 e16 W16
  have r4 : ∀ f b, f ≠ chCode → zR κ4 f b = zR κ3 f b := fun f b h => by rw [e4]; exact if_neg (fun z => h z.1)
  have r5 : ∀ f b, f ≠ chCode → f ≠ chSpare → zR κ5 f b = zR κ3 f b := fun f b h1 h2 => by rw [e5]; exact (if_neg (fun z => h2 z.1)).trans (r4 f b h1)
  have R8 : zR κ8 = zR κ5 := by rw [e8]; rfl
  have R11 : zR κ11 = zR κ5 := by rw [e11]; exact R8
  have R13 : zR κ13 = zR κ5 := by rw [e13]; exact R11
  have R15 : zR κ15 = zR κ5 := by rw [e15]; exact R13
  have R16 : zR κ16 = zR κ5 := by rw [e16]; exact R15
  have at5 : zR κ5 chAtlas a = zR κ3 chAtlas a := r5 _ _ (by decide) (by decide)
  have so5 : zR κ5 chSolver a = zR κ3 chSolver a := r5 _ _ (by decide) (by decide)
  rw [R8, at5] at e11
  rw [R11, so5] at e13
  rw [R13, so5] at e15
  have Z4 : zF (swF9 κ3 a) κ3 κ4 := by rw [e4]; exact zF_ur (Or.inl ⟨rfl, Or.inl rfl⟩) (show zr chCode = some 5 by decide +kernel) (by decide)
  have Z5 : zF (swF9 κ3 a) κ4 κ5 := by rw [e5]; exact zF_ur (Or.inl ⟨rfl, Or.inr (Or.inl rfl)⟩) (show zr chSpare = some 5 by decide +kernel) (by decide)
  have Z8 : zF (swF9 κ3 a) κ5 κ8 := by rw [e8]; exact zF_ui (Or.inl ⟨rfl, Or.inr (Or.inr (Or.inl rfl))⟩)
  have Z11 : zF (swF9 κ3 a) κ8 κ11 := by rw [e11]; exact zF_ui (Or.inr (Or.inl ⟨rfl, rfl⟩))
  have Z13 : zF (swF9 κ3 a) κ11 κ13 := by rw [e13]; exact zF_ui (Or.inr (Or.inr ⟨rfl, Or.inl rfl⟩))
  have Z15 : zF (swF9 κ3 a) κ13 κ15 := by rw [e15]; exact zF_ui (Or.inr (Or.inr ⟨rfl, Or.inr rfl⟩))
  have Z16 : zF (swF9 κ3 a) κ15 κ16 := by rw [e16]; exact zF_ui (Or.inl ⟨rfl, Or.inr (Or.inr (Or.inr rfl))⟩)
  have Z := (((((Z4.tr Z5).tr Z8).tr Z11).tr Z13).tr Z15).tr Z16
  have N16 : zN κ16 = zN κ3 := by rw [e16, e15, e13, e11, e8, e5, e4]; rfl
  have h0 : zI κ16 atExplored (zR κ3 chAtlas a) = 0 := by
    have y : zI κ11 atExplored (zR κ3 chAtlas a) = 0 := by rw [e11]; exact if_pos ⟨rfl, rfl⟩
    rw [e16, e15, e13]
    exact y
  have h1 : zI κ16 soSolved (zR κ3 chSolver a) = 0 := by
    have y : zI κ13 soSolved (zR κ3 chSolver a) = 0 := by rw [e13]; exact if_pos ⟨rfl, rfl⟩
    rw [e16, e15]
    exact y
  have h2 : zI κ16 soPlanned (zR κ3 chSolver a) = 0 := by
    have y : zI κ15 soPlanned (zR κ3 chSolver a) = 0 := by rw [e15]; exact if_pos ⟨rfl, rfl⟩
    rw [e16]
    exact y
  have c5 : zR κ5 chCode a = zR κ3 chSpare a := by
    have y : zR κ4 chCode a = zR κ3 chSpare a := by rw [e4]; exact if_pos ⟨rfl, rfl⟩
    rw [e5]
    exact y
  have s5 : zR κ5 chSpare a = zR κ3 chCode a := by
    rw [e5, ← ev]
    exact if_pos ⟨rfl, rfl⟩
  have l16 : zI κ16 taLength (zR κ chTape a) = 0 := by
    rw [e16, e15, e13, e11, e8, e5, e4]
    exact l3
  have f16 : zI κ16 chFaultCode a = y := by
    rw [e16, e15, e13, e11, e8, e5, e4]
    exact f3
  have o16 : oC9 κ16 a = ((fun _ => 0, 0, y) : Ob9) := by
    unfold oC9
    rw [R16, r5 chTape a (by decide) (by decide), R3, l16, f16]
    exact mk_09
  have v16 : zI κ16 coStatements (zR κ16 chCode a) = zI κ coStatements (zR κ chSpare a) := by
    rw [R16, c5, R3, e16, e15, e13, e11, e8, e5, e4, e3]
    rfl
  have n16 : un9 (swF9 κ3 a) (zR κ3 chSpare a) 5 := fun f hf z => by
    rcases z with ⟨_, z | z | z | z⟩ | ⟨_, z⟩ | ⟨_, z | z⟩ <;> exact absurd hf (by rw [z]; decide)
  have y16 : zI κ16 chReady a ≠ 0 := by
    have y8 : zI κ8 chReady a = 1 := by rw [e8]; exact if_pos ⟨rfl, rfl⟩
    have y : zI κ16 chReady a = 1 := by
      rw [e16, e15, e13, e11]
      exact y8
    rw [y]
    decide
  have K := chI_w9 W3 T3 Z N16 (fun f b g1 g2 => by rw [R16]; exact r5 f b g1 g2) (by rw [R16]; exact c5) (by rw [R16]; exact s5) h0 h1 h2 I3
  exact ⟨K.1, ⟨fun _ _ => True, (Z3.mono (fun _ _ _ => trivial)).tr (Z.mono (fun _ _ _ => trivial))⟩, ⟨o16, fun z => absurd z c, fun _ => v16, fun z => absurd z c, fun _ => ⟨y16, by rw [R16, c5]; exact (cu_f7 W3 (ty_chSpare W3 T3) Z n16).trans (by rw [R3]; exact cu_f7 W (ty_chSpare W T) Z3 (fun f hf z => absurd hf (by rw [z.2]; decide))), by rw [R16, at5]; exact h0⟩⟩, by rw [e16, e15, e13, e11, e8, e5, e4, e3]; rfl⟩
/-- behind the parser, from its own end -/
def pgR9 (κ κ1 : zS) (a : Nat) (x v : Int32) (κ' : zS) : Prop := oC9 κ' a = ((fun _ => 0, 0, if x = 0 then zI κ1 paFaultCode (zR κ chParser a) else 0) : Ob9) ∧ (x = 0 → v = (-1 : Int32) - zI κ1 paFaultPlace (zR κ chParser a)) ∧ (¬ x = 0 → v = zI κ1 coStatements (zR κ chSpare a)) ∧ (x = 0 → kC7 κ κ' a ∧ kA8 κ κ' a) ∧ (¬ x = 0 → zI κ' chReady a ≠ 0 ∧ cu7 κ' (zR κ' chCode a) = cu7 κ1 (zR κ chSpare a) ∧ zI κ' atExplored (zR κ' chAtlas a) = 0)
theorem pg_w9 {C : zC} {n0 a : Nat} {L : Int} {ρ : Nat → Nat} {κ κ1 : zS} {x : Int32} (W : zW C n0 κ) (T : zT κ a = 15) (h0 : 0 ≤ L) (I : chI9 ρ κ a L) (W1 : zW C n0 κ1) (F : rdF κ κ1 (zR κ chParser a) (zR κ chSpare a) ∧ paI κ1 (zR κ chParser a)) : w_Ch_program_19 C n0 (fun v κ' => chI9 ρ κ' a L ∧ (∃ F, zF F κ κ') ∧ pgR9 κ κ1 a x v κ' ∧ zc κ' = zc κ1) a x κ1 := by
  obtain ⟨⟨Z1, f2, f3, f4⟩, ⟨p1, p2, p3⟩, p4, p5, p6⟩ := F
  have lk := I.1.2.2.2
  rw [lk] at Z1 f2
  rw [f2] at p1 p2
  rw [f3] at p4
  have tt := ty_chTape W T
  have na : ∀ f : Nat, ¬ (a = zR κ chParser a ∨ a = zR κ chTape a ∨ a = zR κ chSpare a) := fun f z => by
    have y1 := ty_chParser W T
    have y3 := ty_chSpare W T
    rcases z with z | z | z
    · rw [← z, T] at y1; exact absurd y1 (by decide)
    · rw [← z, T] at tt; exact absurd tt (by decide)
    · rw [← z, T] at y3; exact absurd y3 (by decide)
  have rt : zR κ1 chTape a = zR κ chTape a := Z1.r (na 0)
  unfold w_Ch_program_19
  intro κ2 e2 W2
  rw [rt] at e2
  have Z2 : zF (fun _ x => x = zR κ chParser a ∨ x = zR κ chTape a ∨ x = zR κ chSpare a) κ κ2 := Z1.tr (by rw [e2]; exact zF_ui (Or.inr (Or.inl rfl)))
  have R2 : zR κ2 = zR κ1 := by rw [e2]; rfl
  have N2 : zN κ2 = zN κ1 := by rw [e2]; rfl
  have il : zI κ2 taLength (zR κ chTape a) = 0 := by rw [e2]; exact if_pos ⟨rfl, rfl⟩
  have ix : ∀ f b, f ≠ taLength → zI κ2 f b = zI κ1 f b := fun f b h => by rw [e2]; exact if_neg (fun z => h z.1)
  have q1 : taI κ2 (zR κ chTape a) := by
    have B := p1.1
    unfold taI at p1 ⊢
    rw [R2, N2, il, ix taTotal _ (by decide), t0i]
    exact ⟨⟨by decide, by omega, B.2.2⟩, p1.2⟩
  have q2 : tokI κ2 (zR κ chTape a) := by rw [e2]; exact p2
  have q4 : coI κ2 (zR κ chSpare a) := by
    have i5 : ∀ f, f ∈ coIf → f ≠ taLength := by decide
    exact coI_g p4 (fun f hf => ix f _ (i5 f hf)) (fun f _ => by rw [R2]) (fun f _ => by rw [N2]) (fun f _ => by rw [e2]; rfl)
  have q5 : paL κ2 (zR κ chParser a) := by
    unfold paL at p5 ⊢
    rw [R2, N2]
    exact p5
  have q6 : paC κ2 (zR κ chParser a) := by
    unfold paC at p6 ⊢
    rw [R2, N2, ix paOwns _ (by decide), ix paBlocks _ (by decide), ix paWaits _ (by decide)]
    exact p6
  have I2 := chI_r9 (L' := L) W T Z2 ⟨⟨q1, q2⟩, q4, ⟨q5, q6⟩, by rw [R2]; exact f2⟩ (by rw [il]; exact h0) I
  have T2 := Z2.t T (by decide)
  have pr1 : zR κ1 chParser a = zR κ chParser a := Z1.r (na 0)
  have ps1 : zR κ1 chSpare a = zR κ chSpare a := Z1.r (na 0)
  have kk : kC7 κ κ2 a := kC_z7 W T Z2 (na 0) (na 0) (fun f _ z => by
    have tc := ty_chCode W T
    have y1 := ty_chParser W T
    rcases z with z | z | z
    · rw [z, y1] at tc; exact absurd tc (by decide)
    · rw [z, tt] at tc; exact absurd tc (by decide)
    · exact I.1.2.1.2 z)
  have tA := ty_chAtlas W T
  have nz : ∀ x K, zT κ x = K → K ≠ 10 ∧ K ≠ 13 ∧ K ≠ 5 → ∀ _ : Nat, ¬ (x = zR κ chParser a ∨ x = zR κ chTape a ∨ x = zR κ chSpare a) := fun x K h1 h2 _ z => by
    have y1 := ty_chParser W T
    have y3 := ty_chSpare W T
    rcases z with z | z | z
    · rw [z, y1] at h1; exact h2.1 h1.symm
    · rw [z, tt] at h1; exact h2.2.1 h1.symm
    · rw [z, y3] at h1; exact h2.2.2 h1.symm
  have ka : kA8 κ κ2 a := kA_z8 W T Z2 (na 0) (fun f _ _ => nz _ 3 tA (by decide) f) (fun f _ => nz _ 6 (ty_atStates W tA) (by decide) f) (fun f _ => nz _ 6 (ty_atEndings W tA) (by decide) f)
  have cc : cu7 κ2 (zR κ chSpare a) = cu7 κ1 (zR κ chSpare a) := cu_f7 (F := fun f _ => f = taLength) W1 (Z1.t (ty_chSpare W T) (by decide)) (by rw [e2]; exact zF_ui rfl) (fun f hf z => absurd hf (by rw [z]; decide))
  have K : ∀ y, y = (if x = 0 then zI κ1 paFaultCode (zR κ chParser a) else 0) → w_Ch_program_43 C n0 (fun v κ' => chI9 ρ κ' a L ∧ (∃ F, zF F κ κ') ∧ pgR9 κ κ1 a x v κ' ∧ zc κ' = zc κ1) a x a y κ2 := fun y hy => by
    have z2 : zc κ2 = zc κ1 := by rw [e2]; rfl
    have k := pg_f9 (x := x) (y := y) W2 T2 (by rw [R2, rt]; exact il) I2.1
    unfold w_Ch_program_43 at k ⊢
    intro κ3 e3 W3
    obtain ⟨k1, k2⟩ := k κ3 e3 W3
    refine ⟨fun c v ev κ4 e4 W4 κ5 e5 W5 κ8 e8 W8 κ11 e11 W11 κ13 e13 W13 κ15 e15 W15 κ16 e16 W16 => ?_, fun c => ?_⟩
    · obtain ⟨k3, ⟨F3, k4⟩, ⟨k5, k7, k8, k9, k10⟩, k6⟩ := k1 c v ev κ4 e4 W4 κ5 e5 W5 κ8 e8 W8 κ11 e11 W11 κ13 e13 W13 κ15 e15 W15 κ16 e16 W16
      exact ⟨k3, ⟨fun _ _ => True, (Z2.mono (fun _ _ _ => trivial)).tr (k4.mono (fun _ _ _ => trivial))⟩, ⟨by rw [k5, hy], fun q => by rw [k7 q, R2, pr1, ix _ _ (by decide)], fun q => by rw [k8 q, R2, ps1, ix _ _ (by decide)], fun q => ⟨kC_t7 kk (k9 q).1, kA_t8 ka (k9 q).2⟩, fun q => ⟨(k10 q).1, (k10 q).2.1.trans (by rw [R2, ps1]; exact cc), (k10 q).2.2⟩⟩, k6.trans z2⟩
    · obtain ⟨k3, ⟨F3, k4⟩, ⟨k5, k7, k8, k9, k10⟩, k6⟩ := k2 c
      exact ⟨k3, ⟨fun _ _ => True, (Z2.mono (fun _ _ _ => trivial)).tr (k4.mono (fun _ _ _ => trivial))⟩, ⟨by rw [k5, hy], fun q => by rw [k7 q, R2, pr1, ix _ _ (by decide)], fun q => by rw [k8 q, R2, ps1, ix _ _ (by decide)], fun q => ⟨kC_t7 kk (k9 q).1, kA_t8 ka (k9 q).2⟩, fun q => ⟨(k10 q).1, (k10 q).2.1.trans (by rw [R2, ps1]; exact cc), (k10 q).2.2⟩⟩, k6.trans z2⟩
  exact ⟨fun c => K _ (by rw [if_pos c, R2, pr1, ix _ _ (by decide)]), fun c => K _ (by rw [if_neg c])⟩

end
section
set_option maxHeartbeats 1600000
/-! runs that make nothing don't ask how many cells there are -/
def fg9 (g : dG) : dG := (g.1, (none, g.2.1.2), g.2.2)
theorem n_getf9 {E : dE} {o len idx cs ss : Nat} {st : List Value} {h : dH} : dgetf E o len idx st (none, h.2) cs ss = (dgetf E o len idx st h cs ss).map fg9 := by
  unfold dgetf
  dsimp only
  repeat' split
  all_goals first | rfl | simp [fg9, Function.comp_def]
theorem n_gets9 {E : dE} {o len idx cs ss : Nat} {st : List Value} {h : dH} : dgets E o len idx st (none, h.2) cs ss = (dgets E o len idx st h cs ss).map fg9 := by
  unfold dgets
  repeat' split
  all_goals first | rfl | simp [fg9, Function.comp_def]
theorem n_putf9 {E : dE} {b o len idx cs ss : Nat} {ini : Bool} {st : List Value} {h : dH} : dputf E b o len idx ini st (none, h.2) cs ss = (dputf E b o len idx ini st h cs ss).map fg9 := by
  unfold dputf
  dsimp only
  repeat' split
  all_goals first | rfl | simp [fg9, Function.comp_def]
theorem n_aldI9 {t len cs ss : Nat} {st : List Value} {h : dH} : daldI t len st (none, h.2) cs ss = (daldI t len st h cs ss).map fg9 := by
  unfold daldI
  dsimp only
  repeat' split
  all_goals first | rfl | simp [fg9, Function.comp_def]
theorem n_aldL9 {len cs ss : Nat} {st : List Value} {h : dH} : daldL len st (none, h.2) cs ss = (daldL len st h cs ss).map fg9 := by
  unfold daldL
  dsimp only
  repeat' split
  all_goals first | rfl | simp [fg9, Function.comp_def]
theorem n_astI9 {b t len cs ss : Nat} {nr : Int32 → Int32} {st : List Value} {h : dH} : dastI b t len nr st (none, h.2) cs ss = (dastI b t len nr st h cs ss).map fg9 := by
  unfold dastI
  dsimp only
  repeat' split
  all_goals first | rfl | simp [fg9, Function.comp_def]
theorem n_astL9 {b len cs ss : Nat} {st : List Value} {h : dH} : dastL b len st (none, h.2) cs ss = (dastL b len st h cs ss).map fg9 := by
  unfold dastL
  dsimp only
  repeat' split
  all_goals first | rfl | simp [fg9, Function.comp_def]
theorem n_alen9 {len cs ss : Nat} {st : List Value} {h : dH} : dalen len st (none, h.2) cs ss = (dalen len st h cs ss).map fg9 := by
  unfold dalen
  dsimp only
  repeat' split
  all_goals first | rfl | simp [fg9, Function.comp_def]
theorem n_slen9 {E : dE} {len cs ss : Nat} {st : List Value} {h : dH} : dslen E len st (none, h.2) cs ss = (dslen E len st h cs ss).map fg9 := by
  unfold dslen
  repeat' split
  all_goals first | rfl | simp [fg9, Function.comp_def]
theorem n_sld9 {E : dE} {len cs ss : Nat} {st : List Value} {h : dH} : dsld E len st (none, h.2) cs ss = (dsld E len st h cs ss).map fg9 := by
  unfold dsld
  repeat' split
  all_goals first | rfl | simp [fg9, Function.comp_def]
theorem n_ldc9 {len n cs ss : Nat} {q : Option Value} {st : List Value} {h : dH} : dldc len n q st (none, h.2) cs ss = (dldc len n q st h cs ss).map fg9 := by
  unfold dldc
  repeat' split
  all_goals first | rfl | simp [fg9, Function.comp_def]
theorem n_aldQ9 {len cs ss : Nat} {st : List Value} {h : dH} : daldQ len st (none, h.2) cs ss = (daldQ len st h cs ss).map fg9 := by
  unfold daldQ
  dsimp only
  repeat' split
  all_goals first | rfl | simp [fg9, Function.comp_def]
theorem n_astQ9 {b len cs ss : Nat} {st : List Value} {h : dH} : dastQ b len st (none, h.2) cs ss = (dastQ b len st h cs ss).map fg9 := by
  unfold dastQ
  dsimp only
  repeat' split
  all_goals first | rfl | simp [fg9, Function.comp_def]
theorem n_min9 {len d cs ss : Nat} {st : List Value} {h : dH} : dmin len d st (none, h.2) cs ss = (dmin len d st h cs ss).map fg9 := by
  unfold dmin
  repeat' split
  all_goals first | rfl | simp [fg9, Function.comp_def]
theorem n_max9 {len d cs ss : Nat} {st : List Value} {h : dH} : dmax len d st (none, h.2) cs ss = (dmax len d st h cs ss).map fg9 := by
  unfold dmax
  repeat' split
  all_goals first | rfl | simp [fg9, Function.comp_def]
theorem n_minL9 {len d cs ss : Nat} {st : List Value} {h : dH} : dminL len d st (none, h.2) cs ss = (dminL len d st h cs ss).map fg9 := by
  unfold dminL
  repeat' split
  all_goals first | rfl | simp [fg9, Function.comp_def]
theorem n_absL9 {len d cs ss : Nat} {st : List Value} {h : dH} : dabsL len d st (none, h.2) cs ss = (dabsL len d st h cs ss).map fg9 := by
  unfold dabsL
  repeat' split
  all_goals first | rfl | simp [fg9, Function.comp_def]
theorem n_cpy9 {b len d cs ss : Nat} {st : List Value} {h : dH} : dcpy b len d st (none, h.2) cs ss = (dcpy b len d st h cs ss).map fg9 := by
  unfold dcpy
  dsimp only
  repeat' split
  all_goals first | rfl | simp [fg9, Function.comp_def]
theorem n_oi09 {d len cs ss : Nat} {st : List Value} {h : dH} : doi0 d len st (none, h.2) cs ss = (doi0 d len st h cs ss).map fg9 := by
  unfold doi0
  repeat' split
  all_goals first | rfl | simp [fg9, Function.comp_def]
theorem n_bi9 {E : dE} {b d o len idx cs ss : Nat} {st : List Value} {h : dH} : dbi E b d o len idx st (none, h.2) cs ss = (dbi E b d o len idx st h cs ss).map fg9 := by
  unfold dbi
  rw [n_min9 (h := h), n_max9 (h := h), n_minL9 (h := h), n_absL9 (h := h), n_cpy9 (h := h)]
  split <;> rfl
theorem n_oi9 {E : dE} {d o len idx cs ss : Nat} {st : List Value} {h : dH} : doi E d o len idx st (none, h.2) cs ss = (doi E d o len idx st h cs ss).map fg9 := by
  unfold doi
  rw [n_oi09 (h := h)]
  split <;> rfl
theorem n_or9 {x y : Option dG} : dor (x.map fg9) (y.map fg9) = (dor x y).map fg9 := by cases x <;> rfl
theorem n_use9 {x y : Option dG} {g : dG} (e : x = y.map fg9) (h : y = some g) : x = some (fg9 g) := by
  rw [e, h]; rfl
theorem n_heap9 {E : dE} {b d : Nat} {r : dM} {i : Instr} {len : Nat} {st : List Value} {h : dH} {cs ss : Nat} {g : dG} (hh : dheap E b d r i len st h cs ss = some g) (hc : g.2.2.1 = cs) : dheap E b d r i len st (none, h.2) cs ss = some (fg9 g) := by
  cases i
  case getfield idx => exact n_use9 (show dor _ _ = (dor _ _).map fg9 by rw [n_getf9, n_gets9, n_or9]) hh
  case putfield idx => exact n_use9 n_putf9 hh
  case iaload => exact n_use9 n_aldI9 hh
  case baload => exact n_use9 (show dor _ (dor _ _) = (dor _ (dor _ _)).map fg9 by rw [n_aldI9, n_aldI9, n_sld9, n_or9, n_or9]) hh
  case laload => exact n_use9 n_aldL9 hh
  case iastore => exact n_use9 n_astI9 hh
  case bastore =>
    refine n_use9 ?_ hh
    show (match dastI b 1 len (vp_nar .byte) st (none, h.2) cs ss with | some g => some g | none => dastI b 3 len (vp_nar .boolean) st (none, h.2) cs ss) = Option.map fg9 (match dastI b 1 len (vp_nar .byte) st h cs ss with | some g => some g | none => dastI b 3 len (vp_nar .boolean) st h cs ss)
    rw [n_astI9 (h := h), n_astI9 (h := h)]
    cases dastI b 1 len (vp_nar .byte) st h cs ss <;> rfl
  case lastore => exact n_use9 n_astL9 hh
  case arraylength => exact n_use9 (show dor _ _ = (dor _ _).map fg9 by rw [n_alen9, n_slen9, n_or9]) hh
  case newarray at0 =>
    exfalso
    have hh : dnewa len at0 st h cs ss = some g := hh
    unfold dnewa at hh
    repeat' split at hh
    all_goals first | (cases hh; done) | (cases hh; exact absurd hc (by show ¬ cs + 1 = cs; omega))
  case new idx =>
    exfalso
    have hh : dnewo E r.2.2.2.2.2.1 len idx st h cs ss = some g := hh
    unfold dnewo at hh
    repeat' split at hh
    all_goals first | (cases hh; done) | (cases hh; exact absurd hc (by show ¬ cs + 1 = cs; omega))
  case anewarray idx =>
    exfalso
    have hh : dnewq E r.2.2.2.2.2.1 len idx st h cs ss = some g := hh
    unfold dnewq at hh
    repeat' split at hh
    all_goals first | (cases hh; done) | (cases hh; exact absurd hc (by show ¬ cs + 1 = cs; omega))
  case aaload => exact n_use9 n_aldQ9 hh
  case aastore => exact n_use9 n_astQ9 hh
  case invokestatic idx => exact n_use9 n_bi9 hh
  case invokespecial idx => exact n_use9 n_oi9 hh
  case getstatic idx => exact n_use9 n_ldc9 hh
  case ldc idx =>
    refine n_use9 ?_ hh
    show (match dldc len 2 ((eCN E r.2.2.2.2.2.1 idx).map Value.int) st (none, h.2) cs ss with | some g => some g | none => dldc len 2 ((eSR E r.2.2.2.2.2.1 idx).map Value.ref) st (none, h.2) cs ss) = Option.map fg9 (match dldc len 2 ((eCN E r.2.2.2.2.2.1 idx).map Value.int) st h cs ss with | some g => some g | none => dldc len 2 ((eSR E r.2.2.2.2.2.1 idx).map Value.ref) st h cs ss)
    rw [n_ldc9 (h := h), n_ldc9 (h := h)]
    cases dldc len 2 ((eCN E r.2.2.2.2.2.1 idx).map Value.int) st h cs ss <;> rfl
  case ldc_w idx => exact n_use9 n_ldc9 hh
  case ldc2_w idx => exact n_use9 n_ldc9 hh
  all_goals cases hh

end
section
set_option maxHeartbeats 1600000
/-! ChanceWorks.program: its run, with what it catches -/
theorem n_us09 {x y : Option dG} (e : x = y.map fg9) (h : y = none) : x = none := by
  rw [e, h]; rfl
theorem n_hea9 {E : dE} {b d : Nat} {r : dM} {i : Instr} {len : Nat} {st : List Value} {h : dH} {cs ss : Nat} (hh : dheap E b d r i len st h cs ss = none) : dheap E b d r i len st (none, h.2) cs ss = none := by
  cases i
  case getfield idx => exact n_us09 (show dor _ _ = (dor _ _).map fg9 by rw [n_getf9, n_gets9, n_or9]) hh
  case putfield idx => exact n_us09 n_putf9 hh
  case iaload => exact n_us09 n_aldI9 hh
  case baload => exact n_us09 (show dor _ (dor _ _) = (dor _ (dor _ _)).map fg9 by rw [n_aldI9, n_aldI9, n_sld9, n_or9, n_or9]) hh
  case laload => exact n_us09 n_aldL9 hh
  case iastore => exact n_us09 n_astI9 hh
  case bastore =>
    refine n_us09 ?_ hh
    show (match dastI b 1 len (vp_nar .byte) st (none, h.2) cs ss with | some g => some g | none => dastI b 3 len (vp_nar .boolean) st (none, h.2) cs ss) = Option.map fg9 (match dastI b 1 len (vp_nar .byte) st h cs ss with | some g => some g | none => dastI b 3 len (vp_nar .boolean) st h cs ss)
    rw [n_astI9 (h := h), n_astI9 (h := h)]
    cases dastI b 1 len (vp_nar .byte) st h cs ss <;> rfl
  case lastore => exact n_us09 n_astL9 hh
  case arraylength => exact n_us09 (show dor _ _ = (dor _ _).map fg9 by rw [n_alen9, n_slen9, n_or9]) hh
  case newarray at0 =>
    show dnewa len at0 st (none, h.2) cs ss = none
    unfold dnewa
    repeat' split
    all_goals first | rfl | contradiction
  case new idx =>
    show dnewo E r.2.2.2.2.2.1 len idx st (none, h.2) cs ss = none
    unfold dnewo
    repeat' split
    all_goals first | rfl | contradiction
  case anewarray idx =>
    show dnewq E r.2.2.2.2.2.1 len idx st (none, h.2) cs ss = none
    unfold dnewq
    repeat' split
    all_goals first | rfl | contradiction
  case aaload => exact n_us09 n_aldQ9 hh
  case aastore => exact n_us09 n_astQ9 hh
  case invokestatic idx => exact n_us09 n_bi9 hh
  case invokespecial idx => exact n_us09 n_oi9 hh
  case getstatic idx => exact n_us09 n_ldc9 hh
  case ldc idx =>
    refine n_us09 ?_ hh
    show (match dldc len 2 ((eCN E r.2.2.2.2.2.1 idx).map Value.int) st (none, h.2) cs ss with | some g => some g | none => dldc len 2 ((eSR E r.2.2.2.2.2.1 idx).map Value.ref) st (none, h.2) cs ss) = Option.map fg9 (match dldc len 2 ((eCN E r.2.2.2.2.2.1 idx).map Value.int) st h cs ss with | some g => some g | none => dldc len 2 ((eSR E r.2.2.2.2.2.1 idx).map Value.ref) st h cs ss)
    rw [n_ldc9 (h := h), n_ldc9 (h := h)]
    cases dldc len 2 ((eCN E r.2.2.2.2.2.1 idx).map Value.int) st h cs ss <;> rfl
  case ldc_w idx => exact n_us09 n_ldc9 hh
  case ldc2_w idx => exact n_us09 n_ldc9 hh
  all_goals rfl
theorem n_inv9 {E : dE} {o : Nat} {i : Instr} {len : Nat} {st : List Value} {h : dH} : dinv E o i len st (none, h.2) = dinv E o i len st h := by
  cases i <;> rfl
/-- a run that makes nothing goes the same way where the number of cells isn't known -/
theorem drun_none9 {E : dE} {b : Nat} : ∀ (n d : Nat) (r : dM) (pc : Nat) (lo : dL0) (st : List Value) (h : dH) (cs ss : Nat) (z : dZ), drun E b n d r pc lo st h cs ss = some z → z.2.2.1 = cs → drun E b n d r pc lo st (none, h.2) cs ss = some (z.1, (none, z.2.1.2), z.2.2) := by
  intro n
  induction n with
  | zero => intro d r pc lo st h cs ss z hh; cases hh
  | succ n ih =>
    intro d r pc lo st h cs ss z hh hc
    obtain ⟨i, len, hd, hs⟩ := drun_split hh
    rw [drun, hd]
    dsimp only
    rcases hs with ⟨w, g1, g2⟩ | ⟨g, g0, g1, g2⟩ | ⟨v, g0, g1, g2, g3⟩ | ⟨d', y, w, rfl, g0, g1, g2, g3, g4, g5⟩
    · rw [g1]
      exact ih _ _ _ _ _ _ _ _ _ g2 hc
    · rw [g0]
      dsimp only
      have m1 := (drun_mono _ _ _ _ _ _ _ _ _ _ g2).1
      have m2 := (dheap_mono g1).1
      have e : g.2.2.1 = cs := by omega
      rw [n_heap9 g1 e]
      have k : z.2.2.1 = g.2.2.1 := by omega
      exact ih _ _ _ _ _ _ _ _ _ g2 k
    · rw [g0]
      dsimp only
      rw [n_hea9 g1]
      dsimp only
      rw [g2, g3]
    · rw [g0]
      dsimp only
      rw [n_hea9 g1]
      dsimp only
      rw [g2]
      dsimp only
      rw [n_inv9, g3]
      dsimp only
      have m1 := (drun_mono _ _ _ _ _ _ _ _ _ _ g5).1
      rw [ih _ _ _ _ _ _ _ _ _ g4 (by omega)]
      have k : z.2.2.1 = cs + w.2.2.1 := by omega
      exact ih _ _ _ _ _ _ _ _ _ g5 k
/-- a run that catches nothing -/
theorem drunC_of9 {E : dE} {X : dX} {XH : Nat → Option String} {hx : dHH} {b : Nat} : ∀ (n d : Nat) (r : dM) (pc : Nat) (lo : dL0) (st : List Value) (h : dH) (cs ss : Nat) (z : dZ), drun E b n d r pc lo st h cs ss = some z → drunC E X XH hx b n d r pc lo st h cs ss = some z := by
  intro n
  induction n with
  | zero => intro d r pc lo st h cs ss z hh; cases hh
  | succ n ih =>
    intro d r pc lo st h cs ss z hh
    obtain ⟨i, len, hd, hs⟩ := drun_split hh
    rw [drunC, hd]
    dsimp only
    rcases hs with ⟨w, g1, g2⟩ | ⟨g, g0, g1, g2⟩ | ⟨v, g0, g1, g2, g3⟩ | ⟨d', y, w, rfl, g0, g1, g2, g3, g4, g5⟩
    · rw [g1]
      exact ih _ _ _ _ _ _ _ _ _ g2
    · rw [g0]
      dsimp only
      rw [g1]
      exact ih _ _ _ _ _ _ _ _ _ g2
    · rw [g0]
      dsimp only
      rw [g1]
      dsimp only
      rw [g2, g3]
    · rw [g0]
      dsimp only
      rw [g1]
      dsimp only
      rw [g2]
      dsimp only
      rw [g3]
      dsimp only
      rw [g4]
      exact ih _ _ _ _ _ _ _ _ _ g5

end
section
set_option maxHeartbeats 1600000
/-! ChanceWorks.program: its run -/
theorem dX12_program_16 : decode cX12_program 16 = .ok (.astore_n 2, 1) := by decide +kernel
theorem dX12_program_17 : decode cX12_program 17 = .ok (.iconst 0, 1) := by decide +kernel
theorem dX12_program_18 : decode cX12_program 18 = .ok (.istore_n 1, 1) := by decide +kernel
theorem gc_p9 {E : dE} {X : dX} {XH : Nat → Option String} {hx : dHH} {b n d : Nat} {r : dM} {pc : Nat} {lo : dL0} {st : List Value} {h : dH} {cs ss : Nat} {z : dZ} {i : Instr} {len : Nat} {w : Nat × dL0 × List Value} (hd : decode r.2.1 pc = .ok (i, len)) (hp : dpure i len pc r.2.2.1 lo st = some w) (K : drunC E X XH hx b n d r w.1 w.2.1 w.2.2 h cs ss = some z) : drunC E X XH hx b (n + 1) d r pc lo st h cs ss = some z := by
  rw [drunC, hd]
  dsimp only
  rw [hp]
  exact K
theorem gc_h9 {E : dE} {X : dX} {XH : Nat → Option String} {hx : dHH} {b n d : Nat} {r : dM} {pc : Nat} {lo : dL0} {st : List Value} {h : dH} {cs ss : Nat} {z : dZ} {i : Instr} {len : Nat} {g : dG} (hd : decode r.2.1 pc = .ok (i, len)) (hp : dpure i len pc r.2.2.1 lo st = none) (hg : dheap E b d r i len st h cs ss = some g) (K : drunC E X XH hx b n d r (pc + len) lo g.1 g.2.1 g.2.2.1 g.2.2.2 = some z) : drunC E X XH hx b (n + 1) d r pc lo st h cs ss = some z := by
  rw [drunC, hd]
  dsimp only
  rw [hp]
  dsimp only
  rw [hg]
  exact K
/-- a call that returns -/
theorem gc_r9 {E : dE} {X : dX} {XH : Nat → Option String} {hx : dHH} {b n d : Nat} {r : dM} {pc : Nat} {lo : dL0} {st : List Value} {h : dH} {cs ss : Nat} {z w : dZ} {i : Instr} {len : Nat} {y : dV} (hd : decode r.2.1 pc = .ok (i, len)) (hp : dpure i len pc r.2.2.1 lo st = none) (hg : dheap E b (d + 1) r i len st h cs ss = none) (hy : dinv E r.2.2.2.2.2.1 i len st h = some y) (hr : drun E b n d y.1 0 (dent y.2.1) [] h 0 0 = some w) (K : drunC E X XH hx b n (d + 1) r (pc + 3) lo (w.1.toList ++ y.2.2) w.2.1 (cs + w.2.2.1) (ss + w.2.2.2) = some z) : drunC E X XH hx b (n + 1) (d + 1) r pc lo st h cs ss = some z := by
  rw [drunC, hd]
  dsimp only
  rw [hp]
  dsimp only
  rw [hg]
  dsimp only
  rw [dinv_ret (r := r) hy]
  dsimp only
  rw [hy]
  dsimp only
  rw [hr]
  exact K
/-- a call that throws, and is caught -/
theorem gc_x9 {E : dE} {X : dX} {XH : Nat → Option String} {hx : dHH} {b n d idx hp0 : Nat} {k : Fin 4} {r : dM} {pc : Nat} {lo : dL0} {st : List Value} {h : dH} {cs ss : Nat} {z : dZ} {w : dY} {len : Nat} {y : dV} (hd : decode r.2.1 pc = .ok (.invokevirtual idx, len)) (hp : dpure (.invokevirtual idx) len pc r.2.2.1 lo st = none) (hg : dheap E b (d + 1) r (.invokevirtual idx) len st h cs ss = none) (hy : dinv E r.2.2.2.2.2.1 (.invokevirtual idx) len st h = some y) (hn : drun E b n d y.1 0 (dent y.2.1) [] h 0 0 = none) (hr : drunX E X b n d y.1 0 (dent y.2.1) [] h 0 0 = some w) (hf : dfind XH pc w.1 hx = some hp0) (hd2 : decode r.2.1 hp0 = .ok (.astore_n k, 1)) (hk : (k : Nat) < r.2.2.1) (K : drunC E X XH hx b n (d + 1) r (hp0 + 1) (dclr lo (k : Nat)) [] w.2.1 (cs + w.2.2.1) (ss + w.2.2.2) = some z) : drunC E X XH hx b (n + 1) (d + 1) r pc lo st h cs ss = some z := by
  rw [drunC, hd]
  try dsimp only
  rw [hp]
  try dsimp only
  rw [hg]
  try dsimp only
  rw [dinv_ret (r := r) hy]
  try dsimp only
  rw [hy]
  try dsimp only
  rw [hn]
  try dsimp only
  rw [hr]
  try dsimp only
  rw [hf]
  try dsimp only
  rw [hd2]
  exact (if_pos hk).trans K

end
