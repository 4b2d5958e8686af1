section
set_option maxHeartbeats 1600000
/-! the class: ending by what it answers -/
section
variable {κ : zS} {a nv s w : Nat} {σ : rS}
/-- how many shared names there are, of both sides -/
theorem sh_8 (cr : CR7 nv s w (cu7 κ (zR κ chCode a)) σ) : (zI κ coVars (zR κ chCode a)).toInt + (zI κ coCells (zR κ chCode a)).toInt = w ∧ (σ.1 15 + σ.1 17).toInt = w ∧ w ≤ 34 := by
  obtain ⟨T, X, Bk, N, Z, na, f, _, F, _, _, ⟨w1, w2, w3⟩, _⟩ := cr
  obtain ⟨⟨⟨a0, a1⟩, _⟩, ⟨_, c1, _⟩, _, _, _, _, _, ⟨_, _, gl3, gl4, _⟩, _⟩ := F
  have i1 : (cu7 κ (zR κ chCode a)).1 509 = zI κ coVars (zR κ chCode a) := by
    show (if 509 ∈ ci6 then zI κ 509 (zR κ chCode a) else 0) = _
    rw [if_pos (by decide)]
  have i2 : (cu7 κ (zR κ chCode a)).1 511 = zI κ coCells (zR κ chCode a) := by
    show (if 511 ∈ ci6 then zI κ 511 (zR κ chCode a) else 0) = _
    rw [if_pos (by decide)]
  have s15 : σ.1 15 = Int32.ofNat nv := by rw [si1, if_neg (by decide)] at c1; exact c1
  have s17 : σ.1 17 = zI κ coCells (zR κ chCode a) := by
    rw [si1, if_neg (by decide)] at gl3
    rw [← i2]
    exact gl3.symm
  rw [i2] at w3 gl4
  have v1 : zI κ coVars (zR κ chCode a) = Int32.ofNat nv := i1.symm.trans a0
  have l1 := ofn_i (n := nv) (by omega)
  refine ⟨by rw [v1, l1]; omega, ?_, w2⟩
  rw [s15, s17, add_i (by rw [l1]; omega) (by rw [l1]; omega), l1]
  omega
end
theorem ix_8 {k i : Int32} (k0 : 0 ≤ k.toInt) (k1 : k.toInt < 1000) (i0 : -1 ≤ i.toInt) (i1 : i.toInt < 34) : ((((35 : Int32) * k) + (1 : Int32)) + i).toNatClampNeg = (35 * k.toInt + 1 + i.toInt).toNat := by
  have t35 : (35 : Int32).toInt = 35 := rfl
  have e1 : ((35 : Int32) * k).toInt = 35 * k.toInt := by rw [mul_i (by rw [t35]; omega) (by rw [t35]; omega), t35]
  have e2 : (((35 : Int32) * k) + (1 : Int32)).toInt = 35 * k.toInt + 1 := by rw [add_i (by rw [e1, t1i]; omega) (by rw [e1, t1i]; omega), e1, t1i]
  rw [nc_5, add_i (by rw [e2]; omega) (by rw [e2]; omega), e2]
theorem Ch_ending_c8 {C : zC} {n0 : Nat} {a0 : Nat} {a1 : Int32} {a2 : Int32} {κ : zS} {Q : Int32 → zS → Prop} {X : zXp} (W : zW C n0 κ) (Ta0 : zT κ a0 = 15) (ρ : Nat → Nat) (L9 : Int) (σ9 : rS) (hr8 : RC8 κ a0 σ9) (hp : chI9 ρ κ a0 L9) (h : ∀ (v : Int32) (κ' : zS), (κ = κ' ∧ ec8 σ9 a1 a2 ∧ v = ev8 σ9 a1 a2) → Q v κ') (hx : ∀ (cls : String) (κ' : zS), (cls = "java/lang/IndexOutOfBoundsException" ∧ κ' = ut κ ∧ ¬ ec8 σ9 a1 a2) → X cls κ') : zRun C 8 mCh_ending [.ref a0, .int a1, .int a2] κ (oI Q X) := by
  refine Ch_ending_run W Ta0 ?_
  replace W := W.lo (Nat.le_trans W.1.2.1 W.1.2.2) (Nat.le_refl (zn κ))
  unfold w_Ch_ending_0
  intro T1
  refine At_holdsEnding_c8 W T1  (fun r2 q4 => ?_)
  intro W5
  intro M6
  refine ⟨fun c7 => ?_, fun c7 => ?_⟩
  · intro κ_8 hκ_8
    exact hx _ _ ⟨rfl, hκ_8, fun z => q4.2.mpr ((he_8 hr8).mpr ⟨z.1, z.2.1⟩) c7⟩
  · have S := (he_8 hr8).mp (q4.2.mp c7)
    obtain ⟨nv, s, w, cr, n, m, x, ⟨f1, f2, f3⟩, ⟨b1, b2, b3⟩, ⟨v1, v2, v3⟩, _, hE, _⟩ := (hr8.2.2.1 S.1).1
    obtain ⟨s1, s2, s3⟩ := sh_8 cr
    have v2' : zI κ hoTotal (zR κ atEndings (zR κ chAtlas a0)) = Int32.ofNat m := v2
    have k0 := S.2.1
    have k1 := S.2.2
    rw [lei, t0i] at k0
    rw [lti, f2, ofn_i (by omega)] at k1
    have kn := cnk k0
    obtain ⟨K, g1, g2, g3⟩ := hE a1.toNatClampNeg (by omega)
    have hk : hk9 κ (zR κ atEndings (zR κ chAtlas a0)) K ((w + 1 : Nat) : Int) a1.toNatClampNeg := by
      unfold hk9
      rw [v2', ofn_i (by omega)]
      exact g3
    refine ⟨fun c9 => ?_, fun c9 => ?_⟩
    · intro κ_10 hκ_10
      exact hx _ _ ⟨rfl, hκ_10, fun z => absurd c9 (Int32.not_lt.mpr z.2.2.1)⟩
    · intro T11
      refine Co_shared_c W5 T11  ?_ (fun r12 q14 => ?_)
      · exact hp.1.2.1.1.1
      intro W15
      intro M16
      have r9 : r12 = σ9.1 15 + σ9.1 17 := Int32.toInt_inj.mp (by rw [q14, s1, s2])
      refine ⟨fun c17 => ?_, fun c17 => ?_⟩
      · have cc : ec8 σ9 a1 a2 := ⟨S.1, S.2, Int32.not_lt.mp c9, by rw [← r9]; exact c17⟩
        have j0 := cc.2.2.1
        have j1 := cc.2.2.2
        rw [lei, show (-1 : Int32).toInt = -1 from rfl] at j0
        rw [lti, s2] at j1
        refine ⟨fun c18 => ?_, fun c18 => ?_⟩
        · intro T19
          refine Ho_part_c2 W15 T19 1000 35 2048 ?_ (fun r20 q22 => ?_)
          · exact ⟨hp.2.1.1.1.2.2.1.2, Or.inr (Or.inl ⟨rfl, rfl, rfl⟩)⟩
          intro W23
          intro M24
          have j2 : 0 ≤ a2.toInt := by
            have y : a2.toInt ≠ -1 := fun e => c18 (Int32.toInt_inj.mp (by rw [e]; rfl))
            omega
          have jn := cnk j2
          refine h _ _ ⟨rfl, cc, ?_⟩
          unfold ev8
          rw [q22, pV9_k k0 hk j2 (by omega), ix_8 k0 (by omega) j0 (by omega), g1 a2.toNatClampNeg (by omega), show (35 * a1.toInt + 1 + a2.toInt).toNat = 35 * a1.toNatClampNeg + 1 + a2.toNatClampNeg by omega]
        · intro T25
          refine Co_shared_c W15 T25  ?_ (fun r26 q28 => ?_)
          · exact hp.1.2.1.1.1
          intro W29
          intro M30
          intro T31
          refine Ho_part_c2 W29 T31 1000 35 2048 ?_ (fun r32 q34 => ?_)
          · exact ⟨hp.2.1.1.1.2.2.1.2, Or.inr (Or.inl ⟨rfl, rfl, rfl⟩)⟩
          intro W35
          intro M36
          refine h _ _ ⟨rfl, cc, ?_⟩
          have rw9 : r26.toInt = w := by rw [q28, s1]
          have rn := cnk (x := r26) (by omega)
          have e2 : a2.toInt = -1 := by rw [c18]; rfl
          unfold ev8
          rw [q34, pV9_k k0 hk (by omega) (by omega), ix_8 k0 (by omega) j0 (by omega), show r26.toNatClampNeg = w by omega, g2, show (35 * a1.toInt + 1 + a2.toInt).toNat = 35 * a1.toNatClampNeg by omega]
      · intro κ_37 hκ_37
        exact hx _ _ ⟨rfl, hκ_37, fun z => c17 (by rw [r9]; exact z.2.2.2)⟩

end
section
set_option maxHeartbeats 1600000
/-! the class: value by what it answers -/
/-- a state's row as the class reads it -/
def SF8 (κ : zS) (t : Nat) (K : Nat → Int32) (w d : Nat) (k : Int32) : Prop := 0 ≤ k.toInt ∧ hk9 κ (zR κ atStates t) K ((w + 9 * d : Nat) : Int) k.toNatClampNeg ∧ (zI κ coVars (zR κ atCode t)).toInt + (zI κ coCells (zR κ atCode t)).toInt = w ∧ (0 < d ∧ d ≤ 12 ∧ w ≤ 34)
theorem d9_8 : ∀ d, d ≤ 12 → Int32.ofNat (9 * d) / (9 : Int32) = Int32.ofNat d := by decide
theorem At_callsOf_c8 {C : zC} {n0 : Nat} {a0 : Nat} {a1 : Int32} {κ : zS} {Q : Int32 → zS → Prop} {K : Nat → Int32} {w d : Nat} (W : zW C n0 κ) (Ta0 : zT κ a0 = 3) (hp : atG κ a0) (F : SF8 κ a0 K w d a1) (h : ∀ (v : Int32), (v = Int32.ofNat d) → Q v κ) : zRun C 1 mAt_callsOf [.ref a0, .int a1] κ (oI Q noX) := by
  refine At_callsOf_run W Ta0 ?_
  replace W := W.lo (Nat.le_trans W.1.2.1 W.1.2.2) (Nat.le_refl (zn κ))
  obtain ⟨k0, ⟨hk1, hk2, _⟩, hw, d0, d1, w1⟩ := F
  have kn := cnk k0
  unfold w_At_callsOf_0
  intro T1
  refine Ho_lengthOf_c2 W T1 1000 142 2048 ⟨hp.1.1, hP1⟩ (fun r2 q4 => ?_)
  intro W5 M6 T7
  refine Co_shared_c W5 T7 hp.2 (fun r8 q10 => ?_)
  intro W11 M12
  refine ⟨by decide, h _ ?_⟩
  have e2 : r2.toInt = (w + 9 * d : Nat) := by
    rw [q4.2, if_pos ⟨k0, by omega⟩]
    exact hk2
  have e8 : r8.toInt = w := q10.trans hw
  have e : r2 - r8 = Int32.ofNat (9 * d) := Int32.toInt_inj.mp (by rw [sub_i (by omega) (by omega), ofn_i (by omega)]; omega)
  rw [e]
  exact d9_8 d d1
theorem At_statementOf_c8 {C : zC} {n0 : Nat} {a0 : Nat} {a1 : Int32} {a2 : Int32} {κ : zS} {Q : Int32 → zS → Prop} {K : Nat → Int32} {w d : Nat} (W : zW C n0 κ) (Ta0 : zT κ a0 = 3) (hp : atG κ a0) (F : SF8 κ a0 K w d a1) (c0 : 0 ≤ a2.toInt) (c1 : a2.toInt < d) (h : ∀ (v : Int32), (v = K (w + 9 * a2.toNatClampNeg)) → Q v κ) : zRun C 2 mAt_statementOf [.ref a0, .int a1, .int a2] κ (oI Q noX) := by
  refine At_statementOf_run W Ta0 ?_
  replace W := W.lo (Nat.le_trans W.1.2.1 W.1.2.2) (Nat.le_refl (zn κ))
  obtain ⟨k0, hk, hw, d0, d1, w1⟩ := F
  have cn := cnk c0
  have t9 : (9 : Int32).toInt = 9 := rfl
  unfold w_At_statementOf_0
  intro T1
  refine Co_shared_c W T1 hp.2 (fun r2 q4 => ?_)
  intro W5 M6 T7
  refine Ho_part_c2 W5 T7 1000 142 2048 ⟨hp.1.1, hP1⟩ (fun r8 q10 => ?_)
  intro W11 M12
  refine h _ ?_
  have e2 : r2.toInt = w := q4.trans hw
  have e3 : (a2 * (9 : Int32)).toInt = a2.toInt * 9 := by rw [mul_i (by rw [t9]; omega) (by rw [t9]; omega), t9]
  have e4 : (r2 + (a2 * (9 : Int32))).toInt = w + a2.toInt * 9 := by rw [add_i (by rw [e3]; omega) (by rw [e3]; omega), e3, e2]
  have en := cnk (x := r2 + (a2 * (9 : Int32))) (by omega)
  rw [q10, pV9_k k0 hk (by omega) (by omega)]
  congr 1
  omega
theorem At_variableOf_c8 {C : zC} {n0 : Nat} {a0 : Nat} {a1 : Int32} {a2 : Int32} {a3 : Int32} {κ : zS} {Q : Int32 → zS → Prop} {K : Nat → Int32} {w d : Nat} (W : zW C n0 κ) (Ta0 : zT κ a0 = 3) (hp : atG κ a0) (F : SF8 κ a0 K w d a1) (hv : (a2 = -1 ∧ 0 ≤ a3.toInt ∧ a3.toInt < w) ∨ (a2 ≠ -1 ∧ (0 ≤ a2.toInt ∧ a2.toInt < d) ∧ 0 ≤ a3.toInt ∧ a3.toInt < 8)) (h : ∀ (v : Int32), (v = if a2 = -1 then K a3.toNatClampNeg else K (w + 9 * a2.toNatClampNeg + 1 + a3.toNatClampNeg)) → Q v κ) : zRun C 2 mAt_variableOf [.ref a0, .int a1, .int a2, .int a3] κ (oI Q noX) := by
  refine At_variableOf_run W Ta0 ?_
  replace W := W.lo (Nat.le_trans W.1.2.1 W.1.2.2) (Nat.le_refl (zn κ))
  obtain ⟨k0, hk, hw, d0, d1, w1⟩ := F
  have t9 : (9 : Int32).toInt = 9 := rfl
  unfold w_At_variableOf_0
  refine ⟨fun c1 => ?_, fun c1 => ?_⟩
  · obtain ⟨_, ⟨c0, c2⟩, i0, i1⟩ := hv.resolve_left (fun z => c1 z.1)
    have cn := cnk c0
    have inn := cnk i0
    intro T2
    refine Co_shared_c W T2 hp.2 (fun r3 q5 => ?_)
    intro W6 M7 T8
    refine Ho_part_c2 W6 T8 1000 142 2048 ⟨hp.1.1, hP1⟩ (fun r9 q11 => ?_)
    intro W12 M13
    refine h _ ?_
    have e2 : r3.toInt = w := q5.trans hw
    have e3 : (a2 * (9 : Int32)).toInt = a2.toInt * 9 := by rw [mul_i (by rw [t9]; omega) (by rw [t9]; omega), t9]
    have e4 : (r3 + (a2 * (9 : Int32))).toInt = w + a2.toInt * 9 := by rw [add_i (by rw [e3]; omega) (by rw [e3]; omega), e3, e2]
    have e5 : ((r3 + (a2 * (9 : Int32))) + (1 : Int32)).toInt = w + a2.toInt * 9 + 1 := by rw [add_i (by rw [e4, t1i]; omega) (by rw [e4, t1i]; omega), e4, t1i]
    have e6 : (((r3 + (a2 * (9 : Int32))) + (1 : Int32)) + a3).toInt = w + a2.toInt * 9 + 1 + a3.toInt := by rw [add_i (by rw [e5]; omega) (by rw [e5]; omega), e5]
    have en := cnk (x := ((r3 + (a2 * (9 : Int32))) + (1 : Int32)) + a3) (by omega)
    rw [q11, pV9_k k0 hk (by omega) (by omega), if_neg c1]
    congr 1
    omega
  · obtain ⟨_, i0, i1⟩ := hv.resolve_right (fun z => z.1 c1)
    intro T14
    refine Ho_part_c2 W T14 1000 142 2048 ⟨hp.1.1, hP1⟩ (fun r9 q11 => ?_)
    intro W12 M13
    refine h _ ?_
    rw [q11, pV9_k k0 hk i0 (by omega), if_pos c1]
theorem Co_isShared_c8 {C : zC} {n0 : Nat} {a0 : Nat} {a1 : Int32} {κ : zS} {Q : Int32 → zS → Prop} (W : zW C n0 κ) (Ta0 : zT κ a0 = 5)  (hp : coI κ a0) (h : ∀ (v : Int32), (nb v ∧ (v ≠ 0 ↔ 0 ≤ a1.toInt ∧ a1.toInt < (zI κ coVars a0).toInt + (zI κ coCells a0).toInt)) → Q v κ) : zRun C 0 mCo_isShared [.ref a0, .int a1] κ (oI Q noX) := by
  refine Co_isShared_run W Ta0 ?_
  replace W := W.lo (Nat.le_trans W.1.2.1 W.1.2.2) (Nat.le_refl (zn κ))
  unfold w_Co_isShared_0
  obtain ⟨-, hv, ha, hc, -⟩ := hp
  have e : (zI κ coVars a0 + zI κ coCells a0).toInt = (zI κ coVars a0).toInt + (zI κ coCells a0).toInt := add_i (by omega) (by omega)
  refine ⟨fun c1 => ?_, fun c1 => ?_⟩
  · refine h _ ⟨nb_0, fun h => absurd rfl h, fun z => ?_⟩
    rw [lti, t0i] at c1
    omega
  · refine ⟨fun c2 => ?_, fun c2 => ?_⟩
    · refine h _ ⟨nb_0, fun h => absurd rfl h, fun z => ?_⟩
      rw [lei, e] at c2
      omega
    · refine h _ ⟨nb_1, fun _ => ?_, fun _ => by decide⟩
      rw [lti, t0i] at c1
      rw [lei, e] at c2
      omega
theorem Co_column_c8 {C : zC} {n0 : Nat} {a0 : Nat} {a1 : Int32} {a2 : Int32} {κ : zS} {Q : Int32 → zS → Prop} (W : zW C n0 κ) (Ta0 : zT κ a0 = 5)  (hp : coI κ a0 ∧ 0 ≤ a2.toInt ∧ a2.toInt < 11) (hs : 0 ≤ a1.toInt ∧ a1.toInt < (zI κ coStatements a0).toInt) (h : ∀ (v : Int32), (v = zA κ (zR κ coRows a0) (11 * a1.toNatClampNeg + a2.toNatClampNeg)) → Q v κ) : zRun C 0 mCo_column [.ref a0, .int a1, .int a2] κ (oI Q noX) := by
  refine Co_column_run W Ta0 ?_
  replace W := W.lo (Nat.le_trans W.1.2.1 W.1.2.2) (Nat.le_refl (zn κ))
  unfold w_Co_column_0
  obtain ⟨H, p0, p1⟩ := hp
  obtain ⟨-, -, -, -, -, hs9, hrw, -⟩ := H
  refine ⟨fun c1 => ?_, fun c1 => ?_⟩
  · rw [lti, t0i] at c1
    omega
  · refine ⟨fun c2 => ?_, fun c2 => ?_⟩
    · rw [lei] at c2
      omega
    · have ci := col_i (x := a1) (y := a2) (by omega) (by omega) p0 p1
      refine ⟨?_, ?_⟩
      · rw [inb_iff, ci]
        omega
      refine h _ ?_
      have n1 := cnk hs.1
      have n2 := cnk p0
      have n3 := cnk (x := (a1 * (11 : Int32)) + a2) (by rw [ci]; omega)
      rw [show ((a1 * (11 : Int32)) + a2).toNatClampNeg = 11 * a1.toNatClampNeg + a2.toNatClampNeg by omega]
/-- the names of a call's function, of both sides -/
def CU8 (κ : zS) (c : Nat) (K : Nat → Int32) (w d s : Nat) (U : Nat → Nat) : Prop := zI κ coStatements c = Int32.ofNat s ∧ s ≤ 150 ∧ ∀ i, i < d → ∃ j g, j < s ∧ K (w + 9 * i) = Int32.ofNat j ∧ g < 10 ∧ zA κ (zR κ coRows c) (11 * j + 10) = Int32.ofNat g ∧ zA κ (zR κ coOwnCounts c) g = Int32.ofNat (U i) ∧ U i ≤ 8
theorem At_hasVariable_c8 {C : zC} {n0 : Nat} {a0 : Nat} {a1 : Int32} {a2 : Int32} {a3 : Int32} {κ : zS} {Q : Int32 → zS → Prop} {K : Nat → Int32} {w d s : Nat} {U : Nat → Nat} (W : zW C n0 κ) (Ta0 : zT κ a0 = 3) (hp : atG κ a0) (F : SF8 κ a0 K w d a1) (hU : CU8 κ (zR κ atCode a0) K w d s U) (h : ∀ (v : Int32), (nb v ∧ (v ≠ 0 ↔ (a2 = -1 ∧ 0 ≤ a3.toInt ∧ a3.toInt < w) ∨ (a2 ≠ -1 ∧ (0 ≤ a2.toInt ∧ a2.toInt < d) ∧ 0 ≤ a3.toInt ∧ a3.toInt < U a2.toNatClampNeg))) → Q v κ) : zRun C 3 mAt_hasVariable [.ref a0, .int a1, .int a2, .int a3] κ (oI Q noX) := by
  refine At_hasVariable_run W Ta0 ?_
  replace W := W.lo (Nat.le_trans W.1.2.1 W.1.2.2) (Nat.le_refl (zn κ))
  have d1 := F.2.2.2.2.1
  unfold w_At_hasVariable_0
  refine ⟨fun c1 => ?_, fun c1 => ?_⟩
  · refine ⟨fun c2 => ?_, fun c2 => ?_⟩
    · refine h _ ⟨nb_0, fun z => absurd rfl z, fun z => ?_⟩
      rw [lti, t0i] at c2
      rcases z with z | z
      · exact absurd z.1 c1
      · omega
    · rw [lti, t0i] at c2
      intro T3
      refine At_callsOf_c8 W T3 hp F (fun r4 q6 => ?_)
      intro W7 M8
      have e4 : r4.toInt = d := by rw [q6, ofn_i (by omega)]
      refine ⟨fun c9 => ?_, fun c9 => ?_⟩
      · refine h _ ⟨nb_0, fun z => absurd rfl z, fun z => ?_⟩
        rw [lei] at c9
        rcases z with z | z
        · exact absurd z.1 c1
        · omega
      · rw [lei] at c9
        have cn := cnk (x := a2) (by omega)
        obtain ⟨j, g, js, k1, g10, k2, k3, k4⟩ := hU.2.2 a2.toNatClampNeg (by omega)
        have s150 := hU.2.1
        refine ⟨fun c10 => ?_, fun c10 => ?_⟩
        · rw [lei, t0i] at c10
          intro T11
          refine At_statementOf_c8 W7 T11 hp F (by omega) (by omega) (fun r12 q14 => ?_)
          intro W15 M16 T17
          have e12 : r12 = Int32.ofNat j := q14.trans k1
          have t12 : r12.toInt = j := by rw [e12, ofn_i (by omega)]
          have n12 := cnk (x := r12) (by omega)
          refine Co_column_c8 W15 T17 ⟨hp.2, by decide, by decide⟩ ⟨by omega, by rw [hU.1, ofn_i (by omega)]; omega⟩ (fun r18 q20 => ?_)
          intro W21 M22
          have e18 : r18 = Int32.ofNat g := by
            rw [q20, show r12.toNatClampNeg = j by omega]
            exact k2
          have t18 : r18.toInt = g := by rw [e18, ofn_i (by omega)]
          have n18 := cnk (x := r18) (by omega)
          refine ⟨fun c23 => ?_, fun c23 => ?_⟩
          · rw [lti, t0i] at c23
            omega
          · refine ⟨fun c24 => ?_, fun c24 => ?_⟩
            · rw [lei, show (10 : Int32).toInt = 10 from rfl] at c24
              omega
            · refine ⟨?_, ?_⟩
              · have L := hp.2.1.2.2.2.2.2
                rw [inb_iff]; omega
              have ow : zA κ (zR κ coOwnCounts (zR κ atCode a0)) r18.toNatClampNeg = Int32.ofNat (U a2.toNatClampNeg) := by
                rw [show r18.toNatClampNeg = g by omega]
                exact k3
              refine ⟨fun c25 => ?_, fun c25 => ?_⟩
              · rw [ow, lei, ofn_i (by omega)] at c25
                refine h _ ⟨nb_0, fun z => absurd rfl z, fun z => ?_⟩
                rcases z with z | z
                · exact absurd z.1 c1
                · omega
              · rw [ow, lei, ofn_i (by omega)] at c25
                exact h _ ⟨nb_1, fun _ => Or.inr ⟨c1, ⟨by omega, by omega⟩, c10, by omega⟩, fun _ => by decide⟩
        · rw [lei, t0i] at c10
          refine h _ ⟨nb_0, fun z => absurd rfl z, fun z => ?_⟩
          rcases z with z | z
          · exact absurd z.1 c1
          · omega
  · intro T26
    refine Co_isShared_c8 W T26 hp.2 (fun r27 q29 => ?_)
    intro W30 M31
    refine ⟨q29.1, h _ ⟨q29.1, fun z => ?_, fun z => ?_⟩⟩
    · have y := q29.2.mp z
      rw [F.2.2.1] at y
      exact Or.inl ⟨c1, y⟩
    · refine q29.2.mpr ?_
      rw [F.2.2.1]
      exact (z.resolve_right (fun y => y.1 c1)).2
/-- the names' counts, of both sides -/
theorem cv_8 {κ : zS} {c nv s w : Nat} {σ : rS} (cr : CR7 nv s w (cu7 κ c) σ) : zI κ coStatements c = Int32.ofNat s ∧ s ≤ 150 ∧ ∀ j, j < s → ∃ g u, g < 10 ∧ zA κ (zR κ coRows c) (11 * j + 10) = Int32.ofNat g ∧ σ.2.2.1 38 j = Int32.ofNat g ∧ u ≤ 8 ∧ zA κ (zR κ coOwnCounts c) g = Int32.ofNat u ∧ σ.2.2.1 27 g = Int32.ofNat u := by
  obtain ⟨T, X, Bk, N, Z, na, f, _, F, _⟩ := cr
  obtain ⟨⟨_, _, _, ⟨a6, a7⟩, _⟩, _, _, p4, _, _, ⟨q1, _, _⟩, _⟩ := F
  have i3 : (cu7 κ c).1 513 = zI κ coStatements c := by
    show (if 513 ∈ ci6 then zI κ 513 c else 0) = _
    rw [if_pos (by decide)]
  have es : zI κ coStatements c = Int32.ofNat s := i3.symm.trans a6
  refine ⟨es, a7, fun j hj => ?_⟩
  obtain ⟨_, _, _, l5, g, ⟨gf, g10⟩, lg⟩ := p4 j hj
  obtain ⟨o1, u, u8, o2⟩ := q1 g gf
  have r6 : (cu7 κ c).2.1 506 (11 * j + 10) = zA κ (zR κ coRows c) (11 * j + 10) := by
    show (if 506 = 506 ∨ 506 = 507 ∨ 506 = 508 then (fun x => if x < mb6 κ c 506 then zA κ (zR κ 506 c) x else 0) else if 506 ∈ cr6 then zA κ (zR κ 506 c) else fun _ => 0) (11 * j + 10) = _
    rw [if_pos (Or.inl rfl)]
    show (if 11 * j + 10 < mb6 κ c 506 then zA κ (zR κ 506 c) (11 * j + 10) else 0) = _
    have m5 : mb6 κ c 506 = 11 * s := by
      unfold mb6
      rw [if_pos rfl, es, cl_5 (by omega)]
    rw [if_pos (by rw [m5]; omega)]
  have r5 : (cu7 κ c).2.1 505 = zA κ (zR κ coOwnCounts c) := by
    show (if 505 = 506 ∨ 505 = 507 ∨ 505 = 508 then (fun x => if x < mb6 κ c 505 then zA κ (zR κ 505 c) x else 0) else if 505 ∈ cr6 then zA κ (zR κ 505 c) else fun _ => 0) = _
    rw [if_neg (by decide), if_pos (by decide)]
  have lg' : σ.2.2.1 38 j = Int32.ofNat g := lg
  have o2' : σ.2.2.1 27 g = Int32.ofNat u := o2
  refine ⟨g, u, g10, ?_, lg', u8, ?_, o2'⟩
  · rw [← r6]
    exact l5.trans lg
  · rw [← r5]
    exact o1.trans o2
theorem iv_8 {k x : Int32} {n : Int} (k0 : 0 ≤ k.toInt) (k1 : k.toInt < 1000) (h : (((143 : Int32) * k) + x).toInt = n) (n0 : 0 ≤ n) : (((143 : Int32) * k) + x).toNatClampNeg = n.toNat := by rw [nc_5, h]
theorem jv_8 {k : Int32} (k0 : 0 ≤ k.toInt) (k1 : k.toInt < 1000) : ((143 : Int32) * k).toInt = 143 * k.toInt := by
  have t : (143 : Int32).toInt = 143 := rfl
  rw [mul_i (by rw [t]; omega) (by rw [t]; omega), t]
theorem kv_8 {c : Int32} (c0 : -1 ≤ c.toInt) (c1 : c.toInt < 12) : ((9 : Int32) * c).toInt = 9 * c.toInt := by
  have t : (9 : Int32).toInt = 9 := rfl
  rw [mul_i (by rw [t]; omega) (by rw [t]; omega), t]
theorem Ch_value_c8 {C : zC} {n0 : Nat} {a0 : Nat} {a1 : Int32} {a2 : Int32} {a3 : Int32} {κ : zS} {Q : Int32 → zS → Prop} {X : zXp} (W : zW C n0 κ) (Ta0 : zT κ a0 = 15) (ρ : Nat → Nat) (L9 : Int) (σ9 : rS) (hr8 : RC8 κ a0 σ9) (hp : chI9 ρ κ a0 L9) (h : ∀ (v : Int32) (κ' : zS), (κ = κ' ∧ vc8 σ9 a1 a2 a3 ∧ v = vv8 σ9 a1 a2 a3) → Q v κ') (hx : ∀ (cls : String) (κ' : zS), (cls = "java/lang/IndexOutOfBoundsException" ∧ κ' = ut κ ∧ ¬ vc8 σ9 a1 a2 a3) → X cls κ') : zRun C 8 mCh_value [.ref a0, .int a1, .int a2, .int a3] κ (oI Q X) := by
  refine Ch_value_run W Ta0 ?_
  replace W := W.lo (Nat.le_trans W.1.2.1 W.1.2.2) (Nat.le_refl (zn κ))
  unfold w_Ch_value_0
  intro T1
  refine At_holds_c8 W T1  (fun r2 q4 => ?_)
  intro W5
  intro M6
  refine ⟨fun c7 => ?_, fun c7 => ?_⟩
  · intro κ_8 hκ_8
    exact hx _ _ ⟨rfl, hκ_8, fun z => q4.2.mpr ((hs_8 hr8).mpr z.1.1) c7⟩
  · have H := ch_h9 hp ⟨q4.1, q4.2.mp⟩ c7
    have S := (hs_8 hr8).mp (q4.2.mp c7)
    obtain ⟨nv, s, w, cr, n, m, x, ⟨f1, f2, f3⟩, ⟨b1, b2, b3⟩, ⟨v1, v2, v3⟩, hS, _⟩ := (hr8.2.2.1 S.1).1
    obtain ⟨s1, s2, s3⟩ := sh_8 cr
    obtain ⟨cs, s150, cg⟩ := cv_8 cr
    have xe : zI κ atExplored (zR κ chAtlas a0) ≠ 0 := (q4.2.mp c7).1
    have ac : zR κ atCode (zR κ chAtlas a0) = zR κ chCode a0 := (hp.2.1.2.2 xe).1.1
    have v1' : zI κ hoTotal (zR κ atStates (zR κ chAtlas a0)) = Int32.ofNat n := v1
    have k0 := S.2.1
    have k1 := S.2.2
    rw [lei, t0i] at k0
    rw [lti, f1, ofn_i (by omega)] at k1
    have kn := cnk k0
    obtain ⟨d, K, ⟨⟨d0, d1, w1, qd⟩, g2, g3, g4, g5⟩, hk⟩ := hS a1.toNatClampNeg (by omega)
    have F : SF8 κ (zR κ chAtlas a0) K w d a1 := by
      refine ⟨k0, ?_, by rw [ac]; exact s1, d0, d1, w1⟩
      unfold hk9
      rw [v1', ofn_i (by omega)]
      exact hk
    obtain ⟨U, hUd⟩ : ∃ U : Nat → Nat, ∀ i, U i = (σ9.2.2.1 27 (σ9.2.2.1 38 (K (w + 9 * i)).toNatClampNeg).toNatClampNeg).toNatClampNeg := ⟨_, fun _ => rfl⟩
    have ug : ∀ i, i < d → ∃ j g, j < s ∧ K (w + 9 * i) = Int32.ofNat j ∧ g < 10 ∧ zA κ (zR κ coRows (zR κ chCode a0)) (11 * j + 10) = Int32.ofNat g ∧ zA κ (zR κ coOwnCounts (zR κ chCode a0)) g = Int32.ofNat (U i) ∧ U i ≤ 8 ∧ σ9.2.2.1 27 (σ9.2.2.1 38 (K (w + 9 * i)).toNatClampNeg).toNatClampNeg = Int32.ofNat (U i) := fun i hi => by
      obtain ⟨j, j1, j2⟩ := g5 i hi
      obtain ⟨g, u, y1, y2, y3, y4, y5, y6⟩ := cg j j1
      have eU : U i = u := by rw [hUd, j2, cl_5 (by omega), y3, cl_5 (by omega), y6, cl_5 (by omega)]
      refine ⟨j, g, j1, j2, y1, y2, by rw [eU]; exact y5, by omega, ?_⟩
      rw [j2, cl_5 (by omega), y3, cl_5 (by omega), y6, eU]
    have hU : CU8 κ (zR κ atCode (zR κ chAtlas a0)) K w d s U := by
      rw [ac]
      refine ⟨cs, s150, fun i hi => ?_⟩
      obtain ⟨j, g, z1, z2, z3, z4, z5, z6, _⟩ := ug i hi
      exact ⟨j, g, z1, z2, z3, z4, z5, z6⟩
    have i143 := jv_8 k0 (by omega)
    have r0 : σ9.2.2.1 73 ((143 : Int32) * a1).toNatClampNeg = Int32.ofNat d := by
      rw [nc_5, i143, show (143 * a1.toInt).toNat = 143 * a1.toNatClampNeg + 0 by omega]
      exact qd
    have r35 : -1 ≤ a2.toInt → a2.toInt < d → a2.toInt ≠ -1 → σ9.2.2.1 73 ((((143 : Int32) * a1) + (35 : Int32)) + ((9 : Int32) * a2)).toNatClampNeg = K (w + 9 * a2.toNatClampNeg) := fun y1 y2 y3 => by
      have cn := cnk (x := a2) (by omega)
      have t35 : (35 : Int32).toInt = 35 := rfl
      have e9 := kv_8 y1 (by omega)
      have e1 : (((143 : Int32) * a1) + (35 : Int32)).toInt = 143 * a1.toInt + 35 := by rw [add_i (by rw [i143, t35]; omega) (by rw [i143, t35]; omega), i143, t35]
      rw [nc_5, add_i (by rw [e1, e9]; omega) (by rw [e1, e9]; omega), e1, e9, show (143 * a1.toInt + 35 + 9 * a2.toInt).toNat = 143 * a1.toNatClampNeg + (35 + 9 * a2.toNatClampNeg) by omega]
      exact (g3 a2.toNatClampNeg (by omega)).symm
    have m1 : ∀ y : Int32, y.toInt = -1 ↔ y = -1 := fun y => ⟨fun e => Int32.toInt_inj.mp (by rw [e]; rfl), fun e => by rw [e]; rfl⟩
    have PV : ((a2 = -1 ∧ 0 ≤ a3.toInt ∧ a3.toInt < w) ∨ (a2 ≠ -1 ∧ (0 ≤ a2.toInt ∧ a2.toInt < d) ∧ 0 ≤ a3.toInt ∧ a3.toInt < U a2.toNatClampNeg)) ↔ vc8 σ9 a1 a2 a3 := by
      constructor
      · rintro (⟨y1, y2, y3⟩ | ⟨y1, ⟨y2, y3⟩, y4, y5⟩)
        · exact ⟨⟨S, by rw [lei, t0i]; exact y2, by rw [y1]; exact Int32.le_refl _⟩, Or.inl ⟨y1, by rw [lti, s2]; exact y3⟩⟩
        · have cn := cnk y2
          obtain ⟨_, _, _, _, _, _, _, u8, uu⟩ := ug a2.toNatClampNeg (by omega)
          refine ⟨⟨S, by rw [lei, t0i]; exact y4, by rw [lei, show (-1 : Int32).toInt = -1 from rfl]; omega⟩, Or.inr ⟨y1, ?_, ?_⟩⟩
          · rw [r0, lti, ofn_i (by omega)]
            exact y3
          · rw [r35 (by omega) y3 (by omega), uu, lti, ofn_i (by omega)]
            exact y5
      · rintro ⟨⟨_, z2, z3⟩, z4⟩
        rw [lei, t0i] at z2
        rw [lei, show (-1 : Int32).toInt = -1 from rfl] at z3
        rcases z4 with ⟨y1, y2⟩ | ⟨y1, y2, y3⟩
        · rw [lti, s2] at y2
          exact Or.inl ⟨y1, z2, y2⟩
        · have y4 : a2.toInt ≠ -1 := fun e => y1 ((m1 a2).mp e)
          rw [r0, lti, ofn_i (by omega)] at y2
          have cn := cnk (x := a2) (by omega)
          obtain ⟨_, _, _, _, _, _, _, u8, uu⟩ := ug a2.toNatClampNeg (by omega)
          rw [r35 z3 y2 y4, uu, lti, ofn_i (by omega)] at y3
          exact Or.inr ⟨y1, ⟨by omega, y2⟩, z2, y3⟩
    intro T9
    refine At_hasVariable_c8 W5 T9 H.1 F hU (fun r10 q12 => ?_)
    intro W13
    intro M14
    refine ⟨fun c15 => ?_, fun c15 => ?_⟩
    · have P := q12.2.mp c15
      have cc := PV.mp P
      intro T16
      refine At_variableOf_c8 W13 T16 H.1 F (P.imp id (fun z => ⟨z.1, z.2.1, z.2.2.1, by
        have cn := cnk z.2.1.1
        obtain ⟨_, _, _, _, _, _, _, u8, _⟩ := ug a2.toNatClampNeg (by have := z.2.1.2; omega)
        have := z.2.2.2
        omega⟩)) (fun r17 q19 => ?_)
      intro W20
      intro M21
      refine h _ _ ⟨rfl, cc, ?_⟩
      unfold vv8
      rw [q19]
      rcases P with ⟨y1, y2, y3⟩ | ⟨y1, ⟨y2, y3⟩, y4, y5⟩
      · have i3 := cnk y2
        have e1 : (((143 : Int32) * a1) + (1 : Int32)).toInt = 143 * a1.toInt + 1 := by rw [add_i (by rw [i143, t1i]; omega) (by rw [i143, t1i]; omega), i143, t1i]
        have e3 : ((((143 : Int32) * a1) + (1 : Int32)) + a3).toNatClampNeg = 143 * a1.toNatClampNeg + (1 + a3.toNatClampNeg) := by
          rw [nc_5, add_i (by rw [e1]; omega) (by rw [e1]; omega), e1]
          omega
        rw [if_pos y1, if_pos y1, e3]
        exact g2 a3.toNatClampNeg (by omega)
      · have cn := cnk y2
        have i3 := cnk y4
        obtain ⟨_, _, _, _, _, _, _, u8, _⟩ := ug a2.toNatClampNeg (by omega)
        have t36 : (36 : Int32).toInt = 36 := rfl
        have e9 := kv_8 (c := a2) (by omega) (by omega)
        have e1 : (((143 : Int32) * a1) + (36 : Int32)).toInt = 143 * a1.toInt + 36 := by rw [add_i (by rw [i143, t36]; omega) (by rw [i143, t36]; omega), i143, t36]
        have e2 : ((((143 : Int32) * a1) + (36 : Int32)) + ((9 : Int32) * a2)).toInt = 143 * a1.toInt + 36 + 9 * a2.toInt := by rw [add_i (by rw [e1, e9]; omega) (by rw [e1, e9]; omega), e1, e9]
        have e3 : (((((143 : Int32) * a1) + (36 : Int32)) + ((9 : Int32) * a2)) + a3).toNatClampNeg = 143 * a1.toNatClampNeg + (36 + 9 * a2.toNatClampNeg + a3.toNatClampNeg) := by
          rw [nc_5, add_i (by rw [e2]; omega) (by rw [e2]; omega), e2]
          omega
        rw [if_neg y1, if_neg y1, e3]
        exact g4 a2.toNatClampNeg a3.toNatClampNeg (by omega) (by omega)
    · intro κ_22 hκ_22
      exact hx _ _ ⟨rfl, hκ_22, fun z => q12.2.mpr (PV.mpr z) (by first | exact c15 | exact Classical.not_not.mp c15)⟩

end
section
set_option maxHeartbeats 1600000
/-! the class: state by what it answers -/
theorem Ch_state_c8 {C : zC} {n0 : Nat} {a0 : Nat} {a1 : Int32} {a2 : Int32} {κ : zS} {Q : Int32 → zS → Prop} {X : zXp} (W : zW C n0 κ) (Ta0 : zT κ a0 = 15) (ρ : Nat → Nat) (L9 : Int) (σ9 : rS) (hr8 : RC8 κ a0 σ9) (hp : chI9 ρ κ a0 L9) (h : ∀ (v : Int32) (κ' : zS), (κ = κ' ∧ sc8 σ9 a1 a2 ∧ v = sv8 σ9 a1 a2) → Q v κ') (hx : ∀ (cls : String) (κ' : zS), (cls = "java/lang/IndexOutOfBoundsException" ∧ κ' = ut κ ∧ ¬ sc8 σ9 a1 a2) → X cls κ') : zRun C 8 mCh_state [.ref a0, .int a1, .int a2] κ (oI Q X) := by
  refine Ch_state_run W Ta0 ?_
  replace W := W.lo (Nat.le_trans W.1.2.1 W.1.2.2) (Nat.le_refl (zn κ))
  unfold w_Ch_state_0
  intro T1
  refine At_holds_c8 W T1  (fun r2 q4 => ?_)
  intro W5
  intro M6
  refine ⟨fun c7 => ?_, fun c7 => ?_⟩
  · intro κ_8 hκ_8
    exact hx _ _ ⟨rfl, hκ_8, fun z => q4.2.mpr ((hs_8 hr8).mpr z.1) c7⟩
  · have H := ch_h9 hp ⟨q4.1, q4.2.mp⟩ c7
    have HL := H.2.2.1
    have S := (hs_8 hr8).mp (q4.2.mp c7)
    have NX := nx_8 hr8 S
    obtain ⟨⟨nv, s, w, cr, n, m, x, ⟨f1, f2, f3⟩, ⟨b1, b2, b3⟩, ⟨v1, v2, v3⟩, hS, _, _, hb, _⟩, hq, _⟩ := hr8.2.2.1 S.1
    obtain ⟨s1, s2, s3⟩ := sh_8 cr
    have xe : zI κ atExplored (zR κ chAtlas a0) ≠ 0 := (q4.2.mp c7).1
    have ac : zR κ atCode (zR κ chAtlas a0) = zR κ chCode a0 := (hp.2.1.2.2 xe).1.1
    have v1' : zI κ hoTotal (zR κ atStates (zR κ chAtlas a0)) = Int32.ofNat n := v1
    have k0 := S.2.1
    have k1 := S.2.2
    rw [lei, t0i] at k0
    rw [lti, f1, ofn_i (by omega)] at k1
    have kn := cnk k0
    obtain ⟨d, K, ⟨⟨d0, d1, w1, qd⟩, g2, g3, g4, g5⟩, hk⟩ := hS a1.toNatClampNeg (by omega)
    have F : SF8 κ (zR κ chAtlas a0) K w d a1 := by
      refine ⟨k0, ?_, by rw [ac]; exact s1, d0, d1, w1⟩
      unfold hk9
      rw [v1', ofn_i (by omega)]
      exact hk
    have i143 := jv_8 k0 (by omega)
    have r0 : σ9.2.2.1 73 ((143 : Int32) * a1).toNatClampNeg = Int32.ofNat d := by
      rw [nc_5, i143, show (143 * a1.toInt).toNat = 143 * a1.toNatClampNeg + 0 by omega]
      exact qd
    have HB := hb a1.toNatClampNeg (by omega)
    have h80 : zA κ (zR κ atTotals (zR κ chAtlas a0)) a1.toNatClampNeg = σ9.2.2.1 80 a1.toNatClampNeg := HB.2.1
    have h81 : zA κ (zR κ atChooses (zR κ chAtlas a0)) a1.toNatClampNeg = σ9.2.2.1 81 a1.toNatClampNeg := HB.2.2.2
    have h87 : zA κ (zR κ atHopeless (zR κ chAtlas a0)) a1.toNatClampNeg ≠ 0 ↔ σ9.2.2.1 87 a1.toNatClampNeg ≠ 0 := hq _ (by rw [f1, cl_5 (by omega)]; omega)
    refine ⟨fun c9 => ?_, fun c9 => ?_⟩
    · intro κ_10 hκ_10
      exact hx _ _ ⟨rfl, hκ_10, fun z => absurd c9 (Int32.not_lt.mpr z.2.1)⟩
    · refine ⟨fun c11 => ?_, fun c11 => ?_⟩
      · have cc : sc8 σ9 a1 a2 := ⟨S, Int32.not_lt.mp c9, c11⟩
        refine ⟨fun c12 => ?_, fun c12 => ?_, fun c12 => ?_, fun c12 => ?_, fun c12 => ?_, fun c12 => ?_⟩
        · refine ⟨?_, h _ _ ⟨rfl, cc, ?_⟩⟩
          · rw [inb_iff, H.2.1.2.1]
            omega
          · unfold sv8
            rw [if_neg (by omega), if_neg (by omega), if_neg (by omega), if_neg (by omega), if_neg (by omega)]
            exact h80
        · intro T13
          refine At_callsOf_c8 W5 T13 H.1 F (fun r14 q16 => ?_)
          intro W17
          intro M18
          intro T19
          have e14 : (r14 - (1 : Int32)).toInt = (d : Int) - 1 := by rw [q16, sub_i (by rw [ofn_i (by omega), t1i]; omega) (by rw [ofn_i (by omega), t1i]; omega), ofn_i (by omega), t1i]
          have n14 := cnk (x := r14 - (1 : Int32)) (by omega)
          refine At_statementOf_c8 W17 T19 H.1 F (by omega) (by omega) (fun r20 q22 => ?_)
          intro W23
          intro M24
          refine h _ _ ⟨rfl, cc, ?_⟩
          unfold sv8
          rw [if_pos c12, q22]
          unfold sl8
          rw [r0, ← q16]
          have t35 : (35 : Int32).toInt = 35 := rfl
          have e9 := kv_8 (c := r14 - (1 : Int32)) (by omega) (by omega)
          have e1 : (((143 : Int32) * a1) + (35 : Int32)).toInt = 143 * a1.toInt + 35 := by rw [add_i (by rw [i143, t35]; omega) (by rw [i143, t35]; omega), i143, t35]
          have e3 : ((((143 : Int32) * a1) + (35 : Int32)) + ((9 : Int32) * (r14 - (1 : Int32)))).toNatClampNeg = 143 * a1.toNatClampNeg + (35 + 9 * (r14 - (1 : Int32)).toNatClampNeg) := by
            rw [nc_5, add_i (by rw [e1, e9]; omega) (by rw [e1, e9]; omega), e1, e9]
            omega
          rw [e3]
          exact g3 (r14 - (1 : Int32)).toNatClampNeg (by omega)
        · intro T25
          refine At_callsOf_c8 W5 T25 H.1 F (fun r26 q28 => ?_)
          intro W29
          intro M30
          refine h _ _ ⟨rfl, cc, ?_⟩
          unfold sv8
          rw [if_neg (by omega), if_pos c12, q28, r0]
        · intro T31
          refine At_waysOf_c W5 T31  ⟨H.2.1.1, HL⟩ (fun r32 q34 => ?_)
          intro W35
          intro M36
          refine h _ _ ⟨rfl, cc, ?_⟩
          unfold sv8
          rw [if_neg (by omega), if_neg (by omega), if_pos c12, q34, NX.1, NX.2.1]
        · refine ⟨?_, fun c37 => ?_, fun c37 => ?_⟩
          · rw [inb_iff, H.2.1.2.2.2.2.1]
            omega
          · refine h _ _ ⟨rfl, cc, ?_⟩
            rw [h81] at c37
            unfold sv8
            rw [if_neg (by omega), if_neg (by omega), if_neg (by omega), if_pos c12, if_pos c37]
          · refine h _ _ ⟨rfl, cc, ?_⟩
            rw [h81] at c37
            unfold sv8
            rw [if_neg (by omega), if_neg (by omega), if_neg (by omega), if_pos c12, if_neg c37]
        · refine ⟨?_, fun c38 => ?_, fun c38 => ?_⟩
          · rw [inb_iff, H.2.1.2.2.2.2.2]
            omega
          · refine h _ _ ⟨rfl, cc, ?_⟩
            have z : σ9.2.2.1 87 a1.toNatClampNeg = 0 := Decidable.byContradiction (fun y => h87.mpr y c38)
            unfold sv8
            rw [if_neg (by omega), if_neg (by omega), if_neg (by omega), if_neg (by omega), if_pos c12, if_pos z]
          · refine h _ _ ⟨rfl, cc, ?_⟩
            have z := h87.mp c38
            unfold sv8
            rw [if_neg (by omega), if_neg (by omega), if_neg (by omega), if_neg (by omega), if_pos c12, if_neg z]
      · intro κ_39 hκ_39
        exact hx _ _ ⟨rfl, hκ_39, fun z => c11 z.2.2⟩

end
section
set_option maxHeartbeats 1600000
/-! the class: count by what it answers -/
section
variable {κ : zS} {a : Nat} {σ : rS} {nv s w : Nat}
theorem cu_i8 {c g : Nat} (h : g ∈ ci6) : (cu7 κ c).1 g = zI κ g c := by
  show (if g ∈ ci6 then zI κ g c else 0) = _
  rw [if_pos h]
theorem cd_8 (cr : CR7 nv s w (cu7 κ (zR κ chCode a)) σ) : zI κ coVars (zR κ chCode a) = σ.1 15 ∧ zI κ coArrays (zR κ chCode a) = σ.1 16 ∧ zI κ coFunctions (zR κ chCode a) = σ.1 18 ∧ zI κ coStatements (zR κ chCode a) = σ.1 19 := by
  obtain ⟨T, X, Bk, N, Z, na, f, _, F, _⟩ := cr
  obtain ⟨⟨⟨a0, _⟩, ⟨a1, _⟩, ⟨a2, _⟩, ⟨a3, _⟩, _⟩, ⟨_, c0, c1, c2, c3⟩, _⟩ := F
  rw [cu_i8 (by decide)] at a0 a1 a2 a3
  rw [si1, if_neg (by decide)] at c0 c1 c2 c3
  exact ⟨a0.trans c0.symm, a1.trans c1.symm, a2.trans c2.symm, a3.trans c3.symm⟩
theorem cn_e8 {f g : Nat → Int32} {n : Nat} (h : ∀ k, k < n → (f k ≠ 0 ↔ g k ≠ 0)) : cn8 f n = cn8 g n := ct_e8 h
theorem Ch_count_c8 {C : zC} {n0 : Nat} {a0 : Nat} {a1 : Int32} {κ : zS} {Q : Int32 → zS → Prop} {X : zXp} (W : zW C n0 κ) (Ta0 : zT κ a0 = 15) (ρ : Nat → Nat) (L9 : Int) (σ9 : rS) (hr8 : RC8 κ a0 σ9) (hp : chI9 ρ κ a0 L9) (h : ∀ (v : Int32) (κ' : zS), (κ = κ' ∧ kc8 σ9 a1 ∧ v = kv8 σ9 a1) → Q v κ') (hx : ∀ (cls : String) (κ' : zS), (cls = "java/lang/IndexOutOfBoundsException" ∧ κ' = ut κ ∧ ¬ kc8 σ9 a1) → X cls κ') : zRun C 8 mCh_count [.ref a0, .int a1] κ (oI Q X) := by
  refine Ch_count_run W Ta0 ?_
  replace W := W.lo (Nat.le_trans W.1.2.1 W.1.2.2) (Nat.le_refl (zn κ))
  unfold w_Ch_count_0
  have t4 : (4 : Int32).toInt = 4 := rfl
  have t11 : (11 : Int32).toInt = 11 := rfl
  refine ⟨fun c1 => ?_, fun c1 => ?_⟩
  · intro κ_2 hκ_2
    exact hx _ _ ⟨rfl, hκ_2, fun z => absurd c1 (Int32.not_lt.mpr z.1)⟩
  · refine ⟨fun c3 => ?_, fun c3 => ?_⟩
    · have cc : kc8 σ9 a1 := ⟨Int32.not_lt.mp c1, c3⟩
      have k0 := cc.1
      have k1 := cc.2
      rw [lei, t0i] at k0
      rw [lei, t11] at k1
      refine ⟨fun c4 => ?_, fun c4 => ?_⟩
      · have k11 : ¬ a1.toInt = 11 := fun z => c4 (Int32.toInt_inj.mp (z.trans t11.symm))
        refine ⟨fun c5 => ?_, fun c5 => ?_⟩
        · rw [lei, t4] at c5
          refine ⟨fun c6 => ?_, fun c6 => ?_⟩
          · refine h _ _ ⟨rfl, cc, ?_⟩
            have e69 := hr8.2.1.mpr c6
            obtain ⟨e70, e71, e72⟩ := hr8.2.2.2.1 e69
            unfold kv8
            rw [if_neg (by omega), if_neg (by omega), if_neg (by omega), if_neg (by omega), e69, e70, e71, e72, if_pos (show (0 : Int32) = 0 from rfl), if_pos (show (0 : Int32) = 0 from rfl)]
            have z0 : ∀ f : Nat → Int32, Int32.ofNat (cn8 f (0 : Int32).toNatClampNeg) = 0 := fun f => rfl
            rw [z0, z0]
            by_cases d4 : a1.toInt = 4
            · rw [if_pos d4]
            rw [if_neg d4]
            by_cases d5 : a1.toInt = 5
            · rw [if_pos d5]
            rw [if_neg d5]
            by_cases d6 : a1.toInt = 6
            · rw [if_pos d6]
            rw [if_neg d6]
            by_cases d7 : a1.toInt = 7
            · rw [if_pos d7]
            rw [if_neg d7]
            by_cases d8 : a1.toInt = 8
            · rw [if_pos d8]
            rw [if_neg d8]
            by_cases d9 : a1.toInt = 9
            · rw [if_pos d9]
            rw [if_neg d9, if_pos (by omega)]
          · have e69 : ¬ σ9.1 69 = 0 := fun z => c6 (hr8.2.1.mp z)
            obtain ⟨⟨nv, s, w, cr, n, m, x, ⟨f1, f2, f3⟩, ⟨b1, b2, b3⟩, ⟨v1, v2, v3⟩, hS, _, _, hb, _⟩, hq, hr, _⟩ := hr8.2.2.1 e69
            obtain ⟨⟨n9, A, _⟩, _⟩ := ch_x9 hp c6
            have v1' : zI κ hoTotal (zR κ atStates (zR κ chAtlas a0)) = Int32.ofNat n := v1
            have v2' : zI κ hoTotal (zR κ atEndings (zR κ chAtlas a0)) = Int32.ofNat m := v2
            have v3' : zI κ atNexts (zR κ chAtlas a0) = Int32.ofNat x := v3
            have r1' : zI κ atRings (zR κ chAtlas a0) = σ9.1 88 := hr.1
            have r2' : zI κ atGreatest (zR κ chAtlas a0) = σ9.1 89 := hr.2
            have n70 : (σ9.1 70).toNatClampNeg = n := by rw [f1, cl_5 (by omega)]
            intro T7
            refine At_howMany_q6 W T7 n v1' b1 ⟨A.2.2.2.2.1, A.2.2.2.2.2⟩ (fun r8 q9 => ?_)
            obtain ⟨_, z9⟩ := q9
            intro W10
            intro M11
            refine h _ _ ⟨rfl, cc, ?_⟩
            rw [z9]
            unfold hm8 kv8
            rw [if_neg (show ¬ a1.toInt = 0 by omega), if_neg (show ¬ a1.toInt = 1 by omega), if_neg (show ¬ a1.toInt = 2 by omega), if_neg (show ¬ a1.toInt = 3 by omega), n70, v1', v2', v3', r1', r2', f1, f2, f3, if_neg e69, if_neg e69]
            have h9 : cn8 (zA κ (zR κ atChooses (zR κ chAtlas a0))) n = cn8 (σ9.2.2.1 81) n := cn_e8 (fun k hk => by rw [show zA κ (zR κ atChooses (zR κ chAtlas a0)) k = σ9.2.2.1 81 k from (hb k hk).2.2.2])
            have h10 : cn8 (zA κ (zR κ atHopeless (zR κ chAtlas a0))) n = cn8 (σ9.2.2.1 87) n := cn_e8 (fun k hk => hq k (by rw [n70]; exact hk))
            rw [h9, h10]
            by_cases d4 : a1.toInt = 4
            · rw [if_pos d4, if_pos d4]
            rw [if_neg d4, if_neg d4]
            by_cases d5 : a1.toInt = 5
            · rw [if_pos d5, if_pos d5]
            rw [if_neg d5, if_neg d5]
            by_cases d6 : a1.toInt = 6
            · rw [if_pos d6, if_pos d6]
            rw [if_neg d6, if_neg d6]
            by_cases d7 : a1.toInt = 7
            · rw [if_pos d7, if_pos d7]
            rw [if_neg d7, if_neg d7]
            by_cases d8 : a1.toInt = 8
            · rw [if_pos d8, if_pos d8]
            rw [if_neg d8, if_neg d8]
            by_cases d9 : a1.toInt = 9
            · rw [if_pos d9, if_pos (show a1 = 9 from Int32.toInt_inj.mp (by rw [d9]; rfl))]
            rw [if_neg d9, if_neg (fun z => d9 (by rw [z]; rfl)), if_pos (by omega)]
        · rw [lei, t4] at c5
          have e14 := hr8.1.2.1
          refine ⟨fun c12 => ?_, fun c12 => ?_⟩
          · refine h _ _ ⟨rfl, cc, ?_⟩
            unfold kv8
            rw [e14.mpr c12, if_pos (show (0 : Int32) = 0 from rfl), if_pos (show (0 : Int32) = 0 from rfl), if_pos (show (0 : Int32) = 0 from rfl), if_pos (show (0 : Int32) = 0 from rfl)]
            by_cases d0 : a1.toInt = 0
            · rw [if_pos d0]
            rw [if_neg d0]
            by_cases d1 : a1.toInt = 1
            · rw [if_pos d1]
            rw [if_neg d1]
            by_cases d2 : a1.toInt = 2
            · rw [if_pos d2]
            rw [if_neg d2, if_pos (by omega)]
          · have n14 : ¬ σ9.1 14 = 0 := fun z => c12 (e14.mp z)
            obtain ⟨nv, s, w, cr⟩ := hr8.1.2.2 n14
            obtain ⟨d15, d16, d18, d19⟩ := cd_8 cr
            intro T13
            refine Co_howMany_run W T13 ?_
            unfold w_Co_howMany_0
            refine ⟨fun c14 => ?_, fun c14 => ?_, fun c14 => ?_, fun c14 => ?_⟩
            · intro W15
              intro M16
              refine h _ _ ⟨rfl, cc, ?_⟩
              unfold kv8
              rw [if_neg (by omega), if_neg (by omega), if_neg (by omega), if_pos (by omega), if_neg n14, d19]
            · intro W15
              intro M16
              refine h _ _ ⟨rfl, cc, ?_⟩
              unfold kv8
              rw [if_pos c14, if_neg n14, d15]
            · intro W15
              intro M16
              refine h _ _ ⟨rfl, cc, ?_⟩
              unfold kv8
              rw [if_neg (by omega), if_pos c14, if_neg n14, d16]
            · intro W15
              intro M16
              refine h _ _ ⟨rfl, cc, ?_⟩
              unfold kv8
              rw [if_neg (by omega), if_neg (by omega), if_pos c14, if_neg n14, d18]
      · refine h _ _ ⟨rfl, cc, ?_⟩
        have e : σ9.1 2 = zI κ taLength (zR κ chTape a0) := (mk_e9 hr8.1.1).1
        unfold kv8
        have k11 : a1.toInt = 11 := by rw [c4]; rfl
        rw [if_neg (by omega), if_neg (by omega), if_neg (by omega), if_neg (by omega), if_neg (by omega), if_neg (by omega), if_neg (by omega), if_neg (by omega), if_neg (by omega), if_neg (by omega), if_neg (by omega), e]
    · intro κ_17 hκ_17
      exact hx _ _ ⟨rfl, hκ_17, fun z => c3 z.2⟩
end

end
section
set_option maxHeartbeats 1600000
/-! the class: best by what it answers -/
theorem ft_28 {q : Rat} : f2W8 q ↔ ftW8 q := by
  unfold f2W8 ftW8
  rw [show (65536 : Nat) ^ 16 = 2 ^ 256 by decide +kernel]
/-- the tables of both sides -/
theorem tl_a8 {κ : zS} {t w s : Nat} {σ : rS} (A : AT8 w s (av8 κ t) σ) (hO : exO σ) (h0 : 0 < (σ.1 70).toNatClampNeg) : tlW8 (tcW8 κ t) (trW8 σ) (σ.1 70).toNatClampNeg := by
  obtain ⟨n, m, x, ⟨f1, f2, f3⟩, ⟨b1, b2, b3⟩, _, _, _, hN, hb, hl⟩ := A
  have e : (σ.1 70).toNatClampNeg = n := by rw [f1, cl_5 (by omega)]
  have ex : (σ.1 72).toInt = (x : Int) := by rw [f3, ofn_i (by omega)]
  rw [e] at h0
  refine ⟨fun k hk => ?_, fun k hk => ?_, fun k i hk h1 h2 => ?_⟩
  · rw [e] at hk
    by_cases c : k < n
    · exact (hb k c).1
    · have c2 : k = n := by omega
      rw [c2]
      exact hl h0
  · rw [e] at hk
    exact ⟨(hb k hk).2.1, (hb k hk).2.2.1, (hb k hk).2.2.2⟩
  · obtain ⟨⟨a0, a1, a2⟩, c⟩ := lo_r8 hO hk
    have h2' : i < (σ.2.2.1 76 (k + 1)).toNatClampNeg := h2
    have c1 := cnk (x := σ.2.2.1 76 (k + 1)) (by omega)
    rw [lei, ex] at c
    exact hN i (by omega)
theorem tl_gn8 {t u : Tw8} {n : Nat} (h : tlW8 t u n) (hw : ∀ x, x < n → loW8 u x < loW8 u (x + 1)) (g : gnW8 u n) : gnW8 t n := fun k hk => by
  obtain ⟨g1, g2, g3⟩ := g k hk
  have q := h.2.1 k hk
  have l0 := tl_lo8 h (show k ≤ n by omega)
  have l1 := tl_lo8 h (show k + 1 ≤ n by omega)
  have w := (h.2.2 k (loW8 u k) hk (Nat.le_refl _) (hw k hk)).2.2
  rw [l0, l1, q.1, q.2.1, q.2.2, w]
  exact ⟨g1, g2, g3⟩
section
variable {κ : zS} {t n : Nat} {σ : rS}
theorem wm_b8 (h : tlW8 (tcW8 κ t) (trW8 σ) (σ.1 70).toNatClampNeg) (hO : exO σ) {k : Nat} (hk : k < (σ.1 70).toNatClampNeg) : wnW8 (tcW8 κ t) (σ.1 70).toNatClampNeg k = wbW8 σ k := tl_wn8 h (fun x hx => lw_b8 hO hx) (fun x y hx e => eN_c8 hO hx ((eN_w8 hO hx).mp e)) _ k hk
theorem pm_b8 (h : tlW8 (tcW8 κ t) (trW8 σ) (σ.1 70).toNatClampNeg) (hO : exO σ) {k : Nat} (hk : k < (σ.1 70).toNatClampNeg) : pcW8 (tcW8 κ t) (wnW8 (tcW8 κ t) (σ.1 70).toNatClampNeg) k = pbW8 σ k := by
  have e6 : (tcW8 κ t) 6 k = σ.2.2.1 81 k := (h.2.1 k hk).2.2
  have em : maW8 (tcW8 κ t) (wnW8 (tcW8 κ t) (σ.1 70).toNatClampNeg) k = maW8 (trW8 σ) (wbW8 σ) k := (tl_ma8 h hk (lw_b8 hO hk)).trans (ma_c8 (fun y e => wm_b8 h hO (eN_c8 hO hk ((eN_w8 hO hk).mp e))) (lw_b8 hO hk))
  unfold pcW8 pbW8
  rw [e6, em]
  by_cases c : σ.2.2.1 81 k = 0
  · rw [if_pos c, if_neg (fun z => z c)]
  · rw [if_neg c, if_pos c]
theorem ac_b8 (h : 0 < (σ.1 70).toNatClampNeg → tlW8 (tcW8 κ t) (trW8 σ) (σ.1 70).toNatClampNeg) (A : atW κ t (σ.1 70).toNatClampNeg) (Z : ZQ8 σ) (r : zI κ atRings t = σ.1 88) (e : zI κ atRings t ≤ 0) : ∀ x, x < (σ.1 70).toNatClampNeg → ¬ Tr (el8 κ t 0 (σ.1 70).toNatClampNeg) x x := fun x hx z => by
  rw [r] at e
  have H := h (by omega)
  exact Z.2.1.2 (Int32.le_antisymm e Z.2.1.1) x hx (Tr_congr (fun a b y => ⟨y.1, (tl_e8 H y.1).mp ((el_w8 A y.1).mp y)⟩) z)
end
theorem bs_w8 {κ κ' : zS} {a t : Nat} {σ : rS} {v : Int32} (e : zR κ soAtlas a = t) (M : mkW8 κ κ' a (σ.1 70).toNatClampNeg v) (r : zI κ atRings t = σ.1 88) (r0 : 0 ≤ σ.1 88) (hw : ∀ k, k < (σ.1 70).toNatClampNeg → wmW8 κ a (σ.1 70).toNatClampNeg k = wbW8 σ k ∧ pcW8 (tcW8 κ t) (wmW8 κ a (σ.1 70).toNatClampNeg) k = pbW8 σ k) : v = bv8 σ ∧ bp9 κ κ' t σ := by
  unfold mkW8 kpW8 at M
  rw [e, r] at M
  rcases M with ⟨m1, m2, m3⟩ | ⟨m1, ⟨m2, ⟨k, k1, k2⟩, ⟨_, m3⟩, _⟩ | ⟨m2, _, m3, _⟩⟩
  · have b := bv_28 (σ := σ) (fun z => m1 (by rw [z]; decide))
    refine ⟨by rw [b]; exact m2, fun z => ?_, fun _ => by rw [m3]⟩
    rw [b] at z
    exact absurd z (by decide)
  · have z0 := Int32.le_antisymm m1 r0
    have b := bv_38 z0 ⟨k, k1, fun z => k2 (by rw [(hw k k1).1]; exact ft_28.mpr z)⟩
    refine ⟨by rw [b]; exact m2, fun z => ?_, fun _ => m3⟩
    rw [b] at z
    exact absurd z (by decide)
  · have z0 := Int32.le_antisymm m1 r0
    have b := bv_08 z0 (fun k hk => by have y := (m3 k hk).2.1; rw [(hw k hk).1] at y; exact ft_28.mp y)
    exact ⟨by rw [b]; exact m2, fun _ k hk => (m3 k hk).2.2.trans (hw k hk).2, fun z => absurd b z⟩
theorem bk_16 {C : zC} {n0 a : Nat} {L : Int} {ρ : Nat → Nat} {κ κ' : zS} {σ : rS} {v : Int32} (W : zW C n0 κ) (T : zT κ a = 15) (I : chI9 ρ κ a L) (A : atW κ (zR κ chAtlas a) (σ.1 70).toNatClampNeg) (q : mpP9 ρ κ κ' (zR κ chSolver a) (σ.1 70).toNatClampNeg v) (M : mkW8 κ κ' (zR κ chSolver a) (σ.1 70).toNatClampNeg v) (K : kq16 ρ κ κ') (e : zR κ soAtlas (zR κ chSolver a) = zR κ chAtlas a) (r : zI κ atRings (zR κ chAtlas a) = σ.1 88) (r0 : 0 ≤ σ.1 88) (hw : ∀ k, k < (σ.1 70).toNatClampNeg → wmW8 κ (zR κ chSolver a) (σ.1 70).toNatClampNeg k = wbW8 σ k) : BK16 κ κ' a σ := by
  obtain ⟨ρ', ⟨hρ, Z⟩, S', _, tk, V, wo, _⟩ := q
  have B := bt_k16 W T I.2.2.1.1 I.2.2.1.2.2.2 Z K
  obtain ⟨⟨rs, bv⟩, ks, kd⟩ := B
  refine ⟨⟨ks, kd⟩, fun z => ?_, fun z => ?_⟩
  · unfold mkW8 at M
    rw [e, r] at M
    rcases M with ⟨m1, _⟩ | ⟨m1, ⟨_, ⟨k, k1, k2⟩, _⟩ | ⟨_, _, m3, _, m4, m5⟩⟩
    · rw [bv_28 (σ := σ) (fun y => m1 (by rw [y]; decide))] at z
      exact absurd z (by decide)
    · rw [bv_38 (Int32.le_antisymm m1 r0) ⟨k, k1, fun y => k2 (by rw [hw k k1]; exact ft_28.mpr y)⟩] at z
      exact absurd z (by decide)
    · have ew : ∀ k, k < (σ.1 70).toNatClampNeg → ∃ u, zQ κ' (zR κ' soWorths (zR κ chSolver a)) k = some u := by
        rcases wo with ⟨_, wo⟩ | wo
        · exact wo
        · rw [wo] at m5 ⊢
          exact ((I.2.2.2.1.2 (by rw [m5]; decide)).2 _ A).2
      rw [rs]
      refine ⟨⟨m4, m5⟩, fun k hk => ?_⟩
      have y := (m3 k hk).1
      rw [hw k hk] at y
      obtain ⟨u, hu⟩ := ew k hk
      refine ⟨?_, y⟩
      have tu : zT κ' u = 11 := (S'.1.1.2 u (by
        have a9 := A.2.2.1
        rw [S'.2.2.2.2.1.1 k u (by have := A.2.2.1; omega) hu]
        unfold raR
        omega)).1
      unfold wU9
      rw [hu]
      exact tu
  · unfold mkW8 at M
    rw [e, r] at M
    rcases M with ⟨m1, _, m3⟩ | ⟨m1, ⟨_, ⟨k, k1, k2⟩, _, m3, m4⟩ | ⟨_, _, m3, _⟩⟩
    · rw [m3]
      exact ⟨kA_r16.1, rfl, fun _ => kA_r16.2.1⟩
    · have b := bv_38 (Int32.le_antisymm m1 r0) ⟨k, k1, fun y => k2 (by rw [hw k k1]; exact ft_28.mpr y)⟩
      refine ⟨⟨by rw [rs]; exact m3, bv⟩, by rw [rs]; exact m4, fun y => ?_⟩
      rw [b] at y
      exact absurd y (by decide)
    · exact absurd (bv_08 (Int32.le_antisymm m1 r0) (fun k hk => by have y := (m3 k hk).2.1; rw [hw k hk] at y; exact ft_28.mp y)) z
theorem Ch_best_c8 {C : zC} {n0 : Nat} {a0 : Nat} {κ : zS} {Q : Int32 → zS → Prop} {X : zXp} (W : zW C n0 κ) (Ta0 : zT κ a0 = 15) (ρ : Nat → Nat) (L9 : Int) (σ9 : rS) (hr8 : RC8 κ a0 σ9) (hp : chI9 ρ κ a0 L9) (h : ∀ (v : Int32) (κ' : zS), ((∃ ρ', chI9 ρ' κ' a0 L9 ∧ (∃ F, zF F κ κ') ∧ pB8 κ κ' a0) ∧ bc8 σ9 ∧ v = bv8 σ9 ∧ bp9 κ κ' (zR κ chAtlas a0) σ9 ∧ BK16 κ κ' a0 σ9) → Q v κ') (hx : ∀ (cls : String) (κ' : zS), (cls = "java/lang/IllegalStateException" ∧ κ' = ut κ ∧ ¬ bc8 σ9) → X cls κ') : zRun C 9 mCh_best [.ref a0] κ (oI Q X) := by
  refine Ch_best_run W Ta0 ?_
  replace W := W.lo (Nat.le_trans W.1.2.1 W.1.2.2) (Nat.le_refl (zn κ))
  unfold w_Ch_best_0
  refine ⟨fun c1 => ?_, fun c1 => ?_⟩
  · have e69 : bc8 σ9 := fun z => c1 (hr8.2.1.mp z)
    obtain ⟨⟨nv, s, w, _, A8⟩, _, hr, zq, _⟩ := hr8.2.2.1 e69
    obtain ⟨⟨n9, A⟩, _⟩ := ch_x9 hp c1
    have r1 : zI κ atRings (zR κ chAtlas a0) = σ9.1 88 := hr.1
    have n70 : n9 = (σ9.1 70).toNatClampNeg := by
      obtain ⟨n, m, x, ⟨f1, _⟩, ⟨b1, _⟩, ⟨v1, _⟩, _⟩ := A8
      have v1' : zI κ hoTotal (zR κ atStates (zR κ chAtlas a0)) = Int32.ofNat n := v1
      have y := A.2.2.2.1
      rw [v1', ofn_i (by omega)] at y
      rw [f1, cl_5 (by omega)]
      omega
    subst n70
    have TL := tl_a8 A8 zq.1
    have lk := hp.2.2.1.2.2.1
    intro T2
    refine So_makePlanz_q16 W T2 ρ (σ9.1 70).toNatClampNeg (by rw [lk.1]; exact fun z => ac_b8 TL A zq r1 z) (by
      rw [lk.1]
      intro k hk
      exact tl_gn8 (TL (by omega)) (fun x hx => lw_b8 zq.1 hx) zq.2.2 k hk) ?_ (fun r3 κ_4 q5 => ?_)
    · refine ⟨hp.2.2.1.1, ?_, by rw [lk.1]; exact A, hp.2.2.1.2.1⟩
      rw [lk.2]
      exact hp.2.1.1.2.2.1
    intro W6
    intro M7
    obtain ⟨q5, z9, kq9⟩ := q5
    have BK : BK16 κ κ_4 a0 σ9 := bk_16 W Ta0 hp A q5 z9 kq9 lk.1 r1 zq.2.1.1 (fun k hk => by
      have H := TL (by omega)
      unfold wmW8
      rw [lk.1]
      exact wm_b8 H zq.1 hk)
    have B := bs_w8 lk.1 z9 r1 zq.2.1.1 (fun k hk => by
      have H := TL (by omega)
      unfold wmW8
      rw [lk.1]
      exact ⟨wm_b8 H zq.1 hk, pm_b8 H zq.1 hk⟩)
    exact h _ _ ⟨ch_p9 W Ta0 hp c1 A q5, e69, B.1, B.2, BK⟩
  · intro κ_8 hκ_8
    exact hx _ _ ⟨rfl, hκ_8, fun z => z (hr8.2.1.mpr (by first | exact c1 | (exact Classical.not_not.mp c1)))⟩

end
section
set_option maxHeartbeats 1600000
/-! the class: decide, decided by what they answer -/
section
variable {κ : zS} {a : Nat} {σ : rS}
theorem cx_8 (h : RC8 κ a σ) {k : Int32} (hk : σ.1 69 ≠ 0 ∧ 0 ≤ k ∧ k < σ.1 70) : zA κ (zR κ atChooses (zR κ chAtlas a)) k.toNatClampNeg = σ.2.2.1 81 k.toNatClampNeg ∧ plC8 κ a k.toNatClampNeg = σ.2.2.1 83 k.toNatClampNeg := by
  obtain ⟨ex, k0, k1⟩ := hk
  obtain ⟨⟨nv, s, w, _, n, m, x, ⟨e1, _, _⟩, ⟨b1, _, _⟩, _, _, _, _, hb, _⟩, _, _, _, PL, _⟩ := h.2.2.1 ex
  have n70 : (σ.1 70).toNatClampNeg = n := by rw [e1, cl_5 (by omega)]
  rw [lei, t0i] at k0
  rw [lti, e1, ofn_i (by omega)] at k1
  have kn := cnk k0
  have kk : k.toNatClampNeg < n := by omega
  exact ⟨(hb _ kk).2.2.2, PL _ (by rw [n70]; exact kk)⟩
end
theorem Ch_decided_c8 {C : zC} {n0 : Nat} {a0 : Nat} {a1 : Int32} {κ : zS} {Q : Int32 → zS → Prop} {X : zXp} (W : zW C n0 κ) (Ta0 : zT κ a0 = 15) (ρ : Nat → Nat) (L9 : Int) (σ9 : rS) (hr8 : RC8 κ a0 σ9) (hp : chI9 ρ κ a0 L9) (h : ∀ (v : Int32) (κ' : zS), (κ = κ' ∧ gc8 σ9 a1 ∧ v = gv8 σ9 a1) → Q v κ') (hx : ∀ (cls : String) (κ' : zS), (cls = "java/lang/IndexOutOfBoundsException" ∧ κ' = ut κ ∧ ¬ gc8 σ9 a1) → X cls κ') : zRun C 8 mCh_decided [.ref a0, .int a1] κ (oI Q X) := by
  refine Ch_decided_run W Ta0 ?_
  replace W := W.lo (Nat.le_trans W.1.2.1 W.1.2.2) (Nat.le_refl (zn κ))
  unfold w_Ch_decided_0
  intro T1
  refine At_holds_c8 W T1  (fun r2 q4 => ?_)
  intro W5
  intro M6
  refine ⟨fun c7 => ?_, fun c7 => ?_⟩
  · intro κ_8 hκ_8
    exact hx _ _ ⟨rfl, hκ_8, fun z => q4.2.mpr ((hs_8 hr8).mpr z.1) c7⟩
  · have H := ch_h9 hp ⟨q4.1, q4.2.mp⟩ c7
    have S := (hs_8 hr8).mp (q4.2.mp c7)
    obtain ⟨N1, N2⟩ := cx_8 hr8 S
    refine ⟨?_, ?_⟩
    · rw [inb_iff, H.2.1.2.2.2.2.1]
      have y := H.2.2.1
      omega
    refine ⟨fun c9 => ?_, fun c9 => ?_⟩
    · refine ⟨?_, ?_⟩
      · rw [inb_iff, H.2.1.2.2.2.1]
        have y := H.2.2.1
        omega
      exact h _ _ ⟨rfl, ⟨S, by rw [← N1]; exact c9⟩, N2⟩
    · intro κ_10 hκ_10
      exact hx _ _ ⟨rfl, hκ_10, fun z => z.2 (by rw [← N1]; first | exact c9 | (exact Classical.not_not.mp c9))⟩
/-- decide touches the plan and whether it is solved -/
def dF16 (κ : zS) (a : Nat) : Nat → Nat → Prop := fun f x => (x = zR κ chSolver a ∧ f = soSolved) ∨ (x = zR κ chAtlas a ∧ f = atPlan)
theorem dd_16 {C : zC} {n0 a : Nat} {κ τ : zS} (W : zW C n0 κ) (T : zT κ a = 15) (Z : zF (dF16 κ a) κ τ) : kW16 κ τ a ∧ kS16 κ τ a ∧ kD16 κ τ a := by
  have nf : ∀ f x, f ≠ soSolved → f ≠ atPlan → ¬ dF16 κ a f x := fun f x h1 h2 z => by
    rcases z with z | z
    · exact h1 z.2
    · exact h2 z.2
  have n8 : ∀ t, t = 8 ∨ t = 11 → ∀ f w, zT κ w = t → ¬ dF16 κ a f w := fun t ht f w e z => by
    rcases z with z | z
    · rw [z.1, ty_chSolver W T] at e
      rcases ht with y | y <;> rw [y] at e <;> exact absurd e (by decide)
    · rw [z.1, ty_chAtlas W T] at e
      rcases ht with y | y <;> rw [y] at e <;> exact absurd e (by decide)
  exact ⟨kW_z16 W T Z (n8 8 (Or.inl rfl)) (n8 11 (Or.inr rfl)) (nf _ _ (by decide) (by decide)) (nf _ _ (by decide) (by decide)) (nf _ _ (by decide) (by decide)), kS_z16 W Z (n8 8 (Or.inl rfl)) (n8 11 (Or.inr rfl)) (nf _ _ (by decide) (by decide)), dr_o16 W T Z (nf _ _ (by decide) (by decide)) (nf _ _ (by decide) (by decide))⟩
theorem Ch_decide_c8 {C : zC} {n0 : Nat} {a0 : Nat} {a1 : Int32} {a2 : Int32} {κ : zS} {Q : Int32 → zS → Prop} {X : zXp} (W : zW C n0 κ) (Ta0 : zT κ a0 = 15) (ρ : Nat → Nat) (L9 : Int) (σ9 : rS) (hr8 : RC8 κ a0 σ9) (hp : chI9 ρ κ a0 L9) (h : ∀ (v : Int32) (κ' : zS), ((chI9 ρ κ' a0 L9 ∧ (∃ F, zF F κ κ') ∧ pDc8 κ κ' a0 σ9 a1 a2) ∧ dc8 σ9 a1 a2 ∧ v = dv8 σ9 a1 a2) → Q v κ') (hx : ∀ (cls : String) (κ' : zS), (cls = "java/lang/IndexOutOfBoundsException" ∧ κ' = ut κ ∧ ¬ dc8 σ9 a1 a2) → X cls κ') : zRun C 8 mCh_decide [.ref a0, .int a1, .int a2] κ (oI Q X) := by
  refine Ch_decide_run W Ta0 ?_
  replace W := W.lo (Nat.le_trans W.1.2.1 W.1.2.2) (Nat.le_refl (zn κ))
  unfold w_Ch_decide_0
  intro T1
  refine At_holds_c8 W T1  (fun r2 q4 => ?_)
  intro W5
  intro M6
  refine ⟨fun c7 => ?_, fun c7 => ?_⟩
  · intro κ_8 hκ_8
    exact hx _ _ ⟨rfl, hκ_8, fun z => q4.2.mpr ((hs_8 hr8).mpr z.1) c7⟩
  · have H := ch_h9 hp ⟨q4.1, q4.2.mp⟩ c7
    have S := (hs_8 hr8).mp (q4.2.mp c7)
    obtain ⟨N1, N2⟩ := cx_8 hr8 S
    obtain ⟨F1, F2, _⟩ := nx_8 hr8 S
    refine ⟨?_, ?_⟩
    · rw [inb_iff, H.2.1.2.2.2.2.1]
      have y := H.2.2.1
      omega
    refine ⟨fun c9 => ?_, fun c9 => ?_⟩
    · intro κ_10 hκ_10
      exact hx _ _ ⟨rfl, hκ_10, fun z => z.2.1 (by rw [← N1]; first | exact c9 | (exact Classical.not_not.mp c9))⟩
    · refine ⟨fun c11 => ?_, fun c11 => ?_⟩
      · intro κ_12 hκ_12
        exact hx _ _ ⟨rfl, hκ_12, fun z => absurd c11 (Int32.not_lt.mpr z.2.2.1)⟩
      · intro T13
        refine At_waysOf_c W5 T13  ?_ (fun r14 q16 => ?_)
        · exact ⟨H.2.1.1, H.2.2.1⟩
        intro W17
        intro M18
        have q15 : r14 = σ9.2.2.1 76 (a1 + (1 : Int32)).toNatClampNeg - σ9.2.2.1 76 a1.toNatClampNeg := by rw [q16, F1, F2]
        refine ⟨fun c19 => ?_, fun c19 => ?_⟩
        · have cc : dc8 σ9 a1 a2 := ⟨S, fun z => c9 (by rw [N1]; exact z), Int32.not_lt.mp c11, by rw [← q15]; first | exact c19 | exact Int32.not_le.mp c19⟩
          refine ⟨?_, ?_⟩
          · rw [inb_iff, H.2.1.2.2.2.1]
            have y := H.2.2.1
            omega
          intro x20 hx20
          refine ⟨?_, ?_⟩
          · rw [inb_iff, H.2.1.2.2.2.1]
            have y := H.2.2.1
            omega
          intro κ_21 hκ_21
          intro W22
          intro κ_23 hκ_23
          intro W24
          have o := W.o (show zr atPlan = some 20 by decide +kernel) (by decide) ((ty_chAtlas W Ta0).trans (by decide))
          have R1 : zR κ_21 = zR κ := by rw [hκ_21]; rfl
          have Z1 : zF (mkF9 κ a0) κ κ_21 := by rw [hκ_21]; exact zF_ua (by rw [o]; exact Or.inr ⟨rfl, rfl⟩)
          rw [R1] at hκ_23
          have Z3 : zF (mkF9 κ a0) κ κ_23 := Z1.tr (by rw [hκ_23]; exact zF_ui (Or.inl ⟨rfl, Or.inl rfl⟩))
          have R3 : zR κ_23 = zR κ := by rw [hκ_23]; exact R1
          have I3 := chI_m9 W Ta0 Z3 R3 (by rw [hκ_23]; exact if_pos ⟨rfl, rfl⟩) (Or.inr (by rw [hκ_23, hκ_21]; rfl)) hp
          have Zd1 : zF (dF16 κ a0) κ κ_21 := by rw [hκ_21]; exact zF_ua (by rw [o]; exact Or.inr ⟨rfl, rfl⟩)
          have Zd : zF (dF16 κ a0) κ κ_23 := Zd1.tr (by rw [hκ_23]; exact zF_ui (Or.inl ⟨rfl, rfl⟩))
          have dd : dD16 κ κ_23 a0 σ9 a1 a2 := ⟨fun _ => by rw [R3, hκ_23]; exact if_pos ⟨rfl, rfl⟩, fun z => absurd cc z, dd_16 W Ta0 Zd⟩
          refine h _ _ ⟨⟨I3.1, I3.2.1, I3.2.2, fun _ => ?_, fun z => absurd cc z, dd⟩, cc, ?_⟩
          · unfold plC8
            rw [R3, hκ_23, hκ_21]
            exact if_pos rfl
          · rw [hx20]; exact N2
        · intro κ_25 hκ_25
          exact hx _ _ ⟨rfl, hκ_25, fun z => c19 (by rw [q15]; first | exact z.2.2.2 | exact Int32.not_le.mpr z.2.2.2)⟩

end
section
set_option maxHeartbeats 1600000
/-! the class: play, walk by what they answer -/
theorem GP_21 {κ : zS} {a : Nat} {σ σ9 : rS} {b m : Int32} {x : Int64} (hr : RC8 κ a σ) (pb : PB21 σ) (h14 : σ.1 14 ≠ 0) (hk : ∀ k, k ≠ 113 → σ9.1 k = σ.1 k) (hs : σ9.2.2 = σ.2.2) (hb : b = 0 ↔ σ9.1 113 ≠ 0) (hx : σ9.1 113 ≠ 0 → σ9.2.1 112 = x) (t0 : 0 ≤ (zI κ chTolds a).toInt) (m0 : 0 ≤ m.toInt) : ∃ nv s w, GP21 nv s w κ a b x m σ9 := by
  have kr : kR7 σ σ9 := kR_f7 (fun g q => hk g ((by decide : ∀ g, g ∈ kf7 → g ≠ 113) g q)) (fun g _ => by rw [hs]) (fun j => by rw [hs])
  have kt : kT7 σ σ9 := ⟨fun g q => hk g ((by decide : ∀ g, g ∈ kd7 → g ≠ 113) g q), fun g _ => by rw [hs]⟩
  obtain ⟨r1, r2⟩ := hr.2.2.2.2.1
  have T9 : (σ9.1 104 = zI κ chTolds a ∧ 0 ≤ (zI κ chTolds a).toInt) ∧ ∀ j, j < (zI κ chTolds a).toNatClampNeg → zA κ (zR κ chTold a) j = σ9.2.2.1 105 j := ⟨⟨(hk 104 (by decide)).trans r1, t0⟩, fun j hj => by rw [hs]; exact r2 j hj⟩
  have e69 : σ9.1 69 = σ.1 69 := hk 69 (by decide)
  have e70 : σ9.1 70 = σ.1 70 := hk 70 (by decide)
  by_cases ex : σ.1 69 = 0
  · obtain ⟨nv, s, w, cr⟩ := hr.1.2.2 h14
    refine ⟨nv, s, w, CR_k7 cr kr, hb, hx, fun _ => T9, ⟨by rw [e69]; exact hr.2.1.symm, fun z => absurd (e69.trans ex) z⟩, fun z => absurd (e69.trans ex) z, ?_, m0⟩
    rw [e70, (hr.2.2.2.1 ex).1]
    decide
  · obtain ⟨_, _, _, zq, pl, ⟨nv, s, w, cr, ⟨n, sh, n70, ht⟩, tw⟩, _⟩ := hr.2.2.1 ex
    have n1000 : n ≤ 1000 := sh.2.2.1
    have c70 : (σ.1 70).toNatClampNeg = n := by rw [n70]; exact cl_5 (by omega)
    refine ⟨nv, s, w, CR_k7 cr kr, hb, hx, fun _ => T9, ⟨by rw [e69]; exact hr.2.1.symm, fun _ => ⟨n, SH_w21 HS_r6 sh (s150_21 cr) (fun i _ => by rw [hs]) (by rw [hs]), e70.trans n70, ?_, fun k hk' => ?_, ?_⟩⟩, fun _ => TW_k21 tw kt, by rw [e70, c70]; exact n1000, m0⟩
    · intro j hj
      rw [hs]
      exact ht j hj
    · rw [hs]
      exact pl k (by rw [c70]; exact hk')
    · unfold PB21
      rw [e70, hs]
      exact pb
theorem Ch_play_c8 {C : zC} {n0 : Nat} {a0 : Nat} {a1 : Int64} {a3 : Int32} {κ : zS} {Q : Int32 → zS → Prop} {X : zXp} (W : zW C n0 κ) (Ta0 : zT κ a0 = 15) (ρ : Nat → Nat) (L9 : Int) (σ9 : rS) (hr8 : RC8 κ a0 σ9) (pb : PB21 σ9) (hp : chI9 ρ κ a0 L9) (h : ∀ (v : Int32) (κ' : zS), ((chI9 ρ κ' a0 L9 ∧ (∃ F, zF F κ κ') ∧ PY23 κ κ' a0 a3 σ9 (siU (slU σ9 112 a1) 113 1)) ∧ cy21 σ9 a3 = 0 ∧ ∀ N tr v', TRF21 a3 (siU (slU σ9 112 a1) 113 1) N tr v' → v = v') → Q v κ') (hx : ∀ (cls : String) (κ' : zS), (((cls = "java/lang/IllegalArgumentException" ∧ cy21 σ9 a3 = 2) ∨ (cls = "java/lang/IllegalStateException" ∧ cy21 σ9 a3 = 1)) ∧ κ' = ut κ) → X cls κ') : zRun C 8 mCh_play [.ref a0, .long a1, .int a3] κ (oI Q X) := by
  refine Ch_play_run W Ta0 ?_
  replace W := W.lo (Nat.le_trans W.1.2.1 W.1.2.2) (Nat.le_refl (zn κ))
  unfold w_Ch_play_0
  have i14 := hr8.1.2.1
  refine ⟨fun c1 => ?_, fun c1 => ?_⟩
  · have n14 : σ9.1 14 ≠ 0 := fun z => c1 (i14.mp z)
    refine ⟨fun c2 => ?_, fun c2 => ?_⟩
    · intro κ_3 hκ_3
      refine hx _ _ ⟨Or.inl ⟨rfl, ?_⟩, hκ_3⟩
      unfold cy21
      rw [if_neg n14, if_neg (fun z => absurd c2 (Int32.not_lt.mpr z.1))]
    · refine ⟨fun c4 => ?_, fun c4 => ?_⟩
      · intro T5
        have c4' := c4
        have e : (2000 : Int32).toInt = 2000 := rfl
        have c2' : (0 : Int32) ≤ a3 := Int32.not_lt.mp c2
        have m0 := c2'
        rw [lei, t0i] at m0
        rw [lei, e] at c4'
        have cy : cy21 σ9 a3 = 0 := by
          unfold cy21
          rw [if_neg n14, if_pos ⟨c2', c4⟩]
        obtain ⟨nv, s, w, G⟩ := GP_21 (σ9 := siU (slU σ9 112 a1) 113 1) (b := 0) (m := a3) (x := a1) hr8 pb n14 (fun k hk => if_neg hk) rfl ⟨fun _ => by rw [si1, if_pos rfl]; decide, fun _ => rfl⟩ (fun _ => sl_s21 (σ := σ9) (k := 112) (x := a1)) hp.2.2.2.2.2.1.1.2.1 m0
        refine Ch_perform_q16 W T5 nv s w _ G (pf_p9 hp c4') (fun r6 κ_7 q8 => ?_)
        intro W9
        intro M10
        have P := pf_q9 W Ta0 hp q8.1
        obtain ⟨w1, w2, _⟩ := rn_w23 G.1
        exact h _ _ ⟨⟨P.1, P.2.1, P.2.2.1, P.2.2.2, fun _ => ⟨w, ⟨by rw [cv_23.1, cv_23.2]; exact w1, w2⟩, fun N tr v' F => ⟨(q8.2 N tr v' F).1.2, (q8.2 N tr v' F).2⟩⟩, fun z => absurd cy z⟩, cy, fun N tr v' F => (q8.2 N tr v' F).1.1⟩
      · intro κ_11 hκ_11
        refine hx _ _ ⟨Or.inl ⟨rfl, ?_⟩, hκ_11⟩
        unfold cy21
        rw [if_neg n14, if_neg (fun z => c4 z.2)]
  · intro κ_12 hκ_12
    refine hx _ _ ⟨Or.inr ⟨rfl, ?_⟩, hκ_12⟩
    unfold cy21
    rw [if_pos (i14.mpr (by first | exact c1 | (exact Classical.not_not.mp c1)))]
theorem Ch_walk_c8 {C : zC} {n0 : Nat} {a0 : Nat} {a1 : Int32} {κ : zS} {Q : Int32 → zS → Prop} {X : zXp} (W : zW C n0 κ) (Ta0 : zT κ a0 = 15) (ρ : Nat → Nat) (L9 : Int) (σ9 : rS) (hr8 : RC8 κ a0 σ9) (pb : PB21 σ9) (hp : chI9 ρ κ a0 L9) (h : ∀ (v : Int32) (κ' : zS), ((chI9 ρ κ' a0 L9 ∧ (∃ F, zF F κ κ') ∧ PY23 κ κ' a0 a1 σ9 (siU σ9 113 0)) ∧ cy21 σ9 a1 = 0 ∧ ∀ N tr v', TRF21 a1 (siU σ9 113 0) N tr v' → v = v') → Q v κ') (hx : ∀ (cls : String) (κ' : zS), (((cls = "java/lang/IllegalArgumentException" ∧ cy21 σ9 a1 = 2) ∨ (cls = "java/lang/IllegalStateException" ∧ cy21 σ9 a1 = 1)) ∧ κ' = ut κ) → X cls κ') : zRun C 8 mCh_walk [.ref a0, .int a1] κ (oI Q X) := by
  refine Ch_walk_run W Ta0 ?_
  replace W := W.lo (Nat.le_trans W.1.2.1 W.1.2.2) (Nat.le_refl (zn κ))
  unfold w_Ch_walk_0
  have i14 := hr8.1.2.1
  refine ⟨fun c1 => ?_, fun c1 => ?_⟩
  · have n14 : σ9.1 14 ≠ 0 := fun z => c1 (i14.mp z)
    refine ⟨fun c2 => ?_, fun c2 => ?_⟩
    · intro κ_3 hκ_3
      refine hx _ _ ⟨Or.inl ⟨rfl, ?_⟩, hκ_3⟩
      unfold cy21
      rw [if_neg n14, if_neg (fun z => absurd c2 (Int32.not_lt.mpr z.1))]
    · refine ⟨fun c4 => ?_, fun c4 => ?_⟩
      · intro T5
        have c4' := c4
        have e : (2000 : Int32).toInt = 2000 := rfl
        have c2' : (0 : Int32) ≤ a1 := Int32.not_lt.mp c2
        have m0 := c2'
        rw [lei, t0i] at m0
        rw [lei, e] at c4'
        have cy : cy21 σ9 a1 = 0 := by
          unfold cy21
          rw [if_neg n14, if_pos ⟨c2', c4⟩]
        have z0 : (siU σ9 113 0).1 113 = 0 := by rw [si1, if_pos rfl]
        refine (fun (G : ∃ nv s w, GP21 nv s w κ a0 _ _ a1 (siU σ9 113 0)) => ?_) (GP_21 (σ9 := siU σ9 113 0) (b := 1) (m := a1) (x := 0) hr8 pb n14 (fun k hk => if_neg hk) rfl ⟨fun z => absurd z (by decide), fun z => absurd z0 z⟩ (fun z => absurd z0 z) hp.2.2.2.2.2.1.1.2.1 m0)
        obtain ⟨nv, s, w, G⟩ := G
        refine Ch_perform_q16 W T5 nv s w _ G (pf_p9 hp c4') (fun r6 κ_7 q8 => ?_)
        intro W9
        intro M10
        have P := pf_q9 W Ta0 hp q8.1
        obtain ⟨w1, w2, _⟩ := rn_w23 G.1
        exact h _ _ ⟨⟨P.1, P.2.1, P.2.2.1, P.2.2.2, fun _ => ⟨w, ⟨by rw [cv_23.1, cv_23.2]; exact w1, w2⟩, fun N tr v' F => ⟨(q8.2 N tr v' F).1.2, (q8.2 N tr v' F).2⟩⟩, fun z => absurd cy z⟩, cy, fun N tr v' F => (q8.2 N tr v' F).1.1⟩
      · intro κ_11 hκ_11
        refine hx _ _ ⟨Or.inl ⟨rfl, ?_⟩, hκ_11⟩
        unfold cy21
        rw [if_neg n14, if_neg (fun z => c4 z.2)]
  · intro κ_12 hκ_12
    refine hx _ _ ⟨Or.inr ⟨rfl, ?_⟩, hκ_12⟩
    unfold cy21
    rw [if_pos (i14.mpr (by first | exact c1 | (exact Classical.not_not.mp c1)))]
/-! both answers -/
theorem go_a21 {σ σ' : rS} {a x v : Int32} (X : GO21 a σ σ' v) (h : cy21 σ a = 0) (g : ∀ N tr v', TRF21 a σ N tr v' → x = v') : σ'.1 0 = 0 ∧ x = v := by
  rcases X with ⟨z, _⟩ | ⟨_, z, τ0, h0, ⟨σ0, r0, N, tr, b1, b2, b3⟩, fi, _⟩
  · exact absurd h z
  · refine ⟨z, g N tr v ⟨⟨σ0, r0, b1, b2⟩, ?_⟩⟩
    rw [b3]
    exact fi
theorem go_b21 {σ σ' : rS} {a v : Int32} (X : GO21 a σ σ' v) (h : cy21 σ a ≠ 0) : σ'.1 0 = cy21 σ a := by
  rcases X with ⟨_, z, _⟩ | ⟨z, _⟩
  · rw [z, si1, if_pos rfl]
  · exact absurd z h
/-- played, by what it answers -/
theorem Ch_played_c8 {C : zC} {n0 : Nat} {a0 : Nat} {a1 : Int32} {κ : zS} {Q : Int64 → zS → Prop} {X : zXp} (W : zW C n0 κ) (Ta0 : zT κ a0 = 15) (ρ : Nat → Nat) (L9 : Int) (σ9 : rS) (hr8 : RC8 κ a0 σ9) (hp : chI9 ρ κ a0 L9) (h : ∀ (v : Int64) (κ' : zS), (κ = κ' ∧ pc23 σ9 a1 ∧ v = pv23 σ9 a1) → Q v κ') (hx : ∀ (cls : String) (κ' : zS), (cls = "java/lang/IndexOutOfBoundsException" ∧ κ' = ut κ ∧ ¬ pc23 σ9 a1) → X cls κ') : zRun C 8 mCh_played [.ref a0, .int a1] κ (oJ Q X) := by
  refine Ch_played_run W Ta0 ?_
  replace W := W.lo (Nat.le_trans W.1.2.1 W.1.2.2) (Nat.le_refl (zn κ))
  unfold w_Ch_played_0
  have E := hp.2.2.2.2.2.1
  have e5 : (5 : Int32).toInt = 5 := rfl
  have i14 := hr8.1.2.1
  obtain ⟨r1, r2⟩ := hr8.2.2.2.2.2.1
  have hj18 : ∀ (s0 : Int32) (τ : zS), zW C (zn κ) τ → zT τ a0 = 15 → (κ = τ ∧ 0 ≤ s0.toInt ∧ s0.toInt ≤ 34 ∧ s0 = pw23 σ9 ∧ (s0.toInt = 0 ∨ s0.toInt = ((cu7 κ (zR κ chCode a0)).1 coVars).toInt + ((cu7 κ (zR κ chCode a0)).1 coCells).toInt)) → w_Ch_played_18 C (zn κ) Q X a0 a1 s0 τ := by
    rintro y18_s0 _ W18 T18_0 ⟨rfl, j1, j2, j3, j4⟩
    unfold w_Ch_played_18
    have s5 : ((5 : Int32) + y18_s0).toInt = 5 + y18_s0.toInt := by rw [add_i (by rw [e5]; omega) (by rw [e5]; omega), e5]
    refine ⟨fun c1 => ?_, fun c1 => ?_⟩
    · intro κ_2 hκ_2
      exact hx _ _ ⟨rfl, hκ_2, fun z => absurd c1 (Int32.not_lt.mpr z.1)⟩
    · have c1' : (0 : Int32) ≤ a1 := Int32.not_lt.mp c1
      refine ⟨fun c3 => ?_, fun c3 => ?_⟩
      · have pc : pc23 σ9 a1 := ⟨c1', by rw [← j3]; exact c3⟩
        refine ⟨fun c4 => ?_, fun c4 => ?_⟩
        · have n106 : σ9.1 106 ≠ -1 := fun z => c4 (r1.mpr z)
          obtain ⟨⟨q0, q1, q2, q3, q4⟩, q5⟩ := r2 n106
          have c3' := c3
          rw [lti, s5] at c3'
          refine ⟨fun c5 => ?_, fun c5 => ?_⟩
          · have c5' := c5
            rw [lei, e5] at c5'
            have sb : (a1 - (5 : Int32)).toInt = a1.toInt - 5 := by rw [sub_i (by rw [e5]; omega) (by rw [e5]; omega), e5]
            have kn := cnk (x := a1 - (5 : Int32)) (by omega)
            refine ⟨?_, ?_⟩
            · rw [inb_iff, E.2.1.2, sb]
              omega
            refine h _ _ ⟨rfl, pc, ?_⟩
            unfold pv23
            rw [if_neg n106, if_neg (fun z => by rw [z] at c5'; exact absurd c5' (by decide)), if_neg (fun z => by rw [z] at c5'; exact absurd c5' (by decide)), if_neg (fun z => by rw [z] at c5'; exact absurd c5' (by decide)), if_neg (fun z => by rw [z] at c5'; exact absurd c5' (by decide)), if_neg (fun z => by rw [z] at c5'; exact absurd c5' (by decide)), q5 _ (by omega)]
          · have c5' := c5
            rw [lei, e5] at c5'
            have c0 := c1'
            rw [lei, t0i] at c0
            refine ⟨?_, ?_⟩
            · rw [inb_iff, E.2.1.1]
              omega
            refine h _ _ ⟨rfl, pc, ?_⟩
            have t : ∀ k : Int32, a1.toInt = k.toInt → a1 = k := fun k hk => Int32.toInt_inj.mp hk
            have cs : a1 = 0 ∨ a1 = 1 ∨ a1 = 2 ∨ a1 = 3 ∨ a1 = 4 := by
              have y : a1.toInt = 0 ∨ a1.toInt = 1 ∨ a1.toInt = 2 ∨ a1.toInt = 3 ∨ a1.toInt = 4 := by omega
              rcases y with y | y | y | y | y
              · exact Or.inl (t 0 y)
              · exact Or.inr (Or.inl (t 1 y))
              · exact Or.inr (Or.inr (Or.inl (t 2 y)))
              · exact Or.inr (Or.inr (Or.inr (Or.inl (t 3 y))))
              · exact Or.inr (Or.inr (Or.inr (Or.inr (t 4 y))))
            unfold pv23
            rw [if_neg n106]
            rcases cs with y | y | y | y | y
            · rw [y, if_pos rfl]; exact q0
            · rw [y, if_neg (by decide), if_pos rfl]; exact q1
            · rw [y, if_neg (by decide), if_neg (by decide), if_pos rfl]; exact q2
            · rw [y, if_neg (by decide), if_neg (by decide), if_neg (by decide), if_pos rfl]; exact q3
            · rw [y, if_neg (by decide), if_neg (by decide), if_neg (by decide), if_neg (by decide), if_pos rfl]; exact q4
        · refine h _ _ ⟨rfl, pc, ?_⟩
          unfold pv23
          rw [if_pos (r1.mp (by first | exact c4 | (exact Classical.not_not.mp c4)))]
      · intro κ_6 hκ_6
        exact hx _ _ ⟨rfl, hκ_6, fun z => c3 (by rw [j3]; exact z.2)⟩
  refine ⟨fun c7 => ?_, fun c7 => ?_⟩
  · exact hj18 _ _ W Ta0 ⟨rfl, by decide, by decide, by unfold pw23; rw [if_pos (i14.mpr (by first | exact c7 | (exact Classical.not_not.mp c7)))], Or.inl rfl⟩
  · have n14 : σ9.1 14 ≠ 0 := fun z => c7 (i14.mp z)
    obtain ⟨nv, s, w, cr⟩ := hr8.1.2.2 n14
    obtain ⟨w1, w2, w3⟩ := rn_w23 cr
    intro T8
    refine Co_shared_c W T8 hp.1.2.1.1.1 (fun r9 q10 => ?_)
    intro W11
    intro M12
    have ew : r9 = Int32.ofNat w := Int32.toInt_inj.mp (by rw [ofn_i (by omega)]; omega)
    refine hj18 _ _ W Ta0 ⟨rfl, by omega, by omega, by unfold pw23; rw [if_neg n14, w3]; exact ew, Or.inr ?_⟩
    rw [cv_23.1, cv_23.2]
    exact q10

end
section
set_option maxHeartbeats 1600000
/-! the class: solve by what it answers -/
theorem tb_15 {κ : zS} {a : Nat} {σ : rS} (hr8 : RC8 κ a σ) (ex : σ.1 69 ≠ 0) (hP : pOK σ) (A : atW κ (zR κ chAtlas a) (σ.1 70).toNatClampNeg) : tbl15 κ (zR κ chAtlas a) (σ.1 70).toNatClampNeg σ := by
  obtain ⟨⟨nv, s, w, _, n, m, x, ⟨e1, e2, e3⟩, ⟨b1, b2, b3⟩, ⟨v1, v2, v3⟩, _, _, hx, hb, hl⟩, _, _, _, PL, _, UQ⟩ := hr8.2.2.1 ex
  have n70 : (σ.1 70).toNatClampNeg = n := by rw [e1, cl_5 (by omega)]
  have v3' : zI κ atNexts (zR κ chAtlas a) = Int32.ofNat x := v3
  refine ⟨⟨hP, rfl, A⟩, fun j hj => ⟨(hb j (by omega)).1, ?_⟩, fun j hj => ?_, fun j hj => ⟨(hb j (by omega)).2.2.2, (hb j (by omega)).2.1, PL j hj⟩, UQ.1⟩
  · by_cases c : j + 1 < n
    · exact (hb (j + 1) c).1
    · rw [show j + 1 = n by omega]
      exact hl (by omega)
  · rw [v3', ofn_i (by omega)] at hj
    exact hx j (by omega)
/-- solve, of the class: what it leaves of visits; worths and all else stay -/
def CV16 (κ κ' : zS) (a : Nat) (σ : rS) : Prop := (kW16 κ κ' a ∧ kS16 κ κ' a ∧ kD16 κ κ' a) ∧ (sc15 σ → fX15 κ' (zR κ' chSolver a) (σ.1 70).toNatClampNeg σ (sw15 σ) ∧ (sw15 σ = 0 ↔ zI κ' soSolved (zR κ' chSolver a) ≠ 0) ∧ (sw15 σ = 0 → ∀ k, k < (σ.1 70).toNatClampNeg → zT κ' (vU9 κ' (zR κ' chSolver a) k) = 11)) ∧ (¬ sc15 σ → kV16 κ κ' a)
theorem cv_r16 {κ : zS} {a : Nat} {σ : rS} (h : ¬ sc15 σ) : CV16 κ κ a σ := ⟨kA_r16.2, fun z => absurd z h, fun _ => kA_r16.1⟩
theorem cv_16 {C : zC} {n0 a : Nat} {L : Int} {ρ : Nat → Nat} {κ κ' : zS} {σ : rS} {v : Int32} (W : zW C n0 κ) (T : zT κ a = 15) (I : chI9 ρ κ a L) (q : fvP9 ρ κ κ' (zR κ chSolver a) (σ.1 70).toNatClampNeg) (ex : sc15 σ) (ev : v = sw15 σ) (zx : fX15 κ' (zR κ chSolver a) (σ.1 70).toNatClampNeg σ v) (zk : kr16 ρ κ κ') (zs : v = 0 ↔ zI κ' soSolved (zR κ chSolver a) ≠ 0) : CV16 κ κ' a σ := by
  obtain ⟨ρ', _, Z, S', A', _, _, V, _⟩ := q
  obtain ⟨rs, kw, ks, kd⟩ := sv_k16 W T I.2.2.1.1 I.2.2.1.2.2.2 Z zk
  unfold CV16
  rw [rs, ← ev]
  refine ⟨⟨kw, ks, kd⟩, fun e => ⟨zx, zs, fun z k hk => ?_⟩, fun z => absurd ex z⟩
  · obtain ⟨P, vs, _⟩ := V (zs.mp z)
    exact (S'.1.1.2 _ (by
      have a9 := A'.2.2.1
      rw [(vs k hk).2.1]
      unfold raR
      omega)).1
theorem Ch_solve_c8 {C : zC} {n0 : Nat} {a0 : Nat} {κ : zS} {Q : Int32 → zS → Prop} {X : zXp} (W : zW C n0 κ) (Ta0 : zT κ a0 = 15) (ρ : Nat → Nat) (L9 : Int) (σ9 : rS) (hr8 : RC8 κ a0 σ9) (hP : pOK σ9) (hp : chI9 ρ κ a0 L9) (h : ∀ (v : Int32) (κ' : zS), ((∃ ρ', chI9 ρ' κ' a0 L9 ∧ (∃ F, zF F κ κ') ∧ pA8 κ κ' a0 ∧ CV16 κ κ' a0 σ9) ∧ sc15 σ9 ∧ v = sw15 σ9) → Q v κ') (hx : ∀ (cls : String) (κ' : zS), (cls = "java/lang/IllegalStateException" ∧ κ' = ut κ ∧ ¬ sc15 σ9) → X cls κ') : zRun C 9 mCh_solve [.ref a0] κ (oI Q X) := by
  refine Ch_solve_run W Ta0 ?_
  replace W := W.lo (Nat.le_trans W.1.2.1 W.1.2.2) (Nat.le_refl (zn κ))
  unfold w_Ch_solve_0
  refine ⟨fun c1 => ?_, fun c1 => ?_⟩
  · have e69 : sc15 σ9 := fun z => c1 (hr8.2.1.mp z)
    obtain ⟨⟨nv, s, w, _, A8⟩, _⟩ := hr8.2.2.1 e69
    obtain ⟨⟨n9, A⟩, _⟩ := ch_x9 hp c1
    have n70 : n9 = (σ9.1 70).toNatClampNeg := by
      obtain ⟨n, m, x, ⟨f1, _⟩, ⟨b1, _⟩, ⟨v1, _⟩, _⟩ := A8
      have v1' : zI κ hoTotal (zR κ atStates (zR κ chAtlas a0)) = Int32.ofNat n := v1
      have y := A.2.2.2.1
      rw [v1', ofn_i (by omega)] at y
      rw [f1, cl_5 (by omega)]
      omega
    subst n70
    have lk := hp.2.2.1.2.2.1
    intro T2
    refine So_findVisitz_q16 W T2 ρ (σ9.1 70).toNatClampNeg σ9 (by rw [lk.1]; exact tb_15 hr8 e69 hP A) ?_ (fun r3 κ_4 q5 => ?_)
    · refine ⟨hp.2.2.1.1, ?_, by rw [lk.1]; exact A⟩
      rw [lk.2]
      exact hp.2.1.1.2.2.1
    intro W6
    intro M7
    obtain ⟨q5, zx, zk, zs⟩ := q5
    have ev := fx_15 hP rfl zx
    obtain ⟨ρ', I', Fr, P'⟩ := ch_v9 W Ta0 hp c1 A q5
    exact h _ _ ⟨⟨ρ', I', Fr, P', cv_16 W Ta0 hp q5 e69 ev zx zk zs⟩, e69, ev⟩
  · intro κ_8 hκ_8
    exact hx _ _ ⟨rfl, hκ_8, fun z => z (hr8.2.1.mpr (by first | exact c1 | (exact Classical.not_not.mp c1)))⟩
theorem ra_16 {κ κ' : zS} {a : Nat} {σ σ' : rS} (k : kR7 σ σ') (k2 : (∀ g, g ∈ ke8 → σ'.1 g = σ.1 g) ∧ (∀ g, g ∈ kx8 → σ'.2.2.1 g = σ.2.2.1 g) ∧ σ'.2.1 110 = σ.2.1 110) (h : RA8 κ a σ) (c : kC7 κ κ' a) (c2 : kA7 κ κ' a) (rk : RK16 κ' a σ') : RA8 κ' a σ' := rc_8 k ⟨k2.1, fun g q => k2.2.1 g ((by decide : ∀ g, g ∈ ky8 → g ∈ kx8) g q), k2.2.2⟩ h c (kA_b7 c2) rk (fun _ g j hj => by
  rw [k2.1 70 (by decide)] at hj
  rw [show plC8 κ' a = plC8 κ a from (Prod.mk.inj (Prod.mk.inj c2.2).2).1, k2.2.1 83 (by decide)]
  exact g j hj)
theorem kx_i16 {σ σ' : rS} (k : ∀ g, g ∈ kx8 → σ'.2.2.1 g = σ.2.2.1 g) : ∀ g, 76 ≤ g → g ≤ 83 → g ≠ 82 → σ'.2.2.1 g = σ.2.2.1 g := fun g g0 g1 _ => k g ((by decide : ∀ g, g ∈ kx7 → g ∈ kx8) g (kX_i16 (by omega) g1))
theorem k7_i16 {σ σ' : rS} (k1 : ∀ g, g ∈ ke8 → σ'.1 g = σ.1 g) (k2 : ∀ g, g ∈ kx8 → σ'.2.2.1 g = σ.2.2.1 g) : kT7 σ σ' := kX_7 ⟨fun g q => k1 g ((by decide : ∀ g, g ∈ kd7 → g ∈ ke8) g q), fun g q => k2 g ((by decide : ∀ g, g ∈ kx7 → g ∈ kx8) g q)⟩
theorem n1_16 {κ : zS} {a : Nat} {σ : rS} (h : RC8 κ a σ) (ex : σ.1 69 ≠ 0) : (σ.1 70).toNatClampNeg ≤ 1000 := by
  obtain ⟨⟨_, _, _, _, n, m, x, ⟨e1, _, _⟩, ⟨b1, _, _⟩, _⟩, _⟩ := h.2.2.1 ex
  rw [e1, cl_5 (by omega)]
  exact b1
theorem rv_16 {κ κ' : zS} {a : Nat} {σ σ' : rS} {v : Int32} (ht : RC8 κ a σ) (hP : pOK σ) (k : pV16 σ σ' v) (c : pA8 κ κ' a ∧ CV16 κ κ' a σ) : RC8 κ' a σ' := by
  obtain ⟨⟨k1, ke, kx, kl⟩, XV, ⟨f103, f114⟩, rr, nm⟩ := k
  obtain ⟨⟨c1, c2⟩, ⟨cw, cs, cd⟩, cy, cn⟩ := c
  obtain ⟨h1, h2, h3, h4⟩ := ht.2.2.2.2.2.2
  refine ⟨re_7 k1 ht.1 c1, ra_16 k1.2 ⟨ke, kx, kl⟩ ht.2 c1.2 c2 ⟨?_, RW_x16 h2 cw (k7_i16 ke kx) ⟨f114, rr⟩, RH_k16 h3 cs f103 (nM_515 nm), RD_k16 h4 cd (ke 106 (by decide)) (ke 109 (by decide)) (nM_716 nm)⟩⟩
  have e69 : σ'.1 69 = σ.1 69 := ke 69 (by decide)
  have e70 : σ'.1 70 = σ.1 70 := ke 70 (by decide)
  rcases XV with ⟨z, _, z94⟩ | ⟨ex, _, X, x94, o95⟩
  · have s0 : σ.1 94 = 0 := Decidable.byContradiction (fun y => (h1.2 y).1.1 z)
    have n15 : ¬ sc15 σ := fun y => y z
    refine ⟨by rw [(cn n15).1, z94]; exact h1.1, fun y => absurd (z94.trans s0) y⟩
  · have hv : v = sw15 σ := sx_15 hP rfl X
    obtain ⟨zx, zs, zt⟩ := cy ex
    rw [hv] at X x94 o95
    have er := pR_k16 (s := (σ.1 70).toNatClampNeg) (kx_i16 kx)
    have ec : cnE σ' = cnE σ := cnE_o e70 (fun k q => kx_i16 kx k (by omega) (by omega) (by omega))
    refine ⟨⟨fun y => Decidable.byContradiction (fun y2 => zs.mp (x94.mpr y2) y), fun y => Decidable.byContradiction (fun y2 => x94.mp (zs.mpr y2) y)⟩, fun y => ⟨⟨by rw [e69]; exact ex, by rw [e70]; exact n1_16 ht ex⟩, ?_⟩⟩
    have s0 : sw15 σ = 0 := x94.mpr y
    rw [e70, ec, er]
    rcases zx with ⟨_, nb, V, v1, v2, v3⟩ | ⟨y3, _⟩ | ⟨y3, _⟩
    · rcases X with ⟨_, _, U, u1, u2, u3⟩ | ⟨y3, _⟩ | ⟨y3, _⟩
      · have G := gP_15 hP rfl
        refine ⟨V, fun j hj => ⟨⟨zt s0 j hj, (v1 j hj).1⟩, ?_, o95 s0 j hj⟩, v2⟩
        have uj := u1 j hj
        by_cases cj : cnE σ j
        · rw [un_15 G.1 G.2.1 G.2.2 v2 u2 j hj cj cj]
          exact uj
        · rw [v2.1 j hj cj, ← u2.1 j hj cj]
          exact uj
      · rw [s0] at y3; exact absurd y3 (by decide)
      · rw [s0] at y3; exact absurd y3 (by decide)
    · rw [s0] at y3; exact absurd y3 (by decide)
    · rw [s0] at y3; exact absurd y3 (by decide)

end
section
set_option maxHeartbeats 1600000
/-! the class: show by what it answers -/
section
variable {C : zC} {n0 a : Nat} {L : Int} {ρ : Nat → Nat} {κ κ' : zS} {σ σ' : rS} {k c v : Int32}
theorem un_s16 {R : Nat → Prop} {ca b t : Nat} (ht : t = 15 ∨ t = 13 ∨ t = 5 ∨ t = 3 ∨ t = 6) : un9 (soF ρ R ca) b t := fun f hf z => by
  rcases z with ⟨_, z | z | z⟩ | ⟨_, z | z | z | z⟩ <;> rw [z] at hf <;> rcases ht with e | e | e | e | e <;> rw [e] at hf <;> exact absurd hf (by decide)
theorem sp_16 {R : Nat → Prop} {ca : Nat} (W : zW C n0 κ) (T : zT κ a = 15) (Z : zF (soF ρ R ca) κ κ') : pA8 κ κ' a := ⟨pC_v7 W T Z (un_s16 (by decide)) (un_s16 (by decide)) (un_s16 (by decide)), kA_z7 W T Z (un_s16 (t := 15) (by decide) _ (by decide)) (fun f hf _ => un_s16 (t := 3) (by decide) f hf) (un_s16 (by decide)) (un_s16 (by decide))⟩
theorem an_16 {m : Nat} (hr : RC8 κ a σ) (ex : σ.1 69 ≠ 0) (A : atW κ (zR κ chAtlas a) m) : m = (σ.1 70).toNatClampNeg := by
  obtain ⟨⟨nv, s, w, _, A8⟩, _⟩ := hr.2.2.1 ex
  obtain ⟨n, m, x, ⟨f1, _⟩, ⟨b1, _⟩, ⟨v1, _⟩, _⟩ := A8
  have v1' : zI κ hoTotal (zR κ atStates (zR κ chAtlas a)) = Int32.ofNat n := v1
  have y := A.2.2.2.1
  rw [v1', ofn_i (by omega)] at y
  rw [f1, cl_5 (by omega)]
  omega
theorem le_s16 (hr : RC8 κ a σ) (I : chI9 ρ κ a L) (ex : σ.1 69 ≠ 0) : lst16 κ (zR κ chAtlas a) σ := fun e i e0 e1 hi => by
  have x : zI κ atExplored (zR κ chAtlas a) ≠ 0 := fun z => ex (hr.2.1.mpr z)
  have ec : zR κ atCode (zR κ chAtlas a) = zR κ chCode a := (I.2.1.2.2 x).1.1
  obtain ⟨⟨nv, s, w, cr, n, m, x', ⟨f1, f2, f3⟩, ⟨b1, b2, b3⟩, ⟨v1, v2, v3⟩, _, hE, _⟩, _⟩ := hr.2.2.1 ex
  obtain ⟨s1, s2, s3⟩ := sh_8 cr
  have v2' : zI κ hoTotal (zR κ atEndings (zR κ chAtlas a)) = Int32.ofNat m := v2
  rw [lti, f2, ofn_i (by omega)] at e1
  have kn := cnk e0
  obtain ⟨K, g1, g2, g3⟩ := hE e.toNatClampNeg (by omega)
  rw [ec, s1] at hi
  have hk : hk9 κ (zR κ atEndings (zR κ chAtlas a)) K ((w + 1 : Nat) : Int) e.toNatClampNeg := by
    unfold hk9
    rw [v2', ofn_i (by omega)]
    exact g3
  obtain ⟨g4, g5, g6⟩ := hk
  have ki := cnk (x := i) (by omega)
  unfold pV9
  rw [if_pos ⟨⟨e0, by rw [v2', ofn_i (by omega)]; omega⟩, by omega, by rw [g5]; omega⟩]
  have y := g6 i.toNatClampNeg (by omega)
  have iw : i.toNatClampNeg = w := by omega
  rw [iw] at y ⊢
  refine y.trans (g2.trans ?_)
  have t35 : (35 : Int32).toInt = 35 := rfl
  have e2 : ((35 : Int32) * e).toInt = 35 * e.toInt := by rw [mul_i (by rw [t35]; omega) (by rw [t35]; omega), t35]
  have e3 : 35 * e.toNatClampNeg = ((35 : Int32) * e).toNatClampNeg := by
    rw [nc_5 (x := (35 : Int32) * e), e2]
    omega
  rw [e3]
theorem lz_16 {b n : Nat} (ls : lst16 κ b σ) (uz : UZ16 σ) (hn : n = (σ.1 70).toNatClampNeg) : (n = 0 → σ.2.2.1 75 0 = 0) ∧ lz16 κ b n := by
  have h70 : n = 0 → σ.1 70 ≤ 0 := fun n0 => by
    rw [lei, t0i]
    rw [hn, nc_5] at n0
    omega
  refine ⟨fun n0 => (uz.2 (h70 n0)).1, fun n0 i hi => ?_⟩
  obtain ⟨z75, z71⟩ := uz.2 (h70 n0)
  have y := ls 0 i (by decide) (by rw [z71]; decide) hi
  rw [show ((35 : Int32) * 0).toNatClampNeg = 0 from by decide] at y
  exact y.trans z75
theorem vs_16 (hr : RC8 κ a σ) (hP : pOK σ) (I : chI9 ρ κ a L) : ∃ V : Nat → Rat, zI κ soSolved (zR κ chSolver a) ≠ 0 → VS16 κ (zR κ chSolver a) (zR κ chAtlas a) (σ.1 70).toNatClampNeg σ V ∧ lst16 κ (zR κ chAtlas a) σ ∧ lz16 κ (zR κ chAtlas a) (σ.1 70).toNatClampNeg ∧ ((σ.1 70).toNatClampNeg = 0 → σ.2.2.1 75 0 = 0) := by
  have h1 := hr.2.2.2.2.2.2.1
  by_cases z : σ.1 94 = 0
  · exact ⟨fun _ => 0, fun y => absurd (h1.1.mpr z) y⟩
  · obtain ⟨⟨ex, _⟩, V, hv, hE⟩ := h1.2 z
    obtain ⟨⟨n9, A⟩, _⟩ := ch_x9 I (fun y => ex (hr.2.1.mpr y))
    have en := an_16 hr ex A
    subst en
    have ls := le_s16 hr I ex
    have lz := lz_16 (n := (σ.1 70).toNatClampNeg) ls (hr.2.2.1 ex).2.2.2.2.2.2 rfl
    exact ⟨V, fun _ => ⟨⟨tb_15 hr ex hP A, I.2.2.1.2.2.1.1, fun k hk => ⟨(hv k hk).1.2, (hv k hk).2.1.2.2⟩, fun k hk => (hv k hk).2.1, fun k hk => (hv k hk).2.2, hE⟩, ls, lz.2, lz.1⟩⟩
theorem gg_16 (hr : RC8 κ a σ) (ex : σ.1 69 ≠ 0) (lk : zR κ soAtlas (zR κ chSolver a) = zR κ chAtlas a) : ∀ k, k < (σ.1 70).toNatClampNeg → gg16 κ (zR κ chSolver a) k = σ.2.2.1 82 k := fun k hk => by
  obtain ⟨⟨nv, s, w, _, n, m, x, ⟨e1, _, _⟩, ⟨b1, _, _⟩, _, _, _, _, hb, _⟩, _⟩ := hr.2.2.1 ex
  rw [e1, cl_5 (by omega)] at hk
  show zA κ (zR κ atGains (zR κ soAtlas (zR κ chSolver a))) k = _
  rw [lk]
  exact (hb k hk).2.2.1
/-- show, of the class: what it leaves -/
def HS16 (κ κ' : zS) (a : Nat) (σ : rS) (k c : Int32) : Prop := (kV16 κ κ' a ∧ kW16 κ κ' a ∧ kD16 κ κ' a) ∧ (cc16 σ k c = 0 → fr16 κ' (zR κ' chShown a) (shR16 σ k c)) ∧ (cc16 σ k c ≠ 0 → kS16 κ κ' a)
theorem hs_r16 (h : cc16 σ k c ≠ 0) : HS16 κ κ a σ k c := ⟨⟨kA_r16.1, kA_r16.2.1, kA_r16.2.2.2⟩, fun z => absurd z h, fun _ => kA_r16.2.2.1⟩
/-- the draws of the last play, of both sides -/
theorem dc_16 (hr : RC8 κ a σ) (I : chI9 ρ κ a L) (z : zI κ chPlayMade a ≠ 0) : dO16 κ a ∧ pd16 (dW16 κ a) (dT16 κ a) (dC16 κ a).toNat = fQ σ 17 18 := by
  obtain ⟨r1, r2⟩ := hr.2.2.2.2.2.1
  have n106 : σ.1 106 ≠ -1 := fun y => z (r1.mpr y)
  obtain ⟨⟨_, _, _, e3, _⟩, _⟩ := r2 n106
  obtain ⟨_, ⟨p1, p2, _, p4⟩, l⟩ := hr.2.2.2.2.2.2.2.2.2 n106
  have ed : dC16 κ a = (σ.1 109).toInt := by
    show (zJ κ (zR κ chRecord a) 3).toInt = _
    rw [e3, Int32.toInt_toInt64]
  refine ⟨⟨⟨by rw [ed]; exact p1, by rw [ed]; exact l, I.2.2.2.2.2.1.2.2.1⟩, fun n hn => p2 n (by rw [← ed]; exact hn)⟩, ?_⟩
  rw [ed]
  exact p4
theorem rh_16 (ht : RC8 κ a σ) (kk : pH16 k c σ σ' v) (cc : pA8 κ κ' a ∧ HS16 κ κ' a σ k c) : RC8 κ' a σ' := by
  obtain ⟨⟨k1, ke, kx, kl⟩, ⟨f94, f114⟩, fh, n17, X⟩ := kk
  obtain ⟨⟨c1, c2⟩, ⟨cv, cw, cd⟩, c0, cn⟩ := cc
  obtain ⟨h1, h2, h3, h4⟩ := ht.2.2.2.2.2.2
  refine ⟨re_7 k1 ht.1 c1, ra_16 k1.2 ⟨ke, kx, kl⟩ ht.2 c1.2 c2 ⟨RS_k16 h1 cv (fun g q => ?_) (kx_i16 kx) (fun g q => fh g (by rcases q with q | q <;> rw [q] <;> decide)), RW_x16 h2 cw (k7_i16 ke kx) ⟨f114, fun g q => fh g (by rcases q with q | q <;> rw [q] <;> decide)⟩, ?_, RD_k16 h4 cd (ke 106 (by decide)) (ke 109 (by decide)) n17⟩⟩
  · rcases q with q | q | q <;> rw [q]
    · exact ke 69 (by decide)
    · exact ke 70 (by decide)
    · exact f94
  · by_cases z : cc16 σ k c = 0
    · obtain ⟨_, x2, x3⟩ := X.2.1 z
      exact ⟨_, c0 z, fun y => absurd y x3, fun _ => x2⟩
    · have y := X.2.2 z
      exact RH_k16 h3 (cn z) y.1 y.2
end
theorem Ch_show_c8 {C : zC} {n0 : Nat} {a0 : Nat} {a1 : Int32} {a2 : Int32} {κ : zS} {Q : Int32 → zS → Prop} {X : zXp} (W : zW C n0 κ) (Ta0 : zT κ a0 = 15) (ρ : Nat → Nat) (L9 : Int) (σ9 : rS) (hr8 : RC8 κ a0 σ9) (hP : pOK σ9) (hp : chI9 ρ κ a0 L9) (h : ∀ (v : Int32) (κ' : zS), ((chI9 ρ κ' a0 L9 ∧ (∃ F, zF F κ κ') ∧ pA8 κ κ' a0 ∧ HS16 κ κ' a0 σ9 a1 a2) ∧ cc16 σ9 a1 a2 = 0 ∧ v.toInt = (shR16 σ9 a1 a2).num.sign) → Q v κ') (hx : ∀ (cls : String) (κ' : zS), (((cls = "java/lang/IllegalArgumentException" ∧ cc16 σ9 a1 a2 = 1) ∨ (cls = "java/lang/IllegalStateException" ∧ cc16 σ9 a1 a2 = 2) ∨ (cls = "java/lang/IndexOutOfBoundsException" ∧ cc16 σ9 a1 a2 = 3)) ∧ κ' = ut κ) → X cls κ') : zRun C 8 mCh_show [.ref a0, .int a1, .int a2] κ (oI Q X) := by
  obtain ⟨h1, h2, h3, h4⟩ := hr8.2.2.2.2.2.2
  obtain ⟨V, hV⟩ := vs_16 hr8 hP hp
  obtain ⟨n8, P9, ho⟩ := ch_o9 hp
  have hm : zI κ chPlayMade a0 ≠ 0 ↔ σ9.1 106 ≠ -1 := not_congr hr8.2.2.2.2.2.1.1
  have hpl : zI κ soPlanned (zR κ chSolver a0) ≠ 0 ↔ σ9.1 114 ≠ 0 := not_congr h2.1
  have hs : zI κ soSolved (zR κ chSolver a0) ≠ 0 ↔ σ9.1 94 ≠ 0 := not_congr h1.1
  have lk := hp.2.2.1.2.2.1.1
  have ht : sB16 κ a0 σ9 V (σ9.1 70).toNatClampNeg a1 → ¬ a1 = 12 → zI κ hoTotal (zR κ atStates (zR κ chAtlas a0)) = σ9.1 70 ∧ zI κ hoTotal (zR κ atEndings (zR κ chAtlas a0)) = σ9.1 71 := fun B n12 => by
    rcases B with ⟨z, _⟩ | ⟨_, p⟩ | ⟨_, _, s, _⟩
    · exact absurd z n12
    · exact ax_8 hr8 (h2.2 (hpl.mp p)).1.1
    · exact ax_8 hr8 (h1.2 (hs.mp s)).1.1
  have CC := cc_q16 (kind := a1) (v := a2) hm hpl hs (fun z => ⟨(hV z).1, (hV z).2.2.2⟩) ht
  have ho' : zI κ soSolved (zR κ chSolver a0) ≠ 0 → odX9 ρ κ (zR κ chOdds a0) (σ9.1 70).toNatClampNeg P9 ∧ (0 < P9 ∧ P9 < pB9 1490) ∧ atW κ (zR κ chAtlas a0) (σ9.1 70).toNatClampNeg ∧ vsI9 ρ κ (zR κ chSolver a0) (σ9.1 70).toNatClampNeg P9 ∧ (σ9.1 70).toNatClampNeg ≤ (zN κ (zR κ soVisits (zR κ chSolver a0))) := fun z => by
    have y := ho z
    rw [an_16 hr8 (h1.2 (hs.mp z)).1.1 y.2.2.1] at y
    exact y
  refine Ch_show_q16 W Ta0 ρ L9 (σ9.1 70).toNatClampNeg P9 σ9 V (wr16 σ9) (fun z => ⟨(hV z).1.1, (hV z).2.1, (hV z).1.2.2.1, (hV z).2.2.1⟩) (fun z k hk => ?_) (fun z => (dc_16 hr8 hp z).1) ⟨hp, ho'⟩ (fun v κ' q => ?_) (fun cls κ' q => ?_)
  · obtain ⟨⟨ex, _⟩, w⟩ := h2.2 (hpl.mp z)
    rw [(ax_8 hr8 ex).1] at hk
    refine (w k ?_).1.2
    rw [nc_5]
    omega
  · obtain ⟨⟨I', Fr, _⟩, ⟨q1, q2⟩, qA, qB, qD, ca, Z⟩ := q
    have e0 := CC.2.2.2 ⟨qA, qB, qD⟩
    have eq : sq16 κ a0 σ9 V (wr16 σ9) (σ9.1 70).toNatClampNeg a1 a2 = shR16 σ9 a1 a2 := sq_e16 qA qB qD (fun z => ⟨(hV z).1, (hV z).2.2.2, gg_16 hr8 (h1.2 (hs.mp z)).1.1 lk, (ho' z).2.2.1.2.2.2.1⟩) (fun _ _ _ => rfl) (fun z => (dc_16 hr8 hp z).2)
    rw [eq] at q1 q2
    have t11 := (I'.2.2.1.1.1.1.2 (zR κ' chShown a0) (by rw [I'.2.2.1.2.2.2]; unfold raR; omega)).1
    have rh : zR κ' chShown a0 = zR κ chShown a0 := (soF_r9 Z (f := chShown) (by decide)).1
    refine h _ _ ⟨⟨I', Fr, sp_16 W Ta0 Z, sh_k16 W Ta0 hp.2.2.1.1 Z, fun _ => ⟨t11, ?_⟩, fun z => absurd e0 z⟩, e0, q1⟩
    rw [rh]
    exact q2
  · refine hx _ _ ⟨?_, q.1.2⟩
    rcases q.2 with ⟨e, z⟩ | ⟨e, z, y⟩ | ⟨e, z, y, x⟩
    · exact Or.inl ⟨e, CC.1 z⟩
    · exact Or.inr (Or.inl ⟨e, CC.2.1 ⟨z, y⟩⟩)
    · exact Or.inr (Or.inr ⟨e, CC.2.2.1 ⟨z, y, x⟩⟩)

end
section
/-! both answers -/
theorem an_a8 {σ σ' : rS} {k0 k1 v : Int32} (X : XH16 k0 k1 σ σ' v) (h : hc16 σ k0 k1) : σ'.1 0 = 0 ∧ hv16 σ k0 k1 = v := by
  rcases X with ⟨_, x1, x2⟩ | ⟨n, _⟩
  · exact ⟨x1, x2.symm⟩
  · exact absurd h n
theorem an_b8 {σ σ' : rS} {k0 k1 v e : Int32} (X : XH16 k0 k1 σ σ' v) (h : cc16 σ k0 k1 = e) (ne : e ≠ 0) : σ'.1 0 = e := by
  rcases X with ⟨y, _⟩ | ⟨_, x1⟩
  · exact absurd (h.symm.trans y) ne
  · exact x1.trans h

end
section
set_option maxHeartbeats 1600000
/-! the class: ChanceWorks.program, behind its call of the parser -/
theorem fl_X12_128 : (tFL 15).lookup 128 = some (10, 17) := by decide +kernel
theorem fl_X12_132 : (tFL 15).lookup 132 = some (10, 18) := by decide +kernel
theorem fl_X12_151 : (tFL 15).lookup 151 = some (5, 13) := by decide +kernel
theorem gf_X12_23 {C : zC} {n0 d : Nat} {r : dM} {pc : Nat} {L : List (Option Value)} {st : List Value} {κ : zS} {Q : zU → zS → Prop} {a : Nat} (W : zW C n0 κ) (hd : decode r.2.1 pc = .ok (.getfield 23, 3)) (ho : r.2.2.2.2.2.1 = 15) (hT : zT κ a = 15) (K : zG C n0 d r (pc + 3) L (.ref (zR κ chSpare a) :: st) κ Q) : zG C n0 d r pc L (.ref a :: st) κ Q := y_getr W hd ho fl_X12_23 fk_chSpare (Or.inl hT) (ty_chSpare W hT) K
theorem gf_X12_31 {C : zC} {n0 d : Nat} {r : dM} {pc : Nat} {L : List (Option Value)} {st : List Value} {κ : zS} {Q : zU → zS → Prop} {a : Nat} (W : zW C n0 κ) (hd : decode r.2.1 pc = .ok (.getfield 31, 3)) (ho : r.2.2.2.2.2.1 = 15) (hT : zT κ a = 15) (K : zG C n0 d r (pc + 3) L (.ref (zR κ chParser a) :: st) κ Q) : zG C n0 d r pc L (.ref a :: st) κ Q := y_getr W hd ho fl_X12_31 fk_chParser (Or.inl hT) (ty_chParser W hT) K
theorem gf_X12_128 {C : zC} {n0 d : Nat} {r : dM} {pc : Nat} {L : List (Option Value)} {st : List Value} {κ : zS} {Q : zU → zS → Prop} {a : Nat} (hd : decode r.2.1 pc = .ok (.getfield 128, 3)) (ho : r.2.2.2.2.2.1 = 15) (hB : zBo κ a 10) (K : zG C n0 d r (pc + 3) L (.int (zI κ paFaultCode a) :: st) κ Q) : zG C n0 d r pc L (.ref a :: st) κ Q := y_geti hd ho fl_X12_128 fk_paFaultCode hB K
theorem gf_X12_132 {C : zC} {n0 d : Nat} {r : dM} {pc : Nat} {L : List (Option Value)} {st : List Value} {κ : zS} {Q : zU → zS → Prop} {a : Nat} (hd : decode r.2.1 pc = .ok (.getfield 132, 3)) (ho : r.2.2.2.2.2.1 = 15) (hB : zBo κ a 10) (K : zG C n0 d r (pc + 3) L (.int (zI κ paFaultPlace a) :: st) κ Q) : zG C n0 d r pc L (.ref a :: st) κ Q := y_geti hd ho fl_X12_132 fk_paFaultPlace hB K
theorem gf_X12_151 {C : zC} {n0 d : Nat} {r : dM} {pc : Nat} {L : List (Option Value)} {st : List Value} {κ : zS} {Q : zU → zS → Prop} {a : Nat} (hd : decode r.2.1 pc = .ok (.getfield 151, 3)) (ho : r.2.2.2.2.2.1 = 15) (hB : zBo κ a 5) (K : zG C n0 d r (pc + 3) L (.int (zI κ coStatements a) :: st) κ Q) : zG C n0 d r pc L (.ref a :: st) κ Q := y_geti hd ho fl_X12_151 fk_coStatements hB K
theorem pf_X12_131 {C : zC} {n0 d : Nat} {r : dM} {pc : Nat} {L : List (Option Value)} {st : List Value} {κ : zS} {Q : zU → zS → Prop} {a : Nat} {x : Int32} (W : zW C n0 κ) (hd : decode r.2.1 pc = .ok (.putfield 131, 3)) (ho : r.2.2.2.2.2.1 = 15) (hB : zBo κ a 15) (K : ∀ κ1, κ1 = ui κ chFaultCode a x → zG C n0 d r (pc + 3) L st κ1 Q) : zG C n0 d r pc L (.int x :: .ref a :: st) κ Q := y_puti W hd ho fl_X12_131 fk_chFaultCode rfl (Or.inl rfl) in_nar hB K
theorem pf_X12_135 {C : zC} {n0 d : Nat} {r : dM} {pc : Nat} {L : List (Option Value)} {st : List Value} {κ : zS} {Q : zU → zS → Prop} {a : Nat} {x : Int32} (W : zW C n0 κ) (hd : decode r.2.1 pc = .ok (.putfield 135, 3)) (ho : r.2.2.2.2.2.1 = 15) (hn : narrow .boolean (.int x) = .int x ∧ fits .boolean (.int x) = true) (hB : zBo κ a 15) (K : ∀ κ1, κ1 = ui κ chReady a x → zG C n0 d r (pc + 3) L st κ1 Q) : zG C n0 d r pc L (.int x :: .ref a :: st) κ Q := y_puti W hd ho fl_X12_135 fk_chReady rfl (Or.inl rfl) hn hB K
theorem pf_X12_139 {C : zC} {n0 d : Nat} {r : dM} {pc : Nat} {L : List (Option Value)} {st : List Value} {κ : zS} {Q : zU → zS → Prop} {a : Nat} {x : Int32} (W : zW C n0 κ) (hd : decode r.2.1 pc = .ok (.putfield 139, 3)) (ho : r.2.2.2.2.2.1 = 15) (hn : narrow .boolean (.int x) = .int x ∧ fits .boolean (.int x) = true) (hB : zBo κ a 3) (K : ∀ κ1, κ1 = ui κ atExplored a x → zG C n0 d r (pc + 3) L st κ1 Q) : zG C n0 d r pc L (.int x :: .ref a :: st) κ Q := y_puti W hd ho fl_X12_139 fk_atExplored rfl (Or.inl rfl) hn hB K
theorem k_X12_123 {C : zC} {n0 d : Nat} {r : dM} {pc : Nat} {L : List (Option Value)} {st : List Value} {κ : zS} {Q : zU → zS → Prop} {x0 : Nat} {x1 : Nat} {F : zS → Prop} {X : zXp} (W : zW C n0 κ) (hd : decode r.2.1 pc = .ok (.invokevirtual 123, 3)) (ho : r.2.2.2.2.2.1 = 15) (h0 : 14 ≤ d) (hc : (st.map fun v => v.category).sum ≤ 8) (hB : zBo κ x0 10) (h : zRun C 14 mPa_read [.ref x0, .ref x1] κ (oV F X)) (K : ∀ κ', zW C n0 κ' → zM (zn κ) κ κ' → F κ' → zG C n0 (d + 1) r (pc + 3) L (st) κ' Q) (KX : ∀ cls κ', X cls κ' → Q (.inr cls) κ') : zG C n0 (d + 1) r pc L (.ref x1 :: .ref x0 :: st) κ Q := by
  exact y_call (As := [.ref x1]) W hd ho (j := 143) (by decide +kernel) rfl ⟨rfl, by decide, by decide, by decide⟩ rfl (Nat.le_of_ble_eq_true rfl) h0 hc hB h (fun v κ' w9 m9 p9 => ezV K w9 m9 p9) (fun cls κ' p9 => KX cls κ' (thrV p9))
abbrev mCh_program : dM := (yX12_program, cX12_program, 3, (some .int), false, 15, 0)
theorem dX12_program_0 : decode cX12_program 0 = .ok (.iconst 1, 1) := by decide +kernel
theorem dX12_program_1 : decode cX12_program 1 = .ok (.istore_n 1, 1) := by decide +kernel
theorem dX12_program_2 : decode cX12_program 2 = .ok (.aload_n 0, 1) := by decide +kernel
theorem dX12_program_3 : decode cX12_program 3 = .ok (.getfield 31, 3) := by decide +kernel
theorem dX12_program_6 : decode cX12_program 6 = .ok (.aload_n 0, 1) := by decide +kernel
theorem dX12_program_7 : decode cX12_program 7 = .ok (.getfield 23, 3) := by decide +kernel
theorem dX12_program_10 : decode cX12_program 10 = .ok (.invokevirtual 123, 3) := by decide +kernel
theorem dX12_program_13 : decode cX12_program 13 = .ok (.goto 6, 3) := by decide +kernel
theorem dX12_program_19 : decode cX12_program 19 = .ok (.aload_n 0, 1) := by decide +kernel
theorem dX12_program_20 : decode cX12_program 20 = .ok (.getfield 12, 3) := by decide +kernel
theorem dX12_program_23 : decode cX12_program 23 = .ok (.iconst 0, 1) := by decide +kernel
theorem dX12_program_24 : decode cX12_program 24 = .ok (.putfield 100, 3) := by decide +kernel
theorem dX12_program_27 : decode cX12_program 27 = .ok (.aload_n 0, 1) := by decide +kernel
theorem dX12_program_28 : decode cX12_program 28 = .ok (.iload_n 1, 1) := by decide +kernel
theorem dX12_program_29 : decode cX12_program 29 = .ok (.ifCond .eq 7, 3) := by decide +kernel
theorem dX12_program_32 : decode cX12_program 32 = .ok (.iconst 0, 1) := by decide +kernel
theorem dX12_program_33 : decode cX12_program 33 = .ok (.goto 10, 3) := by decide +kernel
theorem dX12_program_36 : decode cX12_program 36 = .ok (.aload_n 0, 1) := by decide +kernel
theorem dX12_program_37 : decode cX12_program 37 = .ok (.getfield 31, 3) := by decide +kernel
theorem dX12_program_40 : decode cX12_program 40 = .ok (.getfield 128, 3) := by decide +kernel
theorem dX12_program_43 : decode cX12_program 43 = .ok (.putfield 131, 3) := by decide +kernel
theorem dX12_program_46 : decode cX12_program 46 = .ok (.iload_n 1, 1) := by decide +kernel
theorem dX12_program_47 : decode cX12_program 47 = .ok (.ifCond .ne 13, 3) := by decide +kernel
theorem dX12_program_50 : decode cX12_program 50 = .ok (.iconst (-1), 1) := by decide +kernel
theorem dX12_program_51 : decode cX12_program 51 = .ok (.aload_n 0, 1) := by decide +kernel
theorem dX12_program_52 : decode cX12_program 52 = .ok (.getfield 31, 3) := by decide +kernel
theorem dX12_program_55 : decode cX12_program 55 = .ok (.getfield 132, 3) := by decide +kernel
theorem dX12_program_58 : decode cX12_program 58 = .ok (.isub, 1) := by decide +kernel
theorem dX12_program_59 : decode cX12_program 59 = .ok (.ireturn, 1) := by decide +kernel
theorem dX12_program_60 : decode cX12_program 60 = .ok (.aload_n 0, 1) := by decide +kernel
theorem dX12_program_61 : decode cX12_program 61 = .ok (.getfield 19, 3) := by decide +kernel
theorem dX12_program_64 : decode cX12_program 64 = .ok (.astore_n 2, 1) := by decide +kernel
theorem dX12_program_65 : decode cX12_program 65 = .ok (.aload_n 0, 1) := by decide +kernel
theorem dX12_program_66 : decode cX12_program 66 = .ok (.aload_n 0, 1) := by decide +kernel
theorem dX12_program_67 : decode cX12_program 67 = .ok (.getfield 23, 3) := by decide +kernel
theorem dX12_program_70 : decode cX12_program 70 = .ok (.putfield 19, 3) := by decide +kernel
theorem dX12_program_73 : decode cX12_program 73 = .ok (.aload_n 0, 1) := by decide +kernel
theorem dX12_program_74 : decode cX12_program 74 = .ok (.aload_n 2, 1) := by decide +kernel
theorem dX12_program_75 : decode cX12_program 75 = .ok (.putfield 23, 3) := by decide +kernel
theorem dX12_program_78 : decode cX12_program 78 = .ok (.aload_n 0, 1) := by decide +kernel
theorem dX12_program_79 : decode cX12_program 79 = .ok (.iconst 1, 1) := by decide +kernel
theorem dX12_program_80 : decode cX12_program 80 = .ok (.putfield 135, 3) := by decide +kernel
theorem dX12_program_83 : decode cX12_program 83 = .ok (.aload_n 0, 1) := by decide +kernel
theorem dX12_program_84 : decode cX12_program 84 = .ok (.getfield 49, 3) := by decide +kernel
theorem dX12_program_87 : decode cX12_program 87 = .ok (.iconst 0, 1) := by decide +kernel
theorem dX12_program_88 : decode cX12_program 88 = .ok (.putfield 139, 3) := by decide +kernel
theorem dX12_program_91 : decode cX12_program 91 = .ok (.aload_n 0, 1) := by decide +kernel
theorem dX12_program_92 : decode cX12_program 92 = .ok (.getfield 61, 3) := by decide +kernel
theorem dX12_program_95 : decode cX12_program 95 = .ok (.iconst 0, 1) := by decide +kernel
theorem dX12_program_96 : decode cX12_program 96 = .ok (.putfield 142, 3) := by decide +kernel
theorem dX12_program_99 : decode cX12_program 99 = .ok (.aload_n 0, 1) := by decide +kernel
theorem dX12_program_100 : decode cX12_program 100 = .ok (.getfield 61, 3) := by decide +kernel
theorem dX12_program_103 : decode cX12_program 103 = .ok (.iconst 0, 1) := by decide +kernel
theorem dX12_program_104 : decode cX12_program 104 = .ok (.putfield 145, 3) := by decide +kernel
theorem dX12_program_107 : decode cX12_program 107 = .ok (.aload_n 0, 1) := by decide +kernel
theorem dX12_program_108 : decode cX12_program 108 = .ok (.iconst 0, 1) := by decide +kernel
theorem dX12_program_109 : decode cX12_program 109 = .ok (.putfield 148, 3) := by decide +kernel
theorem dX12_program_112 : decode cX12_program 112 = .ok (.aload_n 0, 1) := by decide +kernel
theorem dX12_program_113 : decode cX12_program 113 = .ok (.getfield 19, 3) := by decide +kernel
theorem dX12_program_116 : decode cX12_program 116 = .ok (.getfield 151, 3) := by decide +kernel
theorem dX12_program_119 : decode cX12_program 119 = .ok (.ireturn, 1) := by decide +kernel
def w_Ch_program_43 (C : zC) (n0 : Nat) (Q : Int32 → zS → Prop)  (a0 : Nat) (a1 : Int32) (s0 : Nat) (s1 : Int32) (κ : zS) : Prop :=
  ∀ κ1, κ1 = ui κ chFaultCode s0 s1 →
  ∀ _ : zW C n0 κ1,
  (¬ a1 = (0 : Int32) →
    ∀ v2_3 : Nat, v2_3 = (zR κ1 chCode a0) →
    ∀ κ4, κ4 = ur κ1 chCode a0 (zR κ1 chSpare a0) →
    ∀ _ : zW C n0 κ4,
    ∀ κ5, κ5 = ur κ4 chSpare a0 v2_3 →
    ∀ _ : zW C n0 κ5,
    ∀ κ8, κ8 = ui κ5 chReady a0 (1 : Int32) →
    ∀ _ : zW C n0 κ8,
    ∀ κ11, κ11 = ui κ8 atExplored (zR κ8 chAtlas a0) (0 : Int32) →
    ∀ _ : zW C n0 κ11,
    ∀ κ13, κ13 = ui κ11 soSolved (zR κ11 chSolver a0) (0 : Int32) →
    ∀ _ : zW C n0 κ13,
    ∀ κ15, κ15 = ui κ13 soPlanned (zR κ13 chSolver a0) (0 : Int32) →
    ∀ _ : zW C n0 κ15,
    ∀ κ16, κ16 = ui κ15 chPlayMade a0 (0 : Int32) →
    ∀ _ : zW C n0 κ16,
    Q (zI κ16 coStatements (zR κ16 chCode a0)) κ16) ∧
  (a1 = (0 : Int32) →
    Q ((-1 : Int32) - (zI κ1 paFaultPlace (zR κ1 chParser a0))) κ1)
theorem t_Ch_program_43 {C : zC} {n0 : Nat} {Q : Int32 → zS → Prop}   {a0 : Nat} {a1 : Int32} {s0 : Nat} {s1 : Int32} {κ : zS} (W : zW C n0 κ) (Ta0 : zT κ a0 = 15) (Ts0 : zT κ s0 = 15) (F : w_Ch_program_43 C n0 Q  a0 a1 s0 s1 κ) : zG C n0 15 mCh_program 43 [some (.ref a0), some (.int a1), none] [.int s1, .ref s0] κ (oI Q noX) := by
  unfold w_Ch_program_43 at F
  refine pf_X12_131 W dX12_program_43 rfl (Or.inl Ts0) (fun κ1 eκ1 => ?_)
  replace F := F κ1 eκ1
  have Wκ1 : zW C n0 κ1 := zW_ui W eκ1 (fun h => absurd h (by decide))
  have Mκ1 : zM (zn κ) κ κ1 := by rw [eκ1]; exact zM.of rfl rfl rfl
  replace F := F Wκ1
  refine y_iln dX12_program_46 rfl ?_
  refine y_in (a1 = (0 : Int32)) dX12_program_47 (t := 60) rfl rfl (fun c9 => ?_) (fun c9 => ?_)
  · replace F := F.1 c9
    refine y_aln dX12_program_60 rfl ?_
    have h2 := (ztm W Mκ1 Ta0)
    refine gf_X12_19 Wκ1 dX12_program_61 rfl h2 ?_
    refine y_asnb dX12_program_64 (Nat.le_of_ble_eq_true rfl) (fun v2_3 ev2_3 => ?_)
    replace F := F v2_3 ev2_3
    have Tv2_3 : zT κ1 v2_3 = 5 := by rw [ev2_3]; exact (ty_chCode Wκ1 h2)
    refine y_aln dX12_program_65 rfl ?_
    refine y_aln dX12_program_66 rfl ?_
    refine gf_X12_23 Wκ1 dX12_program_67 rfl h2 ?_
    refine pf_X12_19 Wκ1 dX12_program_70 rfl (Or.inl h2) (ty_chSpare Wκ1 h2) (fun κ4 eκ4 => ?_)
    replace F := F κ4 eκ4
    have Wκ4 : zW C n0 κ4 := zW_ur Wκ1 eκ4 (fun t ht => by cases ht; exact ⟨by decide, (ty_chSpare Wκ1 h2)⟩)
    have Mκ4 : zM (zn κ1) κ1 κ4 := by rw [eκ4]; exact zM.of rfl rfl rfl
    replace F := F Wκ4
    refine y_aln dX12_program_73 rfl ?_
    refine y_aln dX12_program_74 rfl ?_
    have h6 := (ztm Wκ1 Mκ4 Tv2_3)
    have h7 := (ztm Wκ1 Mκ4 h2)
    refine pf_X12_23 Wκ4 dX12_program_75 rfl (Or.inl h7) h6 (fun κ5 eκ5 => ?_)
    replace F := F κ5 eκ5
    have Wκ5 : zW C n0 κ5 := zW_ur Wκ4 eκ5 (fun t ht => by cases ht; exact ⟨by decide, h6⟩)
    have Mκ5 : zM (zn κ4) κ4 κ5 := by rw [eκ5]; exact zM.of rfl rfl rfl
    replace F := F Wκ5
    refine y_aln dX12_program_78 rfl ?_
    refine y_ic dX12_program_79 zi_1 ?_
    have h9 := (ztm Wκ4 Mκ5 h7)
    refine pf_X12_135 Wκ5 dX12_program_80 rfl (nb_nar nb_1) (Or.inl h9) (fun κ8 eκ8 => ?_)
    replace F := F κ8 eκ8
    have Wκ8 : zW C n0 κ8 := zW_ui Wκ5 eκ8 (fun _ => nb_1)
    have Mκ8 : zM (zn κ5) κ5 κ8 := by rw [eκ8]; exact zM.of rfl rfl rfl
    replace F := F Wκ8
    refine y_aln dX12_program_83 rfl ?_
    have h10 := (ztm Wκ5 Mκ8 h9)
    refine gf_X12_49 Wκ8 dX12_program_84 rfl h10 ?_
    refine y_ic dX12_program_87 zi_0 ?_
    refine pf_X12_139 Wκ8 dX12_program_88 rfl (nb_nar nb_0) (Or.inl (ty_chAtlas Wκ8 h10)) (fun κ11 eκ11 => ?_)
    replace F := F κ11 eκ11
    have Wκ11 : zW C n0 κ11 := zW_ui Wκ8 eκ11 (fun _ => nb_0)
    have Mκ11 : zM (zn κ8) κ8 κ11 := by rw [eκ11]; exact zM.of rfl rfl rfl
    replace F := F Wκ11
    refine y_aln dX12_program_91 rfl ?_
    have h12 := (ztm Wκ8 Mκ11 h10)
    refine gf_X12_61 Wκ11 dX12_program_92 rfl h12 ?_
    refine y_ic dX12_program_95 zi_0 ?_
    refine pf_X12_142 Wκ11 dX12_program_96 rfl (nb_nar nb_0) (Or.inl (ty_chSolver Wκ11 h12)) (fun κ13 eκ13 => ?_)
    replace F := F κ13 eκ13
    have Wκ13 : zW C n0 κ13 := zW_ui Wκ11 eκ13 (fun _ => nb_0)
    have Mκ13 : zM (zn κ11) κ11 κ13 := by rw [eκ13]; exact zM.of rfl rfl rfl
    replace F := F Wκ13
    refine y_aln dX12_program_99 rfl ?_
    have h14 := (ztm Wκ11 Mκ13 h12)
    refine gf_X12_61 Wκ13 dX12_program_100 rfl h14 ?_
    refine y_ic dX12_program_103 zi_0 ?_
    refine pf_X12_145 Wκ13 dX12_program_104 rfl (nb_nar nb_0) (Or.inl (ty_chSolver Wκ13 h14)) (fun κ15 eκ15 => ?_)
    replace F := F κ15 eκ15
    have Wκ15 : zW C n0 κ15 := zW_ui Wκ13 eκ15 (fun _ => nb_0)
    have Mκ15 : zM (zn κ13) κ13 κ15 := by rw [eκ15]; exact zM.of rfl rfl rfl
    replace F := F Wκ15
    refine y_aln dX12_program_107 rfl ?_
    refine y_ic dX12_program_108 zi_0 ?_
    have h17 := (ztm Wκ13 Mκ15 h14)
    refine pf_X12_148 Wκ15 dX12_program_109 rfl (nb_nar nb_0) (Or.inl h17) (fun κ16 eκ16 => ?_)
    replace F := F κ16 eκ16
    have Wκ16 : zW C n0 κ16 := zW_ui Wκ15 eκ16 (fun _ => nb_0)
    have Mκ16 : zM (zn κ15) κ15 κ16 := by rw [eκ16]; exact zM.of rfl rfl rfl
    replace F := F Wκ16
    refine y_aln dX12_program_112 rfl ?_
    have h18 := (ztm Wκ15 Mκ16 h17)
    refine gf_X12_19 Wκ16 dX12_program_113 rfl h18 ?_
    refine gf_X12_151 dX12_program_116 rfl (Or.inl (ty_chCode Wκ16 h18)) ?_
    exact y_ri Wκ16 dX12_program_119 rfl in_nar F
  · replace F := F.2 c9
    refine y_ic dX12_program_50 zi_m1 ?_
    refine y_aln dX12_program_51 rfl ?_
    have h19 := (ztm W Mκ1 Ta0)
    refine gf_X12_31 Wκ1 dX12_program_52 rfl h19 ?_
    refine gf_X12_132 dX12_program_55 rfl (Or.inl (ty_chParser Wκ1 h19)) ?_
    refine y_isub dX12_program_58 ?_
    exact y_ri Wκ1 dX12_program_59 rfl in_nar F

def w_Ch_program_19 (C : zC) (n0 : Nat) (Q : Int32 → zS → Prop)  (a0 : Nat) (a1 : Int32) (κ : zS) : Prop :=
  ∀ κ1, κ1 = ui κ taLength (zR κ chTape a0) (0 : Int32) →
  ∀ _ : zW C n0 κ1,
  (a1 = (0 : Int32) →
    w_Ch_program_43 C n0 Q  a0 a1 a0 (zI κ1 paFaultCode (zR κ1 chParser a0)) κ1) ∧
  (¬ a1 = (0 : Int32) →
    w_Ch_program_43 C n0 Q  a0 a1 a0 (0 : Int32) κ1)
theorem t_Ch_program_19 {C : zC} {n0 : Nat} {Q : Int32 → zS → Prop}   {a0 : Nat} {a1 : Int32} {κ : zS} (W : zW C n0 κ) (Ta0 : zT κ a0 = 15) (F : w_Ch_program_19 C n0 Q  a0 a1 κ) : zG C n0 15 mCh_program 19 [some (.ref a0), some (.int a1), none] [] κ (oI Q noX) := by
  unfold w_Ch_program_19 at F
  refine y_aln dX12_program_19 rfl ?_
  refine gf_X12_12 W dX12_program_20 rfl Ta0 ?_
  refine y_ic dX12_program_23 zi_0 ?_
  refine pf_X12_100 W dX12_program_24 rfl (Or.inl (ty_chTape W Ta0)) (fun κ1 eκ1 => ?_)
  replace F := F κ1 eκ1
  have Wκ1 : zW C n0 κ1 := zW_ui W eκ1 (fun h => absurd h (by decide))
  have Mκ1 : zM (zn κ) κ κ1 := by rw [eκ1]; exact zM.of rfl rfl rfl
  replace F := F Wκ1
  refine y_aln dX12_program_27 rfl ?_
  refine y_iln dX12_program_28 rfl ?_
  refine y_i (a1 = (0 : Int32)) dX12_program_29 (t := 36) rfl rfl (fun c9 => ?_) (fun c9 => ?_)
  · replace F := F.1 c9
    refine y_aln dX12_program_36 rfl ?_
    have h2 := (ztm W Mκ1 Ta0)
    refine gf_X12_31 Wκ1 dX12_program_37 rfl h2 ?_
    refine gf_X12_128 dX12_program_40 rfl (Or.inl (ty_chParser Wκ1 h2)) ?_
    exact y_k (t_Ch_program_43  Wκ1 h2 h2 F) ⟨rfl, rfl, trivial⟩
  · replace F := F.2 c9
    refine y_ic dX12_program_32 zi_0 ?_
    refine y_goto dX12_program_33 (t := 43) rfl ?_
    have h3 := (ztm W Mκ1 Ta0)
    exact y_k (t_Ch_program_43  Wκ1 h3 h3 F) ⟨rfl, rfl, trivial⟩


end
