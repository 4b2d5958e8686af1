section
set_option maxHeartbeats 1600000
/-! the class: Machine's spreadOut -/
theorem maL_f {κ τ : zS} {m : Nat} (h : mF κ τ m) (H : maL κ m) : maL τ m := by
  unfold maL
  rw [h.2.1, h.2.2.1]
  exact H
theorem uVa {C : zC} {n0 m i : Nat} {κ τ : zS} {x : Int32} (W : zW C n0 κ) (T : zT κ m = 7) (e : τ = ua κ (zR κ maValues m) i x) : mF κ τ m ∧ mS κ τ m ∧ zI τ = zI κ ∧ zT τ m = 7 := by
  obtain ⟨f1, f2, f3⟩ := mF_ua W T (show zr maValues = some 20 by decide +kernel) (by decide) e
  exact ⟨f1, f2, f3, f1.1.t T (by decide)⟩
theorem uWt {C : zC} {n0 m i : Nat} {κ τ : zS} {x : Int32} (W : zW C n0 κ) (T : zT κ m = 7) (e : τ = ua κ (zR κ maWeights m) i x) : mF κ τ m ∧ mS0 κ τ m ∧ zI τ = zI κ ∧ zT τ m = 7 := by
  obtain ⟨f1, f2, f3⟩ := mF_ub W T (show zr maWeights = some 20 by decide +kernel) (by decide) e
  exact ⟨f1, f2, f3, f1.1.t T (by decide)⟩
/-- a draw's weights so far -/
def spW (κ : zS) (m : Nat) (g x : Int32) : Prop := g ≠ 0 → (∀ n : Nat, (n : Int) < x.toInt → 0 ≤ (zA κ (zR κ maWeights m) n).toInt ∧ (zA κ (zR κ maWeights m) n).toInt ≤ 1000000) ∧ (zI κ maTotal m).toInt = sgI (fun n => (zA κ (zR κ maWeights m) n).toInt) x.toInt.toNat ∧ (x.toInt = 0 ∨ x.toInt ≤ (zI κ maWays m).toInt)
def spO (κ : zS) (m : Nat) : Prop := 8 < (zI κ maWays m).toInt → ∀ n : Nat, (n : Int) < (zI κ maWays m).toInt → (zA κ (zR κ maWeights m) n).toInt = 1
theorem spO_e {κ τ : zS} {m : Nat} (w : zI τ maWays m = zI κ maWays m) (a : zA τ (zR τ maWeights m) = zA κ (zR κ maWeights m)) (H : spO κ m) : spO τ m := by
  unfold spO
  rw [w, a]
  exact H
theorem spW_n {κ τ : zS} {m : Nat} {g g' x y : Int32} (H : spW κ m g x) (h0 : 0 ≤ x.toInt) (h1 : x.toInt < (zI κ maWays m).toInt) (h6 : (zI κ maWays m).toInt ≤ 64) (hg : g' ≠ 0 → g ≠ 0 ∧ 0 ≤ (zA κ (zR κ maWeights m) x.toNatClampNeg).toInt ∧ (zA κ (zR κ maWeights m) x.toNatClampNeg).toInt ≤ 1000000) (e : τ = ui κ maTotal m (zI κ maTotal m + zA κ (zR κ maWeights m) x.toNatClampNeg)) (hy : y.toInt = x.toInt + 1) : spW τ m g' y := fun z => by
  obtain ⟨z1, z2, z3⟩ := hg z
  obtain ⟨a, t, l⟩ := H z1
  have k := cnk h0
  have kn : x.toNatClampNeg = x.toInt.toNat := rfl
  have r : zA τ (zR τ maWeights m) = zA κ (zR κ maWeights m) := by rw [e]; rfl
  have w : zI τ maWays m = zI κ maWays m := by rw [e]; rfl
  have tt : zI τ maTotal m = zI κ maTotal m + zA κ (zR κ maWeights m) x.toNatClampNeg := by rw [e]; exact if_pos ⟨rfl, rfl⟩
  have sb := sgI_b (f := fun n => (zA κ (zR κ maWeights m) n).toInt) (B := 1000000) (n := x.toInt.toNat) (fun i hi => a i (by omega))
  rw [← t] at sb
  have ye : y.toInt.toNat = x.toInt.toNat + 1 := by omega
  rw [r, w, tt, ye, hy]
  refine ⟨fun n hn => ?_, ?_, by omega⟩
  · by_cases q : n = x.toNatClampNeg
    · rw [q]; exact ⟨z2, z3⟩
    · exact a n (by omega)
  · rw [add_i (by omega) (by omega), t]
    show _ = sgI _ x.toInt.toNat + _
    rw [kn]
theorem spW_q {κ τ : zS} {m : Nat} {g x : Int32} (H : spW κ m g x) (hg : g ≠ 0) (O : spO κ m) (h6 : (zI κ maWays m).toInt ≤ 64) (hx : (zI κ maWays m).toInt ≤ x.toInt) (h0 : 0 ≤ x.toInt) (ht : 0 < (zI κ maTotal m).toInt) (e : τ = ui κ maWants m 3) : mDw τ m := by
  obtain ⟨a, t, l⟩ := H hg
  have r : zA τ (zR τ maWeights m) = zA κ (zR κ maWeights m) := by rw [e]; rfl
  have w : zI τ maWays m = zI κ maWays m := by rw [e]; rfl
  have tt : zI τ maTotal m = zI κ maTotal m := by rw [e]; rfl
  have n9 : zI τ maWants m = 3 := by rw [e]; exact if_pos ⟨rfl, rfl⟩
  have xe : x.toInt = (zI κ maWays m).toInt := by
    rcases l with l | l
    · rw [l] at t
      have t9 : (zI κ maTotal m).toInt = 0 := t
      omega
    · omega
  refine Or.inr (Or.inl ⟨n9, ?_⟩)
  unfold drw
  rw [r, w, tt]
  have sb := sgI_b (f := fun n => (zA κ (zR κ maWeights m) n).toInt) (B := 1000000) (n := x.toInt.toNat) (fun i hi => a i (by omega))
  refine ⟨⟨by omega, h6⟩, fun n hn => a n (by omega), by rw [← xe]; exact t, ht, ?_⟩
  by_cases z : 8 < (zI κ maWays m).toInt
  · have s2 := sgI_b (f := fun n => (zA κ (zR κ maWeights m) n).toInt) (B := 1) (n := x.toInt.toNat) (fun i hi => by have := O z i (by omega); omega)
    omega
  · omega
theorem Ma_spreadOut_c {C : zC} {n0 : Nat} {a0 : Nat} {a1 : Int32} {a2 : Int32} {κ : zS} {Q : zS → Prop} (W : zW C n0 κ) (Ta0 : zT κ a0 = 7)  (hp : mkI κ a0 ∧ zI κ maWants a0 = -1) (h : ∀ (κ' : zS), (mF κ κ' a0 ∧ mS0 κ κ' a0 ∧ mDw κ' a0) → Q κ') : zRun C 1 mMa_spreadOut [.ref a0, .int a1, .int a2] κ (oV Q noX) := by
  refine Ma_spreadOut_run W Ta0 ?_
  replace W := W.lo (Nat.le_trans W.1.2.1 W.1.2.2) (Nat.le_refl (zn κ))
  unfold w_Ma_spreadOut_0
  have hj282 : ∀ (l0 : Nat) (τ : zS), zW C (zn κ) τ → zT τ l0 = 7 → (a0 = l0 ∧ mF κ τ a0 ∧ mS0 κ τ a0 ∧ zI τ maWants a0 = -1) → w_Ma_spreadOut_282 C (zn κ) Q  l0 τ := by
    rintro _ τ282 W282 T282_0 ⟨rfl, j282⟩
    unfold w_Ma_spreadOut_282
    intro T1
    refine Ma_fail_c W282 T1  (fun κ_2 q3 => ?_)
    intro W4
    intro M5
    refine h _ ?_
    · have f := mF_fail q3
      exact ⟨j282.1.tr f.1, j282.2.1.tr f.2.1, mDw_g f.2.2 (Or.inl j282.2.2)⟩
  have hj190 : ∀ (l0 : Nat) (τ : zS), zW C (zn κ) τ → zT τ l0 = 7 → (a0 = l0 ∧ mF κ τ a0 ∧ mS0 κ τ a0 ∧ (zI τ maWays a0).toInt ≤ 64 ∧ zI τ maWants a0 = -1 ∧ spO τ a0) → w_Ma_spreadOut_190 C (zn κ) Q  l0 τ := by
    rintro _ τ190 W190 T190_0 ⟨rfl, j190⟩
    unfold w_Ma_spreadOut_190
    intro κ_6 hκ_6
    intro W7
    unfold w_Ma_spreadOut_200
    refine ⟨fun n l0 l3 l4 τ => n = (64 - l4.toInt).toNat ∧ (a0 = l0 ∧ mF κ τ a0 ∧ mS0 κ τ a0 ∧ (zI τ maWays a0).toInt ≤ 64 ∧ 0 ≤ l4.toInt ∧ zI τ maWants a0 = -1 ∧ spO τ a0 ∧ spW τ a0 l3 l4), ⟨_, rfl, ?_⟩, ?_⟩
    · have w : zI κ_6 maWays a0 = zI τ190 maWays a0 := by rw [hκ_6]; rfl
      have w1 : zI κ_6 maWants a0 = zI τ190 maWants a0 := by rw [hκ_6]; rfl
      have t9 : zI κ_6 maTotal a0 = 0 := by rw [hκ_6]; exact if_pos ⟨rfl, rfl⟩
      exact ⟨rfl, j190.1.tr (mF_ui hκ_6 (by decide)), j190.2.1.tr (mS0_ui hκ_6 (by decide)), by rw [w]; exact j190.2.2.1, by decide, w1.trans j190.2.2.2.1, spO_e w (by rw [hκ_6]; rfl) j190.2.2.2.2, fun _ => ⟨fun n hn => by rw [t0i] at hn; omega, by rw [t9]; rfl, Or.inl rfl⟩⟩
    rintro n200 _ x200_3 x200_4 κ200 W200 T200_0 ⟨hn200, rfl, i200⟩
    have hj240 : ∀ (l0 : Nat) (l4 : Int32) (s0 : Int32) (τ : zS), zW C (zn κ) τ → zT τ l0 = 7 → (a0 = l0 ∧ τ = κ200 ∧ l4 = x200_4 ∧ l4.toInt < (zI κ200 maWays a0).toInt ∧ (s0 ≠ 0 → x200_3 ≠ 0 ∧ 0 ≤ (zA κ200 (zR κ200 maWeights a0) l4.toNatClampNeg).toInt ∧ (zA κ200 (zR κ200 maWeights a0) l4.toNatClampNeg).toInt ≤ 1000000)) → w_Ma_spreadOut_240 C (zn κ) Q (fun (l0' : Nat) (l3' : Int32) (l4' : Int32) (τ : zS) => ∃ k < n200, (fun (n : Nat) (l0 : Nat) (l3 : Int32) (l4 : Int32) (τ : zS) => n = (64 - l4.toInt).toNat ∧ (a0 = l0 ∧ mF κ τ a0 ∧ mS0 κ τ a0 ∧ (zI τ maWays a0).toInt ≤ 64 ∧ 0 ≤ l4.toInt ∧ zI τ maWants a0 = -1 ∧ spO τ a0 ∧ spW τ a0 l3 l4)) k l0' l3' l4' τ) l0 l4 s0 τ := by
      rintro _ y240_4 y240_s0 τ240 W240 T240_0 ⟨rfl, j240⟩
      unfold w_Ma_spreadOut_240
      refine ⟨?_, ?_⟩
      · obtain ⟨et, e, l1, g⟩ := j240
        have L := (maL_f i200.1 hp.1.1).2.2.2.2
        have l0 := i200.2.2.2.1
        have w := i200.2.2.1
        rw [et, inb_iff, e]
        rw [e] at l1
        omega
      intro κ_8 hκ_8
      intro W9
      intro x10 hx10
      refine ⟨_, ?_, rfl, ?_⟩
      · obtain ⟨et, e, l1, g⟩ := j240
        have l0 := i200.2.2.2.1
        have w := i200.2.2.1
        rw [e] at l1
        have e1 := inc_i l0 l1
        rw [hn200, hx10, e, e1]; omega
      · obtain ⟨et, e, l1, g⟩ := j240
        obtain ⟨F, S, w, l0, wn, O, P⟩ := i200
        rw [e] at l1 g hx10 hκ_8
        rw [et] at hκ_8
        have e1 := inc_i l0 l1
        have w' : zI κ_8 maWays a0 = zI κ200 maWays a0 := by rw [hκ_8]; rfl
        have w1 : zI κ_8 maWants a0 = zI κ200 maWants a0 := by rw [hκ_8]; rfl
        exact ⟨rfl, F.tr (mF_ui hκ_8 (by decide)), S.tr (mS0_ui hκ_8 (by decide)), by rw [w']; exact w, by rw [hx10, e1]; omega, w1.trans wn, spO_e w' (by rw [hκ_8]; rfl) O, spW_n P l0 l1 w g hκ_8 (by rw [hx10]; exact e1)⟩
    refine ⟨fun c11 => ?_, fun c11 => ?_⟩
    · skip
      refine ⟨fun c12 => ?_, fun c12 => ?_⟩
      · skip
        refine hj282 _ _ W200 ?_ ?_
        · exact T200_0  -- t6
        · exact ⟨rfl, i200.1, i200.2.1, i200.2.2.2.2.1⟩  -- k7
      · skip
        refine ⟨fun c13 => ?_, fun c13 => ?_⟩
        · skip
          refine hj282 _ _ W200 ?_ ?_
          · exact T200_0  -- t8
          · exact ⟨rfl, i200.1, i200.2.1, i200.2.2.2.2.1⟩  -- k9
        · skip
          intro κ_14 hκ_14
          intro W15
          refine h _ ?_
          · obtain ⟨F, S, w, l0, wn, O, P⟩ := i200
            rw [lei] at c11
            rw [lei, t0i] at c13
            exact ⟨F.tr (mF_ui hκ_14 (by decide)), S.tr (mS0_ui hκ_14 (by decide)), spW_q P c12 O w c11 l0 (by omega) hκ_14⟩
    · skip
      refine ⟨fun c16 => ?_, fun c16 => ?_⟩
      · skip
        refine hj240 _ _ _ _ W200 ?_ ?_
        · exact T200_0  -- t11
        · exact ⟨rfl, rfl, rfl, by rw [lei] at c11; omega, fun z => absurd rfl z⟩  -- k12
      · skip
        refine ⟨?_, ?_⟩
        · have L := (maL_f i200.1 hp.1.1).2.2.2.2
          have w := i200.2.2.1
          have l := i200.2.2.2.1
          rw [lei] at c11
          rw [inb_iff]; omega
        refine ⟨fun c17 => ?_, fun c17 => ?_⟩
        · skip
          refine hj240 _ _ _ _ W200 ?_ ?_
          · exact T200_0  -- t14
          · exact ⟨rfl, rfl, rfl, by rw [lei] at c11; omega, fun z => absurd rfl z⟩  -- k15
        · skip
          refine ⟨?_, ?_⟩
          · have L := (maL_f i200.1 hp.1.1).2.2.2.2
            have w := i200.2.2.1
            have l := i200.2.2.2.1
            rw [lei] at c11
            rw [inb_iff]; omega
          refine ⟨fun c18 => ?_, fun c18 => ?_⟩
          · skip
            refine hj240 _ _ _ _ W200 ?_ ?_
            · exact T200_0  -- t17
            · exact ⟨rfl, rfl, rfl, by rw [lei] at c11; omega, fun z => absurd rfl z⟩  -- k18
          · skip
            refine hj240 _ _ _ _ W200 ?_ ?_
            · exact T200_0  -- t19
            · refine ⟨rfl, rfl, rfl, by rw [lei] at c11; omega, fun _ => ⟨c16, ?_⟩⟩
              have e6 : (1000000 : Int32).toInt = 1000000 := rfl
              rw [lti, t0i] at c17
              rw [lti, e6] at c18
              omega
  have hj37 : ∀ (l0 : Nat) (s0 : Nat) (s1 : Int32) (τ : zS), zW C (zn κ) τ → zT τ l0 = 7 → zT τ s0 = 7 → (a0 = l0 ∧ τ = κ ∧ s0 = a0 ∧ s1.toInt ≤ 64) → w_Ma_spreadOut_37 C (zn κ) Q  l0 s0 s1 τ := by
    rintro _ y37_s0 y37_s1 τ37 W37 T37_0 T37_1 ⟨rfl, j37⟩
    unfold w_Ma_spreadOut_37
    intro κ_19 hκ_19
    intro W20
    unfold w_Ma_spreadOut_42
    refine ⟨fun n l0 l3 τ => n = (64 - l3.toInt).toNat ∧ (a0 = l0 ∧ mF κ τ a0 ∧ mS0 κ τ a0 ∧ (zI τ maWays a0).toInt ≤ 64 ∧ 0 ≤ l3.toInt ∧ zI τ maWants a0 = -1 ∧ ∀ n : Nat, (n : Int) < l3.toInt → (zA τ (zR τ maWeights a0) n).toInt = 1), ⟨_, rfl, ?_⟩, ?_⟩
    · obtain ⟨e1, e2, w⟩ := j37
      rw [e1, e2] at hκ_19
      have w9 : zI κ_19 maWays a0 = y37_s1 := by rw [hκ_19]; exact if_pos ⟨rfl, rfl⟩
      have w1 : zI κ_19 maWants a0 = zI κ maWants a0 := by rw [hκ_19]; rfl
      exact ⟨rfl, mF_uw hκ_19 w, mS0_ui hκ_19 (by decide), by rw [w9]; exact w, by decide, w1.trans hp.2, fun n hn => by rw [t0i] at hn; omega⟩
    rintro n42 _ x42_3 κ42 W42 T42_0 ⟨hn42, rfl, i42⟩
    refine ⟨fun c21 => ?_, fun c21 => ?_⟩
    · skip
      refine hj190 _ _ W42 ?_ ?_
      · exact T42_0  -- t22
      · rw [lei] at c21
        exact ⟨rfl, i42.1, i42.2.1, i42.2.2.1, i42.2.2.2.2.1, fun _ n hn => i42.2.2.2.2.2 n (by omega)⟩
    · skip
      obtain ⟨F, S, w, l0, wn, on⟩ := i42
      have d1 : x42_3.toInt < (zI κ42 maWays a0).toInt := by rw [lei] at c21; omega
      have e1 := inc_i l0 d1
      have L := maL_f F hp.1.1
      have LV := L.2.2.2.1
      have LW := L.2.2.2.2
      refine ⟨?_, ?_⟩
      · rw [inb_iff]; omega  -- b24
      intro κ_22 hκ_22
      intro W23
      refine ⟨?_, ?_⟩
      · have f := uVa W42 T42_0 hκ_22
        rw [f.1.2.1, f.1.2.2.1, inb_iff]; omega
      intro κ_24 hκ_24
      intro W25
      intro x26 hx26
      refine ⟨_, ?_, rfl, ?_⟩
      · rw [hn42, hx26, e1]; omega  -- d26
      · have f := uVa W42 T42_0 hκ_22
        have g := uWt W23 f.2.2.2 hκ_24
        refine ⟨rfl, (F.tr f.1).tr g.1, (S.tr f.2.1.1).tr g.2.1, by rw [g.2.2.1, f.2.2.1]; exact w, by rw [hx26, e1]; omega, by rw [g.2.2.1, f.2.2.1]; exact wn, ?_⟩
        rw [wRow W42 T42_0 hκ_22 hκ_24]
        exact upd_ones l0 (by rw [hx26, e1]) on
  refine ⟨fun c27 => ?_, fun c27 => ?_⟩
  · skip
    refine ⟨fun c28 => ?_, fun c28 => ?_⟩
    · skip
      intro T29
      refine Co_column_c W T29  ?_ (fun r30 q32 => ?_)
      · exact ⟨hp.1.2, by decide, by decide⟩  -- p28
      intro W33
      intro M34
      refine ⟨?_, ?_⟩
      · decide  -- b29
      intro κ_35 hκ_35
      intro W36
      unfold w_Ma_spreadOut_146
      refine ⟨fun n l0 l3 τ => n = (8 - l3.toInt).toNat ∧ (a0 = l0 ∧ mF κ τ a0 ∧ mS0 κ τ a0 ∧ (zI τ maWays a0).toInt ≤ 8 ∧ 0 ≤ l3.toInt ∧ zI τ maWants a0 = -1), ⟨_, rfl, ?_⟩, ?_⟩
      · have e8 : (8 : Int32).toInt = 8 := rfl
        have w9 : zI κ_35 maWays a0 = (if (8 : Int32) < r30 / 2 then (8 : Int32) else r30 / 2) := by rw [hκ_35]; exact if_pos ⟨rfl, rfl⟩
        have b : (if (8 : Int32) < r30 / 2 then (8 : Int32) else r30 / 2).toInt ≤ 8 := by
          split
          · decide
          · rename_i z
            rw [lti, e8] at z
            omega
        have w1 : zI κ_35 maWants a0 = zI κ maWants a0 := by rw [hκ_35]; rfl
        exact ⟨rfl, mF_uw hκ_35 (by omega), mS0_ui hκ_35 (by decide), by rw [w9]; exact b, by decide, w1.trans hp.2⟩
      rintro n146 _ x146_3 κ146 W146 T146_0 ⟨hn146, rfl, i146⟩
      refine ⟨fun c37 => ?_, fun c37 => ?_⟩
      · skip
        refine hj190 _ _ W146 ?_ ?_
        · exact T146_0  -- t31
        · have w8 := i146.2.2.1
          exact ⟨rfl, i146.1, i146.2.1, by omega, i146.2.2.2.2, fun z => absurd z (by omega)⟩
      · skip
        obtain ⟨F, S, w, l0, wn⟩ := i146
        have d1 : x146_3.toInt < (zI κ146 maWays a0).toInt := by rw [lei] at c37; omega
        have e1 := inc_i l0 d1
        have L := maL_f F hp.1.1
        have LK := L.2.2.1
        have LV := L.2.2.2.1
        have LW := L.2.2.2.2
        have m2 : ((2 : Int32) * x146_3).toInt = 2 * x146_3.toInt := by rw [mul_i (by rw [t2i]; omega) (by rw [t2i]; omega), t2i]
        have m3 : ((2 : Int32) * x146_3 + 1).toInt = 2 * x146_3.toInt + 1 := by rw [add_i (by rw [m2, t1i]; omega) (by rw [m2, t1i]; omega), m2, t1i]
        refine ⟨?_, ?_⟩
        · rw [inb_iff, m2]; omega  -- b33
        refine ⟨?_, ?_⟩
        · rw [inb_iff]; omega  -- b34
        intro κ_38 hκ_38
        intro W39
        refine ⟨?_, ?_⟩
        · have f := uVa W146 T146_0 hκ_38
          rw [f.1.2.1, f.1.2.2.1, inb_iff, m3]; omega
        refine ⟨?_, ?_⟩
        · have f := uVa W146 T146_0 hκ_38
          rw [f.1.2.1, f.1.2.2.1, inb_iff]; omega
        intro κ_40 hκ_40
        intro W41
        intro x42 hx42
        refine ⟨_, ?_, rfl, ?_⟩
        · rw [hn146, hx42, e1]; omega  -- d37
        · have f := uVa W146 T146_0 hκ_38
          have g := uWt W39 f.2.2.2 hκ_40
          exact ⟨rfl, (F.tr f.1).tr g.1, (S.tr f.2.1.1).tr g.2.1, by rw [g.2.2.1, f.2.2.1]; exact w, by rw [hx42, e1]; omega, by rw [g.2.2.1, f.2.2.1]; exact wn⟩
    · skip
      intro κ_43 hκ_43
      intro W44
      refine ⟨?_, ?_⟩
      · have F3 := mF_uw hκ_43 (by decide)
        have T3 : zT κ_43 a0 = 7 := F3.1.t Ta0 (by decide)
        have L := (maL_f F3 hp.1.1).2.2.2.1
        rw [inb_iff, t0i]; omega
      intro κ_45 hκ_45
      intro W46
      refine ⟨?_, ?_⟩
      · have F3 := mF_uw hκ_43 (by decide)
        have T3 : zT κ_43 a0 = 7 := F3.1.t Ta0 (by decide)
        have f1 := uVa W44 T3 hκ_45
        have L := (maL_f (F3.tr f1.1) hp.1.1).2.2.1
        rw [inb_iff, t0i]; omega
      refine ⟨?_, ?_⟩
      · have F3 := mF_uw hκ_43 (by decide)
        have T3 : zT κ_43 a0 = 7 := F3.1.t Ta0 (by decide)
        have f1 := uVa W44 T3 hκ_45
        have L := (maL_f (F3.tr f1.1) hp.1.1).2.2.2.2
        rw [inb_iff, t0i]; omega
      intro κ_47 hκ_47
      intro W48
      refine ⟨?_, ?_⟩
      · have F3 := mF_uw hκ_43 (by decide)
        have T3 : zT κ_43 a0 = 7 := F3.1.t Ta0 (by decide)
        have f1 := uVa W44 T3 hκ_45
        have f2 := uWt W46 f1.2.2.2 hκ_47
        have L := (maL_f ((F3.tr f1.1).tr f2.1) hp.1.1).2.2.2.1
        rw [inb_iff, t1i]; omega
      intro κ_49 hκ_49
      intro W50
      refine ⟨?_, ?_⟩
      · have F3 := mF_uw hκ_43 (by decide)
        have T3 : zT κ_43 a0 = 7 := F3.1.t Ta0 (by decide)
        have f1 := uVa W44 T3 hκ_45
        have f2 := uWt W46 f1.2.2.2 hκ_47
        have f3 := uVa W48 f2.2.2.2 hκ_49
        have L := (maL_f (((F3.tr f1.1).tr f2.1).tr f3.1) hp.1.1).2.2.1
        rw [inb_iff, t1i]; omega
      refine ⟨?_, ?_⟩
      · have F3 := mF_uw hκ_43 (by decide)
        have T3 : zT κ_43 a0 = 7 := F3.1.t Ta0 (by decide)
        have f1 := uVa W44 T3 hκ_45
        have f2 := uWt W46 f1.2.2.2 hκ_47
        have f3 := uVa W48 f2.2.2.2 hκ_49
        have L := (maL_f (((F3.tr f1.1).tr f2.1).tr f3.1) hp.1.1).2.2.2.2
        rw [inb_iff, t1i]; omega
      intro κ_51 hκ_51
      intro W52
      refine hj190 _ _ W52 ?_ ?_
      · have F3 := mF_uw hκ_43 (by decide)
        have T3 : zT κ_43 a0 = 7 := F3.1.t Ta0 (by decide)
        have f1 := uVa W44 T3 hκ_45
        have f2 := uWt W46 f1.2.2.2 hκ_47
        have f3 := uVa W48 f2.2.2.2 hκ_49
        have f4 := uWt W50 f3.2.2.2 hκ_51
        exact f4.2.2.2
      · have F3 := mF_uw hκ_43 (by decide)
        have T3 : zT κ_43 a0 = 7 := F3.1.t Ta0 (by decide)
        have f1 := uVa W44 T3 hκ_45
        have f2 := uWt W46 f1.2.2.2 hκ_47
        have f3 := uVa W48 f2.2.2.2 hκ_49
        have f4 := uWt W50 f3.2.2.2 hκ_51
        have w : zI κ_43 maWays a0 = 2 := by rw [hκ_43]; exact if_pos ⟨rfl, rfl⟩
        have w1 : zI κ_43 maWants a0 = zI κ maWants a0 := by rw [hκ_43]; rfl
        have w2 : zI κ_51 maWays a0 = 2 := by rw [f4.2.2.1, f3.2.2.1, f2.2.2.1, f1.2.2.1, w]
        exact ⟨rfl, (((F3.tr f1.1).tr f2.1).tr f3.1).tr f4.1, ((((mS0_ui hκ_43 (by decide)).tr f1.2.1.1).tr f2.2.1).tr f3.2.1.1).tr f4.2.1, by rw [w2]; decide, by rw [f4.2.2.1, f3.2.2.1, f2.2.2.1, f1.2.2.1]; exact w1.trans hp.2, fun z => absurd z (by rw [w2]; decide)⟩
  · skip
    refine ⟨?_, ?_⟩
    · have L := hp.1.1.2.2.1
      rw [inb_iff, t0i]; omega
    refine ⟨fun c53 => ?_, fun c53 => ?_⟩
    · skip
      refine hj37 _ _ _ _ W ?_ ?_ ?_
      · exact Ta0  -- t48
      · exact Ta0  -- t49
      · exact ⟨rfl, rfl, rfl, by decide⟩  -- k50
    · skip
      refine ⟨?_, ?_⟩
      · have L := hp.1.1.2.2.1
        rw [inb_iff, t0i]; omega
      refine ⟨fun c54 => ?_, fun c54 => ?_⟩
      · skip
        refine hj37 _ _ _ _ W ?_ ?_ ?_
        · exact Ta0  -- t52
        · exact Ta0  -- t53
        · exact ⟨rfl, rfl, rfl, by decide⟩  -- k54
      · skip
        refine ⟨?_, ?_⟩
        · have L := hp.1.1.2.2.1
          rw [inb_iff, t0i]; omega
        refine hj37 _ _ _ _ W ?_ ?_ ?_
        · exact Ta0  -- t56
        · exact Ta0  -- t57
        · have e64 : (64 : Int32).toInt = 64 := rfl
          rw [lti, e64] at c54
          exact ⟨rfl, rfl, rfl, by omega⟩

end
section
set_option maxHeartbeats 1600000
/-! the class: Machine's obey, act -/
theorem ob_s {κ τ : zS} {m : Nat} (F : mF κ τ m) (S : mS κ τ m) (O : mO κ m) (D : zI κ maWants m = -1) : mF κ τ m ∧ zI τ maShared m = zI κ maShared m ∧ mO τ m ∧ mDw τ m := ⟨F, S.1 maShared (by decide), mO_s S O, mDw_g S.2 (Or.inl D)⟩
theorem ob_u {κ τ : zS} {m f : Nat} {x : Int32} (e : τ = ui κ f m x) (h : f ≠ maWays) (g : maFrame < f ∧ f < maWants) (O : mO κ m) (D : zI κ maWants m = -1) : mF κ τ m ∧ zI τ maShared m = zI κ maShared m ∧ mO τ m ∧ mDw τ m := ob_s (mF_ui e h) (mS_ui e g) O D
theorem Ma_obey_c {C : zC} {n0 : Nat} {a0 : Nat} {a1 : Int32} {a2 : Int32} {κ : zS} {Q : zS → Prop} (W : zW C n0 κ) (Ta0 : zT κ a0 = 7)  (hp : (mkI κ a0 ∧ mO κ a0) ∧ zI κ maWants a0 = -1) (h : ∀ (κ' : zS), (mF κ κ' a0 ∧ zI κ' maShared a0 = zI κ maShared a0 ∧ mO κ' a0 ∧ mDw κ' a0) → Q κ') : zRun C 3 mMa_obey [.ref a0, .int a1, .int a2] κ (oV Q noX) := by
  refine Ma_obey_run W Ta0 ?_
  replace W := W.lo (Nat.le_trans W.1.2.1 W.1.2.2) (Nat.le_refl (zn κ))
  unfold w_Ma_obey_0
  have hj134 : ∀ (l0 : Nat) (s0 : Nat) (s1 : Int32) (s2 : Int32) (τ : zS), zW C (zn κ) τ → zT τ l0 = 7 → zT τ s0 = 5 → (κ = τ ∧ a0 = l0 ∧ s0 = zR κ maCode a0 ∧ 0 ≤ s2.toInt ∧ s2.toInt < 11) → w_Ma_obey_134 C (zn κ) Q  l0 s0 s1 s2 τ := by
    rintro _ y134_s0 y134_s1 y134_s2 _ W134 T134_0 T134_1 ⟨rfl, rfl, j134⟩
    unfold w_Ma_obey_134
    intro T1
    refine Co_column_c W134 T1  ?_ (fun r2 q4 => ?_)
    · obtain ⟨e, b⟩ := j134
      rw [e]
      exact ⟨hp.1.1.2, b⟩
    intro W5
    intro M6
    refine ⟨fun c7 => ?_, fun c7 => ?_⟩
    · skip
      intro κ_8 hκ_8
      intro W9
      refine h _ ?_
      · exact ob_u hκ_8 (by decide) (by decide) hp.1.2 hp.2  -- q2
    · skip
      intro κ_10 hκ_10
      intro W11
      refine h _ ?_
      · exact ob_u hκ_10 (by decide) (by decide) hp.1.2 hp.2  -- q3
  refine ⟨?_, ?_⟩
  · have L := hp.1.1.1.2.2.1
    rw [inb_iff, t0i]; omega
  intro x12 hx12
  refine ⟨fun c13 => ?_, fun c13 => ?_, fun c13 => ?_, fun c13 => ?_, fun c13 => ?_, fun c13 => ?_, fun c13 => ?_, fun c13 => ?_, fun c13 => ?_, fun c13 => ?_, fun c13 => ?_⟩
  · skip
    intro κ_14 hκ_14
    intro W15
    refine h _ ?_
    · exact ob_u hκ_14 (by decide) (by decide) hp.1.2 hp.2  -- q5
  · skip
    intro T16
    refine Ma_put_c W T16  ?_ (fun κ_17 q18 => ?_)
    · exact hp.1.1.1  -- p6
    intro W19
    intro M20
    refine h _ ?_
    · have f := mF_put q18
      exact ob_s f.1 f.2.1 hp.1.2 hp.2
  · skip
    intro T21
    refine Ma_spreadOut_c W T21  ?_ (fun κ_22 q23 => ?_)
    · exact ⟨hp.1.1, hp.2⟩  -- p8
    intro W24
    intro M25
    refine h _ ?_
    · exact ⟨q23.1, q23.2.1 maShared (by decide), mO_0 q23.2.1 hp.1.2, q23.2.2⟩  -- q9
  · skip
    intro T26
    refine Ma_spreadOut_c W T26  ?_ (fun κ_27 q28 => ?_)
    · exact ⟨hp.1.1, hp.2⟩  -- p10
    intro W29
    intro M30
    refine h _ ?_
    · exact ⟨q28.1, q28.2.1 maShared (by decide), mO_0 q28.2.1 hp.1.2, q28.2.2⟩  -- q11
  · skip
    intro T31
    refine Ma_spreadOut_c W T31  ?_ (fun κ_32 q33 => ?_)
    · exact ⟨hp.1.1, hp.2⟩  -- p12
    intro W34
    intro M35
    refine h _ ?_
    · exact ⟨q33.1, q33.2.1 maShared (by decide), mO_0 q33.2.1 hp.1.2, q33.2.2⟩  -- q13
  · skip
    intro T36
    refine Ma_offer_c W T36  ?_ (fun κ_37 q38 => ?_)
    · exact ⟨hp.1.1.1, hp.2⟩  -- p14
    intro W39
    intro M40
    refine h _ ?_
    · exact ⟨q38.1, q38.2.1 maShared (by decide), mO_0 q38.2.1 hp.1.2, q38.2.2⟩  -- q15
  · skip
    intro T41
    refine Co_column_c W T41  ?_ (fun r42 q44 => ?_)
    · exact ⟨hp.1.1.2, by decide, by decide⟩  -- p16
    intro W45
    intro M46
    intro T47
    refine Co_column_c W45 T47  ?_ (fun r48 q50 => ?_)
    · exact ⟨hp.1.1.2, by decide, by decide⟩  -- p17
    intro W51
    intro M52
    intro T53
    refine Ma_openCall_c W51 T53  ?_ (fun κ_54 q55 => ?_)
    · exact hp.1  -- p18
    intro W56
    intro M57
    refine h _ ?_
    · exact ⟨q55.1, q55.2.1, q55.2.2.1, mDw_g q55.2.2.2 (Or.inl hp.2)⟩  -- q19
  · skip
    refine ⟨fun c58 => ?_, fun c58 => ?_⟩
    · skip
      refine hj134 _ _ _ _ _ W ?_ ?_ ?_
      · exact Ta0  -- t20
      · exact ty_maCode W Ta0  -- t21
      · exact ⟨rfl, rfl, rfl, by decide, by decide⟩  -- k22
    · skip
      refine hj134 _ _ _ _ _ W ?_ ?_ ?_
      · exact Ta0  -- t23
      · exact ty_maCode W Ta0  -- t24
      · exact ⟨rfl, rfl, rfl, by decide, by decide⟩  -- k25
  · skip
    intro T59
    refine Co_column_c W T59  ?_ (fun r60 q62 => ?_)
    · exact ⟨hp.1.1.2, by decide, by decide⟩  -- p26
    intro W63
    intro M64
    refine ⟨fun c65 => ?_, fun c65 => ?_⟩
    · skip
      refine ⟨fun c66 => ?_, fun c66 => ?_⟩
      · skip
        intro κ_67 hκ_67
        intro W68
        refine h _ ?_
        · exact ob_u hκ_67 (by decide) (by decide) hp.1.2 hp.2  -- q27
      · skip
        intro κ_69 hκ_69
        intro W70
        refine h _ ?_
        · exact ob_u hκ_69 (by decide) (by decide) hp.1.2 hp.2  -- q28
    · skip
      intro κ_71 hκ_71
      intro W72
      refine h _ ?_
      · exact ob_u hκ_71 (by decide) (by decide) hp.1.2 hp.2  -- q29
  · skip
    intro κ_73 hκ_73
    intro W74
    intro κ_75 hκ_75
    intro W76
    refine h _ ?_
    · exact ob_s ((mF_ui hκ_73 (by decide)).tr (mF_ui hκ_75 (by decide))) ((mS_ui hκ_73 (by decide)).tr (mS_ui hκ_75 (by decide))) hp.1.2 hp.2  -- q30
  · skip
    refine ⟨fun c77 => ?_, fun c77 => ?_⟩
    · skip
      intro κ_78 hκ_78
      intro W79
      refine h _ ?_
      · exact ob_u hκ_78 (by decide) (by decide) hp.1.2 hp.2  -- q31
    · skip
      intro κ_80 hκ_80
      intro W81
      refine h _ ?_
      · exact ob_u hκ_80 (by decide) (by decide) hp.1.2 hp.2  -- q32

theorem Ma_act_c {C : zC} {n0 : Nat} {a0 : Nat} {κ : zS} {Q : zS → Prop} (W : zW C n0 κ) (Ta0 : zT κ a0 = 7)  (hp : mkI κ a0 ∧ mO κ a0) (h : ∀ (κ' : zS), (mF κ κ' a0 ∧ zI κ' maShared a0 = zI κ maShared a0 ∧ (mO κ' a0 ∨ zI κ' maOutcome a0 = 1) ∧ mDw κ' a0) → Q κ') : zRun C 4 mMa_act [.ref a0] κ (oV Q noX) := by
  refine Ma_act_run W Ta0 ?_
  replace W := W.lo (Nat.le_trans W.1.2.1 W.1.2.2) (Nat.le_refl (zn κ))
  unfold w_Ma_act_0
  have hj92 : ∀ (l0 : Nat) (l1 : Int32) (τ : zS), zW C (zn κ) τ → zT τ l0 = 7 → (a0 = l0 ∧ mF κ τ a0 ∧ mS0 κ τ a0 ∧ zI τ maWants a0 = -1) → w_Ma_act_92 C (zn κ) Q  l0 l1 τ := by
    rintro _ y92_1 τ92 W92 T92_0 ⟨rfl, j92⟩
    unfold w_Ma_act_92
    refine ⟨fun c1 => ?_, fun c1 => ?_⟩
    · skip
      intro T2
      refine Co_column_c W92 T2  ?_ (fun r3 q5 => ?_)
      · exact ⟨(mkI_f j92.1 W Ta0 hp.1).1.2, by decide, by decide⟩  -- p1
      intro W6
      intro M7
      intro κ_8 hκ_8
      intro W9
      intro κ_10 hκ_10
      intro W11
      intro T12
      refine Co_column_c W11 T12  ?_ (fun r13 q15 => ?_)
      · have F := (j92.1.tr (mF_ui hκ_8 (by decide))).tr (mF_ui hκ_10 (by decide))
        exact ⟨(mkI_f F W Ta0 hp.1).1.2, by decide, by decide⟩
      intro W16
      intro M17
      intro T18
      refine Ma_obey_c W16 T18  ?_ (fun κ_19 q20 => ?_)
      · have F := (j92.1.tr (mF_ui hκ_8 (by decide))).tr (mF_ui hκ_10 (by decide))
        have S := (j92.2.1.tr (mS_ui hκ_8 (by decide)).1).tr (mS_ui hκ_10 (by decide)).1
        have w1 : zI κ_10 maWants a0 = zI τ92 maWants a0 := by rw [hκ_10, hκ_8]; rfl
        exact ⟨⟨(mkI_f F W Ta0 hp.1).1, mO_0 S hp.2⟩, w1.trans j92.2.2⟩
      intro W21
      intro M22
      refine ⟨fun c23 => ?_, fun c23 => ?_⟩
      · skip
        refine h _ ?_
        · have F := (j92.1.tr (mF_ui hκ_8 (by decide))).tr (mF_ui hκ_10 (by decide))
          have S := (j92.2.1.tr (mS_ui hκ_8 (by decide)).1).tr (mS_ui hκ_10 (by decide)).1
          exact ⟨F.tr q20.1, q20.2.1.trans (S maShared (by decide)), Or.inl q20.2.2.1, q20.2.2.2⟩
      · skip
        refine ⟨fun c24 => ?_, fun c24 => ?_⟩
        · skip
          refine h _ ?_
          · have F := (j92.1.tr (mF_ui hκ_8 (by decide))).tr (mF_ui hκ_10 (by decide))
            have S := (j92.2.1.tr (mS_ui hκ_8 (by decide)).1).tr (mS_ui hκ_10 (by decide)).1
            exact ⟨F.tr q20.1, q20.2.1.trans (S maShared (by decide)), Or.inl q20.2.2.1, q20.2.2.2⟩
        · skip
          intro T25
          refine Ma_proceed_c W21 T25  ?_ (fun κ_26 q27 => ?_)
          · have F := (j92.1.tr (mF_ui hκ_8 (by decide))).tr (mF_ui hκ_10 (by decide))
            exact ⟨(mkI_f (F.tr q20.1) W Ta0 hp.1).1, q20.2.2.1⟩
          intro W28
          intro M29
          refine h _ ?_
          · have F := (j92.1.tr (mF_ui hκ_8 (by decide))).tr (mF_ui hκ_10 (by decide))
            have S := (j92.2.1.tr (mS_ui hκ_8 (by decide)).1).tr (mS_ui hκ_10 (by decide)).1
            exact ⟨(F.tr q20.1).tr q27.1, q27.2.1.trans (q20.2.1.trans (S maShared (by decide))), q27.2.2.1, mDw_g q27.2.2.2 q20.2.2.2⟩
    · skip
      intro κ_30 hκ_30
      intro W31
      refine h _ ?_
      · have S := j92.2.1.tr (mS_ui hκ_30 (by decide)).1
        exact ⟨j92.1.tr (mF_ui hκ_30 (by decide)), S maShared (by decide), Or.inl (mO_0 S hp.2), mDw_g (mS_ui hκ_30 (by decide)).2 (Or.inl j92.2.2)⟩
  refine ⟨?_, ?_⟩
  · have L := hp.1.1.1
    obtain ⟨s, o, f⟩ := hp.2
    rw [inb_iff]; omega
  intro x32 hx32
  intro κ_33 hκ_33
  intro W34
  intro κ_35 hκ_35
  intro W36
  intro κ_37 hκ_37
  intro W38
  intro T39
  refine Co_column_c W38 T39  ?_ (fun r40 q42 => ?_)
  · have F := ((mF_ui hκ_33 (by decide)).tr (mF_ui hκ_35 (by decide))).tr (mF_ui hκ_37 (by decide))
    exact ⟨(mkI_f F W Ta0 hp.1).1.2, by decide, by decide⟩
  intro W43
  intro M44
  intro κ_45 hκ_45
  intro W46
  intro T47
  refine Ma_aim_c W46 T47  ?_ (fun κ_48 q49 => ?_)
  · have F := ((mF_ui hκ_33 (by decide)).tr (mF_ui hκ_35 (by decide))).tr (mF_ui hκ_37 (by decide))
    exact (mkI_f (F.tr (mF_ui hκ_45 (by decide))) W Ta0 hp.1).1
  intro W50
  intro M51
  intro T52
  refine Co_column_c W50 T52  ?_ (fun r53 q55 => ?_)
  · have F := ((mF_ui hκ_33 (by decide)).tr (mF_ui hκ_35 (by decide))).tr (mF_ui hκ_37 (by decide))
    exact ⟨(mkI_f ((F.tr (mF_ui hκ_45 (by decide))).tr q49.1) W Ta0 hp.1).1.2, by decide, by decide⟩
  intro W56
  intro M57
  unfold w_Ma_act_55
  refine ⟨fun n l0 l1 l2 l3 τ => n = (16 - l3.toInt).toNat ∧ (a0 = l0 ∧ mF κ τ a0 ∧ mS0 κ τ a0 ∧ 0 ≤ l3.toInt ∧ zI τ maWants a0 = -1), ⟨_, rfl, ?_⟩, ?_⟩
  · have F := ((mF_ui hκ_33 (by decide)).tr (mF_ui hκ_35 (by decide))).tr (mF_ui hκ_37 (by decide))
    have S := ((mS0_ui hκ_33 (by decide)).tr (mS0_ui hκ_35 (by decide))).tr (mS0_ui hκ_37 (by decide))
    have w0 : zI κ_33 maWants a0 = -1 := by rw [hκ_33]; exact if_pos ⟨rfl, rfl⟩
    have w1 : zI κ_45 maWants a0 = zI κ_33 maWants a0 := by rw [hκ_45, hκ_37, hκ_35]; rfl
    have w2 := (q49.2.2 maWants (by decide)).1
    exact ⟨rfl, (F.tr (mF_ui hκ_45 (by decide))).tr q49.1, (S.tr (mS0_ui hκ_45 (by decide))).tr q49.2.1, by decide, w2.trans (w1.trans w0)⟩
  rintro n55 _ x55_1 x55_2 x55_3 κ55 W55 T55_0 ⟨hn55, rfl, i55⟩
  refine ⟨fun c58 => ?_, fun c58 => ?_⟩
  · skip
    refine hj92 _ _ _ W55 ?_ ?_
    · exact T55_0  -- t14
    · exact ⟨rfl, i55.1, i55.2.1, i55.2.2.2⟩  -- k15
  · skip
    refine ⟨fun c59 => ?_, fun c59 => ?_⟩
    · skip
      refine hj92 _ _ _ W55 ?_ ?_
      · exact T55_0  -- t16
      · exact ⟨rfl, i55.1, i55.2.1, i55.2.2.2⟩  -- k17
    · skip
      refine ⟨fun c60 => ?_, fun c60 => ?_⟩
      · skip
        refine hj92 _ _ _ W55 ?_ ?_
        · exact T55_0  -- t18
        · exact ⟨rfl, i55.1, i55.2.1, i55.2.2.2⟩  -- k19
      · skip
        intro T61
        refine Ma_work_c W55 T61  ?_ (fun r62 κ_63 q64 => ?_)
        · exact (mkI_f i55.1 W Ta0 hp.1).1  -- p20
        intro W65
        intro M66
        have LK := (maL_f i55.1 hp.1.1).2.2.1
        have bN := W55.n (ty_maWorked W55 T55_0)
        have l := i55.2.2.1
        rw [lei, ofn_i bN] at c59
        have e1 : (x55_3 + 1).toInt = x55_3.toInt + 1 := by rw [add_i (by rw [t1i]; omega) (by rw [t1i]; omega), t1i]
        refine ⟨?_, ?_⟩
        · rw [q64.1.2.2.1, inb_iff]; omega  -- b21
        intro κ_67 hκ_67
        intro W68
        intro x69 hx69
        refine ⟨_, ?_, rfl, ?_⟩
        · rw [hn55, hx69, e1]; omega  -- d22
        · rw [← q64.1.2.1] at hκ_67
          have f := mF_ua W65 (q64.1.1.t T55_0 (by decide)) (show zr maWorked = some 20 by decide +kernel) (by decide) hκ_67
          exact ⟨rfl, (i55.1.tr q64.1).tr f.1, (i55.2.1.tr q64.2.1).tr f.2.1.1, by rw [hx69, e1]; omega, by rw [f.2.2, (q64.2.2 maWants (by decide)).1]; exact i55.2.2.2⟩

end
section
set_option maxHeartbeats 1600000
/-! the class: Machine's load, begin -/
theorem div_i {x y : Int32} (h0 : 0 ≤ x.toInt) (hy : 0 < y.toInt) : (x / y).toInt = x.toInt / y.toInt := by
  have a1 : x.toInt / y.toInt ≤ x.toInt := Int.ediv_le_self _ h0
  have a2 : 0 ≤ x.toInt / y.toInt := Int.ediv_nonneg h0 (by omega)
  have a3 := ihi x
  rw [Int32.toInt_div, Int.tdiv_eq_ediv_of_nonneg h0]
  exact Int.bmod_eq_of_le (by omega) (by omega)
theorem div_n {x y : Int32} (h0 : x.toInt < 0) (hy : 0 < y.toInt) : -2147483648 ≤ (x / y).toInt ∧ (x / y).toInt ≤ 0 := by
  have e : x.toInt = -(-x.toInt) := by omega
  have h1 : 0 ≤ -x.toInt := by omega
  have a1 : (-x.toInt) / y.toInt ≤ -x.toInt := Int.ediv_le_self _ h1
  have a2 : 0 ≤ (-x.toInt) / y.toInt := Int.ediv_nonneg h1 (by omega)
  have a3 := ilo x
  have q : (x.toInt).tdiv y.toInt = -((-x.toInt) / y.toInt) := by rw [e, Int.neg_tdiv, Int.tdiv_eq_ediv_of_nonneg (by omega), ← e]
  have b : (x / y).toInt = -((-x.toInt) / y.toInt) := by
    rw [Int32.toInt_div, q]
    exact Int.bmod_eq_of_le (by omega) (by omega)
  omega
theorem ld_o {r s : Int32} (h0 : 0 ≤ r.toInt) (h1 : r.toInt ≤ 142) (s0 : 0 ≤ s.toInt) (s1 : s.toInt ≤ 34) : 1 ≤ (if (r - s) / 9 < 1 then (1 : Int32) else (r - s) / 9).toInt ∧ s.toInt + 9 * (if (r - s) / 9 < 1 then (1 : Int32) else (r - s) / 9).toInt ≤ 142 := by
  have es : (r - s).toInt = r.toInt - s.toInt := sub_i (by omega) (by omega)
  have e9 : (9 : Int32).toInt = 9 := rfl
  split
  · rw [t1i]; omega
  · rename_i z
    rw [lti, t1i] at z
    by_cases g : 0 ≤ (r - s).toInt
    · rw [div_i g (by decide), e9, es] at z ⊢
      omega
    · have := (div_n (x := r - s) (y := 9) (by omega) (by decide)).2
      omega
theorem mF_uc {C : zC} {n0 m f s i j n t : Nat} {κ τ : zS} (W : zW C n0 κ) (T : zT κ m = 7) (hr : zr f = some t) (ht : 20 ≤ t) (e : τ = uc κ s (zR κ f m) i j n) (hf : f / 100 = 7 := by decide) (hw : f ≠ maWeights := by decide) : mF κ τ m ∧ mS κ τ m ∧ zI τ = zI κ :=
  ⟨⟨by rw [e]; exact zF_uc (by rw [W.o hr ht (T.trans hf.symm)]), by rw [e]; rfl, by rw [e]; rfl, fun z => by rw [e]; exact z⟩, ⟨fun g _ => by rw [e]; rfl, fun g _ => ⟨by rw [e]; rfl, fun eg => by rw [eg, e]; exact ⟨rfl, if_neg (ne_w W T hf hr ht hw)⟩⟩⟩, by rw [e]; rfl⟩
theorem hoI_m {C : zC} {n0 m h i n M D S : Nat} {κ τ : zS} (W : zW C n0 κ) (T : zT κ m = 7) (Th : zT κ h = 6) (e : τ = uc κ (zR κ hoPool h) (zR κ maMemory m) i 0 n) (H : hoI κ h M D S) : hoI τ h M D S := by
  subst e
  refine hoI_f H (fun _ _ => rfl) (fun f hf => ⟨rfl, if_neg ?_, rfl⟩)
  rcases hf with rfl | rfl | rfl
  · exact ow_ne W (show zr hoStarts = some 20 by decide +kernel) (by decide) Th (show zr maMemory = some 20 by decide +kernel) (by decide) T (by decide)
  · exact ow_ne W (show zr hoTable = some 20 by decide +kernel) (by decide) Th (show zr maMemory = some 20 by decide +kernel) (by decide) T (by decide)
  · exact ow_ne W (show zr hoPool = some 20 by decide +kernel) (by decide) Th (show zr maMemory = some 20 by decide +kernel) (by decide) T (by decide)
theorem Ma_load_c {C : zC} {n0 : Nat} {a0 : Nat} {a1 : Nat} {a2 : Int32} {κ : zS} {Q : zS → Prop} (W : zW C n0 κ) (Ta0 : zT κ a0 = 7) (Ta1 : zT κ a1 = 6)  (hp : mkI κ a0 ∧ (0 ≤ (zI κ maShared a0).toInt ∧ (zI κ maShared a0).toInt ≤ 34) ∧ hoI κ a1 1000 142 2048) (h : ∀ (κ' : zS), (mF κ κ' a0 ∧ mG κ κ' a0 ∧ zI κ' maShared a0 = zI κ maShared a0 ∧ mO κ' a0) → Q κ') : zRun C 2 mMa_load [.ref a0, .ref a1, .int a2] κ (oV Q noX) := by
  refine Ma_load_run W Ta0 Ta1 ?_
  replace W := W.lo (Nat.le_trans W.1.2.1 W.1.2.2) (Nat.le_refl (zn κ))
  unfold w_Ma_load_0
  intro T1
  intro T2
  refine Ho_copyTo_c W T1 T2 1000 142 2048 ?_ (fun κ_3 q4 => ?_)
  · exact ⟨hp.2.2, Or.inl ⟨rfl, rfl, rfl⟩⟩  -- p1
  have U : (mF κ κ_3 a0 ∧ mS κ κ_3 a0 ∧ zI κ_3 = zI κ) ∧ hoI κ_3 a1 1000 142 2048 := by
    rcases q4 with e | ⟨i, n, e⟩
    · rw [e]; exact ⟨⟨mF.rf, mS.rf, rfl⟩, hp.2.2⟩
    · exact ⟨mF_uc W Ta0 (show zr maMemory = some 20 by decide +kernel) (by decide) e, hoI_m W Ta0 Ta1 e hp.2.2⟩
  obtain ⟨⟨F0, S0, I0⟩, H0⟩ := U
  intro W5
  intro M6
  intro T7
  refine Ho_lengthOf_c W5 T7 1000 142 2048 ?_ (fun r8 q10 => ?_)
  · exact ⟨H0, Or.inl ⟨rfl, rfl, rfl⟩⟩  -- p2
  intro W11
  intro M12
  refine ⟨?_, ?_⟩
  · decide  -- b3
  intro κ_13 hκ_13
  intro W14
  intro κ_15 hκ_15
  intro W16
  intro κ_17 hκ_17
  intro W18
  refine h _ ?_
  · have e9 : (9 : Int32).toInt = 9 := rfl
    have sh : zI κ_3 maShared a0 = zI κ maShared a0 := by rw [I0]
    obtain ⟨o, ho⟩ : ∃ o, o = (if (r8 - zI κ_3 maShared a0) / (9 : Int32) < (1 : Int32) then (1 : Int32) else (r8 - zI κ_3 maShared a0) / (9 : Int32)) := ⟨_, rfl⟩
    have ob := ld_o (r := r8) (s := zI κ_3 maShared a0) q10.1 q10.2.1 (by rw [sh]; exact hp.2.1.1) (by rw [sh]; exact hp.2.1.2)
    rw [← ho] at ob hκ_13
    have s13 : zI κ_13 maShared a0 = zI κ maShared a0 := by rw [hκ_13]; exact sh
    have o13 : zI κ_13 maOpen a0 = o := by rw [hκ_13]; exact if_pos ⟨rfl, rfl⟩
    have s17 : zI κ_17 maShared a0 = zI κ maShared a0 := by rw [hκ_17, hκ_15]; exact s13
    have o17 : zI κ_17 maOpen a0 = o := by rw [hκ_17, hκ_15]; exact o13
    have f17 : zI κ_17 maFrame a0 = zI κ maShared a0 + (o - 1) * 9 := by
      rw [hκ_17]
      show zI κ_15 maFrame a0 = _
      rw [hκ_15]
      refine (if_pos ⟨rfl, rfl⟩).trans ?_
      rw [s13, o13]
    have b := hp.2.1
    rw [sh] at ob
    have d1 : (o - 1).toInt = o.toInt - 1 := dec_i (by omega)
    have d2 : ((o - 1) * 9).toInt = (o.toInt - 1) * 9 := by rw [mul_i (by rw [d1, e9]; omega) (by rw [d1, e9]; omega), d1, e9]
    have d3 : (zI κ maShared a0 + (o - 1) * 9).toInt = (zI κ maShared a0).toInt + (o.toInt - 1) * 9 := by rw [add_i (by rw [d2]; omega) (by rw [d2]; omega), d2]
    refine ⟨((F0.tr (mF_ui hκ_13 (by decide))).tr (mF_ui hκ_15 (by decide))).tr (mF_ui hκ_17 (by decide)), ((S0.2.tr (mG_ui hκ_13 (by decide))).tr (mG_ui hκ_15 (by decide))).tr (mG_ui hκ_17 (by decide)), s17, ?_⟩
    unfold mO
    rw [s17, o17, f17, d3]
    exact ⟨b, ⟨by omega, by omega⟩, by omega⟩

theorem Ma_begin_c {C : zC} {n0 : Nat} {a0 : Nat} {a1 : Nat} {κ : zS} {Q : zS → Prop} (W : zW C n0 κ) (Ta0 : zT κ a0 = 7) (Ta1 : zT κ a1 = 5)  (hp : maL κ a0 ∧ coI κ a1) (h : ∀ (κ' : zS), (zF (objF a0) κ κ' ∧ zR κ' maCode a0 = a1 ∧ mkI κ' a0 ∧ (0 ≤ (zI κ' maShared a0).toInt ∧ (zI κ' maShared a0).toInt ≤ 34) ∧ (mO κ' a0 ∨ zI κ' maOutcome a0 = 1) ∧ zI κ' maWants a0 = -1) → Q κ') : zRun C 2 mMa_begin [.ref a0, .ref a1] κ (oV Q noX) := by
  refine Ma_begin_run W Ta0 Ta1 ?_
  replace W := W.lo (Nat.le_trans W.1.2.1 W.1.2.2) (Nat.le_refl (zn κ))
  unfold w_Ma_begin_0
  have nab : a1 ≠ a0 := fun e => by rw [e, Ta0] at Ta1; exact absurd Ta1 (by decide)
  obtain ⟨HL, HC⟩ := hp
  have hV := HC.1.1
  have hv := HC.2.1
  have ha := HC.2.2.1
  have hc := HC.2.2.2.1
  intro κ_1 hκ_1
  intro W2
  intro T3
  have Z1 : zF (objF a0) κ κ_1 := by rw [hκ_1]; exact zF_ur rfl (show zr maCode = some 5 by decide +kernel) (by decide)
  have C1 : coI κ_1 a1 := coI_zF Z1 W Ta1 (fun f e => nab e) HC
  have T1 : zT κ_1 a0 = 7 := Z1.t Ta0 (by decide)
  have R1 : zR κ_1 maCode a0 = a1 := by rw [hκ_1]; exact if_pos ⟨rfl, rfl⟩
  have K1 : mkI κ_1 a0 := ⟨by rw [hκ_1]; exact HL, by rw [R1]; exact C1⟩
  refine Co_shared_c W2 T3  ?_ (fun r4 q6 => ?_)
  · exact C1  -- p1
  intro W7
  intro M8
  intro κ_9 hκ_9
  intro W10
  intro T11
  refine Ar_fill_c W10 T11  (fun κ_12 q13 => ?_)
  have F9 := mF_ui hκ_9 (by decide)
  have F12 := mF_uf W10 (F9.1.t T1 (by decide)) (show zr maMemory = some 20 by decide +kernel) (by decide) q13
  have T12 : zT κ_12 a0 = 7 := F12.1.1.t (F9.1.t T1 (by decide)) (by decide)
  have FF := F9.tr F12.1
  have K12 := (mkI_f FF W2 T1 K1).1
  have Lm := K12.1.1
  have C12 := K12.2
  rw [FF.2.1, R1] at C12
  have lv := C12.1.1
  have vv := C12.2.1
  have e10 : (10 : Int32).toInt = 10 := rfl
  obtain ⟨w, hw⟩ : ∃ w, w = (if (10 : Int32) < zI κ_12 coVars a1 then (10 : Int32) else zI κ_12 coVars a1) := ⟨_, rfl⟩
  have wb : 0 ≤ w.toInt ∧ w.toInt ≤ 10 := by
    rw [hw]
    split
    · decide
    · exact vv
  rw [← hw]
  have kw := cnk wb.1
  intro W14
  intro M15
  refine ⟨?_, ?_⟩
  · exact ⟨by decide, by decide, by rw [lei, t0i]; exact wb.1, by show 0 + w.toNatClampNeg ≤ _; omega, by show 0 + w.toNatClampNeg ≤ _; omega⟩  -- b2
  intro κ_16 hκ_16
  intro W17
  intro κ_18 hκ_18
  intro W19
  intro κ_20 hκ_20
  intro W21
  intro κ_22 hκ_22
  intro W23
  intro κ_24 hκ_24
  intro W25
  intro κ_26 hκ_26
  intro W27
  intro κ_28 hκ_28
  intro W29
  intro T30
  have F16 := mF_uc W14 T12 (show zr maMemory = some 20 by decide +kernel) (by decide) hκ_16
  have G := (((((((FF.tr F16.1).tr (mF_ui hκ_18 (by decide))).tr (mF_ui hκ_20 (by decide))).tr (mF_ui hκ_22 (by decide))).tr (mF_ui hκ_24 (by decide))).tr (mF_ui hκ_26 (by decide))).tr (mF_ui hκ_28 (by decide)))
  refine Co_firstOf_c W29 T30  ?_ (fun r31 q33 => ?_)
  · have K28 := (mkI_f G W2 T1 K1).1.2
    rw [G.2.1, R1] at K28
    exact K28
  intro W34
  intro M35
  intro κ_36 hκ_36
  intro W37
  intro κ_38 hκ_38
  intro W39
  intro T40
  have G2 := (G.tr (mF_ui hκ_36 (by decide))).tr (mF_ui hκ_38 (by decide))
  have K38 := (mkI_f G2 W2 T1 K1).1
  have e34 : (34 : Int32).toInt = 34 := rfl
  have s9 : zI κ_9 maShared a0 = (if (34 : Int32) < r4 then (34 : Int32) else r4) := by rw [hκ_9]; exact if_pos ⟨rfl, rfl⟩
  have v1 : (zI κ_1 coVars a1).toInt = (zI κ coVars a1).toInt := by rw [hκ_1]; rfl
  have v2 : (zI κ_1 coCells a1).toInt = (zI κ coCells a1).toInt := by rw [hκ_1]; rfl
  have sb : 0 ≤ (zI κ_9 maShared a0).toInt ∧ (zI κ_9 maShared a0).toInt ≤ 34 := by
    rw [s9]
    split
    · decide
    · rename_i z
      rw [lti, e34] at z
      omega
  have s12 : zI κ_12 maShared a0 = zI κ_9 maShared a0 := by rw [F12.2.2]
  have s16 : zI κ_16 maShared a0 = zI κ_9 maShared a0 := by rw [F16.2.2, s12]
  have s18 : zI κ_18 maShared a0 = zI κ_9 maShared a0 := by rw [hκ_18]; exact s16
  have s38 : zI κ_38 maShared a0 = zI κ_9 maShared a0 := by rw [hκ_38, hκ_36, hκ_28, hκ_26, hκ_24, hκ_22, hκ_20]; exact s18
  have o38 : zI κ_38 maOpen a0 = 1 := by
    rw [hκ_38, hκ_36, hκ_28, hκ_26, hκ_24, hκ_22, hκ_20, hκ_18]
    exact if_pos ⟨rfl, rfl⟩
  have f38 : zI κ_38 maFrame a0 = zI κ_9 maShared a0 := by
    rw [hκ_38, hκ_36, hκ_28, hκ_26, hκ_24, hκ_22]
    show zI κ_20 maFrame a0 = _
    rw [hκ_20]
    exact (if_pos ⟨rfl, rfl⟩).trans s18
  have w38 : zI κ_38 maWants a0 = -1 := by
    rw [hκ_38, hκ_36, hκ_28]
    show zI κ_26 maWants a0 = _
    rw [hκ_26]
    exact if_pos ⟨rfl, rfl⟩
  have O38 : mO κ_38 a0 := by
    unfold mO
    rw [s38, o38, f38, t1i]
    exact ⟨sb, by omega, by omega⟩
  refine Ma_proceed_c W39 T40  ?_ (fun κ_41 q42 => ?_)
  · exact ⟨K38, O38⟩  -- p4
  intro W43
  intro M44
  refine h _ ?_
  · have G3 := G2.tr q42.1
    refine ⟨Z1.tr G3.1, by rw [G3.2.1]; exact R1, (mkI_f G3 W2 T1 K1).1, by rw [q42.2.1, s38]; exact sb, q42.2.2.1, (q42.2.2.2 maWants (by decide)).1.trans w38⟩

end
section
set_option maxHeartbeats 1600000
/-! String's methods, by hand -/
theorem dq_coder_0 : decode cJ0_coder_7d493 0 = .ok (.getstatic 38, 3) := by decide +kernel
theorem dq_coder_3 : decode cJ0_coder_7d493 3 = .ok (.ifCond .eq 10, 3) := by decide +kernel
theorem dq_coder_6 : decode cJ0_coder_7d493 6 = .ok (.aload_n 0, 1) := by decide +kernel
theorem dq_coder_7 : decode cJ0_coder_7d493 7 = .ok (.getfield 15, 3) := by decide +kernel
theorem dq_coder_10 : decode cJ0_coder_7d493 10 = .ok (.goto 4, 3) := by decide +kernel
theorem dq_coder_14 : decode cJ0_coder_7d493 14 = .ok (.ireturn, 1) := by decide +kernel
theorem dq_lat_0 : decode cJ0_isLatin1_aae02 0 = .ok (.getstatic 38, 3) := by decide +kernel
theorem dq_lat_3 : decode cJ0_isLatin1_aae02 3 = .ok (.ifCond .eq 14, 3) := by decide +kernel
theorem dq_lat_6 : decode cJ0_isLatin1_aae02 6 = .ok (.aload_n 0, 1) := by decide +kernel
theorem dq_lat_7 : decode cJ0_isLatin1_aae02 7 = .ok (.getfield 15, 3) := by decide +kernel
theorem dq_lat_10 : decode cJ0_isLatin1_aae02 10 = .ok (.ifCond .ne 7, 3) := by decide +kernel
theorem dq_lat_13 : decode cJ0_isLatin1_aae02 13 = .ok (.iconst 1, 1) := by decide +kernel
theorem dq_lat_14 : decode cJ0_isLatin1_aae02 14 = .ok (.goto 4, 3) := by decide +kernel
theorem dq_lat_18 : decode cJ0_isLatin1_aae02 18 = .ok (.ireturn, 1) := by decide +kernel
theorem dq_len_0 : decode cJ0_length_8abf5 0 = .ok (.aload_n 0, 1) := by decide +kernel
theorem dq_len_1 : decode cJ0_length_8abf5 1 = .ok (.getfield 9, 3) := by decide +kernel
theorem dq_len_4 : decode cJ0_length_8abf5 4 = .ok (.arraylength, 1) := by decide +kernel
theorem dq_len_5 : decode cJ0_length_8abf5 5 = .ok (.aload_n 0, 1) := by decide +kernel
theorem dq_len_6 : decode cJ0_length_8abf5 6 = .ok (.invokevirtual 335, 3) := by decide +kernel
theorem dq_len_9 : decode cJ0_length_8abf5 9 = .ok (.ishr, 1) := by decide +kernel
theorem dq_len_10 : decode cJ0_length_8abf5 10 = .ok (.ireturn, 1) := by decide +kernel
theorem dq_ck3_0 : decode cJ3_checkIndex_8e157 0 = .ok (.iload_n 0, 1) := by decide +kernel
theorem dq_ck3_1 : decode cJ3_checkIndex_8e157 1 = .ok (.ifCond .lt 8, 3) := by decide +kernel
theorem dq_ck3_4 : decode cJ3_checkIndex_8e157 4 = .ok (.iload_n 0, 1) := by decide +kernel
theorem dq_ck3_5 : decode cJ3_checkIndex_8e157 5 = .ok (.iload_n 1, 1) := by decide +kernel
theorem dq_ck3_6 : decode cJ3_checkIndex_8e157 6 = .ok (.if_icmp .lt 10, 3) := by decide +kernel
theorem dq_ck3_16 : decode cJ3_checkIndex_8e157 16 = .ok (.iload_n 0, 1) := by decide +kernel
theorem dq_ck3_17 : decode cJ3_checkIndex_8e157 17 = .ok (.ireturn, 1) := by decide +kernel
theorem dq_ck0_0 : decode cJ0_checkIndex_df160 0 = .ok (.iload_n 0, 1) := by decide +kernel
theorem dq_ck0_1 : decode cJ0_checkIndex_df160 1 = .ok (.iload_n 1, 1) := by decide +kernel
theorem dq_ck0_2 : decode cJ0_checkIndex_df160 2 = .ok (.getstatic 1053, 3) := by decide +kernel
theorem dq_ck0_5 : decode cJ0_checkIndex_df160 5 = .ok (.invokestatic 1059, 3) := by decide +kernel
theorem dq_ck0_8 : decode cJ0_checkIndex_df160 8 = .ok (.pop, 1) := by decide +kernel
theorem dq_ck0_9 : decode cJ0_checkIndex_df160 9 = .ok (.return_, 1) := by decide +kernel
theorem dq_ch1_0 : decode cJ1_charAt_3b067 0 = .ok (.iload_n 1, 1) := by decide +kernel
theorem dq_ch1_1 : decode cJ1_charAt_3b067 1 = .ok (.aload_n 0, 1) := by decide +kernel
theorem dq_ch1_2 : decode cJ1_charAt_3b067 2 = .ok (.arraylength, 1) := by decide +kernel
theorem dq_ch1_3 : decode cJ1_charAt_3b067 3 = .ok (.invokestatic 9, 3) := by decide +kernel
theorem dq_ch1_6 : decode cJ1_charAt_3b067 6 = .ok (.aload_n 0, 1) := by decide +kernel
theorem dq_ch1_7 : decode cJ1_charAt_3b067 7 = .ok (.iload_n 1, 1) := by decide +kernel
theorem dq_ch1_8 : decode cJ1_charAt_3b067 8 = .ok (.baload, 1) := by decide +kernel
theorem dq_ch1_9 : decode cJ1_charAt_3b067 9 = .ok (.sipush 255, 3) := by decide +kernel
theorem dq_ch1_12 : decode cJ1_charAt_3b067 12 = .ok (.iand, 1) := by decide +kernel
theorem dq_ch1_13 : decode cJ1_charAt_3b067 13 = .ok (.i2c, 1) := by decide +kernel
theorem dq_ch1_14 : decode cJ1_charAt_3b067 14 = .ok (.ireturn, 1) := by decide +kernel
theorem dq_ch0_0 : decode cJ0_charAt_5068e 0 = .ok (.aload_n 0, 1) := by decide +kernel
theorem dq_ch0_1 : decode cJ0_charAt_5068e 1 = .ok (.invokevirtual 492, 3) := by decide +kernel
theorem dq_ch0_4 : decode cJ0_charAt_5068e 4 = .ok (.ifCond .eq 12, 3) := by decide +kernel
theorem dq_ch0_7 : decode cJ0_charAt_5068e 7 = .ok (.aload_n 0, 1) := by decide +kernel
theorem dq_ch0_8 : decode cJ0_charAt_5068e 8 = .ok (.getfield 9, 3) := by decide +kernel
theorem dq_ch0_11 : decode cJ0_charAt_5068e 11 = .ok (.iload_n 1, 1) := by decide +kernel
theorem dq_ch0_12 : decode cJ0_charAt_5068e 12 = .ok (.invokestatic 495, 3) := by decide +kernel
theorem dq_ch0_15 : decode cJ0_charAt_5068e 15 = .ok (.ireturn, 1) := by decide +kernel
theorem dq_can_0 : decode cJ1_canEncode_9a6ad 0 = .ok (.iload_n 0, 1) := by decide +kernel
theorem dq_can_1 : decode cJ1_canEncode_9a6ad 1 = .ok (.ifCond .lt 14, 3) := by decide +kernel
theorem dq_can_4 : decode cJ1_canEncode_9a6ad 4 = .ok (.iload_n 0, 1) := by decide +kernel
theorem dq_can_5 : decode cJ1_canEncode_9a6ad 5 = .ok (.sipush 255, 3) := by decide +kernel
theorem dq_can_8 : decode cJ1_canEncode_9a6ad 8 = .ok (.if_icmp .gt 7, 3) := by decide +kernel
theorem dq_can_11 : decode cJ1_canEncode_9a6ad 11 = .ok (.iconst 1, 1) := by decide +kernel
theorem dq_can_12 : decode cJ1_canEncode_9a6ad 12 = .ok (.goto 4, 3) := by decide +kernel
theorem dq_can_15 : decode cJ1_canEncode_9a6ad 15 = .ok (.iconst 0, 1) := by decide +kernel
theorem dq_can_16 : decode cJ1_canEncode_9a6ad 16 = .ok (.ireturn, 1) := by decide +kernel
theorem dq_ixc_0 : decode cJ1_indexOfChar_4cfef 0 = .ok (.iload_n 1, 1) := by decide +kernel
theorem dq_ixc_1 : decode cJ1_indexOfChar_4cfef 1 = .ok (.i2b, 1) := by decide +kernel
theorem dq_ixc_2 : decode cJ1_indexOfChar_4cfef 2 = .ok (.istore 4, 2) := by decide +kernel
theorem dq_ixc_4 : decode cJ1_indexOfChar_4cfef 4 = .ok (.iload_n 2, 1) := by decide +kernel
theorem dq_ixc_5 : decode cJ1_indexOfChar_4cfef 5 = .ok (.istore 5, 2) := by decide +kernel
theorem dq_ixc_7 : decode cJ1_indexOfChar_4cfef 7 = .ok (.iload 5, 2) := by decide +kernel
theorem dq_ixc_9 : decode cJ1_indexOfChar_4cfef 9 = .ok (.iload_n 3, 1) := by decide +kernel
theorem dq_ixc_10 : decode cJ1_indexOfChar_4cfef 10 = .ok (.if_icmp .ge 21, 3) := by decide +kernel
theorem dq_ixc_13 : decode cJ1_indexOfChar_4cfef 13 = .ok (.aload_n 0, 1) := by decide +kernel
theorem dq_ixc_14 : decode cJ1_indexOfChar_4cfef 14 = .ok (.iload 5, 2) := by decide +kernel
theorem dq_ixc_16 : decode cJ1_indexOfChar_4cfef 16 = .ok (.baload, 1) := by decide +kernel
theorem dq_ixc_17 : decode cJ1_indexOfChar_4cfef 17 = .ok (.iload 4, 2) := by decide +kernel
theorem dq_ixc_19 : decode cJ1_indexOfChar_4cfef 19 = .ok (.if_icmp .ne 6, 3) := by decide +kernel
theorem dq_ixc_22 : decode cJ1_indexOfChar_4cfef 22 = .ok (.iload 5, 2) := by decide +kernel
theorem dq_ixc_24 : decode cJ1_indexOfChar_4cfef 24 = .ok (.ireturn, 1) := by decide +kernel
theorem dq_ixc_25 : decode cJ1_indexOfChar_4cfef 25 = .ok (.iinc 5 1, 3) := by decide +kernel
theorem dq_ixc_28 : decode cJ1_indexOfChar_4cfef 28 = .ok (.goto (-21), 3) := by decide +kernel
theorem dq_ixc_31 : decode cJ1_indexOfChar_4cfef 31 = .ok (.iconst (-1), 1) := by decide +kernel
theorem dq_ixc_32 : decode cJ1_indexOfChar_4cfef 32 = .ok (.ireturn, 1) := by decide +kernel
theorem dq_ix1_0 : decode cJ1_indexOf_4cfef 0 = .ok (.iload_n 1, 1) := by decide +kernel
theorem dq_ix1_1 : decode cJ1_indexOf_4cfef 1 = .ok (.invokestatic 88, 3) := by decide +kernel
theorem dq_ix1_4 : decode cJ1_indexOf_4cfef 4 = .ok (.ifCond .ne 5, 3) := by decide +kernel
theorem dq_ix1_7 : decode cJ1_indexOf_4cfef 7 = .ok (.iconst (-1), 1) := by decide +kernel
theorem dq_ix1_8 : decode cJ1_indexOf_4cfef 8 = .ok (.ireturn, 1) := by decide +kernel
theorem dq_ix1_9 : decode cJ1_indexOf_4cfef 9 = .ok (.iload_n 2, 1) := by decide +kernel
theorem dq_ix1_10 : decode cJ1_indexOf_4cfef 10 = .ok (.iconst 0, 1) := by decide +kernel
theorem dq_ix1_11 : decode cJ1_indexOf_4cfef 11 = .ok (.invokestatic 92, 3) := by decide +kernel
theorem dq_ix1_14 : decode cJ1_indexOf_4cfef 14 = .ok (.istore_n 2, 1) := by decide +kernel
theorem dq_ix1_15 : decode cJ1_indexOf_4cfef 15 = .ok (.iload_n 3, 1) := by decide +kernel
theorem dq_ix1_16 : decode cJ1_indexOf_4cfef 16 = .ok (.aload_n 0, 1) := by decide +kernel
theorem dq_ix1_17 : decode cJ1_indexOf_4cfef 17 = .ok (.arraylength, 1) := by decide +kernel
theorem dq_ix1_18 : decode cJ1_indexOf_4cfef 18 = .ok (.invokestatic 38, 3) := by decide +kernel
theorem dq_ix1_21 : decode cJ1_indexOf_4cfef 21 = .ok (.istore_n 3, 1) := by decide +kernel
theorem dq_ix1_22 : decode cJ1_indexOf_4cfef 22 = .ok (.iload_n 2, 1) := by decide +kernel
theorem dq_ix1_23 : decode cJ1_indexOf_4cfef 23 = .ok (.iload_n 3, 1) := by decide +kernel
theorem dq_ix1_24 : decode cJ1_indexOf_4cfef 24 = .ok (.if_icmp .lt 5, 3) := by decide +kernel
theorem dq_ix1_27 : decode cJ1_indexOf_4cfef 27 = .ok (.iconst (-1), 1) := by decide +kernel
theorem dq_ix1_28 : decode cJ1_indexOf_4cfef 28 = .ok (.ireturn, 1) := by decide +kernel
theorem dq_ix1_29 : decode cJ1_indexOf_4cfef 29 = .ok (.aload_n 0, 1) := by decide +kernel
theorem dq_ix1_30 : decode cJ1_indexOf_4cfef 30 = .ok (.iload_n 1, 1) := by decide +kernel
theorem dq_ix1_31 : decode cJ1_indexOf_4cfef 31 = .ok (.iload_n 2, 1) := by decide +kernel
theorem dq_ix1_32 : decode cJ1_indexOf_4cfef 32 = .ok (.iload_n 3, 1) := by decide +kernel
theorem dq_ix1_33 : decode cJ1_indexOf_4cfef 33 = .ok (.invokestatic 95, 3) := by decide +kernel
theorem dq_ix1_36 : decode cJ1_indexOf_4cfef 36 = .ok (.ireturn, 1) := by decide +kernel
theorem dq_ix2_0 : decode cJ0_indexOf_7cf53 0 = .ok (.aload_n 0, 1) := by decide +kernel
theorem dq_ix2_1 : decode cJ0_indexOf_7cf53 1 = .ok (.invokevirtual 492, 3) := by decide +kernel
theorem dq_ix2_4 : decode cJ0_indexOf_7cf53 4 = .ok (.ifCond .eq 19, 3) := by decide +kernel
theorem dq_ix2_7 : decode cJ0_indexOf_7cf53 7 = .ok (.aload_n 0, 1) := by decide +kernel
theorem dq_ix2_8 : decode cJ0_indexOf_7cf53 8 = .ok (.getfield 9, 3) := by decide +kernel
theorem dq_ix2_11 : decode cJ0_indexOf_7cf53 11 = .ok (.iload_n 1, 1) := by decide +kernel
theorem dq_ix2_12 : decode cJ0_indexOf_7cf53 12 = .ok (.iload_n 2, 1) := by decide +kernel
theorem dq_ix2_13 : decode cJ0_indexOf_7cf53 13 = .ok (.aload_n 0, 1) := by decide +kernel
theorem dq_ix2_14 : decode cJ0_indexOf_7cf53 14 = .ok (.invokevirtual 505, 3) := by decide +kernel
theorem dq_ix2_17 : decode cJ0_indexOf_7cf53 17 = .ok (.invokestatic 637, 3) := by decide +kernel
theorem dq_ix2_20 : decode cJ0_indexOf_7cf53 20 = .ok (.goto 16, 3) := by decide +kernel
theorem dq_ix2_36 : decode cJ0_indexOf_7cf53 36 = .ok (.ireturn, 1) := by decide +kernel
theorem dq_ix3_0 : decode cJ0_indexOf_0f7a4 0 = .ok (.aload_n 0, 1) := by decide +kernel
theorem dq_ix3_1 : decode cJ0_indexOf_0f7a4 1 = .ok (.iload_n 1, 1) := by decide +kernel
theorem dq_ix3_2 : decode cJ0_indexOf_0f7a4 2 = .ok (.iconst 0, 1) := by decide +kernel
theorem dq_ix3_3 : decode cJ0_indexOf_0f7a4 3 = .ok (.invokevirtual 633, 3) := by decide +kernel
theorem dq_ix3_6 : decode cJ0_indexOf_0f7a4 6 = .ok (.ireturn, 1) := by decide +kernel
abbrev jCoder : dM := (yJ0_coder_7d493, cJ0_coder_7d493, 1, (some .byte), false, 0, 0)
abbrev jLatin : dM := (yJ0_isLatin1_aae02, cJ0_isLatin1_aae02, 1, (some .boolean), false, 0, 0)
abbrev jCk3 : dM := (yJ3_checkIndex_8e157, cJ3_checkIndex_8e157, 3, (some .int), true, 103, 3)
abbrev jCk0 : dM := (yJ0_checkIndex_df160, cJ0_checkIndex_df160, 2, none, true, 0, 2)
abbrev jChar1 : dM := (yJ1_charAt_3b067, cJ1_charAt_3b067, 2, (some .char), true, 101, 2)
abbrev jCan : dM := (yJ1_canEncode_9a6ad, cJ1_canEncode_9a6ad, 1, (some .boolean), true, 101, 1)
abbrev jIxC : dM := (yJ1_indexOfChar_4cfef, cJ1_indexOfChar_4cfef, 6, (some .int), true, 101, 4)
abbrev jIx1 : dM := (yJ1_indexOf_4cfef, cJ1_indexOf_4cfef, 4, (some .int), true, 101, 4)
abbrev jIx2 : dM := (yJ0_indexOf_7cf53, cJ0_indexOf_7cf53, 3, (some .int), false, 0, 2)
/-- a text: its object's entry, its row's entry -/
def txX (C : zC) (a : Nat) (x y : Nat × Nat × List Int32) : Prop := (C.2.1).find? (fun x => x.1 == a) = some x ∧ (C.2.1).find? (fun z => z.2.1 == x.2.1) = some y ∧ x.2.1 < yb C ∧ (yh C).2 x.2.1 = none ∧ y.2.2.length ≤ 65536
theorem txX_of {C : zC} {a : Nat} (h : isTx C a) : ∃ x y, txX C a x y := h.2.1.2
/-- how long a text is -/
def txL (C : zC) (a : Nat) : Nat := match (C.2.1).find? (fun x => x.1 == a) with
  | some x => match (C.2.1).find? (fun z => z.2.1 == x.2.1) with
    | some y => y.2.2.length
    | none => 0
  | none => 0
theorem txL_e {C : zC} {a : Nat} {x y : Nat × Nat × List Int32} (h : txX C a x y) : txL C a = y.2.2.length := by
  unfold txL
  rw [h.1]
  show (match (C.2.1).find? (fun z => z.2.1 == x.2.1) with | some y => y.2.2.length | none => 0) = _
  rw [h.2.1]
theorem txL_b {C : zC} {a : Nat} (h : isTx C a) : txL C a ≤ 65536 := by
  obtain ⟨x, y, hx⟩ := txX_of h
  rw [txL_e hx]; exact hx.2.2.2.2
theorem zH_no {C : zC} {n0 a : Nat} {κ : zS} (W : zW C n0 κ) (hb : a < yb C) (hn : (yh C).2 a = none) : (zH C κ).2 a = none := by
  show (if zT κ a = 0 then _ else _) = _
  by_cases e : zT κ a = 0
  · rw [if_pos e]; exact hn
  · have := (W.2.1 a e).1.1; omega
theorem y_tgv {C : zC} {n0 d : Nat} {r : dM} {pc : Nat} {L : List (Option Value)} {st : List Value} {κ : zS} {Q : zU → zS → Prop} {idx a : Nat} {x y : Nat × Nat × List Int32} (W : zW C n0 κ) (hd : decode r.2.1 pc = .ok (.getfield idx, 3)) (ho : r.2.2.2.2.2.1 = 0) (hf : (tSF 0).lookup idx = some true) (hB : isTx C a) (hx : txX C a x y) (K : zG C n0 d r (pc + 3) L (.ref x.2.1 :: st) κ Q) : zG C n0 d r pc L (.ref a :: st) κ Q := by
  refine y_h0 hd rfl (fun _ => rfl) (fun cs ss => ?_) ⟨rfl, rfl⟩ zM.rf K
  have hz : (zH C κ).2 a = none := zH_no W hB.2.1.1 hB.2.2
  have h1 : dgetf (yEn C) r.2.2.2.2.2.1 3 idx (.ref a :: st) (zH C κ) cs ss = none := by
    unfold dgetf
    simp only [hz]
  have h2 : dgets (yEn C) r.2.2.2.2.2.1 3 idx (.ref a :: st) (zH C κ) cs ss = some (.ref x.2.1 :: st, zH C κ, cs, ss) := by
    have e1 : (eTL (yEn C)).find? (fun x => x.1 == a) = some x := hx.1
    have e2 : eSF (yEn C) 0 idx = some true := hf
    unfold dgets
    rw [ho]
    simp only [e1, e2, if_true]
  show dor (dgetf (yEn C) r.2.2.2.2.2.1 3 idx (.ref a :: st) (zH C κ) cs ss) (dgets (yEn C) r.2.2.2.2.2.1 3 idx (.ref a :: st) (zH C κ) cs ss) = _
  rw [h1, h2]
  rfl
theorem y_tgc {C : zC} {n0 d : Nat} {r : dM} {pc : Nat} {L : List (Option Value)} {st : List Value} {κ : zS} {Q : zU → zS → Prop} {idx a : Nat} {x y : Nat × Nat × List Int32} (W : zW C n0 κ) (hd : decode r.2.1 pc = .ok (.getfield idx, 3)) (ho : r.2.2.2.2.2.1 = 0) (hf : (tSF 0).lookup idx = some false) (hB : isTx C a) (hx : txX C a x y) (K : zG C n0 d r (pc + 3) L (.int 0 :: st) κ Q) : zG C n0 d r pc L (.ref a :: st) κ Q := by
  refine y_h0 hd rfl (fun _ => rfl) (fun cs ss => ?_) ⟨rfl, rfl⟩ zM.rf K
  have hz : (zH C κ).2 a = none := zH_no W hB.2.1.1 hB.2.2
  have h1 : dgetf (yEn C) r.2.2.2.2.2.1 3 idx (.ref a :: st) (zH C κ) cs ss = none := by
    unfold dgetf
    simp only [hz]
  have h2 : dgets (yEn C) r.2.2.2.2.2.1 3 idx (.ref a :: st) (zH C κ) cs ss = some (.int 0 :: st, zH C κ, cs, ss) := by
    have e1 : (eTL (yEn C)).find? (fun x => x.1 == a) = some x := hx.1
    have e2 : eSF (yEn C) 0 idx = some false := hf
    unfold dgets
    rw [ho]
    simp only [e1, e2, if_true]
  show dor (dgetf (yEn C) r.2.2.2.2.2.1 3 idx (.ref a :: st) (zH C κ) cs ss) (dgets (yEn C) r.2.2.2.2.2.1 3 idx (.ref a :: st) (zH C κ) cs ss) = _
  rw [h1, h2]
  rfl
theorem y_gst {C : zC} {n0 d : Nat} {r : dM} {pc : Nat} {L : List (Option Value)} {st : List Value} {κ : zS} {Q : zU → zS → Prop} {idx : Nat} {v : Value} (hd : decode r.2.1 pc = .ok (.getstatic idx, 3)) (ho : r.2.2.2.2.2.1 = 0) (hv : gSt C.1 0 idx = some v) (K : zG C n0 d r (pc + 3) L (v :: st) κ Q) : zG C n0 d r pc L st κ Q := by
  refine y_h0 hd rfl (fun _ => rfl) (fun cs ss => ?_) ⟨rfl, rfl⟩ zM.rf K
  show dldc 3 3 (eGS (yEn C) r.2.2.2.2.2.1 idx) st (zH C κ) cs ss = _
  have e : eGS (yEn C) 0 idx = some v := hv
  rw [ho, e]
  rfl
theorem y_tln {C : zC} {n0 d : Nat} {r : dM} {pc : Nat} {L : List (Option Value)} {st : List Value} {κ : zS} {Q : zU → zS → Prop} {a : Nat} {x y : Nat × Nat × List Int32} (W : zW C n0 κ) (hd : decode r.2.1 pc = .ok (.arraylength, 1)) (hx : txX C a x y) (K : zG C n0 d r (pc + 1) L (.int (Int32.ofNat y.2.2.length) :: st) κ Q) : zG C n0 d r pc L (.ref x.2.1 :: st) κ Q := by
  refine y_h0 hd rfl (fun _ => rfl) (fun cs ss => ?_) ⟨rfl, rfl⟩ zM.rf K
  have hz : (zH C κ).2 x.2.1 = none := zH_no W hx.2.2.1 hx.2.2.2.1
  have h1 : dalen 1 (.ref x.2.1 :: st) (zH C κ) cs ss = none := by
    unfold dalen
    simp only [hz]
  have h2 : dslen (yEn C) 1 (.ref x.2.1 :: st) (zH C κ) cs ss = some (.int (Int32.ofNat y.2.2.length) :: st, zH C κ, cs, ss) := by
    have e1 : (eTL (yEn C)).find? (fun z => z.2.1 == x.2.1) = some y := hx.2.1
    unfold dslen
    simp only [e1, if_true]
  show dor (dalen 1 (.ref x.2.1 :: st) (zH C κ) cs ss) (dslen (yEn C) 1 (.ref x.2.1 :: st) (zH C κ) cs ss) = _
  rw [h1, h2]
  rfl
theorem y_tld {C : zC} {n0 d : Nat} {r : dM} {pc : Nat} {L : List (Option Value)} {st : List Value} {κ : zS} {Q : zU → zS → Prop} {a : Nat} {x y : Nat × Nat × List Int32} {i : Int32} (W : zW C n0 κ) (hd : decode r.2.1 pc = .ok (.baload, 1)) (hx : txX C a x y) (hi : inb i y.2.2.length) (K : zG C n0 d r (pc + 1) L (.int (y.2.2.getD i.toNatClampNeg 0) :: st) κ Q) : zG C n0 d r pc L (.int i :: .ref x.2.1 :: st) κ Q := by
  refine y_h0 hd rfl (fun _ => rfl) (fun cs ss => ?_) ⟨rfl, rfl⟩ zM.rf K
  have hz : (zH C κ).2 x.2.1 = none := zH_no W hx.2.2.1 hx.2.2.2.1
  have h1 : ∀ t, daldI t 1 (.int i :: .ref x.2.1 :: st) (zH C κ) cs ss = none := fun t => by
    unfold daldI
    simp only [hz]
  have h2 : dsld (yEn C) 1 (.int i :: .ref x.2.1 :: st) (zH C κ) cs ss = some (.int (y.2.2.getD i.toNatClampNeg 0) :: st, zH C κ, cs, ss) := by
    have e1 : (eTL (yEn C)).find? (fun z => z.2.1 == x.2.1) = some y := hx.2.1
    unfold dsld
    simp only [e1]
    exact if_pos ⟨trivial, hi⟩
  show dor (daldI 1 1 (.int i :: .ref x.2.1 :: st) (zH C κ) cs ss) (dor (daldI 3 1 (.int i :: .ref x.2.1 :: st) (zH C κ) cs ss) (dsld (yEn C) 1 (.int i :: .ref x.2.1 :: st) (zH C κ) cs ss)) = _
  rw [h1 1, h1 3, h2]
  rfl
theorem jCoder_c {C : zC} {n0 a : Nat} {κ : zS} {Q : Int32 → zS → Prop} (W : zW C n0 κ) (hB : isTx C a) (h : Q 0 κ) : zRun C 0 jCoder [.ref a] κ (oI Q noX) := by
  obtain ⟨x, y, hx⟩ := txX_of hB
  replace W := W.lo (Nat.le_trans W.1.2.1 W.1.2.2) (Nat.le_refl (zn κ))
  refine z_run (m_ent _ 0) ?_
  refine y_gst dq_coder_0 rfl (v := .int 1) rfl ?_
  refine y_i ((1 : Int32) = 0) dq_coder_3 (t := 13) rfl rfl (fun c => absurd c (by decide)) (fun _ => ?_)
  refine y_aln dq_coder_6 rfl ?_
  refine y_tgc W dq_coder_7 rfl rfl hB hx ?_
  refine y_goto dq_coder_10 (t := 14) rfl ?_
  exact y_ri W dq_coder_14 rfl ⟨rfl, rfl⟩ h
theorem jLatin_c {C : zC} {n0 a : Nat} {κ : zS} {Q : Int32 → zS → Prop} (W : zW C n0 κ) (hB : isTx C a) (h : Q 1 κ) : zRun C 0 jLatin [.ref a] κ (oI Q noX) := by
  obtain ⟨x, y, hx⟩ := txX_of hB
  replace W := W.lo (Nat.le_trans W.1.2.1 W.1.2.2) (Nat.le_refl (zn κ))
  refine z_run (m_ent _ 0) ?_
  refine y_gst dq_lat_0 rfl (v := .int 1) rfl ?_
  refine y_i ((1 : Int32) = 0) dq_lat_3 (t := 17) rfl rfl (fun c => absurd c (by decide)) (fun _ => ?_)
  refine y_aln dq_lat_6 rfl ?_
  refine y_tgc W dq_lat_7 rfl rfl hB hx ?_
  refine y_in ((0 : Int32) = 0) dq_lat_10 (t := 17) rfl rfl (fun c => absurd rfl c) (fun _ => ?_)
  refine y_ic dq_lat_13 zi_1 ?_
  refine y_goto dq_lat_14 (t := 18) rfl ?_
  exact y_ri W dq_lat_18 rfl ⟨rfl, rfl⟩ h
theorem jLen_c {C : zC} {n0 a : Nat} {κ : zS} {Q : Int32 → zS → Prop} (W : zW C n0 κ) (hB : isTx C a) (h : Q (Int32.ofNat (txL C a)) κ) : zRun C 1 mSt_length [.ref a] κ (oI Q noX) := by
  obtain ⟨x, y, hx⟩ := txX_of hB
  rw [txL_e hx] at h
  replace W := W.lo (Nat.le_trans W.1.2.1 W.1.2.2) (Nat.le_refl (zn κ))
  refine z_run (m_ent _ 0) ?_
  refine y_aln dq_len_0 rfl ?_
  refine y_tgv W dq_len_1 rfl rfl hB hx ?_
  refine y_tln W dq_len_4 hx ?_
  refine y_aln dq_len_5 rfl ?_
  refine y_calt (As := []) W dq_len_6 rfl (j := 415) (by decide +kernel) rfl ⟨rfl, by decide, rfl⟩ rfl (Nat.le_of_ble_eq_true rfl) (Nat.le_refl 0) (Nat.le_of_ble_eq_true rfl) hB (jCoder_c (Q := fun z κ' => z = 0 ∧ κ' = κ) W hB ⟨rfl, rfl⟩) (fun v κ' w9 m9 p9 => ezI (fun z κ' w m p => ?_) w9 m9 p9) (fun cls κ' p9 => False.elim (show False from thrI (X := noX) p9))
  obtain ⟨rfl, rfl⟩ := p
  refine y_ishr dq_len_9 ?_
  have e : Int32.ofNat y.2.2.length >>> ((0 : Int32) &&& 31) = Int32.ofNat y.2.2.length := by
    have e0 : ((0 : Int32) &&& 31) = 0 := by decide
    rw [e0]
    exact Int32.shiftRight_zero
  rw [e]
  exact y_ri w dq_len_10 rfl ⟨rfl, rfl⟩ h
theorem St_length_c {C : zC} {n0 : Nat} {a0 : Nat} {κ : zS} {Q : Int32 → zS → Prop} (W : zW C n0 κ) (Ta0 : isTx C a0) (h : ∀ (v : Int32), (v.toInt = txL C a0) → Q v κ) : zRun C 9 mSt_length [.ref a0] κ (oI Q noX) :=
  zRun.up (by decide) (jLen_c W Ta0 (h _ (ofn_i (Nat.le_trans (txL_b Ta0) (by decide)))))
theorem jCk3_c {C : zC} {n0 : Nat} {i n : Int32} {v : Value} {κ : zS} {Q : Int32 → zS → Prop} (W : zW C n0 κ) (hv : v = .null ∨ ∃ q, v = .ref q) (h0 : 0 ≤ i.toInt) (h1 : i.toInt < n.toInt) (h : Q i κ) : zRun C 0 jCk3 [.int i, .int n, v] κ (oI Q noX) := by
  replace W := W.lo (Nat.le_trans W.1.2.1 W.1.2.2) (Nat.le_refl (zn κ))
  have hi : ¬ i < 0 := by rw [lti, t0i]; omega
  have hn : i < n := by rw [lti]; exact h1
  rcases hv with rfl | ⟨q, rfl⟩
  · refine z_run (m_ent _ 0) ?_
    refine y_iln dq_ck3_0 rfl ?_
    refine y_i (i < 0) dq_ck3_1 (t := 9) rfl rfl (fun c => absurd c hi) (fun _ => ?_)
    refine y_iln dq_ck3_4 rfl ?_
    refine y_iln dq_ck3_5 rfl ?_
    refine y_ii (i < n) dq_ck3_6 (t := 16) rfl rfl (fun _ => ?_) (fun c => absurd hn c)
    refine y_iln dq_ck3_16 rfl ?_
    exact y_ri W dq_ck3_17 rfl ⟨rfl, rfl⟩ h
  · refine z_run (m_ent _ 0) ?_
    refine y_iln dq_ck3_0 rfl ?_
    refine y_i (i < 0) dq_ck3_1 (t := 9) rfl rfl (fun c => absurd c hi) (fun _ => ?_)
    refine y_iln dq_ck3_4 rfl ?_
    refine y_iln dq_ck3_5 rfl ?_
    refine y_ii (i < n) dq_ck3_6 (t := 16) rfl rfl (fun _ => ?_) (fun c => absurd hn c)
    refine y_iln dq_ck3_16 rfl ?_
    exact y_ri W dq_ck3_17 rfl ⟨rfl, rfl⟩ h
theorem jCk0_c {C : zC} {n0 : Nat} {i n : Int32} {κ : zS} {Q : zS → Prop} (W : zW C n0 κ) (h0 : 0 ≤ i.toInt) (h1 : i.toInt < n.toInt) (h : Q κ) : zRun C 1 jCk0 [.int i, .int n] κ (oV Q noX) := by
  replace W := W.lo (Nat.le_trans W.1.2.1 W.1.2.2) (Nat.le_refl (zn κ))
  refine z_run (m_ent _ 0) ?_
  refine y_iln dq_ck0_0 rfl ?_
  refine y_iln dq_ck0_1 rfl ?_
  obtain ⟨v, hv⟩ : ∃ v, v = pvV C.1 := ⟨_, rfl⟩
  refine y_gst dq_ck0_2 rfl (v := v) (by rw [hv]; rfl) ?_
  have hp : v = .null ∨ ∃ q, v = .ref q := by
    rw [hv]
    unfold pvV
    split
    · exact Or.inl rfl
    · exact Or.inr ⟨_, rfl⟩
  have hl : (lg_sl [.int i, .int n, v]).length ≤ 3 := by
    rcases hp with rfl | ⟨q, rfl⟩ <;> exact Nat.le_of_ble_eq_true rfl
  refine y_cals (As := [.int i, .int n, v]) (rest := []) W dq_ck0_5 rfl (j := 429) (by decide +kernel) (by decide +kernel) rfl rfl rfl hl (Nat.le_refl 0) (Nat.le_of_ble_eq_true rfl) (jCk3_c (Q := fun z κ' => z = i ∧ κ' = κ) W hp h0 h1 ⟨rfl, rfl⟩) (fun v κ' w9 m9 p9 => ezI (fun z κ' w m p => ?_) w9 m9 p9) (fun cls κ' p9 => show False from thrI (X := noX) p9)
  obtain ⟨rfl, rfl⟩ := p
  refine y_pop dq_ck0_8 rfl ?_
  exact y_rv w dq_ck0_9 rfl h
/-- a char -/
def chOK (v : Int32) : Prop := narrow .char (.int v) = .int v ∧ fits .char (.int v) = true
theorem ch_tab : ∀ n, n < 256 → (((Int32.ofNat n).toUInt32 % 65536).toInt32.toUInt32.toUInt16.toUInt32.toInt32 = ((Int32.ofNat n).toUInt32 % 65536).toInt32 ∧ (decide (0 ≤ ((Int32.ofNat n).toUInt32 % 65536).toInt32) && decide (((Int32.ofNat n).toUInt32 % 65536).toInt32 ≤ 65535)) = true) := by decide +kernel
theorem ch_and {b : Int32} : chOK ((b &&& 255).toUInt32 % 65536).toInt32 := by
  have a := andi_i (x := b) (m := 255) (by decide)
  have e255 : (255 : Int32).toInt = 255 := rfl
  rw [e255] at a
  have k := cnk a.1
  have e : Int32.ofNat (b &&& 255).toNatClampNeg = b &&& 255 := Int32.ofNat_toNatClampNeg _ (by rw [lei, t0i]; exact a.1)
  have t := ch_tab (b &&& 255).toNatClampNeg (by omega)
  rw [e] at t
  exact ⟨congrArg Value.int t.1, t.2⟩
theorem jChar1_c {C : zC} {n0 a : Nat} {i : Int32} {κ : zS} {x y : Nat × Nat × List Int32} {Q : Int32 → zS → Prop} (W : zW C n0 κ) (hx : txX C a x y) (h0 : 0 ≤ i.toInt) (h1 : i.toInt < y.2.2.length) (h : ∀ v, chOK v → Q v κ) : zRun C 2 jChar1 [.ref x.2.1, .int i] κ (oI Q noX) := by
  replace W := W.lo (Nat.le_trans W.1.2.1 W.1.2.2) (Nat.le_refl (zn κ))
  have hL := ofn_i (n := y.2.2.length) (Nat.le_trans hx.2.2.2.2 (by decide))
  refine z_run (m_ent _ 0) ?_
  refine y_iln dq_ch1_0 rfl ?_
  refine y_aln dq_ch1_1 rfl ?_
  refine y_tln W dq_ch1_2 hx ?_
  refine y_cals (As := [.int i, .int (Int32.ofNat y.2.2.length)]) (rest := []) W dq_ch1_3 rfl (j := 414) (by decide +kernel) (by decide +kernel) rfl rfl rfl (Nat.le_of_ble_eq_true rfl) (Nat.le_refl 1) (Nat.le_of_ble_eq_true rfl) (jCk0_c (Q := fun κ' => κ' = κ) W h0 (by rw [hL]; exact h1) rfl) (fun v κ' w9 m9 p9 => ezV (fun κ' w m p => ?_) w9 m9 p9) (fun cls κ' p9 => show False from thrV (X := noX) p9)
  subst p
  refine y_aln dq_ch1_6 rfl ?_
  refine y_iln dq_ch1_7 rfl ?_
  refine y_tld w dq_ch1_8 hx (by rw [inb_iff]; exact ⟨h0, h1⟩) ?_
  refine y_si dq_ch1_9 (x := 255) (by decide) ?_
  refine y_iand dq_ch1_12 ?_
  refine y_i2c dq_ch1_13 ?_
  exact y_ri w dq_ch1_14 rfl ch_and (h _ ch_and)
theorem St_charAt_c {C : zC} {n0 : Nat} {a0 : Nat} {a1 : Int32} {κ : zS} {Q : Int32 → zS → Prop} (W : zW C n0 κ) (Ta0 : isTx C a0) (hp : 0 ≤ a1.toInt ∧ a1.toInt < txL C a0) (h : ∀ (v : Int32), (True) → Q v κ) : zRun C 9 mSt_charAt [.ref a0, .int a1] κ (oI Q noX) := by
  obtain ⟨x, y, hx⟩ := txX_of Ta0
  rw [txL_e hx] at hp
  refine zRun.up (d := 3) (by decide) ?_
  replace W := W.lo (Nat.le_trans W.1.2.1 W.1.2.2) (Nat.le_refl (zn κ))
  refine z_run (m_ent _ 0) ?_
  refine y_aln dq_ch0_0 rfl ?_
  refine y_calt (As := []) W dq_ch0_1 rfl (j := 418) (by decide +kernel) rfl ⟨rfl, by decide, rfl⟩ rfl (Nat.le_of_ble_eq_true rfl) (Nat.zero_le 2) (Nat.le_of_ble_eq_true rfl) Ta0 (jLatin_c (Q := fun z κ' => z = 1 ∧ κ' = κ) W Ta0 ⟨rfl, rfl⟩) (fun v κ' w9 m9 p9 => ezI (fun z κ' w m p => ?_) w9 m9 p9) (fun cls κ' p9 => False.elim (show False from thrI (X := noX) p9))
  obtain ⟨rfl, rfl⟩ := p
  refine y_i ((1 : Int32) = 0) dq_ch0_4 (t := 16) rfl rfl (fun c => absurd c (by decide)) (fun _ => ?_)
  refine y_aln dq_ch0_7 rfl ?_
  refine y_tgv w dq_ch0_8 rfl rfl Ta0 hx ?_
  refine y_iln dq_ch0_11 rfl ?_
  refine y_cals (As := [.ref x.2.1, .int a1]) (rest := []) w dq_ch0_12 rfl (j := 421) (by decide +kernel) (by decide +kernel) rfl rfl rfl (Nat.le_of_ble_eq_true rfl) (Nat.le_refl 2) (Nat.le_of_ble_eq_true rfl) (jChar1_c (Q := fun z κ2 => chOK z ∧ κ2 = κ') w hx hp.1 hp.2 (fun v hv => ⟨hv, rfl⟩)) (fun v κ2 w9 m9 p9 => ezI (fun z κ2 w2 m2 p2 => ?_) w9 m9 p9) (fun cls κ' p9 => show False from thrI (X := noX) p9)
  obtain ⟨hz, rfl⟩ := p2
  exact y_ri w2 dq_ch0_15 rfl hz (h _ trivial)
theorem jCan_c {C : zC} {n0 : Nat} {c : Int32} {κ : zS} {Q : Int32 → zS → Prop} (W : zW C n0 κ) (h : ∀ v, Q v κ) : zRun C 0 jCan [.int c] κ (oI Q noX) := by
  replace W := W.lo (Nat.le_trans W.1.2.1 W.1.2.2) (Nat.le_refl (zn κ))
  refine z_run (m_ent _ 0) ?_
  refine y_iln dq_can_0 rfl ?_
  refine y_i (c < 0) dq_can_1 (t := 15) rfl rfl (fun _ => ?_) (fun _ => ?_)
  · refine y_ic dq_can_15 zi_0 ?_
    exact y_ri W dq_can_16 rfl ⟨rfl, rfl⟩ (h _)
  · refine y_iln dq_can_4 rfl ?_
    refine y_si dq_can_5 (x := 255) (by decide) ?_
    refine y_ii ((255 : Int32) < c) dq_can_8 (t := 15) rfl rfl (fun _ => ?_) (fun _ => ?_)
    · refine y_ic dq_can_15 zi_0 ?_
      exact y_ri W dq_can_16 rfl ⟨rfl, rfl⟩ (h _)
    · refine y_ic dq_can_11 zi_1 ?_
      refine y_goto dq_can_12 (t := 16) rfl ?_
      exact y_ri W dq_can_16 rfl ⟨rfl, rfl⟩ (h _)
theorem jIxC_c {C : zC} {n0 a : Nat} {c f mx : Int32} {κ : zS} {x y : Nat × Nat × List Int32} {Q : Int32 → zS → Prop} (W : zW C n0 κ) (hx : txX C a x y) (h0 : 0 ≤ f.toInt) (h1 : mx.toInt ≤ y.2.2.length) (h : ∀ v, Q v κ) : zRun C 0 jIxC [.ref x.2.1, .int c, .int f, .int mx] κ (oI Q noX) := by
  replace W := W.lo (Nat.le_trans W.1.2.1 W.1.2.2) (Nat.le_refl (zn κ))
  have key : ∀ (m : Nat) (b k : Int32), 0 ≤ k.toInt → mx.toInt - k.toInt ≤ m → zG C (zn κ) 0 jIxC 7 [some (.ref x.2.1), some (.int c), some (.int f), some (.int mx), some (.int b), some (.int k)] [] κ (oI Q noX) := by
    intro m
    induction m with
    | zero =>
      intro b k k0 km
      refine y_il dq_ixc_7 rfl ?_
      refine y_iln dq_ixc_9 rfl ?_
      refine y_ii (mx ≤ k) dq_ixc_10 (t := 31) rfl rfl (fun _ => ?_) (fun z => absurd (by rw [lei]; omega) z)
      refine y_ic dq_ixc_31 (x := -1) (by decide) ?_
      exact y_ri W dq_ixc_32 rfl ⟨rfl, rfl⟩ (h _)
    | succ m ih =>
      intro b k k0 km
      refine y_il dq_ixc_7 rfl ?_
      refine y_iln dq_ixc_9 rfl ?_
      refine y_ii (mx ≤ k) dq_ixc_10 (t := 31) rfl rfl (fun _ => ?_) (fun z => ?_)
      · refine y_ic dq_ixc_31 (x := -1) (by decide) ?_
        exact y_ri W dq_ixc_32 rfl ⟨rfl, rfl⟩ (h _)
      · rw [lei] at z
        have e1 := inc_i (x := k) (y := mx) k0 (by omega)
        refine y_aln dq_ixc_13 rfl ?_
        refine y_il dq_ixc_14 rfl ?_
        refine y_tld W dq_ixc_16 hx (by rw [inb_iff]; omega) ?_
        refine y_il dq_ixc_17 rfl ?_
        refine y_iin (y.2.2.getD k.toNatClampNeg 0 = b) dq_ixc_19 (t := 25) rfl rfl (fun _ => ?_) (fun _ => ?_)
        · refine y_incb dq_ixc_25 zi_1 rfl (by decide) (fun z hz => ?_)
          refine y_goto dq_ixc_28 (t := 7) rfl ?_
          exact ih b z (by rw [hz, e1]; omega) (by rw [hz, e1]; omega)
        · refine y_il dq_ixc_22 rfl ?_
          exact y_ri W dq_ixc_24 rfl ⟨rfl, rfl⟩ (h _)
  refine z_run (m_ent _ 2) ?_
  refine y_iln dq_ixc_0 rfl ?_
  refine y_i2b dq_ixc_1 ?_
  refine y_is dq_ixc_2 (by decide) rfl ?_
  refine y_iln dq_ixc_4 rfl ?_
  refine y_is dq_ixc_5 (by decide) rfl ?_
  exact key (mx.toInt - f.toInt).toNat _ f h0 (by omega)
theorem jIx1_c {C : zC} {n0 a : Nat} {c f mx : Int32} {κ : zS} {x y : Nat × Nat × List Int32} {Q : Int32 → zS → Prop} (W : zW C n0 κ) (hx : txX C a x y) (h : ∀ v, Q v κ) : zRun C 1 jIx1 [.ref x.2.1, .int c, .int f, .int mx] κ (oI Q noX) := by
  replace W := W.lo (Nat.le_trans W.1.2.1 W.1.2.2) (Nat.le_refl (zn κ))
  have hL := ofn_i (n := y.2.2.length) (Nat.le_trans hx.2.2.2.2 (by decide))
  refine z_run (m_ent _ 0) ?_
  refine y_iln dq_ix1_0 rfl ?_
  refine y_cals (As := [.int c]) (rest := []) W dq_ix1_1 rfl (j := 420) (by decide +kernel) (by decide +kernel) rfl rfl rfl (Nat.le_of_ble_eq_true rfl) (Nat.le_refl 0) (Nat.le_of_ble_eq_true rfl) (jCan_c (Q := fun z κ' => κ' = κ) W (fun _ => rfl)) (fun v κ' w9 m9 p9 => ezI (fun z κ' w m p => ?_) w9 m9 p9) (fun cls κ' p9 => show False from thrI (X := noX) p9)
  subst p
  refine y_in (z = 0) dq_ix1_4 (t := 9) rfl rfl (fun _ => ?_) (fun _ => ?_)
  · refine y_iln dq_ix1_9 rfl ?_
    refine y_ic dq_ix1_10 zi_0 ?_
    refine y_max dq_ix1_11 rfl (by decide +kernel) (Nat.le_refl 1) (Nat.le_of_ble_eq_true rfl) ?_
    obtain ⟨g, hg⟩ : ∃ g, g = (if f < 0 then 0 else f) := ⟨_, rfl⟩
    rw [← hg]
    have g0 : 0 ≤ g.toInt := by
      rw [hg]
      split
      · decide
      · rename_i z9
        rw [lti, t0i] at z9
        omega
    refine y_isn dq_ix1_14 (by decide) rfl ?_
    refine y_iln dq_ix1_15 rfl ?_
    refine y_aln dq_ix1_16 rfl ?_
    refine y_tln w dq_ix1_17 hx ?_
    refine y_min dq_ix1_18 rfl (by decide +kernel) (Nat.le_refl 1) (Nat.le_of_ble_eq_true rfl) ?_
    obtain ⟨q, hq⟩ : ∃ q, q = (if Int32.ofNat y.2.2.length < mx then Int32.ofNat y.2.2.length else mx) := ⟨_, rfl⟩
    rw [← hq]
    have q0 : q.toInt ≤ y.2.2.length := by
      rw [hq]
      split
      · rw [hL]; exact Int.le_refl _
      · rename_i z9
        rw [lti, hL] at z9
        omega
    refine y_isn dq_ix1_21 (by decide) rfl ?_
    refine y_iln dq_ix1_22 rfl ?_
    refine y_iln dq_ix1_23 rfl ?_
    refine y_ii (g < q) dq_ix1_24 (t := 29) rfl rfl (fun _ => ?_) (fun _ => ?_)
    · refine y_aln dq_ix1_29 rfl ?_
      refine y_iln dq_ix1_30 rfl ?_
      refine y_iln dq_ix1_31 rfl ?_
      refine y_iln dq_ix1_32 rfl ?_
      refine y_cals (As := [.ref x.2.1, .int c, .int g, .int q]) (rest := []) w dq_ix1_33 rfl (j := 422) (by decide +kernel) (by decide +kernel) rfl rfl rfl (Nat.le_of_ble_eq_true rfl) (Nat.le_refl 0) (Nat.le_of_ble_eq_true rfl) (jIxC_c (Q := fun z κ2 => κ2 = κ') w hx g0 q0 (fun _ => rfl)) (fun v κ2 w9 m9 p9 => ezI (fun z κ2 w2 m2 p2 => ?_) w9 m9 p9) (fun cls κ' p9 => show False from thrI (X := noX) p9)
      subst p2
      exact y_ri w2 dq_ix1_36 rfl ⟨rfl, rfl⟩ (h _)
    · refine y_ic dq_ix1_27 (x := -1) (by decide) ?_
      exact y_ri w dq_ix1_28 rfl ⟨rfl, rfl⟩ (h _)
  · refine y_ic dq_ix1_7 (x := -1) (by decide) ?_
    exact y_ri w dq_ix1_8 rfl ⟨rfl, rfl⟩ (h _)
theorem jIx2_c {C : zC} {n0 a : Nat} {c f : Int32} {κ : zS} {Q : Int32 → zS → Prop} (W : zW C n0 κ) (hB : isTx C a) (h : ∀ v, Q v κ) : zRun C 2 jIx2 [.ref a, .int c, .int f] κ (oI Q noX) := by
  obtain ⟨x, y, hx⟩ := txX_of hB
  replace W := W.lo (Nat.le_trans W.1.2.1 W.1.2.2) (Nat.le_refl (zn κ))
  refine z_run (m_ent _ 0) ?_
  refine y_aln dq_ix2_0 rfl ?_
  refine y_calt (As := []) W dq_ix2_1 rfl (j := 418) (by decide +kernel) rfl ⟨rfl, by decide, rfl⟩ rfl (Nat.le_of_ble_eq_true rfl) (Nat.zero_le 1) (Nat.le_of_ble_eq_true rfl) hB (jLatin_c (Q := fun z κ' => z = 1 ∧ κ' = κ) W hB ⟨rfl, rfl⟩) (fun v κ' w9 m9 p9 => ezI (fun z κ' w m p => ?_) w9 m9 p9) (fun cls κ' p9 => False.elim (show False from thrI (X := noX) p9))
  obtain ⟨rfl, rfl⟩ := p
  refine y_i ((1 : Int32) = 0) dq_ix2_4 (t := 23) rfl rfl (fun c => absurd c (by decide)) (fun _ => ?_)
  refine y_aln dq_ix2_7 rfl ?_
  refine y_tgv w dq_ix2_8 rfl rfl hB hx ?_
  refine y_iln dq_ix2_11 rfl ?_
  refine y_iln dq_ix2_12 rfl ?_
  refine y_aln dq_ix2_13 rfl ?_
  refine y_calt (As := []) w dq_ix2_14 rfl (j := 419) (by decide +kernel) rfl ⟨rfl, by decide, rfl⟩ rfl (Nat.le_of_ble_eq_true rfl) (Nat.le_refl 1) (Nat.le_of_ble_eq_true rfl) hB (jLen_c (Q := fun z κ2 => κ2 = κ') w hB rfl) (fun v κ2 w9 m9 p9 => ezI (fun z κ2 w2 m2 p2 => ?_) w9 m9 p9) (fun cls κ' p9 => False.elim (show False from thrI (X := noX) p9))
  subst p2
  refine y_cals (As := [.ref x.2.1, .int c, .int f, .int z]) (rest := []) w2 dq_ix2_17 rfl (j := 423) (by decide +kernel) (by decide +kernel) rfl rfl rfl (Nat.le_of_ble_eq_true rfl) (Nat.le_refl 1) (Nat.le_of_ble_eq_true rfl) (jIx1_c (Q := fun z κ3 => κ3 = κ2) w2 hx (fun _ => rfl)) (fun v κ3 w9 m9 p9 => ezI (fun z κ3 w3 m3 p3 => ?_) w9 m9 p9) (fun cls κ' p9 => show False from thrI (X := noX) p9)
  subst p3
  refine y_goto dq_ix2_20 (t := 36) rfl ?_
  exact y_ri w3 dq_ix2_36 rfl ⟨rfl, rfl⟩ (h _)
theorem St_indexOf_c {C : zC} {n0 : Nat} {a0 : Nat} {a1 : Int32} {κ : zS} {Q : Int32 → zS → Prop} (W : zW C n0 κ) (Ta0 : isTx C a0) (h : ∀ (v : Int32), (True) → Q v κ) : zRun C 9 mSt_indexOf [.ref a0, .int a1] κ (oI Q noX) := by
  refine zRun.up (d := 3) (by decide) ?_
  replace W := W.lo (Nat.le_trans W.1.2.1 W.1.2.2) (Nat.le_refl (zn κ))
  refine z_run (m_ent _ 0) ?_
  refine y_aln dq_ix3_0 rfl ?_
  refine y_iln dq_ix3_1 rfl ?_
  refine y_ic dq_ix3_2 zi_0 ?_
  refine y_calt (As := [.int a1, .int 0]) W dq_ix3_3 rfl (j := 417) (by decide +kernel) rfl ⟨rfl, by decide, rfl⟩ rfl (Nat.le_of_ble_eq_true rfl) (Nat.le_refl 2) (Nat.le_of_ble_eq_true rfl) Ta0 (jIx2_c (Q := fun z κ' => κ' = κ) W Ta0 (fun _ => rfl)) (fun v κ' w9 m9 p9 => ezI (fun z κ' w m p => ?_) w9 m9 p9) (fun cls κ' p9 => False.elim (show False from thrI (X := noX) p9))
  subst p
  exact y_ri w dq_ix3_6 rfl ⟨rfl, rfl⟩ (h _ trivial)

end
section
set_option maxHeartbeats 1600000
/-! the class: Tape's reads, wordOf, kindOf, split, isMain -/
theorem Ta_reads_c {C : zC} {n0 : Nat} {a0 : Nat} {a1 : Int32} {a2 : Int32} {a3 : Nat} {a4 : Int32} {κ : zS} {Q : Int32 → zS → Prop} (W : zW C n0 κ) (Ta0 : zT κ a0 = 13) (Ta3 : isTx C a3)  (hp : taI κ a0 ∧ 0 ≤ a4.toInt ∧ a4.toInt ≤ 65536 ∧ a2.toInt ≤ 65536) (h : ∀ (v : Int32), (True) → Q v κ) : zRun C 10 mTa_reads [.ref a0, .int a1, .int a2, .ref a3, .int a4] κ (oI Q noX) := by
  refine Ta_reads_run W Ta0 Ta3 ?_
  replace W := W.lo (Nat.le_trans W.1.2.1 W.1.2.2) (Nat.le_refl (zn κ))
  unfold w_Ta_reads_0
  unfold w_Ta_reads_3
  refine ⟨fun n l0 l1 l2 l3 l4 l5 τ => n = (a2.toInt - l5.toInt).toNat ∧ (κ = τ ∧ a0 = l0 ∧ a1 = l1 ∧ a2 = l2 ∧ a3 = l3 ∧ a4 = l4 ∧ 0 ≤ l5.toInt), ⟨_, rfl, ?_⟩, ?_⟩
  · exact ⟨rfl, rfl, rfl, rfl, rfl, rfl, by decide⟩  -- j1
  rintro n3 _ _ _ _ _ x3_5 _ W3 T3_0 T3_1 ⟨hn3, rfl, rfl, rfl, rfl, rfl, rfl, i3⟩
  refine ⟨fun c1 => ?_, fun c1 => ?_⟩
  · skip
    refine h _ ?_
    · trivial  -- q2
  · skip
    intro T2
    refine St_length_c W3 T2  (fun r3 q5 => ?_)
    intro W6
    intro M7
    refine ⟨fun c8 => ?_, fun c8 => ?_⟩
    · skip
      refine h _ ?_
      · trivial  -- q3
    · skip
      intro T9
      refine Ta_byteAt_c W6 T9  ?_ (fun r10 q12 => ?_)
      · exact hp.1  -- p4
      intro W13
      intro M14
      intro T15
      refine St_charAt_c W13 T15  ?_ (fun r16 q18 => ?_)
      · rw [lei] at c1 c8
        have e : (a4 + x3_5).toInt = a4.toInt + x3_5.toInt := add_i (by omega) (by omega)
        rw [e]
        rw [q5, e] at c8
        omega
      intro W19
      intro M20
      refine ⟨fun c21 => ?_, fun c21 => ?_⟩
      · skip
        intro x22 hx22
        refine ⟨_, ?_, rfl, ?_⟩
        · rw [lei] at c1
          have e1 := inc_i (x := x3_5) (y := a2) i3 (by omega)
          rw [hn3, hx22, e1]; omega
        · rw [lei] at c1
          have e1 := inc_i (x := x3_5) (y := a2) i3 (by omega)
          exact ⟨rfl, rfl, rfl, rfl, rfl, rfl, by rw [hx22, e1]; omega⟩
      · skip
        refine h _ ?_
        · trivial  -- q8

theorem Ta_wordOf_c {C : zC} {n0 : Nat} {a0 : Nat} {a1 : Int32} {a2 : Int32} {κ : zS} {Q : Int32 → zS → Prop} (W : zW C n0 κ) (Ta0 : zT κ a0 = 13)  (hp : taI κ a0) (h : ∀ (v : Int32), (True) → Q v κ) : zRun C 11 mTa_wordOf [.ref a0, .int a1, .int a2] κ (oI Q noX) := by
  refine Ta_wordOf_run W Ta0 ?_
  replace W := W.lo (Nat.le_trans W.1.2.1 W.1.2.2) (Nat.le_refl (zn κ))
  unfold w_Ta_wordOf_0
  have tb := txL_b (W.1.1.2 0 (Or.inl rfl))
  unfold w_Ta_wordOf_10
  refine ⟨fun n l0 l1 l2 l3 l4 l5 τ => n = (txL C (C.1 0) - l5.toInt).toNat ∧ (κ = τ ∧ a0 = l0 ∧ a1 = l1 ∧ a2 = l2 ∧ (0 ≤ l5.toInt ∧ l5.toInt ≤ txL C (C.1 0)) ∧ (0 ≤ l4.toInt ∧ l4.toInt ≤ 65536)), ⟨_, rfl, ?_⟩, ?_⟩
  · exact ⟨rfl, rfl, rfl, rfl, ⟨by decide, by rw [t0i]; omega⟩, by decide, by decide⟩  -- j1
  rintro n10 _ _ _ x10_3 x10_4 x10_5 _ W10 T10_0 ⟨hn10, rfl, rfl, rfl, rfl, i10⟩
  have hj62 : ∀ (l0 : Nat) (l1 : Int32) (l2 : Int32) (l3 : Int32) (l5 : Int32) (τ : zS), zW C (zn κ) τ → zT τ l0 = 13 → (κ = τ ∧ a0 = l0 ∧ a1 = l1 ∧ a2 = l2 ∧ l5 = x10_5 ∧ l5.toInt < txL C (C.1 0)) → w_Ta_wordOf_62 C (zn κ) Q (fun (l0' : Nat) (l1' : Int32) (l2' : Int32) (l3' : Int32) (l4' : Int32) (l5' : Int32) (τ : zS) => ∃ k < n10, (fun (n : Nat) (l0 : Nat) (l1 : Int32) (l2 : Int32) (l3 : Int32) (l4 : Int32) (l5 : Int32) (τ : zS) => n = (txL C (C.1 0) - l5.toInt).toNat ∧ (κ = τ ∧ a0 = l0 ∧ a1 = l1 ∧ a2 = l2 ∧ (0 ≤ l5.toInt ∧ l5.toInt ≤ txL C (C.1 0)) ∧ (0 ≤ l4.toInt ∧ l4.toInt ≤ 65536))) k l0' l1' l2' l3' l4' l5' τ) l0 l1 l2 l3 l5 τ := by
    rintro _ _ _ y62_3 y62_5 _ W62 T62_0 ⟨rfl, rfl, rfl, rfl, j62⟩
    unfold w_Ta_wordOf_62
    intro x1 hx1
    intro x2 hx2
    intro x3 hx3
    refine ⟨_, ?_, rfl, ?_⟩
    · obtain ⟨e, l⟩ := j62
      have l0 := i10.1.1
      have e1 : (y62_5 + 1).toInt = y62_5.toInt + 1 := by rw [add_i (by rw [t1i, e]; omega) (by rw [t1i]; omega), t1i]
      rw [hn10, hx3, e1, e]; rw [e] at l; omega
    · obtain ⟨e, l⟩ := j62
      have l0 := i10.1.1
      have e1 : (y62_5 + 1).toInt = y62_5.toInt + 1 := by rw [add_i (by rw [t1i, e]; omega) (by rw [t1i]; omega), t1i]
      exact ⟨rfl, rfl, rfl, rfl, ⟨by rw [hx3, e1, e]; omega, by rw [hx3, e1]; omega⟩, by rw [hx2, e1, e]; omega, by rw [hx2, e1]; omega⟩
  intro T4
  refine St_length_c W10 T4  (fun r5 q7 => ?_)
  intro W8
  intro M9
  refine ⟨fun c10 => ?_, fun c10 => ?_⟩
  · skip
    refine h _ ?_
    · trivial  -- q4
  · skip
    rw [lei, q7] at c10
    have l0 := i10.1
    have e1 : (x10_5 + 1).toInt = x10_5.toInt + 1 := by rw [add_i (by rw [t1i]; omega) (by rw [t1i]; omega), t1i]
    refine ⟨fun c11 => ?_, fun c11 => ?_⟩
    · skip
      refine h _ ?_
      · trivial  -- q5
    · skip
      intro T12
      refine St_charAt_c W8 T12  ?_ (fun r13 q15 => ?_)
      · exact ⟨l0.1, by omega⟩  -- p6
      intro W16
      intro M17
      refine ⟨fun c18 => ?_, fun c18 => ?_⟩
      · skip
        intro x19 hx19
        refine ⟨_, ?_, rfl, ?_⟩
        · rw [hn10, hx19, e1]; omega  -- d7
        · exact ⟨rfl, rfl, rfl, rfl, ⟨by rw [hx19, e1]; omega, by rw [hx19, e1]; omega⟩, i10.2⟩  -- i8
      · skip
        refine ⟨fun c20 => ?_, fun c20 => ?_⟩
        · skip
          refine hj62 _ _ _ _ _ _ W16 ?_ ?_
          · exact T10_0  -- t9
          · exact ⟨rfl, rfl, rfl, rfl, rfl, by omega⟩  -- k10
        · skip
          intro T21
          intro T22
          refine Ta_reads_c W16 T21 T22  ?_ (fun r23 q25 => ?_)
          · have e8 : (8 : Int32).toInt = 8 := rfl
            rw [lei, e8] at c11
            exact ⟨hp, i10.2.1, i10.2.2, by omega⟩
          intro W26
          intro M27
          refine ⟨fun c28 => ?_, fun c28 => ?_⟩
          · skip
            refine hj62 _ _ _ _ _ _ W26 ?_ ?_
            · exact T10_0  -- t12
            · exact ⟨rfl, rfl, rfl, rfl, rfl, by omega⟩  -- k13
          · skip
            refine h _ ?_
            · trivial  -- q14

theorem Ta_kindOf_c {C : zC} {n0 : Nat} {a0 : Nat} {a1 : Int32} {a2 : Int32} {κ : zS} {Q : Int32 → zS → Prop} (W : zW C n0 κ) (Ta0 : zT κ a0 = 13)  (hp : taI κ a0) (h : ∀ (v : Int32), (True) → Q v κ) : zRun C 12 mTa_kindOf [.ref a0, .int a1, .int a2] κ (oI Q noX) := by
  refine Ta_kindOf_run W Ta0 ?_
  replace W := W.lo (Nat.le_trans W.1.2.1 W.1.2.2) (Nat.le_refl (zn κ))
  unfold w_Ta_kindOf_0
  intro T1
  refine Ta_byteAt_c W T1  ?_ (fun r2 q4 => ?_)
  · exact hp  -- p1
  intro W5
  intro M6
  refine Ta_isLetter_c W5   (fun r7 q9 => ?_)
  intro W10
  intro M11
  refine ⟨fun c12 => ?_, fun c12 => ?_⟩
  · skip
    refine Ta_isDigit_c W10   (fun r13 q15 => ?_)
    intro W16
    intro M17
    refine ⟨fun c18 => ?_, fun c18 => ?_⟩
    · skip
      refine ⟨fun c19 => ?_, fun c19 => ?_⟩
      · skip
        intro T20
        refine St_indexOf_c W16 T20  (fun r21 q23 => ?_)
        intro W24
        intro M25
        refine ⟨fun c26 => ?_, fun c26 => ?_⟩
        · skip
          refine h _ ?_
          · trivial  -- q2
        · skip
          refine h _ ?_
          · trivial  -- q3
      · skip
        refine ⟨fun c27 => ?_, fun c27 => ?_⟩
        · skip
          refine ⟨fun c28 => ?_, fun c28 => ?_⟩
          · skip
            refine ⟨fun c29 => ?_, fun c29 => ?_⟩
            · skip
              refine h _ ?_
              · trivial  -- q4
            · skip
              refine h _ ?_
              · trivial  -- q5
          · skip
            refine h _ ?_
            · trivial  -- q6
        · skip
          refine h _ ?_
          · trivial  -- q7
    · skip
      refine ⟨fun c30 => ?_, fun c30 => ?_⟩
      · skip
        refine h _ ?_
        · trivial  -- q8
      · skip
        refine h _ ?_
        · trivial  -- q9
  · skip
    refine ⟨fun c31 => ?_, fun c31 => ?_⟩
    · skip
      intro T32
      refine Ta_wordOf_c W10 T32  ?_ (fun r33 q35 => ?_)
      · exact hp  -- p10
      intro W36
      intro M37
      refine h _ ?_
      · trivial  -- q11
    · skip
      refine h _ ?_
      · trivial  -- q12

theorem Ta_isMain_c {C : zC} {n0 : Nat} {a0 : Nat} {a1 : Int32} {κ : zS} {Q : Int32 → zS → Prop} (W : zW C n0 κ) (Ta0 : zT κ a0 = 13)  (hp : taI κ a0 ∧ tokI κ a0) (h : ∀ (v : Int32), (True) → Q v κ) : zRun C 11 mTa_isMain [.ref a0, .int a1] κ (oI Q noX) := by
  refine Ta_isMain_run W Ta0 ?_
  replace W := W.lo (Nat.le_trans W.1.2.1 W.1.2.2) (Nat.le_refl (zn κ))
  unfold w_Ta_isMain_0
  refine ⟨fun c1 => ?_, fun c1 => ?_⟩
  · skip
    refine h _ ?_
    · trivial  -- q1
  · skip
    refine ⟨fun c2 => ?_, fun c2 => ?_⟩
    · skip
      refine h _ ?_
      · trivial  -- q2
    · skip
      refine ⟨?_, ?_⟩
      · have B := hp.1.2
        rw [lti, t0i] at c1
        rw [lei] at c2
        rw [inb_iff]; omega
      refine ⟨fun c3 => ?_, fun c3 => ?_⟩
      · skip
        refine h _ ?_
        · trivial  -- q4
      · skip
        refine ⟨?_, ?_⟩
        · have B := hp.1.2
          rw [lti, t0i] at c1
          rw [lei] at c2
          rw [inb_iff]; omega
        intro T4
        intro T5
        refine Ta_reads_c W T4 T5  ?_ (fun r6 q8 => ?_)
        · exact ⟨hp.1, by decide, by decide, by decide⟩  -- p6
        intro W9
        intro M10
        refine ⟨fun c11 => ?_, fun c11 => ?_⟩
        · skip
          refine h _ ?_
          · trivial  -- q7
        · skip
          refine h _ ?_
          · trivial  -- q8

/-- behind one more token -/
theorem sp_t {κ κ9 κ4 : zS} {a0 : Nat} {x : Int32} (F : zF (objF a0) κ κ9) (tt : (zI κ9 taTotal a0).toInt = x.toInt) (l0 : 0 ≤ x.toInt) (l1 : x.toInt ≤ 10241) (rB : zR κ9 taBytes a0 = zR κ taBytes a0) (iL : zI κ9 taLength a0 = zI κ taLength a0) (q : zF (objF a0) κ9 κ4 ∧ taI κ4 a0 ∧ tokI κ4 a0 ∧ zI κ4 taTotal a0 = zI κ9 taTotal a0 + 1 ∧ (∀ f, f ≠ taTotal → zI κ4 f a0 = zI κ9 f a0) ∧ zR κ4 taBytes a0 = zR κ9 taBytes a0) : zF (objF a0) κ κ4 ∧ taI κ4 a0 ∧ tokI κ4 a0 ∧ (zI κ4 taTotal a0).toInt = x.toInt + 1 ∧ zR κ4 taBytes a0 = zR κ taBytes a0 ∧ zI κ4 taLength a0 = zI κ taLength a0 := by
  obtain ⟨Z, I2, J2, t2, f2, b2⟩ := q
  refine ⟨F.tr Z, I2, J2, ?_, b2.trans rB, (f2 taLength (by decide)).trans iL⟩
  rw [t2, add_i (by rw [t1i]; omega) (by rw [t1i]; omega), t1i, tt]
theorem Ta_split_c {C : zC} {n0 : Nat} {a0 : Nat} {κ : zS} {Q : zS → Prop} (W : zW C n0 κ) (Ta0 : zT κ a0 = 13)  (hp : taI κ a0 ∧ tokI κ a0 ∧ (zI κ taLength a0).toInt ≤ 10240) (h : ∀ (κ' : zS), (zF (objF a0) κ κ' ∧ taI κ' a0 ∧ tokI κ' a0 ∧ (zI κ' taTotal a0).toInt ≤ 10242 ∧ zR κ' taBytes a0 = zR κ taBytes a0 ∧ zI κ' taLength a0 = zI κ taLength a0) → Q κ') : zRun C 13 mTa_split [.ref a0] κ (oV Q noX) := by
  refine Ta_split_run W Ta0 ?_
  replace W := W.lo (Nat.le_trans W.1.2.1 W.1.2.2) (Nat.le_refl (zn κ))
  unfold w_Ta_split_0
  obtain ⟨H, K, p0⟩ := hp
  have B := H.1
  intro κ_1 hκ_1
  intro W2
  unfold w_Ta_split_9
  refine ⟨fun n l0 l1 l2 τ => n = ((zI κ taLength a0).toInt + 1 - l2.toInt).toNat ∧ (a0 = l0 ∧ zF (objF a0) κ τ ∧ taI τ a0 ∧ tokI τ a0 ∧ (zI τ taTotal a0).toInt = l2.toInt ∧ 0 ≤ l2.toInt ∧ zR τ taBytes a0 = zR κ taBytes a0 ∧ zI τ taLength a0 = zI κ taLength a0 ∧ (0 ≤ l1.toInt ∧ l1.toInt ≤ (zI κ taLength a0).toInt) ∧ l2.toInt ≤ (zI κ taLength a0).toInt + 1), ⟨_, rfl, ?_⟩, ?_⟩
  · have F1 : zF (objF a0) κ κ_1 := by rw [hκ_1]; exact zF_ui rfl
    have t1 : zI κ_1 taTotal a0 = 0 := by rw [hκ_1]; exact if_pos ⟨rfl, rfl⟩
    have l1 : zI κ_1 taLength a0 = zI κ taLength a0 := by rw [hκ_1]; rfl
    have r1 : zR κ_1 = zR κ := by rw [hκ_1]; rfl
    have n1 : zN κ_1 = zN κ := by rw [hκ_1]; rfl
    have a1 : zA κ_1 = zA κ := by rw [hκ_1]; rfl
    refine ⟨rfl, F1, ?_, ?_, by rw [t1], by decide, by rw [r1], l1, ⟨by decide, by rw [t0i]; omega⟩, by rw [t0i]; omega⟩
    · unfold taI
      rw [r1, n1, l1, t1]
      exact ⟨H.1, by decide, by rw [t0i]; omega, H.2.2.2⟩
    · unfold tokI
      rw [r1, n1, a1]
      exact K
  rintro n9 _ x9_1 x9_2 κ9 W9 T9_0 ⟨hn9, rfl, i9⟩
  have hj61 : ∀ (l0 : Nat) (l1 : Int32) (l2 : Int32) (l3 : Int32) (s0 : Int32) (τ : zS), zW C (zn κ) τ → zT τ l0 = 13 → (a0 = l0 ∧ τ = κ9 ∧ l2 = x9_2 ∧ 0 ≤ l1.toInt ∧ 0 ≤ l3.toInt ∧ l1.toInt + l3.toInt ≤ (zI κ taLength a0).toInt ∧ x9_2.toInt ≤ (zI κ taLength a0).toInt) → w_Ta_split_61 C (zn κ) Q (fun (l0' : Nat) (l1' : Int32) (l2' : Int32) (τ : zS) => ∃ k < n9, (fun (n : Nat) (l0 : Nat) (l1 : Int32) (l2 : Int32) (τ : zS) => n = ((zI κ taLength a0).toInt + 1 - l2.toInt).toNat ∧ (a0 = l0 ∧ zF (objF a0) κ τ ∧ taI τ a0 ∧ tokI τ a0 ∧ (zI τ taTotal a0).toInt = l2.toInt ∧ 0 ≤ l2.toInt ∧ zR τ taBytes a0 = zR κ taBytes a0 ∧ zI τ taLength a0 = zI κ taLength a0 ∧ (0 ≤ l1.toInt ∧ l1.toInt ≤ (zI κ taLength a0).toInt) ∧ l2.toInt ≤ (zI κ taLength a0).toInt + 1)) k l0' l1' l2' τ) l0 l1 l2 l3 s0 τ := by
    rintro _ y61_1 y61_2 y61_3 y61_s0 τ61 W61 T61_0 ⟨rfl, j61⟩
    unfold w_Ta_split_61
    intro T3
    refine Ta_addToken_c W61 T3  ?_ (fun κ_4 q5 => ?_)
    · obtain ⟨F, I, J, tt, l0, rB, iL, p1, p2⟩ := i9
      obtain ⟨et, e2, y0, y1, y2, y3⟩ := j61
      have B9 := I.1
      rw [iL] at B9
      rw [et]
      exact ⟨I, J, by rw [tt]; omega, y0, y1, by omega⟩
    intro W6
    intro M7
    refine ⟨fun c8 => ?_, fun c8 => ?_⟩
    · skip
      refine h _ ?_
      · obtain ⟨F, I, J, tt, l0, rB, iL, p1, p2⟩ := i9
        obtain ⟨et, e2, y0, y1, y2, y3⟩ := j61
        rw [et] at q5
        obtain ⟨g1, g2, g3, g4, g5, g6⟩ := sp_t F tt l0 (by omega) rB iL q5
        exact ⟨g1, g2, g3, by omega, g5, g6⟩
    · skip
      refine ⟨fun c9 => ?_, fun c9 => ?_⟩
      · skip
        intro x10 hx10
        intro x11 hx11
        refine ⟨_, ?_, rfl, ?_⟩
        · obtain ⟨F, I, J, tt, l0, rB, iL, p1, p2⟩ := i9
          obtain ⟨et, e2, y0, y1, y2, y3⟩ := j61
          have e1 : (x9_2 + 1).toInt = x9_2.toInt + 1 := by rw [add_i (by rw [t1i]; omega) (by rw [t1i]; omega), t1i]
          rw [hn9, hx11, e2, e1]; omega
        · obtain ⟨F, I, J, tt, l0, rB, iL, p1, p2⟩ := i9
          obtain ⟨et, e2, y0, y1, y2, y3⟩ := j61
          have e1 : (x9_2 + 1).toInt = x9_2.toInt + 1 := by rw [add_i (by rw [t1i]; omega) (by rw [t1i]; omega), t1i]
          have e3 : (y61_1 + y61_3).toInt = y61_1.toInt + y61_3.toInt := add_i (by omega) (by omega)
          rw [et] at q5
          obtain ⟨g1, g2, g3, g4, g5, g6⟩ := sp_t F tt l0 (by omega) rB iL q5
          exact ⟨rfl, g1, g2, g3, by rw [hx11, e2, e1]; exact g4, by rw [hx11, e2, e1]; omega, g5, g6, ⟨by rw [hx10, e3]; omega, by rw [hx10, e3]; omega⟩, by rw [hx11, e2, e1]; omega⟩
      · skip
        refine h _ ?_
        · obtain ⟨F, I, J, tt, l0, rB, iL, p1, p2⟩ := i9
          obtain ⟨et, e2, y0, y1, y2, y3⟩ := j61
          rw [et] at q5
          obtain ⟨g1, g2, g3, g4, g5, g6⟩ := sp_t F tt l0 (by omega) rB iL q5
          exact ⟨g1, g2, g3, by omega, g5, g6⟩
  have hj40 : ∀ (l0 : Nat) (l1 : Int32) (l2 : Int32) (s0 : Int32) (τ : zS), zW C (zn κ) τ → zT τ l0 = 13 → (a0 = l0 ∧ τ = κ9 ∧ l2 = x9_2 ∧ 0 ≤ l1.toInt ∧ l1.toInt ≤ (zI κ taLength a0).toInt ∧ 0 ≤ s0.toInt ∧ l1.toInt + s0.toInt ≤ (zI κ taLength a0).toInt ∧ x9_2.toInt ≤ (zI κ taLength a0).toInt) → w_Ta_split_40 C (zn κ) Q (fun (l0' : Nat) (l1' : Int32) (l2' : Int32) (τ : zS) => ∃ k < n9, (fun (n : Nat) (l0 : Nat) (l1 : Int32) (l2 : Int32) (τ : zS) => n = ((zI κ taLength a0).toInt + 1 - l2.toInt).toNat ∧ (a0 = l0 ∧ zF (objF a0) κ τ ∧ taI τ a0 ∧ tokI τ a0 ∧ (zI τ taTotal a0).toInt = l2.toInt ∧ 0 ≤ l2.toInt ∧ zR τ taBytes a0 = zR κ taBytes a0 ∧ zI τ taLength a0 = zI κ taLength a0 ∧ (0 ≤ l1.toInt ∧ l1.toInt ≤ (zI κ taLength a0).toInt) ∧ l2.toInt ≤ (zI κ taLength a0).toInt + 1)) k l0' l1' l2' τ) l0 l1 l2 s0 τ := by
    rintro _ y40_1 y40_2 y40_s0 τ40 W40 T40_0 ⟨rfl, j40⟩
    unfold w_Ta_split_40
    refine ⟨fun c12 => ?_, fun c12 => ?_⟩
    · skip
      refine hj61 _ _ _ _ _ _ W40 ?_ ?_
      · exact T40_0  -- t7
      · obtain ⟨et, e2, y0, y1, y2, y3, y4⟩ := j40
        exact ⟨rfl, et, e2, y0, y2, y3, y4⟩
    · skip
      intro T13
      refine Ta_kindOf_c W40 T13  ?_ (fun r14 q16 => ?_)
      · rw [j40.1]; exact i9.2.1  -- p9
      intro W17
      intro M18
      refine hj61 _ _ _ _ _ _ W17 ?_ ?_
      · exact T40_0  -- t10
      · obtain ⟨et, e2, y0, y1, y2, y3, y4⟩ := j40
        exact ⟨rfl, et, e2, y0, y2, y3, y4⟩
  refine ⟨fun c19 => ?_, fun c19 => ?_⟩
  · skip
    refine h _ ?_
    · obtain ⟨F, I, J, tt, l0, rB, iL, p1, p2⟩ := i9
      exact ⟨F, I, J, by omega, rB, iL⟩
  · skip
    intro T20
    refine Ta_skipBlanks_c W9 T20  ?_ (fun r21 q23 => ?_)
    · obtain ⟨F, I, J, tt, l0, rB, iL, p1, p2⟩ := i9
      exact ⟨I, p1.1, by rw [iL]; exact p1.2⟩
    intro W24
    intro M25
    refine ⟨fun c26 => ?_, fun c26 => ?_⟩
    · skip
      refine hj40 _ _ _ _ _ W24 ?_ ?_
      · exact T9_0  -- t14
      · obtain ⟨F, I, J, tt, l0, rB, iL, p1, p2⟩ := i9
        rw [lti, iL] at c19
        rw [iL] at q23
        exact ⟨rfl, rfl, rfl, by omega, by omega, by decide, by rw [t0i]; omega, by omega⟩
    · skip
      intro T27
      refine Ta_sizeAt_c W24 T27  ?_ (fun r28 q30 => ?_)
      · obtain ⟨F, I, J, tt, l0, rB, iL, p1, p2⟩ := i9
        rw [lei] at c26
        exact ⟨I, by omega, by omega⟩
      intro W31
      intro M32
      refine hj40 _ _ _ _ _ W31 ?_ ?_
      · exact T9_0  -- t17
      · obtain ⟨F, I, J, tt, l0, rB, iL, p1, p2⟩ := i9
        rw [lti, iL] at c19
        rw [iL] at q23 q30
        exact ⟨rfl, rfl, rfl, by omega, by omega, by omega, by omega, by omega⟩

end
