set_option maxHeartbeats 1600000
/-! the class: Machine's spreadOut -/
theorem maL_f {κ τ : zS} {m : Nat} (h : mF κ τ m) (H : maL κ m) : maL τ m := by
  unfold maL
  rw [h.2.1, h.2.2.1]
  exact H
theorem uVa {C : zC} {n0 m i : Nat} {κ τ : zS} {x : Int32} (W : zW C n0 κ) (T : zT κ m = 7) (e : τ = ua κ (zR κ maValues m) i x) : mF κ τ m ∧ mS κ τ m ∧ zI τ = zI κ ∧ zT τ m = 7 := by
  obtain ⟨f1, f2, f3⟩ := mF_ua W T (show zr maValues = some 20 by decide +kernel) (by decide) e
  exact ⟨f1, f2, f3, f1.1.t T (by decide)⟩
theorem uWt {C : zC} {n0 m i : Nat} {κ τ : zS} {x : Int32} (W : zW C n0 κ) (T : zT κ m = 7) (e : τ = ua κ (zR κ maWeights m) i x) : mF κ τ m ∧ mS0 κ τ m ∧ zI τ = zI κ ∧ zT τ m = 7 := by
  obtain ⟨f1, f2, f3⟩ := mF_ub W T (show zr maWeights = some 20 by decide +kernel) (by decide) e
  exact ⟨f1, f2, f3, f1.1.t T (by decide)⟩
/-- a draw's weights so far -/
def spW (κ : zS) (m : Nat) (g x : Int32) : Prop := g ≠ 0 → (∀ n : Nat, (n : Int) < x.toInt → 0 ≤ (zA κ (zR κ maWeights m) n).toInt ∧ (zA κ (zR κ maWeights m) n).toInt ≤ 1000000) ∧ (zI κ maTotal m).toInt = sgI (fun n => (zA κ (zR κ maWeights m) n).toInt) x.toInt.toNat ∧ (x.toInt = 0 ∨ x.toInt ≤ (zI κ maWays m).toInt)
def spO (κ : zS) (m : Nat) : Prop := 8 < (zI κ maWays m).toInt → ∀ n : Nat, (n : Int) < (zI κ maWays m).toInt → (zA κ (zR κ maWeights m) n).toInt = 1
theorem spO_e {κ τ : zS} {m : Nat} (w : zI τ maWays m = zI κ maWays m) (a : zA τ (zR τ maWeights m) = zA κ (zR κ maWeights m)) (H : spO κ m) : spO τ m := by
  unfold spO
  rw [w, a]
  exact H
theorem spW_n {κ τ : zS} {m : Nat} {g g' x y : Int32} (H : spW κ m g x) (h0 : 0 ≤ x.toInt) (h1 : x.toInt < (zI κ maWays m).toInt) (h6 : (zI κ maWays m).toInt ≤ 64) (hg : g' ≠ 0 → g ≠ 0 ∧ 0 ≤ (zA κ (zR κ maWeights m) x.toNatClampNeg).toInt ∧ (zA κ (zR κ maWeights m) x.toNatClampNeg).toInt ≤ 1000000) (e : τ = ui κ maTotal m (zI κ maTotal m + zA κ (zR κ maWeights m) x.toNatClampNeg)) (hy : y.toInt = x.toInt + 1) : spW τ m g' y := fun z => by
  obtain ⟨z1, z2, z3⟩ := hg z
  obtain ⟨a, t, l⟩ := H z1
  have k := cnk h0
  have kn : x.toNatClampNeg = x.toInt.toNat := rfl
  have r : zA τ (zR τ maWeights m) = zA κ (zR κ maWeights m) := by rw [e]; rfl
  have w : zI τ maWays m = zI κ maWays m := by rw [e]; rfl
  have tt : zI τ maTotal m = zI κ maTotal m + zA κ (zR κ maWeights m) x.toNatClampNeg := by rw [e]; exact if_pos ⟨rfl, rfl⟩
  have sb := sgI_b (f := fun n => (zA κ (zR κ maWeights m) n).toInt) (B := 1000000) (n := x.toInt.toNat) (fun i hi => a i (by omega))
  rw [← t] at sb
  have ye : y.toInt.toNat = x.toInt.toNat + 1 := by omega
  rw [r, w, tt, ye, hy]
  refine ⟨fun n hn => ?_, ?_, by omega⟩
  · by_cases q : n = x.toNatClampNeg
    · rw [q]; exact ⟨z2, z3⟩
    · exact a n (by omega)
  · rw [add_i (by omega) (by omega), t]
    show _ = sgI _ x.toInt.toNat + _
    rw [kn]
theorem spW_q {κ τ : zS} {m : Nat} {g x : Int32} (H : spW κ m g x) (hg : g ≠ 0) (O : spO κ m) (h6 : (zI κ maWays m).toInt ≤ 64) (hx : (zI κ maWays m).toInt ≤ x.toInt) (h0 : 0 ≤ x.toInt) (ht : 0 < (zI κ maTotal m).toInt) (e : τ = ui κ maWants m 3) : mDw τ m := by
  obtain ⟨a, t, l⟩ := H hg
  have r : zA τ (zR τ maWeights m) = zA κ (zR κ maWeights m) := by rw [e]; rfl
  have w : zI τ maWays m = zI κ maWays m := by rw [e]; rfl
  have tt : zI τ maTotal m = zI κ maTotal m := by rw [e]; rfl
  have n9 : zI τ maWants m = 3 := by rw [e]; exact if_pos ⟨rfl, rfl⟩
  have xe : x.toInt = (zI κ maWays m).toInt := by
    rcases l with l | l
    · rw [l] at t
      have t9 : (zI κ maTotal m).toInt = 0 := t
      omega
    · omega
  refine Or.inr (Or.inl ⟨n9, ?_⟩)
  unfold drw
  rw [r, w, tt]
  have sb := sgI_b (f := fun n => (zA κ (zR κ maWeights m) n).toInt) (B := 1000000) (n := x.toInt.toNat) (fun i hi => a i (by omega))
  refine ⟨⟨by omega, h6⟩, fun n hn => a n (by omega), by rw [← xe]; exact t, ht, ?_⟩
  by_cases z : 8 < (zI κ maWays m).toInt
  · have s2 := sgI_b (f := fun n => (zA κ (zR κ maWeights m) n).toInt) (B := 1) (n := x.toInt.toNat) (fun i hi => by have := O z i (by omega); omega)
    omega
  · omega
theorem Ma_spreadOut_c {C : zC} {n0 : Nat} {a0 : Nat} {a1 : Int32} {a2 : Int32} {κ : zS} {Q : zS → Prop} (W : zW C n0 κ) (Ta0 : zT κ a0 = 7)  (hp : mkI κ a0 ∧ zI κ maWants a0 = -1) (h : ∀ (κ' : zS), (mF κ κ' a0 ∧ mS0 κ κ' a0 ∧ mDw κ' a0) → Q κ') : zRun C 1 mMa_spreadOut [.ref a0, .int a1, .int a2] κ (oV Q noX) := by
  refine Ma_spreadOut_run W Ta0 ?_
  replace W := W.lo (Nat.le_trans W.1.2.1 W.1.2.2) (Nat.le_refl (zn κ))
  unfold w_Ma_spreadOut_0
  have hj282 : ∀ (l0 : Nat) (τ : zS), zW C (zn κ) τ → zT τ l0 = 7 → (a0 = l0 ∧ mF κ τ a0 ∧ mS0 κ τ a0 ∧ zI τ maWants a0 = -1) → w_Ma_spreadOut_282 C (zn κ) Q  l0 τ := by
    rintro _ τ282 W282 T282_0 ⟨rfl, j282⟩
    unfold w_Ma_spreadOut_282
    intro T1
    refine Ma_fail_c W282 T1  (fun κ_2 q3 => ?_)
    intro W4
    intro M5
    refine h _ ?_
    · have f := mF_fail q3
      exact ⟨j282.1.tr f.1, j282.2.1.tr f.2.1, mDw_g f.2.2 (Or.inl j282.2.2)⟩
  have hj190 : ∀ (l0 : Nat) (τ : zS), zW C (zn κ) τ → zT τ l0 = 7 → (a0 = l0 ∧ mF κ τ a0 ∧ mS0 κ τ a0 ∧ (zI τ maWays a0).toInt ≤ 64 ∧ zI τ maWants a0 = -1 ∧ spO τ a0) → w_Ma_spreadOut_190 C (zn κ) Q  l0 τ := by
    rintro _ τ190 W190 T190_0 ⟨rfl, j190⟩
    unfold w_Ma_spreadOut_190
    intro κ_6 hκ_6
    intro W7
    unfold w_Ma_spreadOut_200
    refine ⟨fun n l0 l3 l4 τ => n = (64 - l4.toInt).toNat ∧ (a0 = l0 ∧ mF κ τ a0 ∧ mS0 κ τ a0 ∧ (zI τ maWays a0).toInt ≤ 64 ∧ 0 ≤ l4.toInt ∧ zI τ maWants a0 = -1 ∧ spO τ a0 ∧ spW τ a0 l3 l4), ⟨_, rfl, ?_⟩, ?_⟩
    · have w : zI κ_6 maWays a0 = zI τ190 maWays a0 := by rw [hκ_6]; rfl
      have w1 : zI κ_6 maWants a0 = zI τ190 maWants a0 := by rw [hκ_6]; rfl
      have t9 : zI κ_6 maTotal a0 = 0 := by rw [hκ_6]; exact if_pos ⟨rfl, rfl⟩
      exact ⟨rfl, j190.1.tr (mF_ui hκ_6 (by decide)), j190.2.1.tr (mS0_ui hκ_6 (by decide)), by rw [w]; exact j190.2.2.1, by decide, w1.trans j190.2.2.2.1, spO_e w (by rw [hκ_6]; rfl) j190.2.2.2.2, fun _ => ⟨fun n hn => by rw [t0i] at hn; omega, by rw [t9]; rfl, Or.inl rfl⟩⟩
    rintro n200 _ x200_3 x200_4 κ200 W200 T200_0 ⟨hn200, rfl, i200⟩
    have hj240 : ∀ (l0 : Nat) (l4 : Int32) (s0 : Int32) (τ : zS), zW C (zn κ) τ → zT τ l0 = 7 → (a0 = l0 ∧ τ = κ200 ∧ l4 = x200_4 ∧ l4.toInt < (zI κ200 maWays a0).toInt ∧ (s0 ≠ 0 → x200_3 ≠ 0 ∧ 0 ≤ (zA κ200 (zR κ200 maWeights a0) l4.toNatClampNeg).toInt ∧ (zA κ200 (zR κ200 maWeights a0) l4.toNatClampNeg).toInt ≤ 1000000)) → w_Ma_spreadOut_240 C (zn κ) Q (fun (l0' : Nat) (l3' : Int32) (l4' : Int32) (τ : zS) => ∃ k < n200, (fun (n : Nat) (l0 : Nat) (l3 : Int32) (l4 : Int32) (τ : zS) => n = (64 - l4.toInt).toNat ∧ (a0 = l0 ∧ mF κ τ a0 ∧ mS0 κ τ a0 ∧ (zI τ maWays a0).toInt ≤ 64 ∧ 0 ≤ l4.toInt ∧ zI τ maWants a0 = -1 ∧ spO τ a0 ∧ spW τ a0 l3 l4)) k l0' l3' l4' τ) l0 l4 s0 τ := by
      rintro _ y240_4 y240_s0 τ240 W240 T240_0 ⟨rfl, j240⟩
      unfold w_Ma_spreadOut_240
      refine ⟨?_, ?_⟩
      · obtain ⟨et, e, l1, g⟩ := j240
        have L := (maL_f i200.1 hp.1.1).2.2.2.2
        have l0 := i200.2.2.2.1
        have w := i200.2.2.1
        rw [et, inb_iff, e]
        rw [e] at l1
        omega
      intro κ_8 hκ_8
      intro W9
      intro x10 hx10
      refine ⟨_, ?_, rfl, ?_⟩
      · obtain ⟨et, e, l1, g⟩ := j240
        have l0 := i200.2.2.2.1
        have w := i200.2.2.1
        rw [e] at l1
        have e1 := inc_i l0 l1
        rw [hn200, hx10, e, e1]; omega
      · obtain ⟨et, e, l1, g⟩ := j240
        obtain ⟨F, S, w, l0, wn, O, P⟩ := i200
        rw [e] at l1 g hx10 hκ_8
        rw [et] at hκ_8
        have e1 := inc_i l0 l1
        have w' : zI κ_8 maWays a0 = zI κ200 maWays a0 := by rw [hκ_8]; rfl
        have w1 : zI κ_8 maWants a0 = zI κ200 maWants a0 := by rw [hκ_8]; rfl
        exact ⟨rfl, F.tr (mF_ui hκ_8 (by decide)), S.tr (mS0_ui hκ_8 (by decide)), by rw [w']; exact w, by rw [hx10, e1]; omega, w1.trans wn, spO_e w' (by rw [hκ_8]; rfl) O, spW_n P l0 l1 w g hκ_8 (by rw [hx10]; exact e1)⟩
    refine ⟨fun c11 => ?_, fun c11 => ?_⟩
    · skip
      refine ⟨fun c12 => ?_, fun c12 => ?_⟩
      · skip
        refine hj282 _ _ W200 ?_ ?_
        · exact T200_0  -- t6
        · exact ⟨rfl, i200.1, i200.2.1, i200.2.2.2.2.1⟩  -- k7
      · skip
        refine ⟨fun c13 => ?_, fun c13 => ?_⟩
        · skip
          refine hj282 _ _ W200 ?_ ?_
          · exact T200_0  -- t8
          · exact ⟨rfl, i200.1, i200.2.1, i200.2.2.2.2.1⟩  -- k9
        · skip
          intro κ_14 hκ_14
          intro W15
          refine h _ ?_
          · obtain ⟨F, S, w, l0, wn, O, P⟩ := i200
            rw [lei] at c11
            rw [lei, t0i] at c13
            exact ⟨F.tr (mF_ui hκ_14 (by decide)), S.tr (mS0_ui hκ_14 (by decide)), spW_q P c12 O w c11 l0 (by omega) hκ_14⟩
    · skip
      refine ⟨fun c16 => ?_, fun c16 => ?_⟩
      · skip
        refine hj240 _ _ _ _ W200 ?_ ?_
        · exact T200_0  -- t11
        · exact ⟨rfl, rfl, rfl, by rw [lei] at c11; omega, fun z => absurd rfl z⟩  -- k12
      · skip
        refine ⟨?_, ?_⟩
        · have L := (maL_f i200.1 hp.1.1).2.2.2.2
          have w := i200.2.2.1
          have l := i200.2.2.2.1
          rw [lei] at c11
          rw [inb_iff]; omega
        refine ⟨fun c17 => ?_, fun c17 => ?_⟩
        · skip
          refine hj240 _ _ _ _ W200 ?_ ?_
          · exact T200_0  -- t14
          · exact ⟨rfl, rfl, rfl, by rw [lei] at c11; omega, fun z => absurd rfl z⟩  -- k15
        · skip
          refine ⟨?_, ?_⟩
          · have L := (maL_f i200.1 hp.1.1).2.2.2.2
            have w := i200.2.2.1
            have l := i200.2.2.2.1
            rw [lei] at c11
            rw [inb_iff]; omega
          refine ⟨fun c18 => ?_, fun c18 => ?_⟩
          · skip
            refine hj240 _ _ _ _ W200 ?_ ?_
            · exact T200_0  -- t17
            · exact ⟨rfl, rfl, rfl, by rw [lei] at c11; omega, fun z => absurd rfl z⟩  -- k18
          · skip
            refine hj240 _ _ _ _ W200 ?_ ?_
            · exact T200_0  -- t19
            · refine ⟨rfl, rfl, rfl, by rw [lei] at c11; omega, fun _ => ⟨c16, ?_⟩⟩
              have e6 : (1000000 : Int32).toInt = 1000000 := rfl
              rw [lti, t0i] at c17
              rw [lti, e6] at c18
              omega
  have hj37 : ∀ (l0 : Nat) (s0 : Nat) (s1 : Int32) (τ : zS), zW C (zn κ) τ → zT τ l0 = 7 → zT τ s0 = 7 → (a0 = l0 ∧ τ = κ ∧ s0 = a0 ∧ s1.toInt ≤ 64) → w_Ma_spreadOut_37 C (zn κ) Q  l0 s0 s1 τ := by
    rintro _ y37_s0 y37_s1 τ37 W37 T37_0 T37_1 ⟨rfl, j37⟩
    unfold w_Ma_spreadOut_37
    intro κ_19 hκ_19
    intro W20
    unfold w_Ma_spreadOut_42
    refine ⟨fun n l0 l3 τ => n = (64 - l3.toInt).toNat ∧ (a0 = l0 ∧ mF κ τ a0 ∧ mS0 κ τ a0 ∧ (zI τ maWays a0).toInt ≤ 64 ∧ 0 ≤ l3.toInt ∧ zI τ maWants a0 = -1 ∧ ∀ n : Nat, (n : Int) < l3.toInt → (zA τ (zR τ maWeights a0) n).toInt = 1), ⟨_, rfl, ?_⟩, ?_⟩
    · obtain ⟨e1, e2, w⟩ := j37
      rw [e1, e2] at hκ_19
      have w9 : zI κ_19 maWays a0 = y37_s1 := by rw [hκ_19]; exact if_pos ⟨rfl, rfl⟩
      have w1 : zI κ_19 maWants a0 = zI κ maWants a0 := by rw [hκ_19]; rfl
      exact ⟨rfl, mF_uw hκ_19 w, mS0_ui hκ_19 (by decide), by rw [w9]; exact w, by decide, w1.trans hp.2, fun n hn => by rw [t0i] at hn; omega⟩
    rintro n42 _ x42_3 κ42 W42 T42_0 ⟨hn42, rfl, i42⟩
    refine ⟨fun c21 => ?_, fun c21 => ?_⟩
    · skip
      refine hj190 _ _ W42 ?_ ?_
      · exact T42_0  -- t22
      · rw [lei] at c21
        exact ⟨rfl, i42.1, i42.2.1, i42.2.2.1, i42.2.2.2.2.1, fun _ n hn => i42.2.2.2.2.2 n (by omega)⟩
    · skip
      obtain ⟨F, S, w, l0, wn, on⟩ := i42
      have d1 : x42_3.toInt < (zI κ42 maWays a0).toInt := by rw [lei] at c21; omega
      have e1 := inc_i l0 d1
      have L := maL_f F hp.1.1
      have LV := L.2.2.2.1
      have LW := L.2.2.2.2
      refine ⟨?_, ?_⟩
      · rw [inb_iff]; omega  -- b24
      intro κ_22 hκ_22
      intro W23
      refine ⟨?_, ?_⟩
      · have f := uVa W42 T42_0 hκ_22
        rw [f.1.2.1, f.1.2.2.1, inb_iff]; omega
      intro κ_24 hκ_24
      intro W25
      intro x26 hx26
      refine ⟨_, ?_, rfl, ?_⟩
      · rw [hn42, hx26, e1]; omega  -- d26
      · have f := uVa W42 T42_0 hκ_22
        have g := uWt W23 f.2.2.2 hκ_24
        refine ⟨rfl, (F.tr f.1).tr g.1, (S.tr f.2.1.1).tr g.2.1, by rw [g.2.2.1, f.2.2.1]; exact w, by rw [hx26, e1]; omega, by rw [g.2.2.1, f.2.2.1]; exact wn, ?_⟩
        rw [wRow W42 T42_0 hκ_22 hκ_24]
        exact upd_ones l0 (by rw [hx26, e1]) on
  refine ⟨fun c27 => ?_, fun c27 => ?_⟩
  · skip
    refine ⟨fun c28 => ?_, fun c28 => ?_⟩
    · skip
      intro T29
      refine Co_column_c W T29  ?_ (fun r30 q32 => ?_)
      · exact ⟨hp.1.2, by decide, by decide⟩  -- p28
      intro W33
      intro M34
      refine ⟨?_, ?_⟩
      · decide  -- b29
      intro κ_35 hκ_35
      intro W36
      unfold w_Ma_spreadOut_146
      refine ⟨fun n l0 l3 τ => n = (8 - l3.toInt).toNat ∧ (a0 = l0 ∧ mF κ τ a0 ∧ mS0 κ τ a0 ∧ (zI τ maWays a0).toInt ≤ 8 ∧ 0 ≤ l3.toInt ∧ zI τ maWants a0 = -1), ⟨_, rfl, ?_⟩, ?_⟩
      · have e8 : (8 : Int32).toInt = 8 := rfl
        have w9 : zI κ_35 maWays a0 = (if (8 : Int32) < r30 / 2 then (8 : Int32) else r30 / 2) := by rw [hκ_35]; exact if_pos ⟨rfl, rfl⟩
        have b : (if (8 : Int32) < r30 / 2 then (8 : Int32) else r30 / 2).toInt ≤ 8 := by
          split
          · decide
          · rename_i z
            rw [lti, e8] at z
            omega
        have w1 : zI κ_35 maWants a0 = zI κ maWants a0 := by rw [hκ_35]; rfl
        exact ⟨rfl, mF_uw hκ_35 (by omega), mS0_ui hκ_35 (by decide), by rw [w9]; exact b, by decide, w1.trans hp.2⟩
      rintro n146 _ x146_3 κ146 W146 T146_0 ⟨hn146, rfl, i146⟩
      refine ⟨fun c37 => ?_, fun c37 => ?_⟩
      · skip
        refine hj190 _ _ W146 ?_ ?_
        · exact T146_0  -- t31
        · have w8 := i146.2.2.1
          exact ⟨rfl, i146.1, i146.2.1, by omega, i146.2.2.2.2, fun z => absurd z (by omega)⟩
      · skip
        obtain ⟨F, S, w, l0, wn⟩ := i146
        have d1 : x146_3.toInt < (zI κ146 maWays a0).toInt := by rw [lei] at c37; omega
        have e1 := inc_i l0 d1
        have L := maL_f F hp.1.1
        have LK := L.2.2.1
        have LV := L.2.2.2.1
        have LW := L.2.2.2.2
        have m2 : ((2 : Int32) * x146_3).toInt = 2 * x146_3.toInt := by rw [mul_i (by rw [t2i]; omega) (by rw [t2i]; omega), t2i]
        have m3 : ((2 : Int32) * x146_3 + 1).toInt = 2 * x146_3.toInt + 1 := by rw [add_i (by rw [m2, t1i]; omega) (by rw [m2, t1i]; omega), m2, t1i]
        refine ⟨?_, ?_⟩
        · rw [inb_iff, m2]; omega  -- b33
        refine ⟨?_, ?_⟩
        · rw [inb_iff]; omega  -- b34
        intro κ_38 hκ_38
        intro W39
        refine ⟨?_, ?_⟩
        · have f := uVa W146 T146_0 hκ_38
          rw [f.1.2.1, f.1.2.2.1, inb_iff, m3]; omega
        refine ⟨?_, ?_⟩
        · have f := uVa W146 T146_0 hκ_38
          rw [f.1.2.1, f.1.2.2.1, inb_iff]; omega
        intro κ_40 hκ_40
        intro W41
        intro x42 hx42
        refine ⟨_, ?_, rfl, ?_⟩
        · rw [hn146, hx42, e1]; omega  -- d37
        · have f := uVa W146 T146_0 hκ_38
          have g := uWt W39 f.2.2.2 hκ_40
          exact ⟨rfl, (F.tr f.1).tr g.1, (S.tr f.2.1.1).tr g.2.1, by rw [g.2.2.1, f.2.2.1]; exact w, by rw [hx42, e1]; omega, by rw [g.2.2.1, f.2.2.1]; exact wn⟩
    · skip
      intro κ_43 hκ_43
      intro W44
      refine ⟨?_, ?_⟩
      · have F3 := mF_uw hκ_43 (by decide)
        have T3 : zT κ_43 a0 = 7 := F3.1.t Ta0 (by decide)
        have L := (maL_f F3 hp.1.1).2.2.2.1
        rw [inb_iff, t0i]; omega
      intro κ_45 hκ_45
      intro W46
      refine ⟨?_, ?_⟩
      · have F3 := mF_uw hκ_43 (by decide)
        have T3 : zT κ_43 a0 = 7 := F3.1.t Ta0 (by decide)
        have f1 := uVa W44 T3 hκ_45
        have L := (maL_f (F3.tr f1.1) hp.1.1).2.2.1
        rw [inb_iff, t0i]; omega
      refine ⟨?_, ?_⟩
      · have F3 := mF_uw hκ_43 (by decide)
        have T3 : zT κ_43 a0 = 7 := F3.1.t Ta0 (by decide)
        have f1 := uVa W44 T3 hκ_45
        have L := (maL_f (F3.tr f1.1) hp.1.1).2.2.2.2
        rw [inb_iff, t0i]; omega
      intro κ_47 hκ_47
      intro W48
      refine ⟨?_, ?_⟩
      · have F3 := mF_uw hκ_43 (by decide)
        have T3 : zT κ_43 a0 = 7 := F3.1.t Ta0 (by decide)
        have f1 := uVa W44 T3 hκ_45
        have f2 := uWt W46 f1.2.2.2 hκ_47
        have L := (maL_f ((F3.tr f1.1).tr f2.1) hp.1.1).2.2.2.1
        rw [inb_iff, t1i]; omega
      intro κ_49 hκ_49
      intro W50
      refine ⟨?_, ?_⟩
      · have F3 := mF_uw hκ_43 (by decide)
        have T3 : zT κ_43 a0 = 7 := F3.1.t Ta0 (by decide)
        have f1 := uVa W44 T3 hκ_45
        have f2 := uWt W46 f1.2.2.2 hκ_47
        have f3 := uVa W48 f2.2.2.2 hκ_49
        have L := (maL_f (((F3.tr f1.1).tr f2.1).tr f3.1) hp.1.1).2.2.1
        rw [inb_iff, t1i]; omega
      refine ⟨?_, ?_⟩
      · have F3 := mF_uw hκ_43 (by decide)
        have T3 : zT κ_43 a0 = 7 := F3.1.t Ta0 (by decide)
        have f1 := uVa W44 T3 hκ_45
        have f2 := uWt W46 f1.2.2.2 hκ_47
        have f3 := uVa W48 f2.2.2.2 hκ_49
        have L := (maL_f (((F3.tr f1.1).tr f2.1).tr f3.1) hp.1.1).2.2.2.2
        rw [inb_iff, t1i]; omega
      intro κ_51 hκ_51
      intro W52
      refine hj190 _ _ W52 ?_ ?_
      · have F3 := mF_uw hκ_43 (by decide)
        have T3 : zT κ_43 a0 = 7 := F3.1.t Ta0 (by decide)
        have f1 := uVa W44 T3 hκ_45
        have f2 := uWt W46 f1.2.2.2 hκ_47
        have f3 := uVa W48 f2.2.2.2 hκ_49
        have f4 := uWt W50 f3.2.2.2 hκ_51
        exact f4.2.2.2
      · have F3 := mF_uw hκ_43 (by decide)
        have T3 : zT κ_43 a0 = 7 := F3.1.t Ta0 (by decide)
        have f1 := uVa W44 T3 hκ_45
        have f2 := uWt W46 f1.2.2.2 hκ_47
        have f3 := uVa W48 f2.2.2.2 hκ_49
        have f4 := uWt W50 f3.2.2.2 hκ_51
        have w : zI κ_43 maWays a0 = 2 := by rw [hκ_43]; exact if_pos ⟨rfl, rfl⟩
        have w1 : zI κ_43 maWants a0 = zI κ maWants a0 := by rw [hκ_43]; rfl
        have w2 : zI κ_51 maWays a0 = 2 := by rw [f4.2.2.1, f3.2.2.1, f2.2.2.1, f1.2.2.1, w]
        exact ⟨rfl, (((F3.tr f1.1).tr f2.1).tr f3.1).tr f4.1, ((((mS0_ui hκ_43 (by decide)).tr f1.2.1.1).tr f2.2.1).tr f3.2.1.1).tr f4.2.1, by rw [w2]; decide, by rw [f4.2.2.1, f3.2.2.1, f2.2.2.1, f1.2.2.1]; exact w1.trans hp.2, fun z => absurd z (by rw [w2]; decide)⟩
  · skip
    refine ⟨?_, ?_⟩
    · have L := hp.1.1.2.2.1
      rw [inb_iff, t0i]; omega
    refine ⟨fun c53 => ?_, fun c53 => ?_⟩
    · skip
      refine hj37 _ _ _ _ W ?_ ?_ ?_
      · exact Ta0  -- t48
      · exact Ta0  -- t49
      · exact ⟨rfl, rfl, rfl, by decide⟩  -- k50
    · skip
      refine ⟨?_, ?_⟩
      · have L := hp.1.1.2.2.1
        rw [inb_iff, t0i]; omega
      refine ⟨fun c54 => ?_, fun c54 => ?_⟩
      · skip
        refine hj37 _ _ _ _ W ?_ ?_ ?_
        · exact Ta0  -- t52
        · exact Ta0  -- t53
        · exact ⟨rfl, rfl, rfl, by decide⟩  -- k54
      · skip
        refine ⟨?_, ?_⟩
        · have L := hp.1.1.2.2.1
          rw [inb_iff, t0i]; omega
        refine hj37 _ _ _ _ W ?_ ?_ ?_
        · exact Ta0  -- t56
        · exact Ta0  -- t57
        · have e64 : (64 : Int32).toInt = 64 := rfl
          rw [lti, e64] at c54
          exact ⟨rfl, rfl, rfl, by omega⟩
