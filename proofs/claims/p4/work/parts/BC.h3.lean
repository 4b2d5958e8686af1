set_option maxHeartbeats 1600000
/-! the class: Machine's offer, openCall -/
theorem mF_uw {κ τ : zS} {m : Nat} {x : Int32} (e : τ = ui κ maWays m x) (h : x.toInt ≤ 64) : mF κ τ m := by
  refine ⟨by rw [e]; exact zF_ui rfl, by rw [e]; rfl, by rw [e]; rfl, fun _ => ?_⟩
  have w : zI τ maWays m = x := by rw [e]; exact if_pos ⟨rfl, rfl⟩
  rw [w]; exact h
theorem mF_uf {C : zC} {n0 m f i j t : Nat} {κ τ : zS} {x : Int32} (W : zW C n0 κ) (T : zT κ m = 7) (hr : zr f = some t) (ht : 20 ≤ t) (e : τ = uff κ (zR κ f m) i j x) (hf : f / 100 = 7 := by decide) (hw : f ≠ maWeights := by decide) : mF κ τ m ∧ mS κ τ m ∧ zI τ = zI κ :=
  ⟨⟨by rw [e]; exact zF_uf (by rw [W.o hr ht (T.trans hf.symm)]), by rw [e]; rfl, by rw [e]; rfl, fun z => by rw [e]; exact z⟩, ⟨fun g _ => by rw [e]; rfl, fun g _ => ⟨by rw [e]; rfl, fun eg => by rw [eg, e]; exact ⟨rfl, if_neg (ne_w W T hf hr ht hw)⟩⟩⟩, by rw [e]; rfl⟩
/-- sums of integers -/
def sgI (f : Nat → Int) : Nat → Int
  | 0 => 0
  | n + 1 => sgI f n + f n
theorem sgI_b {f : Nat → Int} {B : Int} : ∀ {n : Nat}, (∀ i, i < n → 0 ≤ f i ∧ f i ≤ B) → 0 ≤ sgI f n ∧ sgI f n ≤ n * B
  | 0, _ => ⟨Int.le_refl _, by show (0 : Int) ≤ _; simp⟩
  | n + 1, h => by
    have a := sgI_b (f := f) (B := B) (n := n) (fun i hi => h i (Nat.lt_succ_of_lt hi))
    have b := h n (Nat.lt_succ_self n)
    have e : ((n + 1 : Nat) : Int) * B = n * B + B := by rw [Int.natCast_add]; simp [Int.add_mul]
    show 0 ≤ sgI f n + f n ∧ sgI f n + f n ≤ _
    omega
theorem sgI_eq {f g : Nat → Int} : ∀ {n : Nat}, (∀ i, i < n → f i = g i) → sgI f n = sgI g n
  | 0, _ => rfl
  | n + 1, h => by
    show sgI f n + f n = sgI g n + g n
    rw [sgI_eq (fun i hi => h i (Nat.lt_succ_of_lt hi)), h n (Nat.lt_succ_self n)]
/-- what is drawn from, or chosen from, is in order -/
def drw (κ : zS) (m : Nat) : Prop := (0 ≤ (zI κ maWays m).toInt ∧ (zI κ maWays m).toInt ≤ 64) ∧ (∀ n : Nat, (n : Int) < (zI κ maWays m).toInt → 0 ≤ (zA κ (zR κ maWeights m) n).toInt ∧ (zA κ (zR κ maWeights m) n).toInt ≤ 1000000) ∧ (zI κ maTotal m).toInt = sgI (fun n => (zA κ (zR κ maWeights m) n).toInt) ((zI κ maWays m).toInt).toNat ∧ 0 < (zI κ maTotal m).toInt ∧ (zI κ maTotal m).toInt ≤ 8000000
def chs (κ : zS) (m : Nat) : Prop := (1 ≤ (zI κ maWays m).toInt ∧ (zI κ maWays m).toInt ≤ 8) ∧ ∀ n : Nat, (n : Int) < (zI κ maWays m).toInt → (zA κ (zR κ maWeights m) n).toInt = 1
def mDw (κ : zS) (m : Nat) : Prop := zI κ maWants m = -1 ∨ (zI κ maWants m = 3 ∧ drw κ m) ∨ (zI κ maWants m = 4 ∧ chs κ m)
theorem mDw_g {κ τ : zS} {m : Nat} (G : mG κ τ m) (H : mDw κ m) : mDw τ m := by
  have w := (G maWants (by decide)).1
  have y := (G maWays (by decide)).1
  have t := (G maTotal (by decide)).1
  have r := (G maWeights (by decide)).2 rfl
  unfold mDw drw chs
  rw [w, y, t, r.1, r.2]
  exact H
theorem wRow {C : zC} {n0 m i j : Nat} {κ κ1 κ2 : zS} {x y : Int32} (W : zW C n0 κ) (T : zT κ m = 7) (e1 : κ1 = ua κ (zR κ maValues m) i x) (e2 : κ2 = ua κ1 (zR κ1 maWeights m) j y) : zA κ2 (zR κ2 maWeights m) = upd (zA κ (zR κ maWeights m)) j y := by
  have r1 : zR κ1 = zR κ := by rw [e1]; rfl
  have r2 : zR κ2 = zR κ := by rw [e2]; exact r1
  have a1 : zA κ1 (zR κ maWeights m) = zA κ (zR κ maWeights m) := by rw [e1]; exact if_neg (ne_w W T (by decide) (show zr maValues = some 20 by decide +kernel) (by decide) (by decide))
  rw [r2, e2, r1]
  refine (if_pos rfl).trans ?_
  show upd (zA κ1 (zR κ maWeights m)) j y = _
  rw [a1]
/-- one more place of a row -/
theorem upd_ones {f : Nat → Int32} {x : Int32} {y : Int} (h0 : 0 ≤ x.toInt) (hy : y = x.toInt + 1) (h : ∀ n : Nat, (n : Int) < x.toInt → (f n).toInt = 1) : ∀ n : Nat, (n : Int) < y → (upd f x.toNatClampNeg 1 n).toInt = 1 := fun n hn => by
  have k := cnk h0
  show Int32.toInt (if n = x.toNatClampNeg then 1 else f n) = 1
  by_cases z : n = x.toNatClampNeg
  · rw [if_pos z]; rfl
  · rw [if_neg z]; exact h n (by omega)
theorem mO_push {κ κ3 κ6 : zS} {m : Nat} (H : mO κ m) (c : zI κ maOpen m < (12 : Int32)) (h3 : κ3 = ui κ maOpen m (zI κ maOpen m + 1)) (h6 : κ6 = ui κ3 maFrame m (zI κ3 maFrame m + 9)) : mO κ6 m ∧ zI κ6 maShared m = zI κ maShared m := by
  have o3 : zI κ3 maOpen m = zI κ maOpen m + 1 := by rw [h3]; exact if_pos ⟨rfl, rfl⟩
  have o6 : zI κ6 maOpen m = zI κ3 maOpen m := by rw [h6]; rfl
  have f3 : zI κ3 maFrame m = zI κ maFrame m := by rw [h3]; rfl
  have f6 : zI κ6 maFrame m = zI κ maFrame m + 9 := by
    rw [h6]
    refine (if_pos ⟨rfl, rfl⟩).trans ?_
    rw [f3]
  have s6 : zI κ6 maShared m = zI κ maShared m := by rw [h6, h3]; rfl
  obtain ⟨s, o, f⟩ := H
  have e12 : (12 : Int32).toInt = 12 := rfl
  have e9 : (9 : Int32).toInt = 9 := rfl
  rw [lti, e12] at c
  have eo : (zI κ maOpen m + 1).toInt = (zI κ maOpen m).toInt + 1 := by rw [add_i (by rw [t1i]; omega) (by rw [t1i]; omega), t1i]
  have ef : (zI κ maFrame m + 9).toInt = (zI κ maFrame m).toInt + 9 := by rw [add_i (by rw [e9]; omega) (by rw [e9]; omega), e9]
  refine ⟨?_, s6⟩
  unfold mO
  rw [o6, o3, f6, s6, eo, ef]
  exact ⟨s, ⟨by omega, by omega⟩, by omega⟩
theorem Ma_offer_c {C : zC} {n0 : Nat} {a0 : Nat} {a1 : Int32} {κ : zS} {Q : zS → Prop} (W : zW C n0 κ) (Ta0 : zT κ a0 = 7)  (hp : maL κ a0 ∧ zI κ maWants a0 = -1) (h : ∀ (κ' : zS), (mF κ κ' a0 ∧ mS0 κ κ' a0 ∧ mDw κ' a0) → Q κ') : zRun C 1 mMa_offer [.ref a0, .int a1] κ (oV Q noX) := by
  refine Ma_offer_run W Ta0 ?_
  replace W := W.lo (Nat.le_trans W.1.2.1 W.1.2.2) (Nat.le_refl (zn κ))
  unfold w_Ma_offer_0
  refine ⟨fun c1 => ?_, fun c1 => ?_⟩
  · skip
    intro T2
    refine Ma_fail_c W T2  (fun κ_3 q4 => ?_)
    intro W5
    intro M6
    refine h _ ?_
    · have f := mF_fail q4
      exact ⟨f.1, f.2.1, mDw_g f.2.2 (Or.inl hp.2)⟩
  · skip
    refine ⟨fun c7 => ?_, fun c7 => ?_⟩
    · skip
      intro κ_8 hκ_8
      intro W9
      intro κ_10 hκ_10
      intro W11
      unfold w_Ma_offer_29
      refine ⟨fun n l0 l1 l2 τ => n = (a1.toInt - l2.toInt).toNat ∧ (a0 = l0 ∧ a1 = l1 ∧ mF κ τ a0 ∧ mS0 κ τ a0 ∧ 0 ≤ l2.toInt ∧ zI τ maWays a0 = a1 ∧ l2.toInt ≤ a1.toInt ∧ ∀ n : Nat, (n : Int) < l2.toInt → (zA τ (zR τ maWeights a0) n).toInt = 1), ⟨_, rfl, ?_⟩, ?_⟩
      · have e8 : (8 : Int32).toInt = 8 := rfl
        rw [lei, e8] at c7
        have w : zI κ_10 maWays a0 = a1 := by rw [hκ_10, hκ_8]; exact if_pos ⟨rfl, rfl⟩
        rw [lti, t1i] at c1
        exact ⟨rfl, rfl, (mF_uw hκ_8 (by omega)).tr (mF_ui hκ_10 (by decide)), (mS0_ui hκ_8 (by decide)).tr (mS0_ui hκ_10 (by decide)), by decide, w, by rw [t0i]; omega, fun n hn => by rw [t0i] at hn; omega⟩
      rintro n29 _ _ x29_2 κ29 W29 T29_0 ⟨hn29, rfl, rfl, i29⟩
      refine ⟨fun c12 => ?_, fun c12 => ?_⟩
      · skip
        intro κ_13 hκ_13
        intro W14
        refine h _ ?_
        · obtain ⟨F, S, l0, w, l1, on⟩ := i29
          have e8 : (8 : Int32).toInt = 8 := rfl
          rw [lei, e8] at c7
          rw [lei] at c12
          rw [lti, t1i] at c1
          have w9 : zI κ_13 maWays a0 = a1 := by rw [hκ_13]; exact w
          have n9 : zI κ_13 maWants a0 = 4 := by rw [hκ_13]; exact if_pos ⟨rfl, rfl⟩
          have a9 : zA κ_13 (zR κ_13 maWeights a0) = zA κ29 (zR κ29 maWeights a0) := by rw [hκ_13]; rfl
          refine ⟨F.tr (mF_ui hκ_13 (by decide)), S.tr (mS0_ui hκ_13 (by decide)), Or.inr (Or.inr ⟨n9, ⟨by rw [w9]; omega, by rw [w9]; omega⟩, fun n hn => ?_⟩)⟩
          rw [w9] at hn
          rw [a9]
          exact on n (by omega)
      · skip
        obtain ⟨F, S, l0, w, l1, on⟩ := i29
        have e8 : (8 : Int32).toInt = 8 := rfl
        rw [lei, e8] at c7
        have d1 : x29_2.toInt < a1.toInt := by rw [lei] at c12; omega
        have e1 := inc_i l0 d1
        have LV : zN κ29 (zR κ29 maValues a0) = 64 := by rw [F.2.1, F.2.2.1]; exact hp.1.2.2.2.1
        have LW : zN κ29 (zR κ29 maWeights a0) = 64 := by rw [F.2.1, F.2.2.1]; exact hp.1.2.2.2.2
        refine ⟨?_, ?_⟩
        · rw [inb_iff]; omega  -- b4
        intro κ_15 hκ_15
        intro W16
        refine ⟨?_, ?_⟩
        · have f := mF_ua W29 T29_0 (show zr maValues = some 20 by decide +kernel) (by decide) hκ_15
          rw [f.1.2.1, f.1.2.2.1, inb_iff]; omega
        intro κ_17 hκ_17
        intro W18
        intro x19 hx19
        refine ⟨_, ?_, rfl, ?_⟩
        · rw [hn29, hx19, e1]; omega  -- d6
        · have f1 := mF_ua W29 T29_0 (show zr maValues = some 20 by decide +kernel) (by decide) hκ_15
          have f2 := mF_ub W16 (f1.1.1.t T29_0 (by decide)) (show zr maWeights = some 20 by decide +kernel) (by decide) hκ_17
          have r := wRow W29 T29_0 hκ_15 hκ_17
          refine ⟨rfl, rfl, (F.tr f1.1).tr f2.1, (S.tr f1.2.1.1).tr f2.2.1, by rw [hx19, e1]; omega, by rw [f2.2.2, f1.2.2]; exact w, by rw [hx19, e1]; omega, ?_⟩
          rw [r]
          exact upd_ones l0 (by rw [hx19, e1]) on
    · skip
      intro T20
      refine Ma_fail_c W T20  (fun κ_21 q22 => ?_)
      intro W23
      intro M24
      refine h _ ?_
      · have f := mF_fail q22
        exact ⟨f.1, f.2.1, mDw_g f.2.2 (Or.inl hp.2)⟩

theorem Ma_openCall_c {C : zC} {n0 : Nat} {a0 : Nat} {a1 : Int32} {a2 : Int32} {κ : zS} {Q : zS → Prop} (W : zW C n0 κ) (Ta0 : zT κ a0 = 7)  (hp : mkI κ a0 ∧ mO κ a0) (h : ∀ (κ' : zS), (mF κ κ' a0 ∧ zI κ' maShared a0 = zI κ maShared a0 ∧ mO κ' a0 ∧ mG κ κ' a0) → Q κ') : zRun C 2 mMa_openCall [.ref a0, .int a1, .int a2] κ (oV Q noX) := by
  refine Ma_openCall_run W Ta0 ?_
  replace W := W.lo (Nat.le_trans W.1.2.1 W.1.2.2) (Nat.le_refl (zn κ))
  unfold w_Ma_openCall_0
  have hj92 : ∀ (l0 : Nat) (l1 : Int32) (τ : zS), zW C (zn κ) τ → zT τ l0 = 7 → (a0 = l0 ∧ a1 = l1 ∧ mF κ τ a0 ∧ zI τ maShared a0 = zI κ maShared a0 ∧ mO τ a0 ∧ mG κ τ a0) → w_Ma_openCall_92 C (zn κ) Q  l0 l1 τ := by
    rintro _ _ τ92 W92 T92_0 ⟨rfl, rfl, j92⟩
    unfold w_Ma_openCall_92
    intro T1
    refine Co_firstOf_c W92 T1  ?_ (fun r2 q4 => ?_)
    · exact (mkI_f j92.1 W Ta0 hp.1).1.2  -- p1
    intro W5
    intro M6
    intro κ_7 hκ_7
    intro W8
    refine h _ ?_
    · exact ⟨j92.1.tr (mF_ui hκ_7 (by decide)), ((mS_ui hκ_7 (by decide)).1 maShared (by decide)).trans j92.2.1, mO_s (mS_ui hκ_7 (by decide)) j92.2.2.1, j92.2.2.2.tr (mG_ui hκ_7 (by decide))⟩  -- q2
  refine ⟨fun c9 => ?_, fun c9 => ?_⟩
  · skip
    intro κ_10 hκ_10
    intro W11
    intro κ_12 hκ_12
    intro W13
    intro T14
    refine Ar_fill4_c W13 T14  ?_ (fun κ_15 q16 => ?_)
    · have P := mO_push hp.2 c9 hκ_10 hκ_12
      have F := (mF_ui hκ_10 (by decide)).tr (mF_ui hκ_12 (by decide))
      have L := (mkI_f F W Ta0 hp.1).1.1.1
      obtain ⟨⟨s, o, f⟩, -⟩ := P
      have e9 : (9 : Int32).toInt = 9 := rfl
      have ef : (zI κ_12 maFrame a0 + 9).toInt = (zI κ_12 maFrame a0).toInt + 9 := by rw [add_i (by rw [e9]; omega) (by rw [e9]; omega), e9]
      have kn := cnk (x := zI κ_12 maFrame a0 + 9) (by omega)
      exact ⟨by rw [lei, t0i]; omega, by rw [lei, ef]; omega, by omega⟩
    intro W17
    intro M18
    unfold w_Ma_openCall_57
    refine ⟨fun n l0 l1 l2 l3 τ => n = (4 - l3.toInt).toNat ∧ (a0 = l0 ∧ a1 = l1 ∧ a2 = l2 ∧ mF κ τ a0 ∧ zI τ maShared a0 = zI κ maShared a0 ∧ mO τ a0 ∧ 0 ≤ l3.toInt ∧ mG κ τ a0), ⟨_, rfl, ?_⟩, ?_⟩
    · have P := mO_push hp.2 c9 hκ_10 hκ_12
      have F := (mF_ui hκ_10 (by decide)).tr (mF_ui hκ_12 (by decide))
      have f := mF_uf W13 (F.1.t Ta0 (by decide)) (show zr maMemory = some 20 by decide +kernel) (by decide) q16
      exact ⟨rfl, rfl, rfl, F.tr f.1, by rw [f.2.2]; exact P.2, mO_i f.2.2 P.1, by decide, ((mG_ui hκ_10 (by decide)).tr (mG_ui hκ_12 (by decide))).tr f.2.1.2⟩
    rintro n57 _ _ _ x57_3 κ57 W57 T57_0 ⟨hn57, rfl, rfl, rfl, i57⟩
    refine ⟨fun c19 => ?_, fun c19 => ?_⟩
    · skip
      refine hj92 _ _ _ W57 ?_ ?_
      · exact T57_0  -- t5
      · exact ⟨rfl, rfl, i57.1, i57.2.1, i57.2.2.1, i57.2.2.2.2⟩  -- k6
    · skip
      refine ⟨fun c20 => ?_, fun c20 => ?_⟩
      · skip
        refine hj92 _ _ _ W57 ?_ ?_
        · exact T57_0  -- t7
        · exact ⟨rfl, rfl, i57.1, i57.2.1, i57.2.2.1, i57.2.2.2.2⟩  -- k8
      · skip
        obtain ⟨F, eS, O, l0, G⟩ := i57
        have I := (mkI_f F W Ta0 hp.1).1
        have LM := I.1.1
        have LW := I.1.2.2.1
        have e4 : (4 : Int32).toInt = 4 := rfl
        rw [lei, e4] at c20
        have e1 : (x57_3 + 1).toInt = x57_3.toInt + 1 := by rw [add_i (by rw [t1i]; omega) (by rw [t1i]; omega), t1i]
        refine ⟨?_, ?_⟩
        · rw [inb_iff]; omega  -- b9
        refine ⟨?_, ?_⟩
        · obtain ⟨s, o, f⟩ := O
          have e5 : (zI κ57 maFrame a0 + 1).toInt = (zI κ57 maFrame a0).toInt + 1 := by rw [add_i (by rw [t1i]; omega) (by rw [t1i]; omega), t1i]
          have e6 : (zI κ57 maFrame a0 + 1 + x57_3).toInt = (zI κ57 maFrame a0).toInt + 1 + x57_3.toInt := by rw [add_i (by rw [e5]; omega) (by rw [e5]; omega), e5]
          rw [inb_iff, e6]; omega
        intro κ_21 hκ_21
        intro W22
        intro x23 hx23
        refine ⟨_, ?_, rfl, ?_⟩
        · rw [hn57, hx23, e1]; omega  -- d11
        · have f := mF_ua W57 T57_0 (show zr maMemory = some 20 by decide +kernel) (by decide) hκ_21
          exact ⟨rfl, rfl, rfl, F.tr f.1, by rw [f.2.2]; exact eS, mO_i f.2.2 O, by rw [hx23, e1]; omega, G.tr f.2.1.2⟩
  · skip
    intro T24
    refine Ma_fail_c W T24  (fun κ_25 q26 => ?_)
    intro W27
    intro M28
    refine h _ ?_
    · have f := mF_fail q26
      exact ⟨f.1, f.2.1 maShared (by decide), mO_s f.2 hp.2, f.2.2⟩
