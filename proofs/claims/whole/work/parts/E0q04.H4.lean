section
set_option maxHeartbeats 1600000
/-! the class: odds of what was drawn; what can be shown -/
def pd16 (w t : Nat → Int32) : Nat → Rat
  | 0 => 1
  | n + 1 => pd16 w t n * mkRat (w n).toInt (t n).toInt.toNat
theorem pd_n16 {w t : Nat → Int32} : ∀ {n : Nat}, (∀ m : Nat, m < n → 0 ≤ (w m).toInt ∧ 0 < (t m).toInt) → 0 ≤ pd16 w t n
  | 0, _ => by
    show (0 : Rat) ≤ 1
    decide
  | n + 1, h => Rat.mul_nonneg (pd_n16 (fun m hm => h m (by omega))) (mk_nn (by have := (h n (by omega)).2; omega) (h n (by omega)).1)
abbrev dW16 (κ : zS) (a : Nat) : Nat → Int32 := zA κ (zR κ chDrawnWeights a)
abbrev dT16 (κ : zS) (a : Nat) : Nat → Int32 := zA κ (zR κ chDrawnTotals a)
abbrev dC16 (κ : zS) (a : Nat) : Int := (zJ κ (zR κ chRecord a) 3).toInt
def dO16 (κ : zS) (a : Nat) : Prop := (0 ≤ dC16 κ a ∧ dC16 κ a ≤ (zN κ (zR κ chDrawnWeights a) : Int) ∧ zN κ (zR κ chDrawnTotals a) = zN κ (zR κ chDrawnWeights a)) ∧ ∀ n : Nat, (n : Int) < dC16 κ a → 0 ≤ (dW16 κ a n).toInt ∧ 0 < (dT16 κ a n).toInt
theorem rF_n16 {t b a f x : Nat} (h : f ≠ nuLimbs ∧ f ≠ nuLength ∧ f ≠ raSign) : ¬ raF t b a f x := fun z => by
  rcases z with ⟨_, z | z⟩ | ⟨_, z⟩
  · exact h.1 z
  · exact h.2.1 z
  · exact h.2.2 z
theorem rF_d16 {C : zC} {n0 t b u a : Nat} {κ τ : zS} (W : zW C n0 κ) (Ta : zT κ a = 15) (Z : zF (raF t b u) κ τ) : dW16 τ a = dW16 κ a ∧ dT16 τ a = dT16 κ a ∧ dC16 τ a = dC16 κ a := by
  refine ⟨?_, ?_, ?_⟩
  · unfold dW16
    rw [(Z.row W (show zr chDrawnWeights = some 20 by decide +kernel) (by decide) Ta (rF_n16 (by decide))).1]
  · unfold dT16
    rw [(Z.row W (show zr chDrawnTotals = some 20 by decide +kernel) (by decide) Ta (rF_n16 (by decide))).1]
  · unfold dC16
    rw [(Z.row W (show zr chRecord = some 22 by decide +kernel) (by decide) Ta (rF_n16 (by decide))).2.1]
theorem Ch_showPlay_q6 {C : zC} {n0 : Nat} {a0 : Nat} {κ : zS} {Q : zS → Prop} (W : zW C n0 κ) (Ta0 : zT κ a0 = 15) (hD9 : dO16 κ a0) (hp : raC κ (zR κ chShown a0) 6500 ∧ ((zN κ (zR κ chDrawnWeights a0)) ≤ 4000 ∧ (zN κ (zR κ chRecord a0)) = 5)) (h : ∀ (κ' : zS), ((zF (raF (zR κ raTop (zR κ chShown a0)) (zR κ raBottom (zR κ chShown a0)) (zR κ chShown a0)) κ κ' ∧ raJ κ' (zR κ chShown a0) 6500) ∧ (rqW8 κ' (zR κ chShown a0) (pd16 (dW16 κ a0) (dT16 κ a0) (dC16 κ a0).toNat))) → Q κ') : zRun C 5 mCh_showPlay [.ref a0] κ (oV Q noX) := by
  refine Ch_showPlay_run W Ta0 ?_
  replace W := W.lo (Nat.le_trans W.1.2.1 W.1.2.2) (Nat.le_refl (zn κ))
  unfold w_Ch_showPlay_0
  intro T1
  refine Ra_putOne_c W T1 6500 ?_ (fun κ_2 q3 => ?_)
  · exact hp.1  -- p1
  intro W4
  intro M5
  have r2 : ∀ f b, f ≠ nuLimbs → f ≠ nuLength → f ≠ raSign → zR κ_2 f b = zR κ f b := fun f b h1 h2 h3 => raF_r q3.1 h1 h2 h3
  refine ⟨?_, ?_⟩
  · have e3 : (3 : Int32).toInt = 3 := rfl
    rw [inb_iff, r2 chRecord _ (by decide) (by decide) (by decide), q3.1.l (ty_chRecord W Ta0), hp.2.2, e3]
    omega
  intro x6 hx6
  unfold w_Ch_showPlay_16
  refine ⟨fun n l0 l1 l3 τ => n = (4000 - l3.toInt).toNat ∧ ((a0 = l0 ∧ zF (raF (zR κ raTop (zR κ chShown a0)) (zR κ raBottom (zR κ chShown a0)) (zR κ chShown a0)) κ τ ∧ raJ τ (zR κ chShown a0) 6500 ∧ 0 ≤ l3.toInt ∧ nuN τ (zR κ raTop (zR κ chShown a0)) < pB9 (l3.toInt.toNat + 1) ∧ nuN τ (zR κ raBottom (zR κ chShown a0)) < pB9 (l3.toInt.toNat + 1)) ∧ l1.toInt = dC16 κ a0 ∧ l3.toInt ≤ l1.toInt ∧ rqW8 τ (zR κ chShown a0) (pd16 (dW16 κ a0) (dT16 κ a0) l3.toNatClampNeg)), ⟨_, rfl, ?_⟩, ?_⟩
  · refine and_5 ?_ (fun o9 => ?_)  -- j3
    · obtain ⟨v1, v2, v3⟩ := q3.2.2
      rw [r2 raTop _ (by decide) (by decide) (by decide)] at v2
      rw [r2 raBottom _ (by decide) (by decide) (by decide)] at v3
      have e : (0 : Int32).toInt.toNat + 1 = 1 := rfl
      have p1 : 1 < pB9 1 := by unfold pB9; decide
      exact ⟨rfl, q3.1, q3.2.1, by decide, by rw [e, v2]; exact p1, by rw [e, v3]; exact p1⟩
    · obtain ⟨v1, v2, v3⟩ := q3.2.2
      have d := (rF_d16 W Ta0 q3.1).2.2
      refine ⟨by rw [hx6]; exact d, ?_, ⟨v1, v2, v3⟩⟩
      have y := hD9.1.1
      rw [← d] at y
      rw [hx6, t0i]
      exact y
  rintro n16 _ x16_1 x16_3 κ16 W16 T16_0 ⟨hn16, ⟨rfl, i16⟩, hE⟩
  refine ⟨fun c7 => ?_, fun c7 => ?_⟩
  · skip
    refine h _ ?_
    · refine and_5 ?_ (fun o9 => ?_)  -- q4
      · exact ⟨i16.1, i16.2.1⟩
      · have c := Int64.le_iff_toInt_le.mp (lg_ge.mp c7)
        rw [Int32.toInt_toInt64] at c
        have e : (dC16 κ a0).toNat = x16_3.toNatClampNeg := by
          show (dC16 κ a0).toNat = x16_3.toInt.toNat
          have y := hE.1
          have y2 := hE.2.1
          omega
        rw [e]
        exact hE.2.2
  · skip
    refine ⟨fun c8 => ?_, fun c8 => ?_⟩
    · skip
      refine h _ ?_
      · refine and_5 ?_ (fun o9 => ?_)  -- q5
        · exact ⟨i16.1, i16.2.1⟩
        · have c : ¬ x16_1 ≤ Int32.toInt64 x16_3 := fun z => c7 (lg_ge.mpr z)
          rw [Int64.le_iff_toInt_le, Int32.toInt_toInt64] at c
          have nw : zN κ16 (zR κ16 chDrawnWeights a0) = zN κ (zR κ chDrawnWeights a0) := by
            rw [raF_r i16.1 (by decide) (by decide) (by decide)]
            exact i16.1.l (ty_chDrawnWeights W Ta0)
          rw [lei, ofn_i (W16.n (ty_chDrawnWeights W16 T16_0)), nw] at c8
          have y := hE.1
          have y2 := hD9.1.2.1
          exfalso
          omega
    · skip
      refine ⟨fun c9 => ?_, fun c9 => ?_⟩
      · skip
        refine h _ ?_
        · refine and_5 ?_ (fun o9 => ?_)  -- q6
          · exact ⟨i16.1, i16.2.1⟩
          · have c : ¬ x16_1 ≤ Int32.toInt64 x16_3 := fun z => c7 (lg_ge.mpr z)
            rw [Int64.le_iff_toInt_le, Int32.toInt_toInt64] at c
            have nw : zN κ16 (zR κ16 chDrawnTotals a0) = zN κ (zR κ chDrawnTotals a0) := by
              rw [raF_r i16.1 (by decide) (by decide) (by decide)]
              exact i16.1.l (ty_chDrawnTotals W Ta0)
            rw [lei, ofn_i (W16.n (ty_chDrawnTotals W16 T16_0)), nw, hD9.1.2.2] at c9
            have y := hE.1
            have y2 := hD9.1.2.1
            exfalso
            omega
      · skip
        obtain ⟨Z6, J6, l0, t6, b6⟩ := i16
        have r6 : ∀ f b, f ≠ nuLimbs → f ≠ nuLength → f ≠ raSign → zR κ16 f b = zR κ f b := fun f b h1 h2 h3 => raF_r Z6 h1 h2 h3
        have rs := r6 chShown a0 (by decide) (by decide) (by decide)
        have rt := r6 raTop (zR κ chShown a0) (by decide) (by decide) (by decide)
        have rb := r6 raBottom (zR κ chShown a0) (by decide) (by decide) (by decide)
        have nw : zN κ16 (zR κ16 chDrawnWeights a0) = zN κ (zR κ chDrawnWeights a0) := by
          rw [r6 chDrawnWeights a0 (by decide) (by decide) (by decide)]
          exact Z6.l (ty_chDrawnWeights W Ta0)
        have h40 := hp.2.1
        rw [lei, ofn_i (W16.n (ty_chDrawnWeights W16 T16_0)), nw] at c8
        rw [lei, ofn_i (W16.n (ty_chDrawnTotals W16 T16_0))] at c9
        have ix := cn1 (x := x16_3) l0 (by omega)
        refine ⟨?_, ?_⟩
        · rw [inb_iff, nw]; omega  -- b7
        refine ⟨?_, ?_⟩
        · rw [inb_iff]; omega  -- b8
        intro T10
        refine Ra_scale_q6 W16 T10 6500 ?_ (fun κ_11 q12 => ?_)
        · rw [rs, rt, rb]
          have I1 := J6.1
          have I2 := J6.2.1
          rw [rt] at I1
          rw [rb] at I2
          have k1 := nuK_lt I1 t6
          have k2 := nuK_lt I2 b6
          exact ⟨J6, ⟨by omega, by omega⟩, by decide⟩
        obtain ⟨q12, z9⟩ := q12
        intro W13
        intro M14
        intro x15 hx15
        rw [rs, rt, rb] at q12
        have r11 : ∀ f b, f ≠ nuLimbs → f ≠ nuLength → f ≠ raSign → zR κ_11 f b = zR κ16 f b := fun f b h1 h2 h3 => raF_r q12.1 h1 h2 h3
        refine lp_b5 ?_ (fun d9 => ⟨rfl, ?_⟩)
        · rw [hn16, hx15, ix.2]; omega  -- d10
        · refine and_5 ?_ (fun o9 => ?_)  -- i11
          · have ek : x15.toInt.toNat + 1 = (x16_3.toInt.toNat + 1) + 1 := by rw [hx15, ix.2]; omega
            have l31 : ∀ z : Int32, z.toInt.toNat < 2147483648 := fun z => by
              have := z.toInt_lt
              omega
            refine ⟨rfl, Z6.tr q12.1, q12.2.1, by rw [hx15, ix.2]; omega, ?_, ?_⟩
            · rw [ek]
              rcases q12.2.2 with ⟨_, y, _⟩ | y
              · rw [r11 raTop _ (by decide) (by decide) (by decide), rt] at y
                rw [y]
                exact pB9_p
              · exact pm_9 t6 y.2.2.1 (l31 _)
            · rw [ek]
              rcases q12.2.2 with ⟨_, _, y⟩ | y
              · rw [r11 raBottom _ (by decide) (by decide) (by decide), rb] at y
                rw [y]
                exact Nat.lt_of_lt_of_le (by unfold pB9; decide : 1 < pB9 1) (pB9_l (by omega))
              · exact pm_9 b6 y.2.2.2.2 (l31 _)
          · have c : ¬ x16_1 ≤ Int32.toInt64 x16_3 := fun z => c7 (lg_ge.mpr z)
            rw [Int64.le_iff_toInt_le, Int32.toInt_toInt64] at c
            have D6 := rF_d16 W Ta0 Z6
            have kx := cnk l0
            have y := hE.1
            have wt := hD9.2 x16_3.toNatClampNeg (by omega)
            have eW : zA κ16 (zR κ16 chDrawnWeights a0) = dW16 κ a0 := D6.1
            have eT : zA κ16 (zR κ16 chDrawnTotals a0) = dT16 κ a0 := D6.2.1
            rw [rs, eW, eT] at z9
            rw [eW, eT] at q12
            have p0 := pd_n16 (w := dW16 κ a0) (t := dT16 κ a0) (n := x16_3.toNatClampNeg) (fun m hm => hD9.2 m (by omega))
            refine ⟨hE.1, by rw [hx15, ix.2]; omega, ?_⟩
            rw [hx15, ix.1]
            show rqW8 κ_11 (zR κ chShown a0) (pd16 (dW16 κ a0) (dT16 κ a0) x16_3.toNatClampNeg * mkRat (dW16 κ a0 x16_3.toNatClampNeg).toInt (dT16 κ a0 x16_3.toNatClampNeg).toInt.toNat)
            by_cases w0 : 0 < (dW16 κ a0 x16_3.toNatClampNeg).toInt
            · exact z9 _ hE.2.2 p0 w0 wt.2
            · have w1 : (dW16 κ a0 x16_3.toNatClampNeg).toInt = 0 := by omega
              have m0 : mkRat 0 (dT16 κ a0 x16_3.toNatClampNeg).toInt.toNat = 0 := by
                have i0 : ((0 : Int) : Rat) = 0 := rfl
                rw [mk_d, i0, Rat.zero_mul]
              rw [w1, m0, Rat.mul_zero]
              rcases q12.2.2 with z | z
              · exact ⟨z.1, z.2.1, z.2.2⟩
              · exact absurd z.1.1 w0

theorem Ch_showsNow_q6 {C : zC} {n0 : Nat} {a0 : Nat} {a1 : Int32} {κ : zS} {Q : Int32 → zS → Prop} (W : zW C n0 κ) (Ta0 : zT κ a0 = 15) (ρ : Nat → Nat) (n9 P9 : Nat) (σ9 : rS) (V9 : Nat → Rat) (hY9 : zI κ soSolved (zR κ chSolver a0) ≠ 0 → tbl15 κ (zR κ odAtlas (zR κ chOdds a0)) n9 σ9 ∧ lst16 κ (zR κ odAtlas (zR κ chOdds a0)) σ9 ∧ vV15 κ (zR κ odSolver (zR κ chOdds a0)) n9 V9) (hp : zI κ soSolved (zR κ chSolver a0) ≠ 0 → odX9 ρ κ (zR κ chOdds a0) n9 P9) (h : ∀ (v : Int32), ((nb v ∧ (v ≠ 0 → (¬ a1 = 12 → ¬ a1 = 11 → zI κ soSolved (zR κ chSolver a0) ≠ 0) ∧ (a1 = 11 → zI κ soPlanned (zR κ chSolver a0) ≠ 0))) ∧ ((v ≠ 0 ↔ (a1 = 12 ∧ zI κ chPlayMade a0 ≠ 0) ∨ (a1 = 11 ∧ zI κ soPlanned (zR κ chSolver a0) ≠ 0) ∨ (¬ a1 = 12 ∧ ¬ a1 = 11 ∧ zI κ soSolved (zR κ chSolver a0) ≠ 0 ∧ (¬ 1 < a1 → n9 = 0 ∨ ∃ k, k < n9 ∧ uV16 σ9 V9 6 0 k ≠ 0) ∧ (a1 = 10 → n9 = 0 ∨ ∃ k, k < n9 ∧ uV16 σ9 V9 7 0 k ≠ 0))))) → Q v κ) : zRun C 6 mCh_showsNow [.ref a0, .int a1] κ (oI Q noX) := by
  refine Ch_showsNow_run W Ta0 ?_
  replace W := W.lo (Nat.le_trans W.1.2.1 W.1.2.2) (Nat.le_refl (zn κ))
  unfold w_Ch_showsNow_0
  have tS := ty_chSolver W Ta0
  refine ⟨fun c1 => ?_, fun c1 => ?_⟩
  · skip
    refine ⟨fun c2 => ?_, fun c2 => ?_⟩
    · skip
      refine ⟨fun c3 => ?_, fun c3 => ?_⟩
      · skip
        refine ⟨fun c4 => ?_, fun c4 => ?_⟩
        · skip
          refine ⟨fun c5 => ?_, fun c5 => ?_⟩
          · skip
            refine h _ ?_
            · refine and_5 ?_ (fun o9 => ⟨fun _ => Or.inr (Or.inr ⟨c1, c2, c3, fun z => absurd c4 z, fun z => absurd z c5⟩), fun _ => by decide⟩)  -- q1
              exact ⟨nb_1, fun _ => ⟨fun _ _ => c3, fun z => absurd z c2⟩⟩
          · skip
            intro T6
            refine Od_weighs_q6 W T6 ρ n9 P9 σ9 V9 (hY9 c3).1 (hY9 c3).2.1 (hY9 c3).2.2 ?_ (fun r7 q9 => ?_)
            · exact hp c3  -- p2
            obtain ⟨q9, z9⟩ := q9
            intro W10
            intro M11
            refine ⟨fun c12 => ?_, fun c12 => ?_⟩
            · skip
              refine h _ ?_
              · refine and_5 ?_ (fun o9 => ?_)  -- q3
                · exact ⟨nb_0, fun z => absurd rfl z⟩
                · refine ⟨fun z => absurd rfl z, fun z => ?_⟩
                  rcases z with ⟨z, _⟩ | ⟨z, _⟩ | ⟨_, _, _, _, z⟩
                  · exact absurd z c1
                  · exact absurd z c2
                  · exact absurd c12 (z9.mpr (z c5))
            · skip
              refine h _ ?_
              · refine and_5 ?_ (fun o9 => ⟨fun _ => Or.inr (Or.inr ⟨c1, c2, c3, fun z => absurd c4 z, fun _ => z9.mp c12⟩), fun _ => by decide⟩)  -- q4
                exact ⟨nb_1, fun _ => ⟨fun _ _ => c3, fun z => absurd z c2⟩⟩
        · skip
          intro T13
          refine Od_weighs_q6 W T13 ρ n9 P9 σ9 V9 (hY9 c3).1 (hY9 c3).2.1 (hY9 c3).2.2 ?_ (fun r14 q16 => ?_)
          · exact hp c3  -- p5
          obtain ⟨q16, z9⟩ := q16
          intro W17
          intro M18
          refine ⟨?_, h _ ?_⟩
          · exact q16  -- b6
          · refine and_5 ?_ (fun o9 => ?_)  -- q7
            · exact ⟨q16, fun _ => ⟨fun _ _ => c3, fun z => absurd z c2⟩⟩
            · refine ⟨fun z => Or.inr (Or.inr ⟨c1, c2, c3, fun _ => z9.mp z, fun e => absurd (by rw [e]; decide) c4⟩), fun z => ?_⟩
              rcases z with ⟨z, _⟩ | ⟨z, _⟩ | ⟨_, _, _, z, _⟩
              · exact absurd z c1
              · exact absurd z c2
              · exact z9.mpr (z c4)
      · skip
        refine h _ ?_
        · refine and_5 ?_ (fun o9 => ?_)  -- q8
          · exact ⟨nb_0, fun z => absurd rfl z⟩
          · refine ⟨fun z => absurd rfl z, fun z => ?_⟩
            rcases z with ⟨z, _⟩ | ⟨z, _⟩ | ⟨_, _, z, _⟩
            · exact absurd z c1
            · exact absurd z c2
            · exact absurd c3 z
    · skip
      refine ⟨?_, h _ ?_⟩
      · exact W.2.2.2.2.2.1 soPlanned _ (by decide) (tS.trans (by decide))  -- b9
      · refine and_5 ?_ (fun o9 => ?_)  -- q10
        · exact ⟨W.2.2.2.2.2.1 soPlanned _ (by decide) (tS.trans (by decide)), fun z => ⟨fun _ y => absurd c2 y, fun _ => z⟩⟩
        · refine ⟨fun z => Or.inr (Or.inl ⟨c2, z⟩), fun z => ?_⟩
          rcases z with ⟨z, _⟩ | ⟨_, z⟩ | ⟨_, z, _⟩
          · exact absurd z c1
          · exact z
          · exact absurd c2 z
  · skip
    refine ⟨?_, h _ ?_⟩
    · exact W.2.2.2.2.2.1 chPlayMade _ (by decide) (Ta0.trans (by decide))  -- b11
    · refine and_5 ?_ (fun o9 => ?_)  -- q12
      · exact ⟨W.2.2.2.2.2.1 chPlayMade _ (by decide) (Ta0.trans (by decide)), fun _ => ⟨fun y => absurd c1 y, fun y => by rw [y] at c1; exact absurd c1 (by decide)⟩⟩
      · refine ⟨fun z => Or.inl ⟨c1, z⟩, fun z => ?_⟩
        rcases z with ⟨_, z⟩ | ⟨z, _⟩ | ⟨z, _⟩
        · exact z
        · rw [z] at c1; exact absurd c1 (by decide)
        · exact absurd c1 z

end
section
set_option maxHeartbeats 1600000
/-! both sides' fractions are one -/
theorem mk_s16 {c : Rat} {f : Nat → Int} {T n : Nat} : smQ (fun d => c * mkRat (f d) T) n = c * mkRat (sI f n) T := by
  have a : smQ (fun d => c * mkRat (f d) T) n = smQ (fun d => ((f d : Int) : Rat) * (((T : Nat) : Rat)⁻¹ * c)) n := smQ_c (fun d _ => by
    rw [mk_d]
    grind)
  rw [a, smQ_mul, ← sI_cast, mk_d]
  grind
theorem sl_016 {σ : rS} {r o : Nat} (h : σ.2.2.1 r o ≤ 0) : slV σ r o = 0 := by
  have e : (σ.2.2.1 r o).toNatClampNeg = 0 := by
    rw [lei, t0i] at h
    show (σ.2.2.1 r o).toInt.toNat = 0
    omega
  unfold slV
  rw [e]
  rfl
theorem fV_16 {σ : rS} {k : Nat} {q : Rat} (h : vR15 σ k q) : fV σ k = q := by
  unfold fV
  rw [h.1, h.2.1, Int.natAbs_of_nonneg (Rat.num_nonneg.mpr h.2.2), Rat.mkRat_self]
theorem vt_16 {σ : rS} {k : Nat} {q : Rat} (h : vR15 σ k q) (o : σ.2.2.1 95 k ≠ 0 ↔ cnE σ k) (z : ¬ cnE σ k → q = 0) : vt16 σ k = q := by
  unfold vt16
  by_cases c : vsV σ k = 0
  · rw [if_pos c]
    unfold vsV at c
    by_cases c1 : σ.2.2.1 95 k = 0
    · exact (z (fun y => o.mpr y c1)).symm
    · rw [if_neg c1] at c
      by_cases c2 : σ.2.2.1 102 (34 * k) ≤ 0
      · have e := h.1
        rw [sl_016 c2] at e
        have n : q.num = 0 := by omega
        exact (Rat.num_eq_zero.mp n).symm
      · rw [if_neg c2] at c
        exact absurd c (by decide)
  · rw [if_neg c]
    exact fV_16 h
noncomputable def uS16 (σ : rS) (V : Nat → Rat) (sh : Nat → Int) (n : Nat) : Rat := smQ (fun k => V k * mkRat (uI16 σ sh k (leN σ k)) (tTI σ k).toNat) n
theorem tp_16 {κ : zS} {b n : Nat} {σ : rS} (h : tbl15 κ b n σ) {k : Nat} (hk : k < n) : 1 ≤ tTI σ k ∧ sI (fun d => twI σ k (loN σ k + d)) (leN σ k) = tTI σ k := by
  have B := tb_n15 h
  have ek : (Int32.ofNat k).toNatClampNeg = k := cl_5 (by omega)
  have ei : (Int32.ofNat k).toInt = (k : Int) := ofn_i (by omega)
  have a := tT_b h.1.1 (j := Int32.ofNat k) (by rw [lei, t0i, ei]; omega) (by rw [lti, ei]; omega)
  have s := tT_sum h.1.1 (j := Int32.ofNat k) (by rw [lei, t0i, ei]; omega) (by rw [lti, ei]; omega)
  rw [ek] at a s
  exact ⟨a.1, s⟩
theorem dv_16 {κ : zS} {b n : Nat} {σ : rS} (h : tbl15 κ b n σ) {k : Nat} (hk : k < n) : dvN9 κ b k = (tTI σ k).toNat := by
  have c := h.2.2.2.1 k hk
  have t := (tp_16 h hk).1
  have e : (dvA κ b k).toInt = tTI σ k := by
    unfold dvA tTI
    rw [c.1, c.2.1]
    split
    · rfl
    · rfl
  unfold dvN9
  rw [e]
  split
  · omega
  · rfl
theorem wq_16 {κ : zS} {a b n : Nat} {σ : rS} {V : Nat → Rat} {kind v : Int32} (h : tbl15 κ b n σ) (ea : zR κ soAtlas a = b) : wK16 κ a σ V kind v n = uS16 σ V (si16 σ kind v) n := smQ_c (fun k hk => by
  unfold un15 uV16
  rw [ea, dv_16 h hk]
  by_cases z : V k = 0
  · rw [z, Rat.zero_mul, Rat.zero_mul, Rat.zero_mul]
  · rw [if_neg z, mk_d, mk_d]
    have i1 : ((1 : Int) : Rat) = 1 := rfl
    rw [i1]
    grind)
theorem sw_16 {σ : rS} {n : Nat} {V : Nat → Rat} {how v b : Int32} (hv : ∀ k, k < n → vt16 σ k = V k) : swS σ how v b n = uS16 σ V (byI σ how v b) n := smQ_c (fun k hk => by
  have e := mk_s16 (c := vt16 σ k) (f := fun d => twI σ k (loN σ k + d) * byI σ how v b (loN σ k + d)) (T := (tTI σ k).toNat) (n := leN σ k)
  rw [hv k hk] at e
  refine Eq.trans ?_ e
  refine smQ_c (fun d _ => ?_)
  show vt16 σ k * _ = _
  rw [hv k hk])
theorem ib_16 {c : Prop} [Decidable c] {x : Int} : (if (if c then (1 : Int32) else 0) = 0 then (0 : Int) else x) = if c then x else 0 := by
  by_cases z : c
  · rw [if_pos z, if_pos z, if_neg (by decide)]
  · rw [if_neg z, if_neg z, if_pos rfl]
theorem mt_016 {σ : rS} {v : Int32} {i : Nat} : mtV σ 0 v i = if σ.2.2.1 77 i = 1 ∧ σ.2.2.1 75 (35 * σ.2.2.1 78 i).toNatClampNeg = v then 1 else 0 := if_pos rfl
theorem mt_116 {σ : rS} {v : Int32} {i : Nat} : mtV σ 1 v i = if σ.2.2.1 77 i = 2 ∧ σ.2.2.1 78 i = v then 1 else 0 := (if_neg (by decide)).trans (if_pos (by decide))
theorem mt_316 {σ : rS} {v : Int32} {i : Nat} : mtV σ 3 v i = if σ.2.2.1 77 i = 2 ∧ σ.2.2.1 78 i = v then 1 else 0 := (if_neg (by decide)).trans (if_pos (by decide))
theorem mt_216 {σ : rS} {v : Int32} {i : Nat} : mtV σ 2 v i = if σ.2.2.1 77 i = 1 ∧ σ.2.2.1 78 i = v then 1 else 0 := (if_neg (by decide)).trans ((if_neg (by decide)).trans (if_pos rfl))
theorem mt_416 {σ : rS} {v : Int32} {i : Nat} : mtV σ 4 v i = if σ.2.2.1 77 i = 3 then 1 else 0 := (if_neg (by decide)).trans ((if_neg (by decide)).trans ((if_neg (by decide)).trans (if_pos rfl)))
theorem mt_516 {σ : rS} {v : Int32} {i : Nat} : mtV σ 5 v i = if σ.2.2.1 77 i = 0 ∧ σ.2.2.1 95 (σ.2.2.1 78 i).toNatClampNeg = 0 then 1 else 0 := (if_neg (by decide)).trans ((if_neg (by decide)).trans ((if_neg (by decide)).trans ((if_neg (by decide)).trans (if_pos rfl))))
theorem mt_616 {σ : rS} {v : Int32} {i : Nat} : mtV σ 6 v i = if σ.2.2.1 77 i = 1 ∨ σ.2.2.1 77 i = 2 then 1 else 0 := (if_neg (by decide)).trans ((if_neg (by decide)).trans ((if_neg (by decide)).trans ((if_neg (by decide)).trans ((if_neg (by decide)).trans (if_pos rfl)))))
theorem mt_716 {σ : rS} {v : Int32} {i : Nat} : mtV σ 7 v i = if σ.2.2.1 77 i = 1 then 1 else 0 := (if_neg (by decide)).trans ((if_neg (by decide)).trans ((if_neg (by decide)).trans ((if_neg (by decide)).trans ((if_neg (by decide)).trans (if_neg (by decide))))))
theorem by_016 {σ : rS} {how v : Int32} {i : Nat} : byI σ how v 0 i = if mtV σ how v i = 0 then 0 else 1 := by
  unfold byI
  split
  · rfl
  · rw [if_pos rfl]
theorem si_b16 {σ : rS} {v : Int32} : si16 σ 0 v = byI σ 0 v 0 ∧ si16 σ 1 v = byI σ 1 v 0 ∧ si16 σ 2 v = byI σ 2 v 0 ∧ si16 σ 3 v = byI σ 3 v 0 ∧ si16 σ 4 v = byI σ 4 v 0 ∧ si16 σ 6 v = byI σ 6 v 0 ∧ si16 σ 7 v = byI σ 7 v 0 := by
  refine ⟨?_, ?_, ?_, ?_, ?_, ?_, ?_⟩
  · funext i; rw [by_016, mt_016, ib_16]; unfold si16; rw [sh_016]
  · funext i; rw [by_016, mt_116, ib_16]; unfold si16; rw [sh_116]
  · funext i; rw [by_016, mt_216, ib_16]; unfold si16; rw [sh_216]
  · funext i; rw [by_016, mt_316, ib_16]; unfold si16; rw [sh_316]
  · funext i; rw [by_016, mt_416, ib_16]; unfold si16; rw [sh_416]
  · funext i; rw [by_016, mt_616, ib_16]; unfold si16; rw [sh_616]
  · funext i; rw [by_016, mt_716, ib_16]; unfold si16; rw [sh_716]
theorem si_t16 {σ : rS} {v : Int32} : si16 σ 10 v = byI σ 7 0 1 := by
  funext i
  unfold byI
  rw [mt_716, ib_16, if_neg (by decide : ¬ (1 : Int32) = 0)]
  unfold si16
  rw [sh_e16 (Or.inr (by decide))]
theorem by_v16 {σ : rS} {v : Int32} : byI σ 6 v 0 = byI σ 6 0 0 ∧ byI σ 7 v 0 = byI σ 7 0 0 := by
  constructor
  · funext i; rw [by_016, by_016, mt_616, mt_616]
  · funext i; rw [by_016, by_016, mt_716, mt_716]
/-- LOST: what doesn't come to an end -/
theorem uI_a16 {σ : rS} {f g : Nat → Int} {k n : Nat} : uI16 σ (fun i => f i + g i) k n = uI16 σ f k n + uI16 σ g k n := by
  unfold uI16
  rw [← sI_ad]
  exact sI_c (fun d _ => by rw [Int.mul_add])
theorem mk_a16 {x y : Int} {T : Nat} : mkRat (x + y) T = mkRat x T + mkRat y T := by
  rw [mk_d, mk_d, mk_d, Rat.intCast_add]
  grind
def op16 (σ : rS) (i : Nat) : Int := if σ.2.2.1 77 i = 0 ∧ ¬ σ.2.2.1 95 (σ.2.2.1 78 i).toNatClampNeg = 0 then 1 else 0
theorem tr_16 {σ : rS} {v : Int32} (i : Nat) : si16 σ 5 v i + byI σ 5 v 0 i + op16 σ i = 1 := by
  rw [by_016, mt_516, ib_16]
  unfold si16 op16
  rw [sh_516]
  by_cases z : σ.2.2.1 77 i = 0
  · by_cases y : σ.2.2.1 95 (σ.2.2.1 78 i).toNatClampNeg = 0
    · rw [if_pos z, if_pos ⟨z, y⟩, if_neg (fun q => q.2 y)]; rfl
    · rw [if_pos z, if_neg (fun q => y q.2), if_pos ⟨z, y⟩]; rfl
  · rw [if_neg z, if_neg (fun q => z q.1), if_neg (fun q => z q.1)]; rfl
theorem us_116 {κ : zS} {b n : Nat} {σ : rS} {V : Nat → Rat} {v : Int32} (h : tbl15 κ b n σ) : uS16 σ V (si16 σ 5 v) n + uS16 σ V (byI σ 5 v 0) n + uS16 σ V (op16 σ) n = smQ V n := by
  unfold uS16
  rw [← smQ_add, ← smQ_add]
  refine smQ_c (fun k hk => ?_)
  have t := tp_16 h hk
  have e : uI16 σ (si16 σ 5 v) k (leN σ k) + uI16 σ (byI σ 5 v 0) k (leN σ k) + uI16 σ (op16 σ) k (leN σ k) = tTI σ k := by
    rw [← uI_a16, ← uI_a16, ← t.2]
    exact sI_c (fun d _ => by
      have q := tr_16 (σ := σ) (v := v) (loN σ k + d)
      show twI σ k (loN σ k + d) * (si16 σ 5 v (loN σ k + d) + byI σ 5 v 0 (loN σ k + d) + op16 σ (loN σ k + d)) = _
      rw [q, Int.mul_one])
  have m : mkRat (tTI σ k) (tTI σ k).toNat = 1 := by
    have c : (((tTI σ k).toNat : Nat) : Int) = tTI σ k := Int.toNat_of_nonneg (by omega)
    have p : (0 : Rat) < (((tTI σ k).toNat : Nat) : Rat) := nq0 (by omega)
    rw [mk_d]
    have c2 : ((tTI σ k : Int) : Rat) = (((tTI σ k).toNat : Nat) : Rat) := by rw [← Rat.intCast_natCast, c]
    rw [c2]
    exact Rat.mul_inv_cancel _ (by grind)
  rw [← Rat.mul_add, ← Rat.mul_add, ← mk_a16, ← mk_a16, e, m, Rat.mul_one]
theorem wp_16 {σ : rS} {k n : Nat} (nx : ∀ d, d < leN σ k → σ.2.2.1 77 (loN σ k + d) = 0 → 0 ≤ (σ.2.2.1 78 (loN σ k + d)).toInt ∧ (σ.2.2.1 78 (loN σ k + d)).toInt < (n : Int)) (hn : n ≤ 1000) : sI (fun j => if ¬ σ.2.2.1 95 j = 0 then wKI σ k (Int32.ofNat j) else 0) n = uI16 σ (op16 σ) k (leN σ k) := by
  have a : sI (fun j => if ¬ σ.2.2.1 95 j = 0 then wKI σ k (Int32.ofNat j) else 0) n = sI (fun j => sI (fun d => if ¬ σ.2.2.1 95 j = 0 then wcI σ k (Int32.ofNat j) (loN σ k + d) else 0) (leN σ k)) n := sI_c (fun j _ => by
    by_cases c : ¬ σ.2.2.1 95 j = 0
    · rw [if_pos c]
      exact sI_c (fun d _ => by rw [if_pos c])
    · rw [if_neg c]
      exact (sI_z.symm.trans (sI_c (fun d _ => by rw [if_neg c]))))
  rw [a, sI_cm]
  refine sI_c (fun d hd => ?_)
  unfold op16
  by_cases z : σ.2.2.1 77 (loN σ k + d) = 0
  · have y := nx d hd z
    have cc := cnk y.1
    have b : sI (fun j => if ¬ σ.2.2.1 95 j = 0 then wcI σ k (Int32.ofNat j) (loN σ k + d) else 0) n = sI (fun j => if j = (σ.2.2.1 78 (loN σ k + d)).toNatClampNeg then (if ¬ σ.2.2.1 95 (σ.2.2.1 78 (loN σ k + d)).toNatClampNeg = 0 then twI σ k (loN σ k + d) else 0) else 0) n := sI_c (fun j hj => by
      have oj : (Int32.ofNat j).toInt = (j : Int) := ofn_i (by omega)
      by_cases e : j = (σ.2.2.1 78 (loN σ k + d)).toNatClampNeg
      · have w : wcI σ k (Int32.ofNat j) (loN σ k + d) = twI σ k (loN σ k + d) := if_pos ⟨z, Int32.toInt_inj.mp (by rw [oj]; omega)⟩
        rw [if_pos e, ← e, w]
      · have w : wcI σ k (Int32.ofNat j) (loN σ k + d) = 0 := if_neg (fun q => e (by
          have w := congrArg Int32.toInt q.2
          rw [oj] at w
          omega))
        rw [if_neg e, w, ite_self])
    rw [b, sI_one, if_pos (by omega)]
    by_cases c : σ.2.2.1 95 (σ.2.2.1 78 (loN σ k + d)).toNatClampNeg = 0
    · rw [if_neg (fun q => q c), if_neg (fun q => q.2 c), Int.mul_zero]
    · rw [if_pos c, if_pos ⟨z, c⟩, Int.mul_one]
  · rw [if_neg (fun q => z q.1), Int.mul_zero]
    refine (sI_c (fun j _ => ?_)).trans sI_z
    have w : wcI σ k (Int32.ofNat j) (loN σ k + d) = 0 := if_neg (fun q => z q.1)
    rw [w, ite_self]
theorem nx_16 {κ : zS} {b n : Nat} {σ : rS} (h : tbl15 κ b n σ) {k : Nat} (hk : k < n) : ∀ d, d < leN σ k → σ.2.2.1 77 (loN σ k + d) = 0 → 0 ≤ (σ.2.2.1 78 (loN σ k + d)).toInt ∧ (σ.2.2.1 78 (loN σ k + d)).toInt < (n : Int) := fun d hd z => by
  have B := tb_n15 h
  have X := tb_k15 h hk
  obtain ⟨_, lo⟩ := lo_r8 h.1.1.1 (x := k) (by rw [← h.1.2.1]; exact hk)
  rw [lei] at lo
  have c0 := cnk X.1
  have c1 := cnk (x := σ.2.2.1 76 (k + 1)) (by omega)
  have c72 := cnk (x := σ.1 72) (by omega)
  have y := (h.1.1.1.2.2.2.2 (loN σ k + d) (by unfold leN loN at hd; unfold loN; omega)).2.1 z
  rw [lei, t0i] at y
  rw [lti] at y
  exact ⟨y.1, by omega⟩
theorem vs_116 {κ : zS} {b n : Nat} {σ : rS} {V : Nat → Rat} (h : tbl15 κ b n σ) (n0 : 0 < n) (o : ∀ k, k < n → (σ.2.2.1 95 k ≠ 0 ↔ cnE σ k)) (E : vE15 (pR15 σ n) n (cnE σ) V) : smQ V n = (if ¬ σ.2.2.1 95 0 = 0 then 1 else 0) + uS16 σ V (op16 σ) n := by
  have B := tb_n15 h
  have e1 : smQ V n = smQ (fun j => (if j = 0 then (if ¬ σ.2.2.1 95 0 = 0 then 1 else 0) else 0) + smQ (fun k => V k * (if ¬ σ.2.2.1 95 j = 0 then pR15 σ n k j else 0)) n) n := smQ_c (fun j hj => by
    by_cases c : σ.2.2.1 95 j = 0
    · have z := E.1 j hj (fun y => (o j hj).mpr y c)
      have s : smQ (fun k => V k * (if ¬ σ.2.2.1 95 j = 0 then pR15 σ n k j else 0)) n = 0 := smQ_0 (fun k _ => by rw [if_neg (fun q => q c), Rat.mul_zero])
      rw [z, s, Rat.add_zero]
      by_cases e : j = 0
      · rw [if_pos e, if_neg (fun q => q (by rw [← e]; exact c))]
      · rw [if_neg e]
    · have z := E.2.1 j hj ((o j hj).mp c)
      have s : smQ (fun k => V k * (if ¬ σ.2.2.1 95 j = 0 then pR15 σ n k j else 0)) n = smQ (fun k => V k * pR15 σ n k j) n := smQ_c (fun k _ => by rw [if_pos c])
      rw [s, z]
      congr 1
      by_cases e : j = 0
      · rw [if_pos e, if_pos e, if_pos (by rw [← e]; exact c)]
      · rw [if_neg e, if_neg e])
  rw [e1, smQ_add]
  congr 1
  · obtain ⟨m, em⟩ : ∃ m, n = m + 1 := ⟨n - 1, by omega⟩
    have r := rx_15 (f := fun _ => (if ¬ σ.2.2.1 95 0 = 0 then (1 : Rat) else 0)) (g := fun _ => 0) (s := n) (m := 1) (d := fun j => if j = 0 then (if ¬ σ.2.2.1 95 0 = 0 then 1 else 0) else 0) (fun _ _ => n0) (fun a b ha hb _ => by omega) (fun k _ ⟨r, _, e⟩ => if_pos e.symm) (fun k _ c => if_neg (fun e => c ⟨0, by omega, e.symm⟩))
    rw [← r]
    show (0 : Rat) + _ = _
    rw [Rat.zero_add]
  · rw [sQ_sw15]
    refine smQ_c (fun k hk => ?_)
    have a : smQ (fun j => V k * (if ¬ σ.2.2.1 95 j = 0 then pR15 σ n k j else 0)) n = smQ (fun j => V k * mkRat (if ¬ σ.2.2.1 95 j = 0 then wKI σ k (Int32.ofNat j) else 0) (tTI σ k).toNat) n := smQ_c (fun j hj => by
      by_cases c : ¬ σ.2.2.1 95 j = 0
      · rw [if_pos c, if_pos c, pR_v15 (by omega) hj]
      · have i0 : ((0 : Int) : Rat) = 0 := rfl
        rw [if_neg c, if_neg c, mk_d, i0, Rat.zero_mul])
    rw [a, mk_s16, wp_16 (nx_16 h hk) B.1]
theorem lost_16 {κ : zS} {b n : Nat} {σ : rS} {V : Nat → Rat} {v : Int32} (h : tbl15 κ b n σ) (n0 : 0 < n) (o : ∀ k, k < n → (σ.2.2.1 95 k ≠ 0 ↔ cnE σ k)) (E : vE15 (pR15 σ n) n (cnE σ) V) : 1 - uS16 σ V (si16 σ 5 v) n = uS16 σ V (byI σ 5 v 0) n + (if σ.2.2.1 95 0 = 0 then 1 else 0) := by
  have a := us_116 (V := V) (v := v) h
  have b := vs_116 h n0 o E
  by_cases c : σ.2.2.1 95 0 = 0
  · rw [if_pos c]
    rw [if_neg (fun q => q c)] at b
    grind
  · rw [if_neg c]
    rw [if_pos c] at b
    grind

end
section
set_option maxHeartbeats 1600000
/-! the odds of a play's draws, of both sides -/
/-- the drawn weights over their totals are what the reference keeps as its numbers 17 and 18 -/
def PR16 (w t : Nat → Int32) (dr : Int32) (σ : rS) : Prop := 0 ≤ dr.toInt ∧ (∀ m : Nat, (m : Int) < dr.toInt → 0 ≤ (w m).toInt ∧ 0 < (t m).toInt) ∧ nV σ 18 ≠ 0 ∧ pd16 w t dr.toNatClampNeg = fQ σ 17 18
theorem nV_r16 {σ τ : rS} {k : Nat} (h90 : τ.2.2.1 90 = σ.2.2.1 90) (h91 : τ.2.2.1 91 = σ.2.2.1 91) : nV τ k = nV σ k := by
  unfold nV nL
  rw [h90, h91]
theorem pr_k16 {w t : Nat → Int32} {dr : Int32} {σ τ : rS} (h : PR16 w t dr σ) (h90 : τ.2.2.1 90 = σ.2.2.1 90) (h91 : τ.2.2.1 91 = σ.2.2.1 91) : PR16 w t dr τ := by
  obtain ⟨a1, a2, a3, a4⟩ := h
  refine ⟨a1, a2, by rw [nV_r16 h90 h91]; exact a3, a4.trans ?_⟩
  unfold fQ
  rw [nV_r16 (k := 17) h90 h91, nV_r16 (k := 18) h90 h91]
theorem pd_c16 {w t w' t' : Nat → Int32} : ∀ {n : Nat}, (∀ m : Nat, m < n → w' m = w m ∧ t' m = t m) → pd16 w' t' n = pd16 w t n
  | 0, _ => rfl
  | n + 1, h => by
    show pd16 w' t' n * mkRat (w' n).toInt (t' n).toInt.toNat = pd16 w t n * mkRat (w n).toInt (t n).toInt.toNat
    rw [pd_c16 (n := n) (fun m hm => h m (by omega)), (h n (by omega)).1, (h n (by omega)).2]
theorem pr_w16 {w t w' t' : Nat → Int32} {dr : Int32} {σ : rS} (h : PR16 w t dr σ) (hw : ∀ m : Nat, (m : Int) < dr.toInt → w' m = w m ∧ t' m = t m) : PR16 w' t' dr σ := by
  obtain ⟨a1, a2, a3, a4⟩ := h
  have k := cnk a1
  refine ⟨a1, fun m hm => ?_, a3, ?_⟩
  · rw [(hw m hm).1, (hw m hm).2]
    exact a2 m hm
  · rw [pd_c16 (w := w) (t := t) (fun m hm => hw m (by omega))]
    exact a4
theorem pr_s16 {w t w' t' : Nat → Int32} {dr a b : Int32} {σ σ0 : rS} (h : PR16 w t dr σ0) (hw : ∀ m : Nat, (m : Int) < dr.toInt → w' m = w m ∧ t' m = t m) (e1 : nV σ 17 = nV σ0 17 * a.toInt.toNat) (e2 : nV σ 18 = nV σ0 18 * b.toInt.toNat) (a0 : 0 ≤ a.toInt) (b0 : 0 < b.toInt) (wd : w' dr.toNatClampNeg = a) (td : t' dr.toNatClampNeg = b) (lt : dr.toInt < 2147483647) : PR16 w' t' (dr + 1) σ := by
  obtain ⟨a1, a2, a3, a4⟩ := h
  have k := cnk a1
  have ix := cn1 (x := dr) a1 (by omega)
  refine ⟨by rw [ix.2]; omega, fun m hm => ?_, ?_, ?_⟩
  · rw [ix.2] at hm
    by_cases c : (m : Int) < dr.toInt
    · rw [(hw m c).1, (hw m c).2]
      exact a2 m c
    · have e : m = dr.toNatClampNeg := by omega
      rw [e, wd, td]
      exact ⟨a0, b0⟩
  · rw [e2]
    exact Nat.mul_ne_zero a3 (by omega)
  · rw [ix.1]
    show pd16 w' t' dr.toNatClampNeg * mkRat (w' dr.toNatClampNeg).toInt (t' dr.toNatClampNeg).toInt.toNat = _
    rw [pd_c16 (w := w) (t := t) (fun m hm => hw m (by omega)), a4, wd, td]
    unfold fQ
    rw [e1, e2, Rat.mkRat_mul_mkRat]
    have ea : ((nV σ0 17 * a.toInt.toNat : Nat) : Int) = (nV σ0 17 : Int) * a.toInt := by
      rw [Int.natCast_mul, Int.toNat_of_nonneg a0]
    rw [ea]
def MP16 (wt tt : Nat → Int32) (nv w s : Nat) (cu : E5) (σ9 : rS) (e : E5) (x : Int64) (n dr : Int32) (r : Int32) (p : rS × Int32) : Prop := ∃ σ1 d, 0 < d ∧ (CE6 nv s w e σ1 ∧ CU21 cu e) ∧ AW6 nv w d e σ1 r ∧ e.1 714 = 0 ∧ MT6 nv w s d e σ1 ∧ acQ r σ1 ∧ KT21 σ9 σ1 ∧ (σ1.1 108 = n ∧ σ1.1 109 = dr ∧ (σ9.1 113 ≠ 0 → σ1.2.1 112 = x)) ∧ (r = 4 → DS21 (ac21 σ1 r) p.1 p.2) ∧ (r = 5 → CS21 (ac21 σ1 r) p.1 p.2) ∧ (σ9.1 69 ≠ 0 → WB21 σ9 e σ1 d) ∧ PR16 wt tt dr σ1
section
variable {nv s w k N : Nat} {cu e e' : E5} {σ9 : rS} {a n dr v : Int32} {x gn : Int64} {tr : Nat → rS × Int32} {p : rS × Int32} {wt tt : Nat → Int32}
theorem ia_16 (F : TRF21 a σ9 N tr v) (kN : k ≤ N) (A : AL21 nv w s cu σ9 e x n dr gn (tr k)) (PR : PR16 wt tt dr (tr k).1) (h0 : e.1 711 = 0) (na : n ≠ a) (z : f5_Ma_act e = .inl (e', ())) (n1 : (σ9.1 70).toNatClampNeg ≤ 1000) (TW : σ9.1 69 ≠ 0 → TW21 nv s w cu σ9) : (e'.1 715 = -1 → PR16 wt tt dr (tr (k + 1)).1) ∧ (e'.1 715 = 3 → MP16 wt tt nv w s cu σ9 e' x n dr 4 (tr (k + 1))) ∧ (e'.1 715 = 4 → MP16 wt tt nv w s cu σ9 e' x n dr 5 (tr (k + 1))) := by
  obtain ⟨P, ⟨b1, b2, b3, b4⟩, K⟩ := A
  have t0 : (tr k).2 = 0 := P.2.1.symm.trans h0
  obtain ⟨kN1, σs, rs, s1, s2, s3, s4⟩ := it_21 F kN t0 b1 na
  rw [t0] at P
  obtain ⟨e2, σ1, r, d, u1, u2, ⟨C, U⟩, KF, u714, ⟨d0, M⟩, u5⟩ := pa_21 P
  have ee : e2 = e' := congrArg Prod.fst (Sum.inl.inj (u1.symm.trans z))
  have es : σs = σ1 := congrArg Prod.fst (s1.symm.trans u2)
  have er : rs = r := congrArg Prod.snd (s1.symm.trans u2)
  rw [ee] at C U u714 u5
  rw [es, er] at s2 s4
  rw [es] at s3
  have K1 : KT21 σ9 σ1 := kt_f21 K (fun g q => KF.1 g (by omega)) (fun g q => KF.2.1 g (by omega))
  have f108 : σ1.1 108 = n := (KF.1 108 (by omega)).trans b1
  have f109 : σ1.1 109 = dr := (KF.1 109 (by omega)).trans b2
  have f112 : σ9.1 113 ≠ 0 → σ1.2.1 112 = x := fun q => (s3 112).trans (b4 q)
  have PR1 : PR16 wt tt dr σ1 := pr_k16 PR (KF.2.1 90 (by omega)) (KF.2.1 91 (by omega))
  rcases u5 with ⟨q1, ⟨q2, q3⟩, q4⟩ | ⟨q1, q2, q3, q4, q5⟩
  · refine ⟨fun _ => ?_, fun c => ?_, fun c => ?_⟩
    · obtain ⟨y1, y2⟩ : (tr (k + 1)).1 = ac21 σ1 r ∧ (tr (k + 1)).2 = r := by
        rcases s4 with ⟨y, _⟩ | ⟨y, _⟩ | ⟨_, _, y⟩
        · exact absurd y q2
        · exact absurd y q3
        · exact y
      rw [y1]
      exact pr_k16 PR1 rfl rfl
    · rw [q1] at c; exact absurd c (by decide)
    · rw [q1] at c; exact absurd c (by decide)
  · have key : key6 d σ1 = key6 d (tr k).1 := key_o6 (q5.2.2 57 (by omega)) (q5.2.2 59 (by omega)) (q5.2.2 60 (by omega))
    have WB : σ9.1 69 ≠ 0 → WB21 σ9 e' σ1 d := fun y j hj hq h81 => by
      rw [key] at hq
      refine wb_21 P.1.1 P.1.2 h0 d0 M (TW y) n1 hj h81 (K.2 73 (by omega)) (fun i hi => ?_) z
      rw [← KF.2.1 73 (by omega)]
      exact hq i hi
    rcases q2.1 with ⟨y, y2⟩ | ⟨y, y2⟩
    · rw [y] at q2 s2 s4
      refine ⟨fun c => ?_, fun _ => ⟨σ1, d, d0, ⟨C, U⟩, q2, q3, q4, s2, K1, ⟨f108, f109, f112⟩, fun _ => ?_, fun c => absurd c (by decide), WB, PR1⟩, fun c => ?_⟩
      · rw [y2] at c; exact absurd c (by decide)
      · rcases s4 with ⟨_, c⟩ | ⟨c, _⟩ | ⟨c, _⟩
        · exact c
        · exact absurd c (by decide)
        · exact absurd rfl c
      · rw [y2] at c; exact absurd c (by decide)
    · rw [y] at q2 s2 s4
      refine ⟨fun c => ?_, fun c => ?_, fun _ => ⟨σ1, d, d0, ⟨C, U⟩, q2, q3, q4, s2, K1, ⟨f108, f109, f112⟩, fun c => absurd c (by decide), fun _ => ?_, WB, PR1⟩⟩
      · rw [y2] at c; exact absurd c (by decide)
      · rw [y2] at c; exact absurd c (by decide)
      · rcases s4 with ⟨c, _⟩ | ⟨_, c⟩ | ⟨_, c, _⟩
        · exact absurd c (by decide)
        · exact c.1
        · exact absurd rfl c
/-- a draw of both sides -/
theorem id_16 {y : Int32} (M : MP16 wt tt nv w s cu σ9 e x n dr 4 p) (H : HW21 σ9 e x dr y) : (0 ≤ y.toInt ∧ y.toInt < (e.1 716).toInt → ∃ σ0, PR16 wt tt dr σ0 ∧ nV p.1 17 = nV σ0 17 * (e.2.1 719 y.toNatClampNeg).toInt.toNat ∧ nV p.1 18 = nV σ0 18 * (e.1 717).toInt.toNat ∧ 0 ≤ (e.2.1 719 y.toNatClampNeg).toInt ∧ 0 < (e.1 717).toInt) ∧ (¬ (0 ≤ y.toInt ∧ y.toInt < (e.1 716).toInt) → PR16 wt tt dr p.1) := by
  obtain ⟨σ1, d, d0, ⟨C, U⟩, AW, q714, MT, acq, K, ⟨f1, f2, f4⟩, h4, _, _, PR1⟩ := M
  obtain ⟨σ2, i, dw, ds⟩ := h4 rfl
  obtain ⟨nw, nw1, nw2, nw3, nw4⟩ := AW.2.2.2.2.1
  have nwi : (e.1 716).toInt = (nw : Int) := by rw [nw2, ofn_i (by omega)]
  have oW1 : oW σ1 := by
    rcases acq with ⟨q, _⟩ | q | q | q | ⟨_, _, _, q⟩ | ⟨q, _⟩
    · exact absurd q (by decide)
    · exact absurd q (by decide)
    · exact absurd q (by decide)
    · exact absurd q (by decide)
    · exact q
    · exact absurd q (by decide)
  have c63 : (σ1.1 63).toNatClampNeg = nw := by rw [nw3]; exact cl_5 (by omega)
  have a63 : (ac21 σ1 4).1 63 = Int32.ofNat nw := ((qw_a21 (r := 4)).1 63 (by decide) (by decide)).trans nw3
  have a66 : (ac21 σ1 4).1 66 = e.1 717 := ((qw_a21 (r := 4)).1 66 (by decide) (by decide)).trans AW.2.2.2.1.symm
  have a109 : (ac21 σ1 4).1 109 = dr := by
    show (siU σ1 108 (σ1.1 108 + 1)).1 109 = _
    rw [si1, if_neg (by decide), f2]
  have a113 : (ac21 σ1 4).1 113 = σ9.1 113 := ((qw_a21 (r := 4)).1 113 (by decide) (by decide)).trans (K.1 113 (by omega))
  have a104 : (ac21 σ1 4).1 104 = σ9.1 104 := ((qw_a21 (r := 4)).1 104 (by decide) (by decide)).trans (K.1 104 (by omega))
  have td : td21 (ac21 σ1 4) = σ9.2.2.1 105 dr.toNatClampNeg := by
    unfold td21
    rw [a109]
    show σ1.2.2.1 105 _ = _
    rw [K.2 105 (by omega)]
  have same : (σ2.1 = (ac21 σ1 4).1 ∧ σ2.2.2 = (ac21 σ1 4).2.2) ∧ ((0 ≤ y.toInt ∧ y.toInt < (nw : Int) ∧ i = y) ∨ (¬ (0 ≤ y.toInt ∧ y.toInt < (nw : Int)) ∧ i = -2)) := by
    rcases dw with ⟨q1, q2, q3, q4⟩ | ⟨q1, q2, q3⟩
    · rw [a113] at q1
      obtain ⟨h1, h2⟩ := H.1 q1
      have x1 : (ac21 σ1 4).2.1 112 = x := f4 q1
      rw [x1] at q2 q4
      rw [a63, cl_5 (by omega), a66] at q4
      rw [nwi, Int.toNat_natCast] at h2
      have h3 : fw21 (σ1.2.2.1 65) nw (sh21 (sd21 x) % (e.1 717).toInt) y.toNatClampNeg := fw_e21 (fun k hk => (nw4 k hk).2) h2
      have eq := fw_u21 (fun k hk => by have z := (oW1.2.2.1 k (by rw [c63]; exact hk)).1; rw [lei, t0i] at z; exact z) q4 h3
      rw [lei, t0i] at q3 h1
      have k1 := cnk q3
      have k2 := cnk h1
      have yb := h3.1
      refine ⟨⟨by rw [q2]; rfl, by rw [q2]; rfl⟩, Or.inl ⟨h1, by omega, Int32.toInt_inj.mp (by omega)⟩⟩
    · rw [a113] at q1
      obtain ⟨h1, h2⟩ := H.2 q1
      rw [a109, a104, td, ← h2, a63] at q3
      have bnd : (0 ≤ y ∧ y < Int32.ofNat nw) ↔ (0 ≤ y.toInt ∧ y.toInt < (nw : Int)) := by
        rw [lei, lti, t0i, ofn_i (by omega)]
      refine ⟨⟨by rw [q2], by rw [q2]⟩, ?_⟩
      rcases q3 with ⟨c, _⟩ | ⟨_, ⟨c1, c2, c3⟩ | ⟨c1, c2⟩⟩
      · exact absurd c h1
      · obtain ⟨z1, z2⟩ := bnd.mp ⟨c1, c2⟩
        exact Or.inl ⟨z1, z2, c3⟩
      · exact Or.inr ⟨fun z => c1 (bnd.mpr z), c2⟩
  obtain ⟨⟨s1, s2⟩, s5⟩ := same
  have QW2 : QW21 σ1 σ2 := ⟨fun j j1 j2 => by rw [s1]; exact (qw_a21 (r := 4)).1 j j1 j2, fun j _ _ _ => by rw [s2]; rfl, by rw [s2]; rfl⟩
  refine ⟨fun hy => ?_, fun hn => ?_⟩
  · rw [nwi] at hy
    obtain ⟨y0, y1, iy⟩ : 0 ≤ y.toInt ∧ y.toInt < (nw : Int) ∧ i = y := s5.resolve_right (fun c => c.1 hy)
    have n1 : i ≠ -1 := fun c => by
      rw [iy] at c
      rw [c] at y0
      exact absurd y0 (by decide)
    have n2 : i ≠ -2 := fun c => by
      rw [iy] at c
      rw [c] at y0
      exact absurd y0 (by decide)
    obtain ⟨σ3, nu, g17, g18, g, gl⟩ : ∃ σ3, nu21 (siU σ2 109 (σ2.1 109 + 1)) σ3 ∧ nV σ3 17 = nV (ac21 σ1 4) 17 * ((ac21 σ1 4).2.2.1 65 i.toNatClampNeg).toInt.toNat ∧ nV σ3 18 = nV (ac21 σ1 4) 18 * ((ac21 σ1 4).1 66).toInt.toNat ∧ g5_get i σ3 = (p.1, p.2) ∧ ∀ k, p.1.2.1 k = σ3.2.1 k := by
      rcases ds with ⟨c, _⟩ | ⟨c, _⟩ | ⟨_, _, c⟩
      · exact absurd c n1
      · exact absurd c n2
      · exact c
    have ei : y = Int32.ofNat y.toInt.toNat := Int32.toInt_inj.mp (by rw [ofn_i (by omega)]; omega)
    have Q3 : QW21 σ1 σ3 := ⟨fun j j1 j2 => by rw [nu.1, si1, if_neg j2]; exact QW2.1 j j1 j2, fun j j1 j2 j3 => by rw [nu.2.2.1 j j2 j3]; exact QW2.2.1 j j1 j2 j3, nu.2.2.2.trans QW2.2.2⟩
    obtain ⟨e2, σ4, r2, u1, u2, u3, u4, u5, u6, u7⟩ := ps_21 (i := y.toInt.toNat) C U d0 AW MT Q3 (by rw [nwi]; omega)
    rw [iy, ei] at g
    have e1 : σ4 = p.1 := congrArg Prod.fst (u2.symm.trans g)
    rw [e1] at u6
    have yk := cnk y0
    have n3 : ∀ k, nV p.1 k = nV σ3 k := fun k => nV_r16 (u6 90 (by decide) (by decide) (by decide)) (u6 91 (by decide) (by decide) (by decide))
    have n4 : ∀ k, nV (ac21 σ1 4) k = nV σ1 k := fun k => nV_r16 rfl rfl
    have w65 : (ac21 σ1 4).2.2.1 65 i.toNatClampNeg = e.2.1 719 y.toNatClampNeg := by
      rw [iy, (nw4 y.toNatClampNeg (by omega)).2]
      rfl
    obtain ⟨_, _, o3, _, o5, _⟩ := oW1
    refine ⟨σ1, PR1, ?_, ?_, ?_, ?_⟩
    · rw [n3, g17, n4, w65]
    · rw [n3, g18, n4, a66]
    · have z := (o3 y.toNatClampNeg (by rw [c63]; omega)).1
      rw [lei, t0i, ← (nw4 y.toNatClampNeg (by omega)).2] at z
      exact z
    · rw [lti, t0i, ← AW.2.2.2.1] at o5
      exact o5
  · rw [nwi] at hn
    have i2 : i = -2 := (s5.resolve_left (fun c => hn ⟨c.1, c.2.1⟩)).2
    have g : g5_fail 6 σ2 = (p.1, p.2) := by
      rcases ds with ⟨c, _⟩ | ⟨_, c⟩ | ⟨_, c, _⟩
      · rw [i2] at c; exact absurd c (by decide)
      · exact c
      · exact absurd i2 c
    have gf : g5_fail 6 σ2 = (siU σ2 61 6, 2) := rfl
    have e1 : p.1 = siU σ2 61 6 := (congrArg Prod.fst (gf.symm.trans g)).symm
    rw [e1]
    refine pr_k16 PR1 ?_ ?_
    · show σ2.2.2.1 90 = _
      rw [s2]; rfl
    · show σ2.2.2.1 91 = _
      rw [s2]; rfl
/-- no draw is told any more -/
theorem ie_16 (F : TRF21 a σ9 N tr v) (kN : k + 1 ≤ N) (M : MP16 wt tt nv w s cu σ9 e x n dr 4 (tr (k + 1))) (h3 : σ9.1 113 = 0) (hd : dr = σ9.1 104) : PR16 wt tt dr (tr N).1 := by
  obtain ⟨σ1, d, d0, ⟨C, U⟩, AW, q714, MT, acq, K, ⟨f1, f2, f4⟩, h4, _, _, PR1⟩ := M
  obtain ⟨σ2, i, dw, ds⟩ := h4 rfl
  have a109 : (ac21 σ1 4).1 109 = dr := by
    show (siU σ1 108 (σ1.1 108 + 1)).1 109 = _
    rw [si1, if_neg (by decide), f2]
  have a113 : (ac21 σ1 4).1 113 = σ9.1 113 := ((qw_a21 (r := 4)).1 113 (by decide) (by decide)).trans (K.1 113 (by omega))
  have a104 : (ac21 σ1 4).1 104 = σ9.1 104 := ((qw_a21 (r := 4)).1 104 (by decide) (by decide)).trans (K.1 104 (by omega))
  obtain ⟨q2, qi⟩ : σ2 = ac21 σ1 4 ∧ i = -1 := by
    rcases dw with ⟨q1, _⟩ | ⟨_, q2, q3⟩
    · rw [a113] at q1; exact absurd h3 q1
    · rw [a109, a104] at q3
      rcases q3 with ⟨_, c⟩ | ⟨c, _⟩
      · exact ⟨q2, c⟩
      · exact absurd hd c
  obtain ⟨p1, p2⟩ : (tr (k + 1)).1 = siU σ2 108 (σ2.1 108 - 1) ∧ (tr (k + 1)).2 = 5 := by
    rcases ds with ⟨_, c⟩ | ⟨c, _⟩ | ⟨c, _⟩
    · exact c
    · rw [qi] at c; exact absurd c (by decide)
    · exact absurd qi c
  obtain ⟨⟨σ0, r0, _, _, t1⟩, fi⟩ := F
  have eN : k + 1 = N := by
    by_cases c : k + 1 = N
    · exact c
    · have y := (t1 (k + 1) (by omega)).1
      rw [p2] at y
      exact absurd y (by decide)
  rw [← eN, p1, q2]
  exact pr_k16 PR1 rfl rfl
/-- a play ends -/
theorem iz_16 (F : TRF21 a σ9 N tr v) (kN : k ≤ N) (A : AL21 nv w s cu σ9 e x n dr gn (tr k)) (PR : PR16 wt tt dr (tr k).1) (h : ¬ e.1 711 = 0 ∨ n = a) : PR16 wt tt dr (tr N).1 := by
  obtain ⟨P, ⟨b1, b2, b3, _⟩, K⟩ := A
  obtain ⟨⟨σ0, r0, _, _, t1⟩, fi⟩ := F
  obtain ⟨_, p2, p3, p4⟩ := P
  have eN : k = N := by
    by_cases c : k = N
    · exact c
    · have y := t1 k (by omega)
      rcases h with h | h
      · exact absurd (p2.trans y.1) h
      · exact absurd (b1.trans h) y.2.1
  rw [← eN]
  exact PR
end
section
variable {nv s w t m : Nat} {cu e e' : E5} {κ : zS} {σ9 : rS} {a n dr v : Int32} {x gn : Int64} {p : rS × Int32} {wt tt : Nat → Int32}
/-- a choice of both sides -/
theorem ic_16 (M : MP16 wt tt nv w s cu σ9 (am6 κ m) x n dr 5 p) (E : EX21 κ t w s σ9) (V : CV21 κ t m v) (z : f5_Ma_settle v (am6 κ m) = .inl (e', ())) : PR16 wt tt dr p.1 := by
  obtain ⟨σ1, d, d0, ⟨C, U⟩, AW, q714, MT, acq, K, ⟨f1, f2, f4⟩, _, h5, WB, PR1⟩ := M
  obtain ⟨τ, k, cj, g⟩ := h5 rfl
  have s62 : σ1.1 62 = 0 := AW.2.2.1.symm.trans q714
  obtain ⟨nw, nw1, nw2, nw3, _⟩ := AW.2.2.2.2.1
  have nwi : ((am6 κ m).1 716).toInt = (nw : Int) := by rw [nw2, ofn_i (by omega)]
  have nw0 : 1 ≤ nw := by
    rcases acq with ⟨q, _⟩ | q | q | q | ⟨q, _⟩ | ⟨_, _, _, q, _⟩
    · exact absurd q (by decide)
    · exact absurd q (by decide)
    · exact absurd q (by decide)
    · exact absurd q (by decide)
    · exact absurd q (by decide)
    · rw [nw3, lei, ofn_i (by omega), t1i] at q
      omega
  have mw : zI κ maWays m = Int32.ofNat nw := (am_i6 (f := 716) (by decide)).symm.trans nw2
  have fin : ∀ i : Nat, i < nw → v = Int32.ofNat i → g5_get (Int32.ofNat i) τ = (p.1, p.2) → (τ.1 = (ac21 σ1 5).1 ∧ (∀ j, j ≠ 84 → τ.2.2.1 j = σ1.2.2.1 j) ∧ τ.2.2.2 = σ1.2.2.2) → PR16 wt tt dr p.1 := fun i hi ev g Q => by
    have QW : QW21 σ1 τ := ⟨fun j j1 j2 => by rw [Q.1]; exact (qw_a21 (r := 5)).1 j j1 j2, fun j j1 _ _ => Q.2.1 j j1, Q.2.2⟩
    obtain ⟨e2, σ2, r2, u1, u2, u3, u4, u5, u6, u7⟩ := ps_21 (i := i) C U d0 AW MT QW (by rw [nwi]; omega)
    rw [ev, u1] at z
    have ee : e2 = e' := congrArg Prod.fst (Sum.inl.inj z)
    have e1 : σ2 = p.1 := congrArg Prod.fst (u2.symm.trans g)
    rw [e1] at u6
    exact pr_k16 PR1 ((u6 90 (by decide) (by decide) (by decide)).trans (Q.2.1 90 (by decide))) ((u6 91 (by decide) (by decide) (by decide)).trans (Q.2.1 91 (by decide)))
  by_cases ex : σ9.1 69 = 0
  · have cv := V.1 (E.1.mpr ex)
    rcases cj with ⟨_, c2, c3⟩ | ⟨c1, _⟩
    · rw [c3, if_pos rfl] at g
      exact fin 0 (by omega) cv g (by rw [c2]; exact ⟨rfl, fun _ _ => rfl, rfl⟩)
    · exact absurd ((K.1 69 (by omega)).trans ex) c1
  · obtain ⟨n0, S, e70, HT, PL, PB⟩ := E.2 ex
    obtain ⟨k', FD, cv⟩ := V.2 (fun y => ex (E.1.mp y))
    have n1000 : n0 ≤ 1000 := S.2.2.1
    have K30 := K.2 30 (by omega)
    have K73 := K.2 73 (by omega)
    have K74 := K.2 74 (by omega)
    have K83 := K.2 83 (by omega)
    have MB := MT.1
    have KS := KS_m6 MT.1 d0 MT.2
    have hL : zI κ maShared m + zI κ maOpen m * 9 = Int32.ofNat (w + 9 * d) := by
      rw [show zI κ maShared m = Int32.ofNat w from (am_i6 (f := 702) (by decide)).symm.trans MB.1.1, show zI κ maOpen m = Int32.ofNat d from (am_i6 (f := 703) (by decide)).symm.trans MB.2.1.1]
      exact ln_21 MB.1.2.2.1 MB.2.1.2.2.1
    rw [hL, ← (am_rw6 (κ := κ) (m := m) (f := 701) (by decide)).1] at FD
    have S' : SH6 κ (zR κ atStates t) w s n0 (ac21 σ1 5) := SH_h6 HS_r6 S K30 K73
    have HT' : HT6 n0 (ac21 σ1 5) := fun j hj => by
      show σ1.2.2.1 74 j = hh6 (fun i => σ1.2.2.1 73 (143 * j + i)) 143
      rw [K73, K74]
      exact HT j hj
    obtain ⟨τ', y1, y2, y3⟩ := fnd_21 (σ := ac21 σ1 5) S' (show KS6 w s d ((ac21 σ1 5).2.2.1 30) ((am6 κ m).2.1 701) (key6 d (ac21 σ1 5)) by rw [show key6 d (ac21 σ1 5) = key6 d σ1 from key_o6 rfl rfl rfl]; exact KS) (by rw [(qw_a21 (r := 5)).1 58 (by decide) (by decide)]; exact MB.2.1.2.1) (by rw [(qw_a21 (r := 5)).1 70 (by decide) (by decide), K.1 70 (by omega)]; exact e70) HT' FD
    rcases cj with ⟨c1, _⟩ | ⟨_, c2⟩
    · exact absurd (by rw [(qw_a21 (r := 5)).1 69 (by decide) (by decide), K.1 69 (by omega)] at c1; exact c1) ex
    · have et : τ = τ' := congrArg Prod.fst (c2.symm.trans y1)
      have ek : k = k' := congrArg Prod.snd (c2.symm.trans y1)
      rw [← ek] at cv y3
      have Q : τ.1 = (ac21 σ1 5).1 ∧ (∀ j, j ≠ 84 → τ.2.2.1 j = σ1.2.2.1 j) ∧ τ.2.2.2 = σ1.2.2.2 := by
        rw [et]
        exact ⟨y2.1, fun j hj => y2.2.2.1 j hj, y2.2.2.2⟩
      by_cases km : k = -1
      · rw [if_pos km] at g cv
        exact fin 0 (by omega) cv g Q
      · rw [if_neg km] at g cv
        obtain ⟨gi, q1, q2, q3⟩ := y3.resolve_left km
        have cg : k.toNatClampNeg = gi := by rw [q1]; exact cl_5 (by omega)
        have g83 : (ac21 σ1 5).2.2.1 83 k.toNatClampNeg = σ9.2.2.1 83 gi := by
          rw [cg]
          show σ1.2.2.1 83 gi = _
          rw [K83]
        rw [g83] at g
        rw [cg, PL gi q2, mw] at cv
        have n70 : (σ9.1 70).toNatClampNeg = n0 := by rw [e70]; exact cl_5 (by omega)
        obtain ⟨pb1, pb2⟩ := PB gi (by rw [n70]; exact q2)
        by_cases c81 : σ9.2.2.1 81 gi = 0
        · have z83 := pb1 c81
          rw [z83] at g cv
          have cv0 : v = 0 := by
            rw [cv]
            by_cases y : Int32.ofNat nw ≤ 0
            · rw [if_pos y]
            · rw [if_neg y]
          exact fin 0 (by omega) cv0 g Q
        · obtain ⟨b1, b2⟩ := pb2 c81
          have wb := WB ex gi (by rw [n70]; exact q2) (fun i hi => q3 i hi) c81
          rw [nwi] at wb
          have cv1 : v = σ9.2.2.1 83 gi := by
            rw [cv, if_neg (by rw [lei, ofn_i (by omega)]; omega)]
          have ei : σ9.2.2.1 83 gi = Int32.ofNat (σ9.2.2.1 83 gi).toInt.toNat := Int32.toInt_inj.mp (by rw [ofn_i (by omega)]; omega)
          rw [ei] at g
          exact fin (σ9.2.2.1 83 gi).toInt.toNat (by omega) (cv1.trans ei) g Q
/-- a play begins -/
theorem jb_16 {N : Nat} {tr : Nat → rS × Int32} {e0 e1 : E5} (R : CR6 nv s w e0 σ9) (U : CU21 cu e0) (B : BG6 e0 e1) (z : f5_Ma_proceed e1 = .inl (e, ())) (hx : σ9.1 113 ≠ 0 → σ9.2.1 112 = x) (F : TRF21 a σ9 N tr v) : PR16 wt tt 0 (tr 0).1 := by
  obtain ⟨⟨σ0, r0, ⟨σi, nu, n17, n18, gb, gl⟩, t0, _⟩, _⟩ := F
  obtain ⟨T, X, Bk, N', Z, na, f, ⟨h1, h2⟩, h3, h4, h5, ⟨h6, h7, h8⟩, h9, h10, h11⟩ := R
  have fi : ∀ g, g ≠ 0 → g ≠ 108 → g ≠ 109 → σi.1 g = σ9.1 g := fun g g0 g1 g2 => by
    rw [nu.1]
    show (siU (siU (siU σ9 0 0) 108 0) 109 0).1 g = _
    rw [si1, if_neg g2, si1, if_neg g1, si1, if_neg g0]
  have ri : ∀ g, g ≠ 90 → g ≠ 91 → σi.2.2.1 g = σ9.2.2.1 g := fun g g1 g2 => nu.2.2.1 g g1 g2
  have li : σi.2.2.2 = σ9.2.2.2 := nu.2.2.2
  have Fi : FN6 T Bk N' nv na f s e0 (siU σi 11 0) := FN_v6 h3 ⟨⟨fun _ _ => rfl, fun _ _ => rfl, rfl⟩, fun g q => by
    rw [si1, si1]
    by_cases c : g = 11
    · rw [if_pos c, if_pos c]
    · rw [if_neg c, if_neg c]; exact fi g (by omega) (by omega) (by omega), fun g q => ri g (by omega) (by omega), li⟩
  obtain ⟨e', σ', r, u1, u2, u3, u4, ⟨u5, u6, u7, u8⟩, u9, u10, u11⟩ := bgn_6 h1.1.2.2.2 h1.1.2.2.1 Fi h8 h7 h11 B
  have ee : e' = e := congrArg Prod.fst (Sum.inl.inj (u1.symm.trans z))
  have es : σ' = σ0 := congrArg Prod.fst (u2.symm.trans gb)
  have er : r = r0 := congrArg Prod.snd (u2.symm.trans gb)
  rw [ee] at u3 u5 u6 u7 u8
  rw [es, er] at u3
  rw [es] at u4 u9 u10 u11
  rw [er] at u4
  rw [t0]
  refine ⟨by decide, fun m hm => absurd hm (by rw [t0i]; omega), ?_, ?_⟩
  · rw [nV_r16 (k := 18) (u10 90 (by omega) (by omega) (by omega)) (u10 91 (by omega) (by omega) (by omega)), n18]
    decide
  · unfold fQ
    rw [nV_r16 (k := 17) (u10 90 (by omega) (by omega) (by omega)) (u10 91 (by omega) (by omega) (by omega)), nV_r16 (k := 18) (u10 90 (by omega) (by omega) (by omega)) (u10 91 (by omega) (by omega) (by omega)), n17, n18]
    have e0 : (0 : Int32).toNatClampNeg = 0 := rfl
    rw [e0]
    show (1 : Rat) = mkRat 1 1
    decide
end

end
section
set_option maxHeartbeats 1600000
set_option maxHeartbeats 3200000
/-! the class: plays, with the odds of what was drawn -/
def DD16 (κ κ' : zS) (a : Nat) (y d v : Int32) : Prop := (v = 1 → (∀ m : Nat, (m : Int) < d.toInt → dW16 κ' a m = dW16 κ a m ∧ dT16 κ' a m = dT16 κ a m) ∧ dW16 κ' a d.toNatClampNeg = (am6 κ (zR κ chMachine a)).2.1 719 y.toNatClampNeg ∧ dT16 κ' a d.toNatClampNeg = (am6 κ (zR κ chMachine a)).1 717 ∧ d.toInt + 1 ≤ (zN κ' (zR κ' chDrawnWeights a) : Int)) ∧ (v = 0 → dW16 κ' a = dW16 κ a ∧ dT16 κ' a = dT16 κ a ∧ zN κ' (zR κ' chDrawnWeights a) = zN κ (zR κ chDrawnWeights a))
theorem dr_o16 {C : zC} {n0 a : Nat} {κ κ' : zS} (W : zW C n0 κ) (T : zT κ a = 15) {F : Nat → Nat → Prop} (Z : zF F κ κ') (n1 : ¬ F chDrawnWeights a) (n2 : ¬ F chDrawnTotals a) : dW16 κ' a = dW16 κ a ∧ dT16 κ' a = dT16 κ a ∧ zN κ' (zR κ' chDrawnWeights a) = zN κ (zR κ chDrawnWeights a) := by
  refine ⟨?_, ?_, ?_⟩
  · unfold dW16
    rw [(Z.row W (show zr chDrawnWeights = some 20 by decide +kernel) (by decide) T n1).1]
  · unfold dT16
    rw [(Z.row W (show zr chDrawnTotals = some 20 by decide +kernel) (by decide) T n2).1]
  · rw [Z.r n1, Z.l (ty_chDrawnWeights W T)]
theorem dd_016 {C : zC} {n0 a : Nat} {κ κ' : zS} {y d : Int32} (W : zW C n0 κ) (T : zT κ a = 15) (Z : zF (objF (zR κ chMachine a)) κ κ') : DD16 κ κ' a y d 0 := by
  have am := ch_m9 W T
  exact ⟨fun c => absurd c (by decide), fun _ => dr_o16 W T Z (fun z => am.1 z) (fun z => am.1 z)⟩
theorem dd_116 {C : zC} {n0 a : Nat} {κ τ κ1 κ3 κ6 : zS} {y d : Int32} (W : zW C n0 τ) (T : zT τ a = 15) (rm : zR τ chMachine a = zR κ chMachine a) (e1 : κ1 = ua τ (zR τ chDrawnWeights a) d.toNatClampNeg (zA τ (zR τ maWeights (zR τ chMachine a)) y.toNatClampNeg)) (e3 : κ3 = ua κ1 (zR κ1 chDrawnTotals a) d.toNatClampNeg (zI κ1 maTotal (zR κ1 chMachine a))) (W3 : zW C n0 κ3) (q : mF κ3 κ6 (zR κ chMachine a)) (hA : am6 τ (zR κ chMachine a) = am6 κ (zR κ chMachine a)) (hd : ∀ m : Nat, (m : Int) < d.toInt → dW16 τ a m = dW16 κ a m ∧ dT16 τ a m = dT16 κ a m) (d0 : 0 ≤ d.toInt) (dl : d.toInt < (zN τ (zR τ chDrawnWeights a) : Int)) : DD16 κ κ6 a y d 1 := by
  have am := ch_m9 W T
  have k := cnk d0
  have ne : zR τ chDrawnTotals a ≠ zR τ chDrawnWeights a := fun z => by
    have o1 := ow_chDrawnWeights W T
    have o2 := ow_chDrawnTotals W T
    rw [z, o1] at o2
    exact absurd (congrArg Prod.fst o2) (show ¬ chDrawnWeights = chDrawnTotals by decide)
  have R1 : zR κ1 = zR τ := by rw [e1]; rfl
  have R3 : zR κ3 = zR τ := by rw [e3]; exact R1
  have N3 : zN κ3 = zN τ := by rw [e3, e1]; rfl
  have I1 : zI κ1 = zI τ := by rw [e1]; rfl
  have T3 : zT κ3 a = 15 := by rw [e3, e1]; exact T
  have A1 : ∀ b, zA κ1 b = if b = zR τ chDrawnWeights a then upd (zA τ (zR τ chDrawnWeights a)) d.toNatClampNeg (zA τ (zR τ maWeights (zR τ chMachine a)) y.toNatClampNeg) else zA τ b := fun b => by rw [e1]; rfl
  have A3 : ∀ b, zA κ3 b = if b = zR τ chDrawnTotals a then upd (zA κ1 (zR τ chDrawnTotals a)) d.toNatClampNeg (zI τ maTotal (zR τ chMachine a)) else zA κ1 b := fun b => by rw [e3, R1, I1]; rfl
  have w3 : dW16 κ3 a = upd (dW16 τ a) d.toNatClampNeg (zA τ (zR τ maWeights (zR τ chMachine a)) y.toNatClampNeg) := by
    unfold dW16
    rw [R3, A3, if_neg (fun z => ne z.symm), A1, if_pos rfl]
  have t3 : dT16 κ3 a = upd (dT16 τ a) d.toNatClampNeg (zI τ maTotal (zR τ chMachine a)) := by
    unfold dT16
    rw [R3, A3, if_pos rfl, A1, if_neg ne]
  rw [rm] at am w3 t3
  obtain ⟨o1, o2, o3⟩ := dr_o16 W3 T3 q.1 (fun z => am.1 z) (fun z => am.1 z)
  refine ⟨fun _ => ⟨fun m hm => ?_, ?_, ?_, ?_⟩, fun c => absurd c (by decide)⟩
  · have nm : m ≠ d.toNatClampNeg := by omega
    rw [o1, o2, w3, t3, upd_ne nm, upd_ne nm]
    exact hd m hm
  · rw [o1, w3, upd_eq, ← hA, (am_rw6 (f := 719) (by decide)).1]
  · rw [o2, t3, upd_eq, ← hA]
    exact (am_i6 (f := 717) (by decide)).symm
  · rw [o3, R3, N3]
    omega
theorem dg_16 {C : zC} {n0 a : Nat} {κ κ2 κ4 : zS} {d : Int32} {n m : Nat} (W : zW C n0 κ) (T : zT κ a = 15) (W2 : zW C n0 κ2) (G1 : zF (fun g b => g = chDrawnWeights ∧ b = a) κ κ2 ∧ zI κ2 = zI κ ∧ (∀ g b, ¬ (g = chDrawnWeights ∧ b = a) → zR κ2 g b = zR κ g b) ∧ zR κ2 chDrawnWeights a = zn κ ∧ zN κ2 (zn κ) = n ∧ (∀ x d, zT κ x = d + 1 → zN κ2 x = zN κ x ∧ zA κ2 x = zA κ x) ∧ (∀ i, i < n → i < zN κ (zR κ chDrawnWeights a) → zA κ2 (zn κ) i = zA κ (zR κ chDrawnWeights a) i) ∧ ∀ i, zN κ (zR κ chDrawnWeights a) ≤ i → zA κ2 (zn κ) i = 0) (G2 : zF (fun g b => g = chDrawnTotals ∧ b = a) κ2 κ4 ∧ zI κ4 = zI κ2 ∧ (∀ g b, ¬ (g = chDrawnTotals ∧ b = a) → zR κ4 g b = zR κ2 g b) ∧ zR κ4 chDrawnTotals a = zn κ2 ∧ zN κ4 (zn κ2) = m ∧ (∀ x d, zT κ2 x = d + 1 → zN κ4 x = zN κ2 x ∧ zA κ4 x = zA κ2 x) ∧ (∀ i, i < m → i < zN κ2 (zR κ2 chDrawnTotals a) → zA κ4 (zn κ2) i = zA κ2 (zR κ2 chDrawnTotals a) i) ∧ ∀ i, zN κ2 (zR κ2 chDrawnTotals a) ≤ i → zA κ4 (zn κ2) i = 0) (d0 : 0 ≤ d.toInt) (h1 : d.toInt ≤ n) (h2 : d.toInt ≤ m) (h3 : d.toInt ≤ (zN κ (zR κ chDrawnWeights a) : Int)) (e : zN κ (zR κ chDrawnTotals a) = zN κ (zR κ chDrawnWeights a)) : ∀ j : Nat, (j : Int) < d.toInt → dW16 κ4 a j = dW16 κ a j ∧ dT16 κ4 a j = dT16 κ a j := by
  intro j hj
  obtain ⟨Z1, _, r1, x1, _, y1, z1, _⟩ := G1
  obtain ⟨Z2, _, r2, x2, _, y2, z2, _⟩ := G2
  have T2 : zT κ2 a = 15 := Z1.t T (by decide)
  have rt : zR κ2 chDrawnTotals a = zR κ chDrawnTotals a := r1 _ _ (fun z => absurd z.1 (by decide))
  have yt := y1 _ 19 (ty_chDrawnTotals W T)
  have tw := ty_chDrawnWeights W2 T2
  rw [x1] at tw
  constructor
  · unfold dW16
    rw [r2 _ _ (fun z => absurd z.1 (by decide)), x1, (y2 _ 19 tw).2]
    exact z1 j (by omega) (by omega)
  · unfold dT16
    rw [x2, z2 j (by omega) (by rw [rt, yt.1, e]; omega), rt, yt.2]
/-- the odds of what was drawn, of both sides -/
def PP16 (κ : zS) (a : Nat) (d : Int32) (σ : rS) : Prop := PR16 (dW16 κ a) (dT16 κ a) d σ ∧ d.toInt ≤ (zN κ (zR κ chDrawnWeights a) : Int)
section
variable {nv s w a m : Nat} {cu : E5} {σ9 : rS} {τ κ' : zS} {y d n v : Int32} {x : Int64} {p : rS × Int32}
theorem k9a_16 (dc : DC21 m y τ κ' v) (dd : DD16 τ κ' a y d v) (hv : v = 0 ∨ v = 1) (d0 : 0 ≤ d.toInt) (d1 : d.toInt < 2147483647) (hl : d.toInt ≤ (zN τ (zR τ chDrawnWeights a) : Int)) : (d + v).toInt ≤ (zN κ' (zR κ' chDrawnWeights a) : Int) := by
  rcases hv with c | c
  · rw [c, Int32.add_zero, (dd.2 c).2.2]
    exact hl
  · rw [c, (cn1 d0 d1).2]
    exact (dd.1 c).2.2.2
theorem k9b_16 (M : MP16 (dW16 τ a) (dT16 τ a) nv w s cu σ9 (am6 τ m) x n d 4 p) (H : HW21 σ9 (am6 τ m) x d y) (dc : DC21 m y τ κ' v) (dd : DD16 τ κ' a y d v) (rm : zR τ chMachine a = m) (d1 : d.toInt < 2147483647) : PR16 (dW16 κ' a) (dT16 κ' a) (d + v) p.1 := by
  obtain ⟨i1, i2⟩ := id_16 M H
  have mw : (am6 τ m).1 716 = zI τ maWays m := am_i6 (f := 716) (by decide)
  rw [mw] at i1 i2
  by_cases c : 0 ≤ y.toInt ∧ y.toInt < (zI τ maWays m).toInt
  · have v1 := (dc.1 c).1
    obtain ⟨σ0, P, e1, e2, a0, b0⟩ := i1 c
    obtain ⟨u1, u2, u3, _⟩ := dd.1 v1
    rw [rm] at u2 u3
    rw [v1]
    exact pr_s16 P u1 e1 e2 a0 b0 u2 u3 d1
  · have v0 := (dc.2 c).1
    obtain ⟨u1, u2, _⟩ := dd.2 v0
    rw [v0, Int32.add_zero, u1, u2]
    exact i2 c
end
theorem Ch_drawn_q16 {C : zC} {n0 : Nat} {a0 : Nat} {a1 : Int32} {a2 : Int32} {κ : zS} {Q : Int32 → zS → Prop} (W : zW C n0 κ) (Ta0 : zT κ a0 = 15) (hL : a2.toInt ≤ (zN κ (zR κ chDrawnWeights a0) : Int)) (hp : mkI κ (zR κ chMachine a0) ∧ (mO κ (zR κ chMachine a0) ∧ (zI κ maWays (zR κ chMachine a0)).toInt ≤ 64) ∧ dwI9 κ a0 ∧ 0 ≤ a2.toInt ∧ a2.toInt < 2000) (h : ∀ (v : Int32) (κ' : zS), ((zF (dwF9 (zR κ chMachine a0) a0) κ κ' ∧ (∀ f, f ≠ chDrawnWeights → f ≠ chDrawnTotals → zR κ' f a0 = zR κ f a0) ∧ mkI κ' (zR κ chMachine a0) ∧ (zI κ' maOutcome (zR κ chMachine a0) = 0 → mO κ' (zR κ chMachine a0)) ∧ dwI9 κ' a0 ∧ (v = 0 ∨ v = 1)) ∧ (DC21 (zR κ chMachine a0) a1 κ κ' v ∧ DD16 κ κ' a0 a1 a2 v)) → Q v κ') : zRun C 3 mCh_drawn [.ref a0, .int a1, .int a2] κ (oI Q noX) := by
  refine Ch_drawn_run W Ta0 ?_
  replace W := W.lo (Nat.le_trans W.1.2.1 W.1.2.2) (Nat.le_refl (zn κ))
  unfold w_Ch_drawn_0
  have am := ch_m9 W Ta0
  have tm := ty_chMachine W Ta0
  obtain ⟨K0, ⟨O0, w0⟩, D0, l0, l1⟩ := hp
  have bn := W.n (ty_chDrawnWeights W Ta0)
  have e2 : (2 : Int32).toInt = 2 := rfl
  have m2 : (a2 * 2).toInt = 2 * a2.toInt := by
    have q := mul_i (x := a2) (y := 2) (by rw [e2]; omega) (by rw [e2]; omega)
    rw [e2] at q
    omega
  have k2 := cnk (x := a2 * 2) (by omega)
  have hj63 : ∀ (l0 : Nat) (l1 : Int32) (l2 : Int32) (τ : zS), zW C (zn κ) τ → zT τ l0 = 15 → ((a0 = l0 ∧ a1 = l1 ∧ a2 = l2 ∧ djI9 κ τ a0 a1 a2) ∧ (am6 τ (zR κ chMachine a0) = am6 κ (zR κ chMachine a0) ∧ 0 ≤ a1.toInt ∧ a1.toInt < (zI κ maWays (zR κ chMachine a0)).toInt) ∧ ∀ m : Nat, (m : Int) < a2.toInt → dW16 τ a0 m = dW16 κ a0 m ∧ dT16 τ a0 m = dT16 κ a0 m) → w_Ch_drawn_63 C (zn κ) Q  l0 l1 l2 τ := by
    rintro _ _ _ τ63 W63 T63_0 ⟨⟨rfl, rfl, rfl, j63⟩, hE⟩
    unfold w_Ch_drawn_63
    obtain ⟨Z6, R6, K6, ⟨O6, w6⟩, D6, ⟨y0, y1⟩, x0, x1⟩ := j63
    have rm : zR τ63 chMachine a0 = zR κ chMachine a0 := R6 _ (by decide) (by decide)
    refine ⟨?_, ?_⟩
    · rw [rm, inb_iff, K6.1.2.2.2.2]; omega  -- b1
    refine ⟨?_, ?_⟩
    · rw [inb_iff]; omega  -- b2
    intro κ_1 hκ_1
    intro W2
    have o1 := W63.o (show zr chDrawnWeights = some 20 by decide +kernel) (by decide) (T63_0.trans (by decide))
    have Z1 : zF (fun f b => b = a0 ∧ (f = chDrawnWeights ∨ f = chDrawnTotals)) τ63 κ_1 := by
      rw [hκ_1]
      exact zF_ua (by rw [o1]; exact ⟨rfl, Or.inl rfl⟩)
    have R1 : zR κ_1 = zR τ63 := by rw [hκ_1]; rfl
    have N1 : zN κ_1 = zN τ63 := by rw [hκ_1]; rfl
    refine ⟨?_, ?_⟩
    · rw [inb_iff, R1, N1, D6.1]; omega  -- b3
    intro κ_3 hκ_3
    intro W4
    intro T5
    have o2 := W2.o (show zr chDrawnTotals = some 20 by decide +kernel) (by decide) ((Z1.t T63_0 (by decide)).trans (by decide))
    have Z3 : zF (fun f b => b = a0 ∧ (f = chDrawnWeights ∨ f = chDrawnTotals)) τ63 κ_3 := Z1.tr (by
      rw [hκ_3]
      exact zF_ua (by rw [o2]; exact ⟨rfl, Or.inr rfl⟩))
    have R3 : zR κ_3 = zR τ63 := by rw [hκ_3]; exact R1
    have N3 : zN κ_3 = zN τ63 := by rw [hκ_3]; exact N1
    have am6 := ch_m9 W63 T63_0
    rw [rm] at am6
    have tm6 : zT τ63 (zR κ chMachine a0) = 7 := Z6.t tm (by decide)
    have K3 : mkI κ_3 (zR κ chMachine a0) := mkI_zF Z3 W63 tm6 (fun f z => am6.1 z.1.symm) (fun f z => am6.2.1 z.1.symm) K6
    have O3 : mO κ_3 (zR κ chMachine a0) := mO_z9 Z3 (fun f z => am6.1 z.1.symm) O6
    have w3 : zI κ_3 maWays (zR κ chMachine a0) = zI τ63 maWays (zR κ chMachine a0) := Z3.i (fun z => am6.1 z.1.symm)
    refine Ma_settle_q6 W4 T5  ?_ (fun κ_6 q7 => ?_)
    · rw [R3, rm]
      exact ⟨K3, O3, by rw [w3]; exact w6⟩
    obtain ⟨q7, z9⟩ := q7
    intro W8
    intro M9
    refine h _ _ ?_
    · refine and_5 ?_ (fun o9 => ?_)  -- q5
      · rw [R3, rm] at q7 T5
        refine ⟨(Z6.tr (Z3.mono (fun f b z => Or.inr z))).tr (q7.1.1.mono (fun f b z => Or.inl z)), fun f h1 h2 => ?_, (mkI_f q7.1 W4 T5 K3).1, fun z => ?_, ?_, Or.inr rfl⟩
        · rw [q7.1.2.1, R3]
          exact R6 f h1 h2
        · rcases q7.2.2.1 with y | y
          · exact y
          · rw [y] at z
            exact absurd z (by decide)
        · unfold dwI9
          rw [q7.1.2.1, q7.1.2.2.1, R3, N3]
          exact D6
      · rw [R3, rm] at z9
        have ez := am_z6 W63 tm6 Z3 (fun f z => am6.1 z.1.symm) (fun f z => am6.2.1 z.1.symm)
        have hE0 := hE.1.1
        rw [ez, hE0] at z9
        rw [R3, rm] at q7
        exact ⟨⟨fun _ => ⟨rfl, z9⟩, fun n => absurd hE.1.2 n⟩, dd_116 W63 T63_0 rm hκ_1 hκ_3 W4 q7.1 hE0 hE.2 y0 y1⟩
  have hj15 : ∀ (l0 : Nat) (τ : zS), zW C (zn κ) τ → zT τ l0 = 15 → ((κ = τ ∧ a0 = l0 ∧ True) ∧ ¬ (0 ≤ a1.toInt ∧ a1.toInt < (zI κ maWays (zR κ chMachine a0)).toInt)) → w_Ch_drawn_15 C (zn κ) Q  l0 τ := by
    rintro _ _ W15 T15_0 ⟨⟨rfl, rfl, j15⟩, hE⟩
    unfold w_Ch_drawn_15
    intro T10
    refine Ma_fail_q6 W15 T10  (fun κ_11 q12 => ?_)
    obtain ⟨q12, z9⟩ := q12
    intro W13
    intro M14
    refine h _ _ ?_
    · refine and_5 ?_ (fun o9 => ?_)  -- q6
      · have f := mF_fail q12
        refine ⟨q12.1.mono (fun f b z => Or.inl z), fun f _ _ => by rw [q12.2.1], (mkI_f f.1 W tm K0).1, fun z => ?_, ?_, Or.inl rfl⟩
        · rw [q12.2.2.2.2.2.2] at z
          exact absurd z (by decide)
        · unfold dwI9
          rw [q12.2.1, q12.2.2.1]
          exact D0
      · refine ⟨⟨fun n => absurd n hE, fun _ => ⟨rfl, ?_⟩⟩, dd_016 W Ta0 q12.1⟩
        have ff : f5_Ma_fail 6 (am6 κ (zR κ chMachine a0)) = .inl (fl6 711 2 (fl6 713 6 (am6 κ (zR κ chMachine a0))), ()) := rfl
        exact (congrArg Prod.fst (Sum.inl.inj (ff.symm.trans z9))).symm
  refine ⟨fun c15 => ?_, fun c15 => ?_⟩
  · skip
    refine hj15 _ _ W ?_ ?_
    · exact Ta0  -- t7
    · refine and_5 ?_ (fun o9 => ?_)  -- k8
      · exact ⟨rfl, rfl, trivial⟩
      · intro z
        rw [lti, t0i] at c15
        omega
  · skip
    refine ⟨fun c16 => ?_, fun c16 => ?_⟩
    · skip
      refine ⟨fun c17 => ?_, fun c17 => ?_⟩
      · skip
        refine hj63 _ _ _ _ W ?_ ?_
        · exact Ta0  -- t9
        · refine and_5 ?_ (fun o9 => ?_)  -- k10
          · rw [lti, t0i] at c15
            rw [lti] at c16
            rw [lti, ofn_i bn] at c17
            exact ⟨rfl, rfl, rfl, zF.rf, fun _ _ _ => rfl, K0, ⟨O0, w0⟩, D0, ⟨l0, by omega⟩, by omega, by omega⟩
          · have x15 := c15
            have x16 := c16
            rw [lti, t0i] at x15
            rw [lti] at x16
            exact ⟨⟨rfl, by omega, x16⟩, fun m _ => ⟨rfl, rfl⟩⟩
      · skip
        intro T18
        refine Ar_copyOf_c W T18  ?_ (fun r19 κ_20 q21 => ?_)
        · rw [lti, ofn_i bn] at c17
          refine ⟨⟨by rw [lei, t0i]; omega, by omega⟩, fun e => ?_⟩
          have g := congrArg Int32.toInt e
          rw [ofn_i bn, m2] at g
          have := D0.2.1
          omega
        intro W22
        intro M23
        intro T24
        refine ⟨?_, ?_⟩
        · rw [q21.1]; exact q21.2.2.1  -- b12
        intro κ_25 hκ_25
        intro W26
        intro T27
        rw [lti, t0i] at c15
        rw [lti] at c16
        rw [lti, ofn_i bn] at c17
        obtain ⟨e19, Q1⟩ := q21
        rw [e19] at hκ_25
        have G1 := gr_f W (show zr chDrawnWeights = some 20 by decide +kernel) (by decide) (Ta0.trans (by decide)) ⟨by decide, by decide, by decide, by decide +kernel⟩ Q1 hκ_25 (by omega) (by have := D0.2.1; omega)
        have T25 : zT κ_25 a0 = 15 := G1.1.t Ta0 (by decide)
        have rt : zR κ_25 chDrawnTotals a0 = zR κ chDrawnTotals a0 := G1.2.2.1 _ _ (fun z => absurd z.1 (by decide))
        have nt : zN κ_25 (zR κ chDrawnTotals a0) = zN κ (zR κ chDrawnTotals a0) := G1.1.l (ty_chDrawnTotals W Ta0)
        have e0 := D0.1
        refine Ar_copyOf_c W26 T27  ?_ (fun r28 κ_29 q30 => ?_)
        · rw [rt, nt, e0]
          refine ⟨⟨by rw [lei, t0i]; omega, by omega⟩, fun e => ?_⟩
          have g := congrArg Int32.toInt e
          rw [ofn_i bn, m2] at g
          have := D0.2.1
          omega
        intro W31
        intro M32
        intro T33
        refine ⟨?_, ?_⟩
        · rw [q30.1]; exact q30.2.2.1  -- b14
        intro κ_34 hκ_34
        intro W35
        refine hj63 _ _ _ _ W35 ?_ ?_
        · rw [hκ_34]; obtain ⟨e28, Q2⟩ := q30
          rw [e28] at hκ_34
          have G2 := gr_f W26 (show zr chDrawnTotals = some 20 by decide +kernel) (by decide) (T25.trans (by decide)) ⟨by decide, by decide, by decide, by decide +kernel⟩ Q2 hκ_34 (by rw [rt, nt, e0]; omega) (by rw [rt, nt, e0]; have := D0.2.1; omega)
          have y := G2.1.t T25 (by decide)
          rw [hκ_34, ← e28] at y
          exact y
        · refine and_5 ?_ (fun o9 => ?_)  -- k16
          · obtain ⟨e28, Q2⟩ := q30
            rw [e28] at hκ_34
            have G2 := gr_f W26 (show zr chDrawnTotals = some 20 by decide +kernel) (by decide) (T25.trans (by decide)) ⟨by decide, by decide, by decide, by decide +kernel⟩ Q2 hκ_34 (by rw [rt, nt, e0]; omega) (by rw [rt, nt, e0]; have := D0.2.1; omega)
            have Z0 : zF (fun f b => b = a0 ∧ (f = chDrawnWeights ∨ f = chDrawnTotals)) κ κ_34 := (G1.1.mono (fun f b z => ⟨z.2, Or.inl z.1⟩)).tr (G2.1.mono (fun f b z => ⟨z.2, Or.inr z.1⟩))
            have rw1 : zR κ_34 chDrawnWeights a0 = zn κ := (G2.2.2.1 _ _ (fun z => absurd z.1 (by decide))).trans G1.2.2.2.1
            have tw := ty_chDrawnWeights W26 T25
            rw [G1.2.2.2.1] at tw
            have nw1 : zN κ_34 (zn κ) = (a2 * 2).toNatClampNeg := (G2.1.l tw).trans G1.2.2.2.2.1
            refine ⟨rfl, rfl, rfl, Z0.mono (fun f b z => Or.inr z), fun f h1 h2 => (G2.2.2.1 f a0 (fun z => h2 z.1)).trans (G1.2.2.1 f a0 (fun z => h1 z.1)), mkI_zF Z0 W tm (fun f z => am.1 z.1.symm) (fun f z => am.2.1 z.1.symm) K0, ⟨mO_z9 Z0 (fun f z => am.1 z.1.symm) O0, by rw [Z0.i (fun z => am.1 z.1.symm)]; exact w0⟩, ⟨?_, ?_⟩, ⟨l0, ?_⟩, by omega, by omega⟩
            · rw [rw1, nw1, G2.2.2.2.1, G2.2.2.2.2.1]
            · rw [rw1, nw1]
              have := D0.2.1
              omega
            · rw [rw1, nw1]
              have := D0.2.1
              omega
          · obtain ⟨e28, Q2⟩ := q30
            rw [e28] at hκ_34
            have G2 := gr_f W26 (show zr chDrawnTotals = some 20 by decide +kernel) (by decide) (T25.trans (by decide)) ⟨by decide, by decide, by decide, by decide +kernel⟩ Q2 hκ_34 (by rw [rt, nt, e0]; omega) (by rw [rt, nt, e0]; have := D0.2.1; omega)
            have Z0 : zF (fun f b => b = a0 ∧ (f = chDrawnWeights ∨ f = chDrawnTotals)) κ κ_34 := (G1.1.mono (fun f b z => ⟨z.2, Or.inl z.1⟩)).tr (G2.1.mono (fun f b z => ⟨z.2, Or.inr z.1⟩))
            have dn := D0.2.1
            rw [rt] at G2
            refine ⟨⟨am_z6 W tm Z0 (fun f z => am.1 z.1.symm) (fun f z => am.2.1 z.1.symm), by omega, c16⟩, dg_16 W Ta0 W26 G1 (by rw [rt]; exact G2) l0 (by omega) (by omega) hL e0⟩
    · skip
      refine hj15 _ _ W ?_ ?_
      · exact Ta0  -- t17
      · refine and_5 ?_ (fun o9 => ?_)  -- k18
        · exact ⟨rfl, rfl, trivial⟩
        · intro z
          rw [lti] at c16
          omega

theorem Ch_perform_q16 {C : zC} {n0 : Nat} {a0 : Nat} {a1 : Int32} {a2 : Int64} {a4 : Int32} {κ : zS} {Q : Int32 → zS → Prop} (W : zW C n0 κ) (Ta0 : zT κ a0 = 15) (nv s w : Nat) (σ9 : rS) (hG : GP21 nv s w κ a0 a1 a2 a4 σ9) (hp : maL κ (zR κ chMachine a0) ∧ coI κ (zR κ chCode a0) ∧ dwI9 κ a0 ∧ ((zN κ (zR κ chRecord a0)) = 5 ∧ (zN κ (zR κ chLastShared a0)) = 34 ∧ (zN κ (zR κ chTold a0)) = 200 ∧ (zI κ chTolds a0).toInt ≤ 200) ∧ atH κ (zR κ chAtlas a0) ∧ (zI κ atExplored (zR κ chAtlas a0) ≠ 0 → atM κ (zR κ chAtlas a0)) ∧ a4.toInt ≤ 2000) (h : ∀ (v : Int32) (κ' : zS), ((zF (pfF9 (zR κ chMachine a0) a0) κ κ' ∧ (∀ f, f ≠ chDrawnWeights → f ≠ chDrawnTotals → zR κ' f a0 = zR κ f a0) ∧ mkI κ' (zR κ chMachine a0) ∧ dwI9 κ' a0) ∧ (∀ N tr v', TRF21 a4 σ9 N tr v' → (v = v' ∧ RN23 κ' a0 (tr N).1 v' w) ∧ PP16 κ' a0 ((tr N).1.1 109) (tr N).1)) → Q v κ') : zRun C 5 mCh_perform [.ref a0, .int a1, .long a2, .int a4] κ (oI Q noX) := by
  refine Ch_perform_run W Ta0 ?_
  replace W := W.lo (Nat.le_trans W.1.2.1 W.1.2.2) (Nat.le_refl (zn κ))
  unfold w_Ch_perform_0
  have am := ch_m9 W Ta0
  have tm := ty_chMachine W Ta0
  obtain ⟨L0, C0, D0, ⟨n5, n34, n200, t20⟩, H0, M0, l4⟩ := hp
  have F7 : ∀ f x, dwF9 (zR κ chMachine a0) a0 f x → zT κ x = 7 ∨ zT κ x = 15 := by
    rintro f x (z | z)
    · left; rw [z]; exact tm
    · right; rw [z.1]; exact Ta0
  have e1 : (1 : Int32).toInt = 1 := rfl
  have hj180 : ∀ (l0 : Nat) (l7 : Int32) (l8 : Int32) (l9 : Int64) (τ : zS), zW C (zn κ) τ → zT τ l0 = 15 → ((a0 = l0 ∧ pfJ9 κ τ a0) ∧ (∀ N tr v', TRF21 a4 σ9 N tr v' → FZ23 w (am6 τ (zR κ chMachine a0)) l7 l8 l9 (tr N).1 v' ∧ PP16 τ a0 l8 (tr N).1)) → w_Ch_perform_180 C (zn κ) Q  l0 l7 l8 l9 τ := by
    rintro _ y180_7 y180_8 y180_9 τ180 W180 T180_0 ⟨⟨rfl, j180⟩, hE⟩
    unfold w_Ch_perform_180
    intro T1
    refine Ch_note_q6 W180 T1  ?_ (fun κ_2 q3 => ?_)
    · obtain ⟨Z1, R1, K1, D1⟩ := j180
      rw [R1 chMachine (by decide) (by decide), R1 chCode (by decide) (by decide), R1 chRecord (by decide) (by decide), R1 chLastShared (by decide) (by decide)]
      refine ⟨K1, coI_zF Z1 W (ty_chCode W Ta0) (fun f z => ?_) C0, (Z1.l (ty_chRecord W Ta0)).trans n5, (Z1.l (ty_chLastShared W Ta0)).trans n34⟩
      have t5 := ty_chCode W Ta0
      rcases F7 _ _ z with y | y <;> rw [y] at t5 <;> exact absurd t5 (by decide)
    obtain ⟨q3, z9⟩ := q3
    intro W4
    intro M5
    refine h _ _ ?_
    · refine and_5 ?_ (fun o9 => ?_)  -- q2
      · obtain ⟨Z1, R1, K1, D1⟩ := j180
        have am1 := ch_m9 W180 T180_0
        rw [R1 chMachine (by decide) (by decide)] at am1
        refine ⟨(Z1.mono (fun f b z => ?_)).tr (q3.1.mono (fun f b z => ?_)), fun f h1 h2 => ?_, mkI_zF q3.1 W180 (Z1.t tm (by decide)) (fun f z => am1.1 z.1.symm) (fun f z => am1.2.1 z.1.symm) K1, ?_⟩
        · rcases z with z | ⟨z, y | y⟩
          · exact Or.inl z
          · exact Or.inr ⟨z, Or.inl y⟩
          · exact Or.inr ⟨z, Or.inr (Or.inl y)⟩
        · exact Or.inr ⟨z.1, Or.inr (Or.inr z.2)⟩
        · rw [q3.2]; exact R1 f h1 h2
        · unfold dwI9
          rw [q3.2, q3.1.l (ty_chDrawnWeights W180 T180_0), q3.1.l (ty_chDrawnTotals W180 T180_0)]
          exact D1
      · intro N tr v' F
        obtain ⟨⟨⟨f1, f2, f3, ⟨f4, f5, f6⟩, f7⟩, f8⟩, fP⟩ := hE N tr v' F
        obtain ⟨Z1, R1, K1, D1⟩ := j180
        have am1 := ch_m9 W180 T180_0
        have rM := R1 chMachine (by decide) (by decide)
        have rC := R1 chCode (by decide) (by decide)
        have m1 : zI τ180 maOutcome (zR κ chMachine a0) = v' := (am_i6 (f := 711) (by decide)).symm.trans f1
        have m2 : v' = 1 → zI τ180 maNumber (zR κ chMachine a0) = (tr N).1.1 61 := fun q => (am_i6 (f := 712) (by decide)).symm.trans (f2 q)
        have m3 : v' = 2 → zI τ180 maFailure (zR κ chMachine a0) = (tr N).1.1 61 := fun q => (am_i6 (f := 713) (by decide)).symm.trans (f3 q)
        obtain ⟨n1, ⟨n2, n3, n4, n5', n6⟩, n7⟩ := z9
        rw [rM] at n2 n3 n7 am1
        rw [rC] at n7
        rw [rn_v23 m1 m2 m3] at n3
        have tC := ty_chCode W Ta0
        have nC : ∀ f, ¬ dwF9 (zR κ chMachine a0) a0 f (zR κ chCode a0) := fun f z => by
          have t5 := tC
          rcases F7 _ _ z with y | y <;> rw [y] at t5 <;> exact absurd t5 (by decide)
        obtain ⟨wI, _⟩ := rn_w23 hG.1
        rw [Z1.i (nC coVars), Z1.i (nC coCells)] at n7
        refine ⟨⟨?_, f8, n1, ?_, fun i hi => ?_⟩, ?_⟩
        rotate_right
        · have o := dr_o16 W180 T180_0 q3.1 (fun z => by rcases z.2 with y | y | y <;> exact absurd y (by decide)) (fun z => by rcases z.2 with y | y | y <;> exact absurd y (by decide))
          unfold PP16
          rw [o.1, o.2.1, o.2.2, f5]
          exact fP
        · rw [q3.2, rM, ← m1, q3.1.i (fun y => am1.1 y.1.symm)]
        · rw [q3.2]
          exact ⟨by rw [n2, m1], n3, by rw [n4, f4], by rw [n5', f5], by rw [n6, f6]⟩
        · rw [q3.2, n7 i (by omega)]
          exact (congrFun (am_rw6 (f := 701) (by decide)).1 i).symm.trans (f7 i hi)
  intro T6
  intro T7
  refine Ma_begin_q6 W T6 T7  ?_ (fun κ_8 q9 => ?_)
  · exact ⟨L0, C0⟩  -- p3
  obtain ⟨q9, z9⟩ := q9
  intro W10
  intro M11
  unfold w_Ch_perform_26
  refine ⟨fun n l0 l1 l4 l5 l7 l8 l9 l11 τ => n = (a4.toInt - l11.toInt).toNat ∧ ((a0 = l0 ∧ a1 = l1 ∧ a4 = l4 ∧ pfJ9 κ τ a0 ∧ (zI τ maOutcome (zR κ chMachine a0) = 0 → mO τ (zR κ chMachine a0)) ∧ (0 ≤ l8.toInt ∧ l8.toInt ≤ l11.toInt)) ∧ HD21 nv s w (cu7 κ (zR κ chCode a0)) a4 σ9 (am6 τ (zR κ chMachine a0)) l5 l7 l8 l9 l11 ∧ (¬ a1 = 0 → l8.toInt ≤ (zI κ chTolds a0).toInt) ∧ (∀ N tr v', TRF21 a4 σ9 N tr v' → PP16 τ a0 l8 (tr l11.toNatClampNeg).1) ∧ (l8.toInt ≤ (zN τ (zR τ chDrawnWeights a0) : Int))), ⟨_, rfl, ?_⟩, ?_⟩
  · refine and_5 ?_ (fun o9 => ?_)  -- j4
    · refine ⟨rfl, rfl, rfl, ⟨q9.1.mono (fun f b z => Or.inl z), fun f _ _ => q9.1.r (fun z => am.1 z), q9.2.2.1, ?_⟩, fun z => ?_, by decide, by decide⟩
      · unfold dwI9
        rw [q9.1.r (fun z => am.1 z), q9.1.r (fun z => am.1 z), q9.1.l (ty_chDrawnWeights W Ta0), q9.1.l (ty_chDrawnTotals W Ta0)]
        exact D0
      · rcases q9.2.2.2.2.1 with y | y
        · exact y
        · rw [y] at z
          exact absurd z (by decide)
    · obtain ⟨e9, B9, hz⟩ := z9
      have R := CR_76 (e' := am6 (ur κ maCode (zR κ chMachine a0) (zR κ chCode a0)) (zR κ chMachine a0)) hG.1 cu_a7.1 cu_a7.2 (by
        have ro : ∀ f b, f ≠ maCode → zR (ur κ maCode (zR κ chMachine a0) (zR κ chCode a0)) f b = zR κ f b := fun f b q => if_neg (fun y => q y.1)
        refine ⟨?_, ?_, ?_⟩
        · rw [(am_rw6 (f := 705) (by decide)).2, ro _ _ (by decide)]; exact L0.2.1
        · rw [(am_rw6 (f := 707) (by decide)).2, ro _ _ (by decide)]; exact L0.2.2.1
        · rw [(am_rw6 (f := 701) (by decide)).2, ro _ _ (by decide)]; exact L0.1)
      have U0 : (0 : Int32).toInt ≤ (zN κ_8 (zR κ_8 chDrawnWeights a0) : Int) := by rw [t0i]; omega
      refine ⟨⟨⟨rfl, by decide, hG.2.2.2.2.2.2.2⟩, fun N tr v' F => ⟨Nat.zero_le _, ?_⟩⟩, fun z => ?_, fun N tr v' F => ⟨jb_16 R ⟨cu_a7.1, cu_a7.2⟩ B9 hz hG.2.2.1 F, U0⟩, U0⟩
      rotate_left
      · exact (hG.2.2.2.1 (Decidable.byContradiction (fun q => z (hG.2.1.mpr q)))).1.2
      exact ib_21 R ⟨cu_a7.1, cu_a7.2⟩ B9 hz hG.2.2.1 F
  rintro n26 _ _ _ x26_5 x26_7 x26_8 x26_9 x26_11 κ26 W26 T26_0 ⟨hn26, ⟨rfl, rfl, rfl, i26⟩, hE⟩
  have hj158 : ∀ (l0 : Nat) (l1 : Int32) (l4 : Int32) (l5 : Int64) (l7 : Int32) (l8 : Int32) (l9 : Int64) (l11 : Int32) (τ : zS), zW C (zn κ) τ → zT τ l0 = 15 → ((a0 = l0 ∧ a1 = l1 ∧ a4 = l4 ∧ pfJ9 κ τ a0 ∧ (zI τ maOutcome (zR κ chMachine a0) = 0 → mO τ (zR κ chMachine a0)) ∧ (0 ≤ l8.toInt ∧ l8.toInt ≤ l11.toInt + 1) ∧ l11 = x26_11 ∧ (0 ≤ l11.toInt ∧ l11.toInt < a4.toInt)) ∧ JA21 nv s w (cu7 κ (zR κ chCode a0)) a4 σ9 (am6 τ (zR κ chMachine a0)) l5 l7 l8 l9 l11 ∧ (¬ a1 = 0 → l8.toInt ≤ (zI κ chTolds a0).toInt) ∧ (∀ N tr v', TRF21 a4 σ9 N tr v' → PP16 τ a0 l8 (tr (l11.toNatClampNeg + 1)).1) ∧ (l8.toInt ≤ (zN τ (zR τ chDrawnWeights a0) : Int))) → w_Ch_perform_158 C (zn κ) Q (fun (l0' : Nat) (l1' : Int32) (l4' : Int32) (l5' : Int64) (l7' : Int32) (l8' : Int32) (l9' : Int64) (l11' : Int32) (τ : zS) => ∃ k < n26, (fun (n : Nat) (l0 : Nat) (l1 : Int32) (l4 : Int32) (l5 : Int64) (l7 : Int32) (l8 : Int32) (l9 : Int64) (l11 : Int32) (τ : zS) => n = (a4.toInt - l11.toInt).toNat ∧ ((a0 = l0 ∧ a1 = l1 ∧ a4 = l4 ∧ pfJ9 κ τ a0 ∧ (zI τ maOutcome (zR κ chMachine a0) = 0 → mO τ (zR κ chMachine a0)) ∧ (0 ≤ l8.toInt ∧ l8.toInt ≤ l11.toInt)) ∧ HD21 nv s w (cu7 κ (zR κ chCode a0)) a4 σ9 (am6 τ (zR κ chMachine a0)) l5 l7 l8 l9 l11 ∧ (¬ a1 = 0 → l8.toInt ≤ (zI κ chTolds a0).toInt) ∧ (∀ N tr v', TRF21 a4 σ9 N tr v' → PP16 τ a0 l8 (tr l11.toNatClampNeg).1) ∧ (l8.toInt ≤ (zN τ (zR τ chDrawnWeights a0) : Int)))) k l0' l1' l4' l5' l7' l8' l9' l11' τ) l0 l1 l4 l5 l7 l8 l9 l11 τ := by
    rintro _ _ _ y158_5 y158_7 y158_8 y158_9 y158_11 τ158 W158 T158_0 ⟨⟨rfl, rfl, rfl, j158⟩, hE⟩
    unfold w_Ch_perform_158
    intro x12 hx12
    intro x13 hx13
    intro x14 hx14
    obtain ⟨J6, O6, ⟨b0, b1⟩, ex, x0, x1⟩ := j158
    have ix := cn1 (x := y158_11) x0 (by omega)
    refine lp_b5 ?_ (fun d9 => ⟨rfl, ?_⟩)
    · rw [hn26, hx14, ix.2, ← ex]; omega  -- d5
    · refine and_5 ?_ (fun o9 => ?_)  -- i6
      · exact ⟨rfl, rfl, rfl, J6, O6, b0, by rw [hx14, ix.2]; omega⟩
      · obtain ⟨⟨⟨z1, z2, z3⟩, hA⟩, zt, hP, hl⟩ := hE
        have eg : (am6 τ158 (zR κ chMachine a0)).1 714 = zI τ158 maGained (zR κ chMachine a0) := am_i6 (f := 714) (by decide)
        refine ⟨⟨⟨by rw [hx12, hx14, z1], by rw [hx14, ix.2]; omega, by rw [hx14, ix.2]; omega⟩, fun N tr v' F => ?_⟩, zt, fun N tr v' F => by rw [hx14, ix.1]; exact hP N tr v' F, hl⟩
        rw [hx14, ix.1, hx13, J6.2.1 chMachine (by decide) (by decide), ← eg]
        exact hA N tr v' F
  have hj150 : ∀ (l0 : Nat) (l1 : Int32) (l4 : Int32) (l5 : Int64) (l7 : Int32) (l8 : Int32) (l9 : Int64) (l11 : Int32) (s0 : Int32) (s1 : Nat) (s2 : Int32) (τ : zS), zW C (zn κ) τ → zT τ l0 = 15 → zT τ s1 = 15 → ((a0 = l0 ∧ a1 = l1 ∧ a4 = l4 ∧ pfJ9 κ τ a0 ∧ (mO τ (zR κ chMachine a0) ∧ (zI τ maWays (zR κ chMachine a0)).toInt ≤ 64) ∧ (0 ≤ l8.toInt ∧ l8.toInt ≤ l11.toInt) ∧ (l11 = x26_11 ∧ l11.toInt < a4.toInt) ∧ s0 = l8 ∧ s1 = a0) ∧ JW21 nv s w (cu7 κ (zR κ chCode a0)) a4 σ9 (am6 τ (zR κ chMachine a0)) l5 l7 l8 l9 l11 s2 ∧ (¬ a1 = 0 → l8.toInt < (zI κ chTolds a0).toInt) ∧ (∃ x0, ∀ N tr v', TRF21 a4 σ9 N tr v' → MP16 (dW16 τ a0) (dT16 τ a0) nv w s (cu7 κ (zR κ chCode a0)) σ9 (am6 τ (zR κ chMachine a0)) x0 l11 l8 4 (tr (l11.toNatClampNeg + 1)) ∧ HW21 σ9 (am6 τ (zR κ chMachine a0)) x0 l8 s2) ∧ (l8.toInt ≤ (zN τ (zR τ chDrawnWeights a0) : Int))) → w_Ch_perform_150 C (zn κ) Q (fun (l0' : Nat) (l1' : Int32) (l4' : Int32) (l5' : Int64) (l7' : Int32) (l8' : Int32) (l9' : Int64) (l11' : Int32) (τ : zS) => ∃ k < n26, (fun (n : Nat) (l0 : Nat) (l1 : Int32) (l4 : Int32) (l5 : Int64) (l7 : Int32) (l8 : Int32) (l9 : Int64) (l11 : Int32) (τ : zS) => n = (a4.toInt - l11.toInt).toNat ∧ ((a0 = l0 ∧ a1 = l1 ∧ a4 = l4 ∧ pfJ9 κ τ a0 ∧ (zI τ maOutcome (zR κ chMachine a0) = 0 → mO τ (zR κ chMachine a0)) ∧ (0 ≤ l8.toInt ∧ l8.toInt ≤ l11.toInt)) ∧ HD21 nv s w (cu7 κ (zR κ chCode a0)) a4 σ9 (am6 τ (zR κ chMachine a0)) l5 l7 l8 l9 l11 ∧ (¬ a1 = 0 → l8.toInt ≤ (zI κ chTolds a0).toInt) ∧ (∀ N tr v', TRF21 a4 σ9 N tr v' → PP16 τ a0 l8 (tr l11.toNatClampNeg).1) ∧ (l8.toInt ≤ (zN τ (zR τ chDrawnWeights a0) : Int)))) k l0' l1' l4' l5' l7' l8' l9' l11' τ) l0 l1 l4 l5 l7 l8 l9 l11 s0 s1 s2 τ := by
    rintro _ _ _ y150_5 y150_7 y150_8 y150_9 y150_11 y150_s0 y150_s1 y150_s2 τ150 W150 T150_0 T150_1 ⟨⟨rfl, rfl, rfl, j150⟩, hE⟩
    unfold w_Ch_perform_150
    intro T15
    obtain ⟨J5, ⟨O5, w5⟩, ⟨b0, b1⟩, ⟨ex, x1⟩, es0, es1⟩ := j150
    have rm := J5.2.1 chMachine (by decide) (by decide)
    rw [es1]
    rw [es1] at T15
    refine Ch_drawn_q16 W150 T15 hE.2.2.2 ?_ (fun r16 κ_17 q18 => ?_)
    · rw [rm]
      exact ⟨J5.2.2.1, ⟨O5, w5⟩, J5.2.2.2, b0, by omega⟩
    obtain ⟨q18, z9⟩ := q18
    intro W19
    intro M20
    intro x21 hx21
    refine hj158 _ _ _ _ _ _ _ _ _ W19 ?_ ?_
    · exact q18.1.t T15 (by decide)  -- t8
    · refine and_5 ?_ (fun o9 => ?_)  -- k9
      · rw [rm] at q18
        have xb : x21.toInt = y150_8.toInt + r16.toInt ∧ 0 ≤ r16.toInt ∧ r16.toInt ≤ 1 := by
          have t0 : (0 : Int32).toInt = 0 := rfl
          rw [hx21, es0]
          rcases q18.2.2.2.2.2 with y | y <;> rw [y]
          · rw [add_i (by rw [t0]; omega) (by rw [t0]; omega), t0]
            omega
          · rw [add_i (by rw [e1]; omega) (by rw [e1]; omega), e1]
            omega
        refine ⟨rfl, rfl, rfl, ⟨J5.1.tr q18.1, fun f h1 h2 => (q18.2.1 f h1 h2).trans (J5.2.1 f h1 h2), q18.2.2.1, q18.2.2.2.2.1⟩, q18.2.2.2.1, ⟨by omega, by omega⟩, ex, by omega, x1⟩
      · rw [rm] at z9
        obtain ⟨⟨z0, x9, ex9, hW⟩, zt, ⟨x0, hP⟩, hl⟩ := hE
        obtain ⟨z9, z8⟩ := z9
        have nl : x21.toInt ≤ (zN κ_17 (zR κ_17 chDrawnWeights a0) : Int) := by
          rw [hx21, es0]
          exact k9a_16 z9 z8 q18.2.2.2.2.2 b0 (by omega) hl
        have NX : ∀ N tr v', TRF21 a4 σ9 N tr v' → PP16 κ_17 a0 x21 (tr (y150_11.toNatClampNeg + 1)).1 := fun N tr v' F => ⟨by rw [hx21, es0]; exact k9b_16 (hP N tr v' F).1 (hP N tr v' F).2 z9 z8 rm (by omega), nl⟩
        refine ⟨⟨z0, fun N tr v' F => ?_⟩, fun y => ?_, NX, nl⟩
        rotate_left
        · have y1 := zt y
          have u0 : (0 : Int32).toInt = 0 := rfl
          rw [hx21, es0]
          rcases q18.2.2.2.2.2 with q | q <;> rw [q]
          · rw [add_i (by rw [u0]; omega) (by rw [u0]; omega), u0]
            omega
          · rw [add_i (by rw [e1]; omega) (by rw [e1]; omega), e1]
            omega
        obtain ⟨k1, M, HW⟩ := hW N tr v' F
        obtain ⟨d1, d2⟩ := id_21 M HW
        have mw : (am6 τ150 (zR κ chMachine a0)).1 716 = zI τ150 maWays (zR κ chMachine a0) := am_i6 (f := 716) (by decide)
        rw [mw] at d1 d2
        refine ⟨k1, ?_⟩
        by_cases c : 0 ≤ y150_s2.toInt ∧ y150_s2.toInt < (zI τ150 maWays (zR κ chMachine a0)).toInt
        · obtain ⟨v1, z1⟩ := z9.1 c
          rw [hx21, es0, v1, ex9]
          exact d1 c _ z1
        · obtain ⟨v1, z1⟩ := z9.2 c
          have d3 := d2 c
          rw [← z1] at d3
          rw [hx21, es0, v1, ex9, Int32.add_zero]
          exact d3
  have hj109 : ∀ (l0 : Nat) (l1 : Int32) (l4 : Int32) (l5 : Int64) (l7 : Int32) (l8 : Int32) (l9 : Int64) (l11 : Int32) (τ : zS), zW C (zn κ) τ → zT τ l0 = 15 → ((a0 = l0 ∧ a1 = l1 ∧ a4 = l4 ∧ pfJ9 κ τ a0 ∧ (mO τ (zR κ chMachine a0) ∧ (zI τ maWays (zR κ chMachine a0)).toInt ≤ 64) ∧ (0 ≤ l8.toInt ∧ l8.toInt ≤ l11.toInt) ∧ (l11 = x26_11 ∧ l11.toInt < a4.toInt) ∧ (¬ a1 = 0 → l8.toInt < 200)) ∧ JM21 nv s w (cu7 κ (zR κ chCode a0)) a4 σ9 (am6 τ (zR κ chMachine a0)) l5 l7 l8 l9 l11 4 ∧ (¬ a1 = 0 → l8 ≠ zI κ chTolds a0 ∧ 0 ≤ l8.toInt ∧ l8.toInt < (zI κ chTolds a0).toInt) ∧ (∀ N tr v', TRF21 a4 σ9 N tr v' → MP16 (dW16 τ a0) (dT16 τ a0) nv w s (cu7 κ (zR κ chCode a0)) σ9 (am6 τ (zR κ chMachine a0)) l5 l11 l8 4 (tr (l11.toNatClampNeg + 1))) ∧ (l8.toInt ≤ (zN τ (zR τ chDrawnWeights a0) : Int))) → w_Ch_perform_109 C (zn κ) Q (fun (l0' : Nat) (l1' : Int32) (l4' : Int32) (l5' : Int64) (l7' : Int32) (l8' : Int32) (l9' : Int64) (l11' : Int32) (τ : zS) => ∃ k < n26, (fun (n : Nat) (l0 : Nat) (l1 : Int32) (l4 : Int32) (l5 : Int64) (l7 : Int32) (l8 : Int32) (l9 : Int64) (l11 : Int32) (τ : zS) => n = (a4.toInt - l11.toInt).toNat ∧ ((a0 = l0 ∧ a1 = l1 ∧ a4 = l4 ∧ pfJ9 κ τ a0 ∧ (zI τ maOutcome (zR κ chMachine a0) = 0 → mO τ (zR κ chMachine a0)) ∧ (0 ≤ l8.toInt ∧ l8.toInt ≤ l11.toInt)) ∧ HD21 nv s w (cu7 κ (zR κ chCode a0)) a4 σ9 (am6 τ (zR κ chMachine a0)) l5 l7 l8 l9 l11 ∧ (¬ a1 = 0 → l8.toInt ≤ (zI κ chTolds a0).toInt) ∧ (∀ N tr v', TRF21 a4 σ9 N tr v' → PP16 τ a0 l8 (tr l11.toNatClampNeg).1) ∧ (l8.toInt ≤ (zN τ (zR τ chDrawnWeights a0) : Int)))) k l0' l1' l4' l5' l7' l8' l9' l11' τ) l0 l1 l4 l5 l7 l8 l9 l11 τ := by
    rintro _ _ _ y109_5 y109_7 y109_8 y109_9 y109_11 τ109 W109 T109_0 ⟨⟨rfl, rfl, rfl, j109⟩, hE⟩
    unfold w_Ch_perform_109
    intro x22 hx22
    obtain ⟨J9, ⟨O9, w9⟩, b9, ex, h20⟩ := j109
    have rm := J9.2.1 chMachine (by decide) (by decide)
    refine ⟨fun c23 => ?_, fun c23 => ?_⟩
    · skip
      intro T24
      refine Ma_wayAt_c3 W109 T24  ?_ (fun r25 q27 => ?_)
      · rw [rm]
        exact ⟨J9.2.2.1.1, w9⟩
      intro W28
      intro M29
      refine hj150 _ _ _ _ _ _ _ _ _ _ _ _ W28 ?_ ?_ ?_
      · exact T109_0  -- t11
      · exact T109_0  -- t12
      · refine and_5 ?_ (fun o9 => ?_)  -- k13
        · exact ⟨rfl, rfl, rfl, J9, ⟨O9, w9⟩, b9, ex, rfl, rfl⟩
        · obtain ⟨⟨z0, hM⟩, _, hP, hl⟩ := hE
          have HWs : ∀ N tr v', TRF21 a4 σ9 N tr v' → HW21 σ9 (am6 τ109 (zR κ chMachine a0)) y109_5 y109_8 r25 := fun N tr v' F => by
            obtain ⟨k1, M⟩ := hM N tr v' F
            refine ⟨fun h3 => ?_, fun h3 => absurd h3 (hG.2.1.mp c23)⟩
            rw [rm] at q27
            have e6 : (am6 τ109 (zR κ chMachine a0)).1 716 = zI τ109 maWays (zR κ chMachine a0) := am_i6 (f := 716) (by decide)
            have e7 : (am6 τ109 (zR κ chMachine a0)).1 717 = zI τ109 maTotal (zR κ chMachine a0) := am_i6 (f := 717) (by decide)
            have e9 : (am6 τ109 (zR κ chMachine a0)).2.1 719 = zA τ109 (zR τ109 maWeights (zR κ chMachine a0)) := (am_rw6 (f := 719) (by decide)).1
            have pw := wp_21 M
            rw [e6, e7, e9] at pw
            have sh := shr33 (x := x22)
            have q28 := q27.2 ⟨pw.1, sh, pw.2⟩
            have es : sh21 (sd21 y109_5) = ((Int64.toUInt64 x22 >>> (Int64.toUInt64 (Int32.toInt64 (33 : Int32)) &&& Int64.toUInt64 63)).toInt64).toInt := by rw [hx22]; rfl
            rw [e6, e7, e9, lei, t0i, es]
            exact q28
          exact ⟨⟨z0, y109_5, hx22, fun N tr v' F => ⟨(hM N tr v' F).1, (hM N tr v' F).2, HWs N tr v' F⟩⟩, fun y => absurd c23 y, ⟨y109_5, fun N tr v' F => ⟨hP N tr v' F, HWs N tr v' F⟩⟩, hl⟩
    · skip
      refine ⟨?_, ?_⟩
      · rw [inb_iff, J9.2.1 chTold (by decide) (by decide), J9.1.l (ty_chTold W Ta0), n200]
        have := h20 c23
        omega
      refine hj150 _ _ _ _ _ _ _ _ _ _ _ _ W109 ?_ ?_ ?_
      · exact T109_0  -- t15
      · exact T109_0  -- t16
      · refine and_5 ?_ (fun o9 => ?_)  -- k17
        · exact ⟨rfl, rfl, rfl, J9, ⟨O9, w9⟩, b9, ex, rfl, rfl⟩
        · obtain ⟨⟨z0, hM⟩, ht, hP, hl⟩ := hE
          obtain ⟨t1, t2, t3⟩ := ht c23
          have HWs : ∀ N tr v', TRF21 a4 σ9 N tr v' → HW21 σ9 (am6 τ109 (zR κ chMachine a0)) y109_5 y109_8 (zA τ109 (zR τ109 chTold a0) y109_8.toNatClampNeg) := fun N tr v' F => by
            have h3 : σ9.1 113 = 0 := Decidable.byContradiction (fun q => c23 (hG.2.1.mpr q))
            obtain ⟨⟨g1, _⟩, g2⟩ := hG.2.2.2.1 h3
            refine ⟨fun q => absurd h3 q, fun _ => ⟨by rw [g1]; exact t1, ?_⟩⟩
            have k8 := cnk t2
            have kt := cnk (x := zI κ chTolds a0) (by omega)
            have nT : ¬ dwF9 (zR κ chMachine a0) a0 chTold a0 := fun y => by
              rcases y with y | ⟨_, y | y⟩
              · exact am.1 y
              · exact absurd y (by decide)
              · exact absurd y (by decide)
            rw [(J9.1.row W (show zr chTold = some 20 by decide +kernel) (by decide) (Ta0.trans (by decide)) nT).1]
            exact g2 _ (by omega)
          exact ⟨⟨z0, y109_5, hx22, fun N tr v' F => ⟨(hM N tr v' F).1, (hM N tr v' F).2, HWs N tr v' F⟩⟩, fun _ => t3, ⟨y109_5, fun N tr v' F => ⟨hP N tr v' F, HWs N tr v' F⟩⟩, hl⟩
  obtain ⟨J2, O2, b20, b21⟩ := i26
  have rm := J2.2.1 chMachine (by decide) (by decide)
  have tm2 : zT κ26 (zR κ chMachine a0) = 7 := J2.1.t tm (by decide)
  refine ⟨fun c30 => ?_, fun c30 => ?_⟩
  · skip
    refine hj180 _ _ _ _ _ W26 ?_ ?_
    · exact T26_0  -- t18
    · refine and_5 ?_ (fun o9 => ?_)  -- k19
      · exact ⟨rfl, J2⟩
      · intro N tr v' F
        obtain ⟨⟨⟨z1, z2, z3⟩, hA⟩, _, hP, hl⟩ := hE
        obtain ⟨k1, A⟩ := hA N tr v' F
        have en : x26_11 = a4 := Int32.toInt_inj.mp (by rw [lei] at c30; omega)
        rw [z1]
        exact ⟨iz_23 F k1 A (Or.inr en), iz_16 F k1 A (hP N tr v' F).1 (Or.inr en), hl⟩
  · skip
    refine ⟨fun c31 => ?_, fun c31 => ?_⟩
    · skip
      refine hj180 _ _ _ _ _ W26 ?_ ?_
      · exact T26_0  -- t20
      · refine and_5 ?_ (fun o9 => ?_)  -- k21
        · exact ⟨rfl, J2⟩
        · intro N tr v' F
          obtain ⟨⟨⟨z1, z2, z3⟩, hA⟩, _, hP, hl⟩ := hE
          obtain ⟨k1, A⟩ := hA N tr v' F
          rw [rm] at c31
          rw [z1]
          have no : ¬ (am6 κ26 (zR κ chMachine a0)).1 711 = 0 := fun q => c31 ((am_i6 (f := 711) (by decide)).symm.trans q)
          exact ⟨iz_23 F k1 A (Or.inl no), iz_16 F k1 A (hP N tr v' F).1 (Or.inl no), hl⟩
    · skip
      intro T32
      refine Ma_act_q21 W26 T32  ?_ (fun κ_33 q34 => ?_)
      · rw [rm] at c31 ⊢
        exact ⟨J2.2.2.1, O2 c31⟩
      obtain ⟨q34, z9⟩ := q34
      have zA := z9
      intro W35
      intro M36
      rw [rm] at q34
      rw [lei] at c30
      have J3 := pf_m9 W26 tm2 J2 q34.1
      have T33 : zT κ_33 a0 = 15 := J3.1.t Ta0 (by decide)
      have rm3 := J3.2.1 chMachine (by decide) (by decide)
      rw [rm3]
      have O3 : zI κ_33 maOutcome (zR κ chMachine a0) = 0 → mO κ_33 (zR κ chMachine a0) := fun z => by
        rcases q34.2.2.1 with y | y
        · exact y
        · rw [y] at z
          exact absurd z (by decide)
      have D3 : zI κ_33 maWants (zR κ chMachine a0) = 3 ∨ zI κ_33 maWants (zR κ chMachine a0) = 4 → mO κ_33 (zR κ chMachine a0) ∧ (zI κ_33 maWays (zR κ chMachine a0)).toInt ≤ 64 := fun z => by
        have ne : zI κ_33 maWants (zR κ chMachine a0) ≠ -1 := fun y => by
          rw [y] at z
          rcases z with z | z <;> exact absurd z (by decide)
        refine ⟨q34.2.2.2.2 ne, ?_⟩
        rcases q34.2.2.2.1 with y | y | y
        · exact absurd y ne
        · exact y.2.1.2
        · have := y.2.1.2
          omega
      rw [rm] at zA
      have c32 : (am6 κ26 (zR κ chMachine a0)).1 711 = 0 := (am_i6 (f := 711) (by decide)).trans (by rw [← rm]; exact c31)
      have JJ := ja_21 hE.1 c32 c30 zA hG.2.2.2.2.2.2.1 hG.2.2.2.2.2.1
      have w3 : (am6 κ_33 (zR κ chMachine a0)).1 715 = zI κ_33 maWants (zR κ chMachine a0) := am_i6 (f := 715) (by decide)
      rw [w3] at JJ
      have JM3 : zI κ_33 maWants (zR κ chMachine a0) = 3 → JM21 nv s w (cu7 κ (zR κ chCode a0)) a4 σ9 (am6 κ_33 (zR κ chMachine a0)) x26_5 x26_7 x26_8 x26_9 x26_11 4 := fun c => ⟨JJ.1, fun N tr v' F => by
        obtain ⟨k1, y⟩ := JJ.2 N tr v' F
        rw [c] at y
        rcases y with ⟨y, _⟩ | ⟨_, y⟩ | ⟨y, _⟩
        · exact absurd y (by decide)
        · exact ⟨k1, y⟩
        · exact absurd y (by decide)⟩
      have o3 := dr_o16 W26 T26_0 q34.1.1 (fun z => am.1 z) (fun z => am.1 z)
      have L3 : x26_8.toInt ≤ (zN κ_33 (zR κ_33 chDrawnWeights a0) : Int) := by
        rw [o3.2.2]
        exact hE.2.2.2
      have X3 : ∀ N tr v', TRF21 a4 σ9 N tr v' → (zI κ_33 maWants (zR κ chMachine a0) = -1 → PR16 (dW16 κ_33 a0) (dT16 κ_33 a0) x26_8 (tr (x26_11.toNatClampNeg + 1)).1) ∧ (zI κ_33 maWants (zR κ chMachine a0) = 3 → MP16 (dW16 κ_33 a0) (dT16 κ_33 a0) nv w s (cu7 κ (zR κ chCode a0)) σ9 (am6 κ_33 (zR κ chMachine a0)) x26_5 x26_11 x26_8 4 (tr (x26_11.toNatClampNeg + 1))) ∧ (zI κ_33 maWants (zR κ chMachine a0) = 4 → MP16 (dW16 κ_33 a0) (dT16 κ_33 a0) nv w s (cu7 κ (zR κ chCode a0)) σ9 (am6 κ_33 (zR κ chMachine a0)) x26_5 x26_11 x26_8 5 (tr (x26_11.toNatClampNeg + 1))) := fun N tr v' F => by
        obtain ⟨⟨_, hA⟩, _, hP, _⟩ := hE
        obtain ⟨k1, A⟩ := hA N tr v' F
        have y := ia_16 F k1 A (hP N tr v' F).1 c32 (fun z => c30 (by rw [z]; exact Int.le_refl _)) zA hG.2.2.2.2.2.2.1 hG.2.2.2.2.2.1
        rw [w3] at y
        rw [o3.1, o3.2.1]
        exact y
      refine ⟨fun c37 => ?_, fun c37 => ?_⟩
      · skip
        refine ⟨fun c38 => ?_, fun c38 => ?_⟩
        · skip
          refine hj158 _ _ _ _ _ _ _ _ _ W35 ?_ ?_
          · exact T33  -- t23
          · refine and_5 ?_ (fun o9 => ?_)  -- k24
            · exact ⟨rfl, rfl, rfl, J3, O3, ⟨b20, by omega⟩, rfl, by omega, by omega⟩
            · refine ⟨⟨JJ.1, fun N tr v' F => ?_⟩, hE.2.1, fun N tr v' F => ⟨(X3 N tr v' F).1 ?_, L3⟩, L3⟩
              rotate_right
              · rcases (JJ.2 N tr v' F).2 with ⟨y, _⟩ | ⟨y, _⟩ | ⟨y, _⟩
                · exact y
                · exact absurd y c38
                · exact absurd y c37
              obtain ⟨k1, y⟩ := JJ.2 N tr v' F
              rcases y with ⟨_, y⟩ | ⟨y, _⟩ | ⟨y, _⟩
              · exact ⟨k1, y⟩
              · exact absurd y c38
              · exact absurd y c37
        · skip
          refine ⟨fun c39 => ?_, fun c39 => ?_⟩
          · skip
            refine hj109 _ _ _ _ _ _ _ _ _ W35 ?_ ?_
            · exact T33  -- t25
            · refine and_5 ?_ (fun o9 => ?_)  -- k26
              · exact ⟨rfl, rfl, rfl, J3, D3 (Or.inl c38), ⟨b20, b21⟩, ⟨rfl, by omega⟩, fun z => absurd c39 z⟩
              · exact ⟨JM3 c38, fun z => absurd c39 z, fun N tr v' F => (X3 N tr v' F).2.1 c38, L3⟩
          · skip
            refine ⟨fun c40 => ?_, fun c40 => ?_⟩
            · skip
              refine hj109 _ _ _ _ _ _ _ _ _ W35 ?_ ?_
              · exact T33  -- t27
              · refine and_5 ?_ (fun o9 => ?_)  -- k28
                · refine ⟨rfl, rfl, rfl, J3, D3 (Or.inl c38), ⟨b20, b21⟩, ⟨rfl, by omega⟩, fun z => ?_⟩
                  have it : zI κ_33 chTolds a0 = zI κ chTolds a0 := J3.1.i (fun y => by
                    rcases y with y | ⟨_, y | y⟩
                    · exact am.1 y
                    · exact absurd y (by decide)
                    · exact absurd y (by decide))
                  rw [lti, it] at c40
                  omega
                · have it : zI κ_33 chTolds a0 = zI κ chTolds a0 := J3.1.i (fun y => by
                    rcases y with y | ⟨_, y | y⟩
                    · exact am.1 y
                    · exact absurd y (by decide)
                    · exact absurd y (by decide))
                  have c41 := c40
                  rw [lti, it] at c41
                  exact ⟨JM3 c38, fun _ => ⟨fun y => by rw [y] at c41; omega, b20, c41⟩, fun N tr v' F => (X3 N tr v' F).2.1 c38, L3⟩
            · skip
              refine hj180 _ _ _ _ _ W35 ?_ ?_
              · exact T33  -- t29
              · refine and_5 ?_ (fun o9 => ?_)  -- k30
                · exact ⟨rfl, J3⟩
                · intro N tr v' F
                  have it : zI κ_33 chTolds a0 = zI κ chTolds a0 := J3.1.i (fun y => by
                    rcases y with y | ⟨_, y | y⟩
                    · exact am.1 y
                    · exact absurd y (by decide)
                    · exact absurd y (by decide))
                  obtain ⟨z0, hM⟩ := JM3 c38
                  obtain ⟨k1, M⟩ := hM N tr v' F
                  have h3 : σ9.1 113 = 0 := Decidable.byContradiction (fun q => c39 (hG.2.1.mpr q))
                  obtain ⟨⟨g1, _⟩, g2⟩ := hG.2.2.2.1 h3
                  rw [z0.1]
                  have dl := hE.2.1 c39
                  rw [lti, it] at c40
                  have dd : x26_8 = σ9.1 104 := by
                    rw [g1]
                    exact Int32.toInt_inj.mp (by omega)
                  exact ⟨ie_23 F k1 M h3 dd, ie_16 F k1 ((X3 N tr v' F).2.1 c38) h3 dd, L3⟩
      · skip
        intro T41
        intro T42
        have A3 := ch_a9 W (ty_chAtlas W Ta0) J3.1 (fun f x z => by rcases F7 f x z with y | y <;> rw [y] <;> decide) H0
        refine At_chosen_c2 W35 T41 T42  ?_ (fun r43 q45 => ?_)
        · rw [J3.2.1 chAtlas (by decide) (by decide)]
          have ns : ∀ f x, dwF9 (zR κ chMachine a0) a0 f x → zT κ x ≠ 6 := fun f x z => by rcases F7 f x z with y | y <;> rw [y] <;> decide
          have rS3 : zR κ_33 atStates (zR κ chAtlas a0) = zR κ atStates (zR κ chAtlas a0) := J3.1.r (fun z => by
            have t3 := ty_chAtlas W Ta0
            rcases F7 _ _ z with y | y <;> rw [y] at t3 <;> exact absurd t3 (by decide))
          refine ⟨A3.1, fun z => A3.2.1 (M0 (by rw [← A3.2.2]; exact z)), fun z => ⟨?_, ?_⟩⟩
          · rw [A3.2.2] at z
            obtain ⟨n9, S9, _⟩ := hG.2.2.2.2.1.2 (fun y => z (hG.2.2.2.2.1.1.mpr y))
            rw [rS3]
            exact hoU_h6 (HS_z6 W (ty_atStates W (ty_chAtlas W Ta0)) J3.1 (fun f y => ns f _ y (ty_atStates W (ty_chAtlas W Ta0)))) S9.1
          · have yl := mO_m9 (D3 (Or.inr c37)).1
            rw [yl.1, J3.2.2.1.1.1]
            exact ⟨yl.2.2, yl.2.1⟩
        intro W46
        intro M47
        intro T48
        refine Ma_settle_q6 W46 T48  ?_ (fun κ_49 q50 => ?_)
        · exact ⟨J3.2.2.1, D3 (Or.inr c37)⟩  -- p32
        obtain ⟨q50, z9⟩ := q50
        intro W51
        intro M52
        refine hj158 _ _ _ _ _ _ _ _ _ W51 ?_ ?_
        · exact q50.1.1.t T33 (by decide)  -- t33
        · refine and_5 ?_ (fun o9 => ?_)  -- k34
          · refine ⟨rfl, rfl, rfl, pf_m9 W46 (J3.1.t tm (by decide)) J3 q50.1, fun z => ?_, ⟨b20, by omega⟩, rfl, by omega, by omega⟩
            rcases q50.2.2.1 with y | y
            · exact y
            · rw [y] at z
              exact absurd z (by decide)
          · have rA3 := J3.2.1 chAtlas (by decide) (by decide)
            have tA := ty_chAtlas W Ta0
            have nA : ∀ f, ¬ dwF9 (zR κ chMachine a0) a0 f (zR κ chAtlas a0) := fun f z => by
              have t3 := tA
              rcases F7 _ _ z with q | q <;> rw [q] at t3 <;> exact absurd t3 (by decide)
            have nS : ∀ f, ¬ dwF9 (zR κ chMachine a0) a0 f (zR κ atStates (zR κ chAtlas a0)) := fun f z => by
              have t3 := ty_atStates W tA
              rcases F7 _ _ z with q | q <;> rw [q] at t3 <;> exact absurd t3 (by decide)
            have EX3 : EX21 κ_33 (zR κ chAtlas a0) w s σ9 := by
              obtain ⟨h1, h2⟩ := hG.2.2.2.2.1
              refine ⟨by rw [J3.1.i (nA atExplored)]; exact h1, fun q => ?_⟩
              obtain ⟨n9, S9, y1, y2, y3, y4⟩ := h2 q
              refine ⟨n9, ?_, y1, y2, ?_, y4⟩
              · rw [J3.1.r (nA atStates)]
                exact SH_h6 (HS_z6 W (ty_atStates W tA) J3.1 nS) S9 rfl rfl
              · rw [(J3.1.row W (show zr atPlan = some 20 by decide +kernel) (by decide) (tA.trans (by decide)) (nA atPlan)).1]
                exact y3
            rw [rA3] at q45
            have o5 := dr_o16 W46 T33 q50.1.1 (fun z => am.1 z) (fun z => am.1 z)
            have L5 : x26_8.toInt ≤ (zN κ_49 (zR κ_49 chDrawnWeights a0) : Int) := by
              rw [o5.2.2]
              exact L3
            refine ⟨⟨JJ.1, fun N tr v' F => ?_⟩, hE.2.1, fun N tr v' F => ⟨?_, L5⟩, L5⟩
            · obtain ⟨k1, y⟩ := JJ.2 N tr v' F
              rcases y with ⟨y, _⟩ | ⟨y, _⟩ | ⟨_, y⟩
              · rw [c37] at y; exact absurd y (by decide)
              · rw [c37] at y; exact absurd y (by decide)
              · exact ⟨k1, ic_21 y EX3 q45 z9⟩
            · rw [o5.1, o5.2.1]
              exact ic_16 ((X3 N tr v' F).2.2 c37) EX3 q45 z9

end
section
set_option maxHeartbeats 1600000
/-! what is carried between calls: solved visits, worths, what is shown, the odds of the last play's draws -/
def fr16 (κ : zS) (u : Nat) (q : Rat) : Prop := zT κ u = 11 ∧ rqW8 κ u q
/-- the class keeps its visits, its worths, what is shown, what was drawn -/
def kV16 (κ κ' : zS) (a : Nat) : Prop := zI κ' soSolved (zR κ' chSolver a) = zI κ soSolved (zR κ chSolver a) ∧ ∀ k q, k < 1000 → fr16 κ (vU9 κ (zR κ chSolver a) k) q → fr16 κ' (vU9 κ' (zR κ' chSolver a) k) q
def kW16 (κ κ' : zS) (a : Nat) : Prop := zI κ' soPlanned (zR κ' chSolver a) = zI κ soPlanned (zR κ chSolver a) ∧ ∀ k q, k < 1000 → fr16 κ (wU9 κ (zR κ chSolver a) k) q → fr16 κ' (wU9 κ' (zR κ' chSolver a) k) q
def kS16 (κ κ' : zS) (a : Nat) : Prop := ∀ q, fr16 κ (zR κ chShown a) q → fr16 κ' (zR κ' chShown a) q
def kD16 (κ κ' : zS) (a : Nat) : Prop := dW16 κ' a = dW16 κ a ∧ dT16 κ' a = dT16 κ a ∧ zN κ' (zR κ' chDrawnWeights a) = zN κ (zR κ chDrawnWeights a)
def kA16 (κ κ' : zS) (a : Nat) : Prop := kV16 κ κ' a ∧ kW16 κ κ' a ∧ kS16 κ κ' a ∧ kD16 κ κ' a
theorem kA_r16 {κ : zS} {a : Nat} : kA16 κ κ a := ⟨⟨rfl, fun _ _ _ z => z⟩, ⟨rfl, fun _ _ _ z => z⟩, fun _ z => z, rfl, rfl, rfl⟩
theorem kA_t16 {κ τ υ : zS} {a : Nat} (h : kA16 κ τ a) (g : kA16 τ υ a) : kA16 κ υ a := ⟨⟨g.1.1.trans h.1.1, fun k q hk z => g.1.2 k q hk (h.1.2 k q hk z)⟩, ⟨g.2.1.1.trans h.2.1.1, fun k q hk z => g.2.1.2 k q hk (h.2.1.2 k q hk z)⟩, fun q z => g.2.2.1 q (h.2.2.1 q z), g.2.2.2.1.trans h.2.2.2.1, g.2.2.2.2.1.trans h.2.2.2.2.1, g.2.2.2.2.2.trans h.2.2.2.2.2⟩
theorem fr_z16 {C : zC} {n0 u : Nat} {F : Nat → Nat → Prop} {κ τ : zS} {q : Rat} (W : zW C n0 κ) (Z : zF F κ τ) (h8 : ∀ f w, zT κ w = 8 → ¬ F f w) (h11 : ∀ f v, zT κ v = 11 → ¬ F f v) (h : fr16 κ u q) : fr16 τ u q := ⟨Z.t h.1 (by decide), rq_h8 W h.1 Z h8 h11 h.2⟩
theorem vw_z16 {C : zC} {n0 s : Nat} {F : Nat → Nat → Prop} {κ τ : zS} (W : zW C n0 κ) (T : zT κ s = 12) (Z : zF F κ τ) (n1 : ¬ F soVisits s) : ∀ k, vU9 τ s k = vU9 κ s k := fun k => by
  unfold vU9
  rw [(Z.row W (show zr soVisits = some 25 by decide +kernel) (by decide) T n1).2.2]
theorem ww_z16 {C : zC} {n0 s : Nat} {F : Nat → Nat → Prop} {κ τ : zS} (W : zW C n0 κ) (T : zT κ s = 12) (Z : zF F κ τ) (n1 : ¬ F soWorths s) : ∀ k, wU9 τ s k = wU9 κ s k := fun k => by
  unfold wU9
  rw [(Z.row W (show zr soWorths = some 25 by decide +kernel) (by decide) T n1).2.2]
theorem kV_z16 {C : zC} {n0 a : Nat} {F : Nat → Nat → Prop} {κ τ : zS} (W : zW C n0 κ) (T : zT κ a = 15) (Z : zF F κ τ) (h8 : ∀ f w, zT κ w = 8 → ¬ F f w) (h11 : ∀ f v, zT κ v = 11 → ¬ F f v) (n1 : ¬ F chSolver a) (n2 : ¬ F soSolved (zR κ chSolver a)) (n3 : ¬ F soVisits (zR κ chSolver a)) : kV16 κ τ a := by
  have ts := ty_chSolver W T
  unfold kV16
  rw [Z.r n1, Z.i n2]
  refine ⟨rfl, fun k q _ z => ?_⟩
  rw [vw_z16 W ts Z n3 k]
  exact fr_z16 W Z h8 h11 z
theorem kW_z16 {C : zC} {n0 a : Nat} {F : Nat → Nat → Prop} {κ τ : zS} (W : zW C n0 κ) (T : zT κ a = 15) (Z : zF F κ τ) (h8 : ∀ f w, zT κ w = 8 → ¬ F f w) (h11 : ∀ f v, zT κ v = 11 → ¬ F f v) (n1 : ¬ F chSolver a) (n2 : ¬ F soPlanned (zR κ chSolver a)) (n3 : ¬ F soWorths (zR κ chSolver a)) : kW16 κ τ a := by
  have ts := ty_chSolver W T
  unfold kW16
  rw [Z.r n1, Z.i n2]
  refine ⟨rfl, fun k q _ z => ?_⟩
  rw [ww_z16 W ts Z n3 k]
  exact fr_z16 W Z h8 h11 z
theorem kS_z16 {C : zC} {n0 a : Nat} {F : Nat → Nat → Prop} {κ τ : zS} (W : zW C n0 κ) (Z : zF F κ τ) (h8 : ∀ f w, zT κ w = 8 → ¬ F f w) (h11 : ∀ f v, zT κ v = 11 → ¬ F f v) (n1 : ¬ F chShown a) : kS16 κ τ a := fun q z => by
  rw [Z.r n1]
  exact fr_z16 W Z h8 h11 z
theorem kA_z16 {C : zC} {n0 a : Nat} {F : Nat → Nat → Prop} {κ τ : zS} (W : zW C n0 κ) (T : zT κ a = 15) (Z : zF F κ τ) (h8 : ∀ f w, zT κ w = 8 → ¬ F f w) (h11 : ∀ f v, zT κ v = 11 → ¬ F f v) (n : ∀ f, f = chSolver ∨ f = chShown ∨ f = chDrawnWeights ∨ f = chDrawnTotals → ¬ F f a) (m : ∀ f, f = soSolved ∨ f = soVisits ∨ f = soPlanned ∨ f = soWorths → ¬ F f (zR κ chSolver a)) : kA16 κ τ a := ⟨kV_z16 W T Z h8 h11 (n _ (Or.inl rfl)) (m _ (Or.inl rfl)) (m _ (Or.inr (Or.inl rfl))), kW_z16 W T Z h8 h11 (n _ (Or.inl rfl)) (m _ (Or.inr (Or.inr (Or.inl rfl)))) (m _ (Or.inr (Or.inr (Or.inr rfl)))), kS_z16 W Z h8 h11 (n _ (Or.inr (Or.inl rfl))), dr_o16 W T Z (n _ (Or.inr (Or.inr (Or.inl rfl)))) (n _ (Or.inr (Or.inr (Or.inr rfl))))⟩
/-- where only objects of few makes change -/
theorem kA_u16 {C : zC} {n0 a : Nat} {F : Nat → Nat → Prop} {κ τ : zS} (W : zW C n0 κ) (T : zT κ a = 15) (Z : zF F κ τ) (hT : ∀ f x, F f x → zT κ x ≠ 8 ∧ zT κ x ≠ 11 ∧ zT κ x ≠ 12) (n : ∀ f, f = chSolver ∨ f = chShown ∨ f = chDrawnWeights ∨ f = chDrawnTotals → ¬ F f a) : kA16 κ τ a := kA_z16 W T Z (fun f w e z => (hT f w z).1 e) (fun f w e z => (hT f w z).2.1 e) n (fun f _ z => (hT _ _ z).2.2 (ty_chSolver W T))
theorem nu_k16 {σ τ : rS} {k : Nat} (h91 : τ.2.2.1 91 k = σ.2.2.1 91 k) (h90 : ∀ i, i < 40000 → τ.2.2.1 90 (40000 * k + i) = σ.2.2.1 90 (40000 * k + i)) (h : numO σ k) : numO τ k ∧ nV τ k = nV σ k := by
  obtain ⟨a, b, c, d⟩ := h
  have eL : nL τ k = nL σ k := by
    unfold nL
    rw [h91]
  have lb : nL σ k ≤ 40000 := cn_le (y := 40000) rfl b
  refine ⟨⟨by rw [h91]; exact a, by rw [h91]; exact b, fun i hi => ?_, ?_⟩, ?_⟩
  · rw [eL] at hi
    rw [h90 i (by omega)]
    exact c i hi
  · rcases d with d | ⟨m, m1, m2⟩
    · exact Or.inl (eL.trans d)
    · exact Or.inr ⟨m, eL.trans m1, by rw [h90 m (by omega)]; exact m2⟩
  · unfold nV
    rw [eL]
    exact dv_congr (fun i hi => h90 i (by omega))
def nM15 (σ τ : rS) : Prop := ∀ k, 15 ≤ k → k ≤ 16 → τ.2.2.1 91 k = σ.2.2.1 91 k ∧ ∀ i, i < 40000 → τ.2.2.1 90 (40000 * k + i) = σ.2.2.1 90 (40000 * k + i)
def nM17 (σ τ : rS) : Prop := ∀ k, 17 ≤ k → k ≤ 18 → τ.2.2.1 91 k = σ.2.2.1 91 k ∧ ∀ i, i < 40000 → τ.2.2.1 90 (40000 * k + i) = σ.2.2.1 90 (40000 * k + i)
theorem nM_716 {σ τ : rS} (h : nM16 σ τ) : nM17 σ τ := fun k a b => h k (by omega) b
theorem nM_515 {σ τ : rS} (h : nM16 σ τ) : nM15 σ τ := fun k a b => h k a (by omega)
theorem hR_k16 {σ τ : rS} {q : Rat} (h : nM15 σ τ) (H : hR σ 15 16 q) : hR τ 15 16 q := by
  obtain ⟨a, b, c, d⟩ := H
  have x := nu_k16 (h 15 (by decide) (by decide)).1 (h 15 (by decide) (by decide)).2 a
  have y := nu_k16 (h 16 (by decide) (by decide)).1 (h 16 (by decide) (by decide)).2 b
  exact ⟨x.1, y.1, by rw [x.2]; exact c, by rw [y.2]; exact d⟩
theorem wK_r16 {σ τ : rS} (hr : ∀ k, 76 ≤ k → k ≤ 83 → k ≠ 82 → τ.2.2.1 k = σ.2.2.1 k) (s : Nat) (t : Int32) : wKI τ s t = wKI σ s t := by
  have e : ∀ i, wcI τ s t i = wcI σ s t i := fun i => by
    unfold wcI twI
    rw [hr 77 (by decide) (by decide) (by decide), hr 78 (by decide) (by decide) (by decide), hr 79 (by decide) (by decide) (by decide), hr 76 (by decide) (by decide) (by decide), hr 81 (by decide) (by decide) (by decide), hr 83 (by decide) (by decide) (by decide)]
  unfold wKI wpI leN loN
  rw [hr 76 (by decide) (by decide) (by decide)]
  congr 1
  funext d
  exact e _
theorem rP_r16 {σ τ : rS} {m r j : Nat} (hr : ∀ k, 76 ≤ k → k ≤ 83 → k ≠ 82 → τ.2.2.1 k = σ.2.2.1 k) (h99 : τ.2.2.1 99 = σ.2.2.1 99) : rP τ m r j = rP σ m r j := by
  have eT : ∀ s, tTI τ s = tTI σ s := fun s => tT_f (hr 80 (by decide) (by decide) (by decide)) (hr 81 (by decide) (by decide) (by decide))
  unfold rP rK riT mN
  rw [h99]
  simp only [eT, wK_r16 hr]
theorem pR_k16 {σ τ : rS} {s : Nat} (hr : ∀ k, 76 ≤ k → k ≤ 83 → k ≠ 82 → τ.2.2.1 k = σ.2.2.1 k) : pR15 τ s = pR15 σ s := funext (fun k => funext (fun j => rP_r16 (σ := ix15 σ) (τ := ix15 τ) (fun g a b c => by rw [ix_r15 (by omega), ix_r15 (by omega)]; exact hr g a b c) rfl))
/-- solved visits, of both sides -/
def RS16 (κ : zS) (a : Nat) (σ : rS) : Prop := (zI κ soSolved (zR κ chSolver a) = 0 ↔ σ.1 94 = 0) ∧ (σ.1 94 ≠ 0 → (σ.1 69 ≠ 0 ∧ (σ.1 70).toNatClampNeg ≤ 1000) ∧ ∃ V : Nat → Rat, (∀ k, k < (σ.1 70).toNatClampNeg → fr16 κ (vU9 κ (zR κ chSolver a) k) (V k) ∧ vR15 σ k (V k) ∧ (σ.2.2.1 95 k ≠ 0 ↔ cnE σ k)) ∧ vE15 (pR15 σ (σ.1 70).toNatClampNeg) (σ.1 70).toNatClampNeg (cnE σ) V)
/-- worths, of both sides -/
def RW16 (κ : zS) (a : Nat) (σ : rS) : Prop := (zI κ soPlanned (zR κ chSolver a) = 0 ↔ σ.1 114 = 0) ∧ (σ.1 114 ≠ 0 → (σ.1 69 ≠ 0 ∧ (σ.1 70).toNatClampNeg ≤ 1000) ∧ ∀ k, k < (σ.1 70).toNatClampNeg → fr16 κ (wU9 κ (zR κ chSolver a) k) (wr16 σ k) ∧ wr16 σ k = wbW8 σ k ∧ ftW8 (wbW8 σ k))
/-- what is shown, of both sides: nothing at first -/
def RH16 (κ : zS) (a : Nat) (σ : rS) : Prop := ∃ q, fr16 κ (zR κ chShown a) q ∧ (σ.1 103 = 0 → q = 0) ∧ (σ.1 103 ≠ 0 → hR σ 15 16 (ab16 q))
/-- the odds of the last play's draws, of both sides -/
def RD16 (κ : zS) (a : Nat) (σ : rS) : Prop := σ.1 106 ≠ -1 → (numO σ 17 ∧ numO σ 18) ∧ PP16 κ a (σ.1 109) σ
def RK16 (κ : zS) (a : Nat) (σ : rS) : Prop := RS16 κ a σ ∧ RW16 κ a σ ∧ RH16 κ a σ ∧ RD16 κ a σ
section
variable {κ κ' : zS} {a : Nat} {σ σ' : rS}
theorem RS_k16 (h : RS16 κ a σ) (c : kV16 κ κ' a) (f : ∀ g, g = 69 ∨ g = 70 ∨ g = 94 → σ'.1 g = σ.1 g) (r : ∀ g, 76 ≤ g → g ≤ 83 → g ≠ 82 → σ'.2.2.1 g = σ.2.2.1 g) (r2 : ∀ g, g = 95 ∨ g = 102 → σ'.2.2.1 g = σ.2.2.1 g) : RS16 κ' a σ' := by
  have e70 := f 70 (by decide)
  have ec : cnE σ' = cnE σ := cnE_o e70 (fun k q => r k (by omega) (by omega) (by omega))
  unfold RS16
  rw [c.1, f 94 (by decide), f 69 (by decide), e70, ec, pR_k16 r, r2 95 (by decide)]
  refine ⟨h.1, fun z => ?_⟩
  obtain ⟨e, V, v1, v2⟩ := h.2 z
  refine ⟨e, V, fun k hk => ⟨c.2 k _ (Nat.lt_of_lt_of_le hk e.2) (v1 k hk).1, ?_, (v1 k hk).2.2⟩, v2⟩
  have y := (v1 k hk).2.1
  unfold vR15 at y ⊢
  rw [sl_e16 (r2 102 (by decide)), sl_e16 (r2 102 (by decide))]
  exact y
theorem wr_k16 {k : Nat} (r2 : ∀ g, g = 115 ∨ g = 116 → σ'.2.2.1 g = σ.2.2.1 g) : wr16 σ' k = wr16 σ k := by
  unfold wr16
  rw [r2 116 (by decide), sl_e16 (r2 115 (by decide)), sl_e16 (r2 115 (by decide))]
theorem wb_k16 (f : σ'.1 70 = σ.1 70) (r : ∀ g, 76 ≤ g → g ≤ 82 → σ'.2.2.1 g = σ.2.2.1 g) : wbW8 σ' = wbW8 σ := by
  have et : trW8 σ' = trW8 σ := tr_B8 (fun g q => r g (by omega) (by omega))
  funext k
  unfold wbW8
  rw [et, f]
theorem RW_k16 (h : RW16 κ a σ) (c : kW16 κ κ' a) (f : ∀ g, g = 69 ∨ g = 70 ∨ g = 114 → σ'.1 g = σ.1 g) (r : ∀ g, 76 ≤ g → g ≤ 82 → σ'.2.2.1 g = σ.2.2.1 g) (r2 : ∀ g, g = 115 ∨ g = 116 → σ'.2.2.1 g = σ.2.2.1 g) : RW16 κ' a σ' := by
  unfold RW16
  rw [c.1, f 114 (by decide), f 69 (by decide), f 70 (by decide), wb_k16 (f 70 (by decide)) r]
  exact ⟨h.1, fun z => ⟨(h.2 z).1, fun k hk => by rw [wr_k16 r2]; exact ⟨c.2 k _ (Nat.lt_of_lt_of_le hk (h.2 z).1.2) ((h.2 z).2 k hk).1, ((h.2 z).2 k hk).2⟩⟩⟩
theorem RH_k16 (h : RH16 κ a σ) (c : kS16 κ κ' a) (f : σ'.1 103 = σ.1 103) (n : nM15 σ σ') : RH16 κ' a σ' := by
  obtain ⟨q, h1, h2, h3⟩ := h
  exact ⟨q, c q h1, by rw [f]; exact h2, fun z => hR_k16 n (h3 (by rw [← f]; exact z))⟩
theorem RD_k16 (h : RD16 κ a σ) (c : kD16 κ κ' a) (f : σ'.1 106 = σ.1 106) (f9 : σ'.1 109 = σ.1 109) (n : nM17 σ σ') : RD16 κ' a σ' := fun z => by
  rw [f] at z
  obtain ⟨⟨n1, n2⟩, ⟨a1, a2, a3, a4⟩, l⟩ := h z
  have x := nu_k16 (n 17 (by decide) (by decide)).1 (n 17 (by decide) (by decide)).2 n1
  have y := nu_k16 (n 18 (by decide) (by decide)).1 (n 18 (by decide) (by decide)).2 n2
  refine ⟨⟨x.1, y.1⟩, ?_, ?_⟩
  · rw [c.1, c.2.1, f9]
    refine ⟨a1, a2, by rw [y.2]; exact a3, a4.trans ?_⟩
    unfold fQ
    rw [x.2, y.2]
  · rw [c.2.2, f9]
    exact l
/-- all of it, where nothing of it changes -/
theorem kS_x16 (k : kS8 σ σ') : kX7 σ σ' := ⟨fun g q => k.1 g ((by decide : ∀ g, g ∈ kd7 → g ∈ ke8) g q), fun g q => k.2.1 g ((by decide : ∀ g, g ∈ kx7 → g ∈ kx8) g q)⟩
theorem kX_i16 {g : Nat} (h0 : 73 ≤ g) (h1 : g ≤ 83) : g ∈ kx7 := by
  have : g = 73 ∨ g = 74 ∨ g = 75 ∨ g = 76 ∨ g = 77 ∨ g = 78 ∨ g = 79 ∨ g = 80 ∨ g = 81 ∨ g = 82 ∨ g = 83 := by omega
  rcases this with q | q | q | q | q | q | q | q | q | q | q <;> rw [q] <;> decide
theorem RS_x16 (h : RS16 κ a σ) (c : kV16 κ κ' a) (k : kX7 σ σ') (n : kN16 σ σ') : RS16 κ' a σ' := RS_k16 h c (fun g q => by
  rcases q with q | q | q
  · rw [q]; exact k.1 69 (by decide)
  · rw [q]; exact k.1 70 (by decide)
  · exact n.1 g (by omega)) (fun g g0 g1 _ => k.2 g (kX_i16 (by omega) g1)) (fun g q => n.2.1 g (by omega))
theorem RW_x16 (h : RW16 κ a σ) (c : kW16 κ κ' a) (k : kT7 σ σ') (n : σ'.1 114 = σ.1 114 ∧ ∀ g, g = 115 ∨ g = 116 → σ'.2.2.1 g = σ.2.2.1 g) : RW16 κ' a σ' := RW_k16 h c (fun g q => by
  rcases q with q | q | q
  · rw [q]; exact k.1 69 (by decide)
  · rw [q]; exact k.1 70 (by decide)
  · rw [q]; exact n.1) (fun g g0 g1 => k.2 g (by
    have : g = 76 ∨ g = 77 ∨ g = 78 ∨ g = 79 ∨ g = 80 ∨ g = 81 ∨ g = 82 := by omega
    rcases this with q | q | q | q | q | q | q <;> rw [q] <;> decide)) n.2
theorem RK_x16 (h : RK16 κ a σ) (c : kA16 κ κ' a) (k : kX7 σ σ') (f6 : σ'.1 106 = σ.1 106) (f9 : σ'.1 109 = σ.1 109) (n : kN16 σ σ') : RK16 κ' a σ' := by
  obtain ⟨h1, h2, h3, h4⟩ := h
  obtain ⟨c1, c2, c3, c4⟩ := c
  exact ⟨RS_x16 h1 c1 k n, RW_x16 h2 c2 (kX_7 k) ⟨n.1 114 (by decide), fun g q => n.2.1 g (by omega)⟩, RH_k16 h3 c3 (n.1 103 (by decide)) (nM_515 n.2.2), RD_k16 h4 c4 f6 f9 (nM_716 n.2.2)⟩
theorem RK_k16 (h : RK16 κ a σ) (c : kA16 κ κ' a) (k : kS8 σ σ') : RK16 κ' a σ' := RK_x16 h c (kS_x16 k) (k.1 106 (by decide)) (k.1 109 (by decide)) k.2.2.2
end

end
