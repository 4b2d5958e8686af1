section
set_option maxHeartbeats 1600000
/-! the class: ChanceWorks' perform -/
theorem ch_a9 {C : zC} {n0 b : Nat} {F : Nat → Nat → Prop} {κ τ : zS} (W : zW C n0 κ) (T : zT κ b = 3) (Z : zF F κ τ) (hF : ∀ f x, F f x → zT κ x ≠ 3 ∧ zT κ x ≠ 6) (H : atH κ b) : atH τ b ∧ (atM κ b → atM τ b) ∧ zI τ atExplored b = zI κ atExplored b := by
  have no : ∀ f, ¬ F f b := fun f z => (hF f b z).1 T
  refine ⟨⟨?_, ?_⟩, fun M => ?_, Z.i (no _)⟩
  · rw [Z.r (no atStates)]
    exact hoI_zF Z W (ty_atStates W T) (fun f z => (hF f _ z).2 (ty_atStates W T)) H.1
  · rw [Z.r (no atEndings)]
    exact hoI_zF Z W (ty_atEndings W T) (fun f z => (hF f _ z).2 (ty_atEndings W T)) H.2
  · obtain ⟨m1, m2, m3, m4, m5, m6⟩ := M
    exact ⟨by rw [Z.r (no _), Z.l (ty_atFirsts W T)]; exact m1, by rw [Z.r (no _), Z.l (ty_atTotals W T)]; exact m2, by rw [Z.r (no _), Z.l (ty_atGains W T)]; exact m3, by rw [Z.r (no _), Z.l (ty_atPlan W T)]; exact m4, by rw [Z.r (no _), Z.l (ty_atChooses W T)]; exact m5, by rw [Z.r (no _), Z.l (ty_atHopeless W T)]; exact m6⟩
/-- on the way of a play -/
def pfJ9 (κ τ : zS) (a : Nat) : Prop := zF (dwF9 (zR κ chMachine a) a) κ τ ∧ (∀ f, f ≠ chDrawnWeights → f ≠ chDrawnTotals → zR τ f a = zR κ f a) ∧ mkI τ (zR κ chMachine a) ∧ dwI9 τ a
def pfF9 (m a : Nat) : Nat → Nat → Prop := fun f b => b = m ∨ (b = a ∧ (f = chDrawnWeights ∨ f = chDrawnTotals ∨ f = chRecord ∨ f = chLastShared ∨ f = chPlayMade))
theorem pf_m9 {C : zC} {n0 a : Nat} {κ τ σ : zS} (W : zW C n0 τ) (T : zT τ (zR κ chMachine a) = 7) (J : pfJ9 κ τ a) (q : mF τ σ (zR κ chMachine a)) : pfJ9 κ σ a := by
  refine ⟨J.1.tr (q.1.mono (fun f b z => Or.inl z)), fun f h1 h2 => ?_, (mkI_f q W T J.2.2.1).1, ?_⟩
  · rw [q.2.1]
    exact J.2.1 f h1 h2
  · unfold dwI9
    rw [q.2.1, q.2.2.1]
    exact J.2.2.2
theorem Ch_perform_c {C : zC} {n0 : Nat} {a0 : Nat} {a1 : Int32} {a2 : Int64} {a4 : Int32} {κ : zS} {Q : Int32 → zS → Prop} (W : zW C n0 κ) (Ta0 : zT κ a0 = 15)  (hp : maL κ (zR κ chMachine a0) ∧ coI κ (zR κ chCode a0) ∧ dwI9 κ a0 ∧ ((zN κ (zR κ chRecord a0)) = 5 ∧ (zN κ (zR κ chLastShared a0)) = 34 ∧ (zN κ (zR κ chTold a0)) = 200 ∧ (zI κ chTolds a0).toInt ≤ 200) ∧ atH κ (zR κ chAtlas a0) ∧ (zI κ atExplored (zR κ chAtlas a0) ≠ 0 → atM κ (zR κ chAtlas a0)) ∧ a4.toInt ≤ 2000) (h : ∀ (v : Int32) (κ' : zS), (zF (pfF9 (zR κ chMachine a0) a0) κ κ' ∧ (∀ f, f ≠ chDrawnWeights → f ≠ chDrawnTotals → zR κ' f a0 = zR κ f a0) ∧ mkI κ' (zR κ chMachine a0) ∧ dwI9 κ' a0) → Q v κ') : zRun C 5 mCh_perform [.ref a0, .int a1, .long a2, .int a4] κ (oI Q noX) := by
  refine Ch_perform_run W Ta0 ?_
  replace W := W.lo (Nat.le_trans W.1.2.1 W.1.2.2) (Nat.le_refl (zn κ))
  unfold w_Ch_perform_0
  have am := ch_m9 W Ta0
  have tm := ty_chMachine W Ta0
  obtain ⟨L0, C0, D0, ⟨n5, n34, n200, t20⟩, H0, M0, l4⟩ := hp
  have F7 : ∀ f x, dwF9 (zR κ chMachine a0) a0 f x → zT κ x = 7 ∨ zT κ x = 15 := by
    rintro f x (z | z)
    · left; rw [z]; exact tm
    · right; rw [z.1]; exact Ta0
  have e1 : (1 : Int32).toInt = 1 := rfl
  have hj180 : ∀ (l0 : Nat) (l7 : Int32) (l8 : Int32) (l9 : Int64) (τ : zS), zW C (zn κ) τ → zT τ l0 = 15 → (a0 = l0 ∧ pfJ9 κ τ a0) → w_Ch_perform_180 C (zn κ) Q  l0 l7 l8 l9 τ := by
    rintro _ y180_7 y180_8 y180_9 τ180 W180 T180_0 ⟨rfl, j180⟩
    unfold w_Ch_perform_180
    intro T1
    refine Ch_note_c W180 T1  ?_ (fun κ_2 q3 => ?_)
    · obtain ⟨Z1, R1, K1, D1⟩ := j180
      rw [R1 chMachine (by decide) (by decide), R1 chCode (by decide) (by decide), R1 chRecord (by decide) (by decide), R1 chLastShared (by decide) (by decide)]
      refine ⟨K1, coI_zF Z1 W (ty_chCode W Ta0) (fun f z => ?_) C0, (Z1.l (ty_chRecord W Ta0)).trans n5, (Z1.l (ty_chLastShared W Ta0)).trans n34⟩
      have t5 := ty_chCode W Ta0
      rcases F7 _ _ z with y | y <;> rw [y] at t5 <;> exact absurd t5 (by decide)
    intro W4
    intro M5
    refine h _ _ ?_
    · obtain ⟨Z1, R1, K1, D1⟩ := j180
      have am1 := ch_m9 W180 T180_0
      rw [R1 chMachine (by decide) (by decide)] at am1
      refine ⟨(Z1.mono (fun f b z => ?_)).tr (q3.1.mono (fun f b z => ?_)), fun f h1 h2 => ?_, mkI_zF q3.1 W180 (Z1.t tm (by decide)) (fun f z => am1.1 z.1.symm) (fun f z => am1.2.1 z.1.symm) K1, ?_⟩
      · rcases z with z | ⟨z, y | y⟩
        · exact Or.inl z
        · exact Or.inr ⟨z, Or.inl y⟩
        · exact Or.inr ⟨z, Or.inr (Or.inl y)⟩
      · exact Or.inr ⟨z.1, Or.inr (Or.inr z.2)⟩
      · rw [q3.2]; exact R1 f h1 h2
      · unfold dwI9
        rw [q3.2, q3.1.l (ty_chDrawnWeights W180 T180_0), q3.1.l (ty_chDrawnTotals W180 T180_0)]
        exact D1
  intro T6
  intro T7
  refine Ma_begin_c W T6 T7  ?_ (fun κ_8 q9 => ?_)
  · exact ⟨L0, C0⟩  -- p3
  intro W10
  intro M11
  unfold w_Ch_perform_26
  refine ⟨fun n l0 l1 l4 l5 l7 l8 l9 l11 τ => n = (a4.toInt - l11.toInt).toNat ∧ (a0 = l0 ∧ a1 = l1 ∧ a4 = l4 ∧ pfJ9 κ τ a0 ∧ (zI τ maOutcome (zR κ chMachine a0) = 0 → mO τ (zR κ chMachine a0)) ∧ (0 ≤ l8.toInt ∧ l8.toInt ≤ l11.toInt)), ⟨_, rfl, ?_⟩, ?_⟩
  · refine ⟨rfl, rfl, rfl, ⟨q9.1.mono (fun f b z => Or.inl z), fun f _ _ => q9.1.r (fun z => am.1 z), q9.2.2.1, ?_⟩, fun z => ?_, by decide, by decide⟩
    · unfold dwI9
      rw [q9.1.r (fun z => am.1 z), q9.1.r (fun z => am.1 z), q9.1.l (ty_chDrawnWeights W Ta0), q9.1.l (ty_chDrawnTotals W Ta0)]
      exact D0
    · rcases q9.2.2.2.2.1 with y | y
      · exact y
      · rw [y] at z
        exact absurd z (by decide)
  rintro n26 _ _ _ x26_5 x26_7 x26_8 x26_9 x26_11 κ26 W26 T26_0 ⟨hn26, rfl, rfl, rfl, i26⟩
  have hj158 : ∀ (l0 : Nat) (l1 : Int32) (l4 : Int32) (l5 : Int64) (l7 : Int32) (l8 : Int32) (l9 : Int64) (l11 : Int32) (τ : zS), zW C (zn κ) τ → zT τ l0 = 15 → (a0 = l0 ∧ a1 = l1 ∧ a4 = l4 ∧ pfJ9 κ τ a0 ∧ (zI τ maOutcome (zR κ chMachine a0) = 0 → mO τ (zR κ chMachine a0)) ∧ (0 ≤ l8.toInt ∧ l8.toInt ≤ l11.toInt + 1) ∧ l11 = x26_11 ∧ (0 ≤ l11.toInt ∧ l11.toInt < a4.toInt)) → w_Ch_perform_158 C (zn κ) Q (fun (l0' : Nat) (l1' : Int32) (l4' : Int32) (l5' : Int64) (l7' : Int32) (l8' : Int32) (l9' : Int64) (l11' : Int32) (τ : zS) => ∃ k < n26, (fun (n : Nat) (l0 : Nat) (l1 : Int32) (l4 : Int32) (l5 : Int64) (l7 : Int32) (l8 : Int32) (l9 : Int64) (l11 : Int32) (τ : zS) => n = (a4.toInt - l11.toInt).toNat ∧ (a0 = l0 ∧ a1 = l1 ∧ a4 = l4 ∧ pfJ9 κ τ a0 ∧ (zI τ maOutcome (zR κ chMachine a0) = 0 → mO τ (zR κ chMachine a0)) ∧ (0 ≤ l8.toInt ∧ l8.toInt ≤ l11.toInt))) k l0' l1' l4' l5' l7' l8' l9' l11' τ) l0 l1 l4 l5 l7 l8 l9 l11 τ := by
    rintro _ _ _ y158_5 y158_7 y158_8 y158_9 y158_11 τ158 W158 T158_0 ⟨rfl, rfl, rfl, j158⟩
    unfold w_Ch_perform_158
    intro x12 hx12
    intro x13 hx13
    intro x14 hx14
    obtain ⟨J6, O6, ⟨b0, b1⟩, ex, x0, x1⟩ := j158
    have ix := cn1 (x := y158_11) x0 (by omega)
    refine ⟨_, ?_, rfl, ?_⟩
    · rw [hn26, hx14, ix.2, ← ex]; omega  -- d5
    · exact ⟨rfl, rfl, rfl, J6, O6, b0, by rw [hx14, ix.2]; omega⟩  -- i6
  have hj150 : ∀ (l0 : Nat) (l1 : Int32) (l4 : Int32) (l5 : Int64) (l7 : Int32) (l8 : Int32) (l9 : Int64) (l11 : Int32) (s0 : Int32) (s1 : Nat) (s2 : Int32) (τ : zS), zW C (zn κ) τ → zT τ l0 = 15 → zT τ s1 = 15 → (a0 = l0 ∧ a1 = l1 ∧ a4 = l4 ∧ pfJ9 κ τ a0 ∧ (mO τ (zR κ chMachine a0) ∧ (zI τ maWays (zR κ chMachine a0)).toInt ≤ 64) ∧ (0 ≤ l8.toInt ∧ l8.toInt ≤ l11.toInt) ∧ (l11 = x26_11 ∧ l11.toInt < a4.toInt) ∧ s0 = l8 ∧ s1 = a0) → w_Ch_perform_150 C (zn κ) Q (fun (l0' : Nat) (l1' : Int32) (l4' : Int32) (l5' : Int64) (l7' : Int32) (l8' : Int32) (l9' : Int64) (l11' : Int32) (τ : zS) => ∃ k < n26, (fun (n : Nat) (l0 : Nat) (l1 : Int32) (l4 : Int32) (l5 : Int64) (l7 : Int32) (l8 : Int32) (l9 : Int64) (l11 : Int32) (τ : zS) => n = (a4.toInt - l11.toInt).toNat ∧ (a0 = l0 ∧ a1 = l1 ∧ a4 = l4 ∧ pfJ9 κ τ a0 ∧ (zI τ maOutcome (zR κ chMachine a0) = 0 → mO τ (zR κ chMachine a0)) ∧ (0 ≤ l8.toInt ∧ l8.toInt ≤ l11.toInt))) k l0' l1' l4' l5' l7' l8' l9' l11' τ) l0 l1 l4 l5 l7 l8 l9 l11 s0 s1 s2 τ := by
    rintro _ _ _ y150_5 y150_7 y150_8 y150_9 y150_11 y150_s0 y150_s1 y150_s2 τ150 W150 T150_0 T150_1 ⟨rfl, rfl, rfl, j150⟩
    unfold w_Ch_perform_150
    intro T15
    obtain ⟨J5, ⟨O5, w5⟩, ⟨b0, b1⟩, ⟨ex, x1⟩, es0, es1⟩ := j150
    have rm := J5.2.1 chMachine (by decide) (by decide)
    rw [es1]
    rw [es1] at T15
    refine Ch_drawn_c W150 T15  ?_ (fun r16 κ_17 q18 => ?_)
    · rw [rm]
      exact ⟨J5.2.2.1, ⟨O5, w5⟩, J5.2.2.2, b0, by omega⟩
    intro W19
    intro M20
    intro x21 hx21
    refine hj158 _ _ _ _ _ _ _ _ _ W19 ?_ ?_
    · exact q18.1.t T15 (by decide)  -- t8
    · rw [rm] at q18
      have xb : x21.toInt = y150_8.toInt + r16.toInt ∧ 0 ≤ r16.toInt ∧ r16.toInt ≤ 1 := by
        have t0 : (0 : Int32).toInt = 0 := rfl
        rw [hx21, es0]
        rcases q18.2.2.2.2.2 with y | y <;> rw [y]
        · rw [add_i (by rw [t0]; omega) (by rw [t0]; omega), t0]
          omega
        · rw [add_i (by rw [e1]; omega) (by rw [e1]; omega), e1]
          omega
      refine ⟨rfl, rfl, rfl, ⟨J5.1.tr q18.1, fun f h1 h2 => (q18.2.1 f h1 h2).trans (J5.2.1 f h1 h2), q18.2.2.1, q18.2.2.2.2.1⟩, q18.2.2.2.1, ⟨by omega, by omega⟩, ex, by omega, x1⟩
  have hj109 : ∀ (l0 : Nat) (l1 : Int32) (l4 : Int32) (l5 : Int64) (l7 : Int32) (l8 : Int32) (l9 : Int64) (l11 : Int32) (τ : zS), zW C (zn κ) τ → zT τ l0 = 15 → (a0 = l0 ∧ a1 = l1 ∧ a4 = l4 ∧ pfJ9 κ τ a0 ∧ (mO τ (zR κ chMachine a0) ∧ (zI τ maWays (zR κ chMachine a0)).toInt ≤ 64) ∧ (0 ≤ l8.toInt ∧ l8.toInt ≤ l11.toInt) ∧ (l11 = x26_11 ∧ l11.toInt < a4.toInt) ∧ (¬ a1 = 0 → l8.toInt < 200)) → w_Ch_perform_109 C (zn κ) Q (fun (l0' : Nat) (l1' : Int32) (l4' : Int32) (l5' : Int64) (l7' : Int32) (l8' : Int32) (l9' : Int64) (l11' : Int32) (τ : zS) => ∃ k < n26, (fun (n : Nat) (l0 : Nat) (l1 : Int32) (l4 : Int32) (l5 : Int64) (l7 : Int32) (l8 : Int32) (l9 : Int64) (l11 : Int32) (τ : zS) => n = (a4.toInt - l11.toInt).toNat ∧ (a0 = l0 ∧ a1 = l1 ∧ a4 = l4 ∧ pfJ9 κ τ a0 ∧ (zI τ maOutcome (zR κ chMachine a0) = 0 → mO τ (zR κ chMachine a0)) ∧ (0 ≤ l8.toInt ∧ l8.toInt ≤ l11.toInt))) k l0' l1' l4' l5' l7' l8' l9' l11' τ) l0 l1 l4 l5 l7 l8 l9 l11 τ := by
    rintro _ _ _ y109_5 y109_7 y109_8 y109_9 y109_11 τ109 W109 T109_0 ⟨rfl, rfl, rfl, j109⟩
    unfold w_Ch_perform_109
    intro x22 hx22
    obtain ⟨J9, ⟨O9, w9⟩, b9, ex, h20⟩ := j109
    have rm := J9.2.1 chMachine (by decide) (by decide)
    refine ⟨fun c23 => ?_, fun c23 => ?_⟩
    · skip
      intro T24
      refine Ma_wayAt_c W109 T24  ?_ (fun r25 q27 => ?_)
      · rw [rm]
        exact ⟨J9.2.2.1.1, w9⟩
      intro W28
      intro M29
      refine hj150 _ _ _ _ _ _ _ _ _ _ _ _ W28 ?_ ?_ ?_
      · exact T109_0  -- t11
      · exact T109_0  -- t12
      · exact ⟨rfl, rfl, rfl, J9, ⟨O9, w9⟩, b9, ex, rfl, rfl⟩  -- k13
    · skip
      refine ⟨?_, ?_⟩
      · rw [inb_iff, J9.2.1 chTold (by decide) (by decide), J9.1.l (ty_chTold W Ta0), n200]
        have := h20 c23
        omega
      refine hj150 _ _ _ _ _ _ _ _ _ _ _ _ W109 ?_ ?_ ?_
      · exact T109_0  -- t15
      · exact T109_0  -- t16
      · exact ⟨rfl, rfl, rfl, J9, ⟨O9, w9⟩, b9, ex, rfl, rfl⟩  -- k17
  obtain ⟨J2, O2, b20, b21⟩ := i26
  have rm := J2.2.1 chMachine (by decide) (by decide)
  have tm2 : zT κ26 (zR κ chMachine a0) = 7 := J2.1.t tm (by decide)
  refine ⟨fun c30 => ?_, fun c30 => ?_⟩
  · skip
    refine hj180 _ _ _ _ _ W26 ?_ ?_
    · exact T26_0  -- t18
    · exact ⟨rfl, J2⟩  -- k19
  · skip
    refine ⟨fun c31 => ?_, fun c31 => ?_⟩
    · skip
      refine hj180 _ _ _ _ _ W26 ?_ ?_
      · exact T26_0  -- t20
      · exact ⟨rfl, J2⟩  -- k21
    · skip
      intro T32
      refine Ma_act_c2 W26 T32  ?_ (fun κ_33 q34 => ?_)
      · rw [rm] at c31 ⊢
        exact ⟨J2.2.2.1, O2 c31⟩
      intro W35
      intro M36
      rw [rm] at q34
      rw [lei] at c30
      have J3 := pf_m9 W26 tm2 J2 q34.1
      have T33 : zT κ_33 a0 = 15 := J3.1.t Ta0 (by decide)
      have rm3 := J3.2.1 chMachine (by decide) (by decide)
      rw [rm3]
      have O3 : zI κ_33 maOutcome (zR κ chMachine a0) = 0 → mO κ_33 (zR κ chMachine a0) := fun z => by
        rcases q34.2.2.1 with y | y
        · exact y
        · rw [y] at z
          exact absurd z (by decide)
      have D3 : zI κ_33 maWants (zR κ chMachine a0) = 3 ∨ zI κ_33 maWants (zR κ chMachine a0) = 4 → mO κ_33 (zR κ chMachine a0) ∧ (zI κ_33 maWays (zR κ chMachine a0)).toInt ≤ 64 := fun z => by
        have ne : zI κ_33 maWants (zR κ chMachine a0) ≠ -1 := fun y => by
          rw [y] at z
          rcases z with z | z <;> exact absurd z (by decide)
        refine ⟨q34.2.2.2.2 ne, ?_⟩
        rcases q34.2.2.2.1 with y | y | y
        · exact absurd y ne
        · exact y.2.1.2
        · have := y.2.1.2
          omega
      refine ⟨fun c37 => ?_, fun c37 => ?_⟩
      · skip
        refine ⟨fun c38 => ?_, fun c38 => ?_⟩
        · skip
          refine hj158 _ _ _ _ _ _ _ _ _ W35 ?_ ?_
          · exact T33  -- t23
          · exact ⟨rfl, rfl, rfl, J3, O3, ⟨b20, by omega⟩, rfl, by omega, by omega⟩  -- k24
        · skip
          refine ⟨fun c39 => ?_, fun c39 => ?_⟩
          · skip
            refine hj109 _ _ _ _ _ _ _ _ _ W35 ?_ ?_
            · exact T33  -- t25
            · exact ⟨rfl, rfl, rfl, J3, D3 (Or.inl c38), ⟨b20, b21⟩, ⟨rfl, by omega⟩, fun z => absurd c39 z⟩  -- k26
          · skip
            refine ⟨fun c40 => ?_, fun c40 => ?_⟩
            · skip
              refine hj109 _ _ _ _ _ _ _ _ _ W35 ?_ ?_
              · exact T33  -- t27
              · refine ⟨rfl, rfl, rfl, J3, D3 (Or.inl c38), ⟨b20, b21⟩, ⟨rfl, by omega⟩, fun z => ?_⟩
                have it : zI κ_33 chTolds a0 = zI κ chTolds a0 := J3.1.i (fun y => by
                  rcases y with y | ⟨_, y | y⟩
                  · exact am.1 y
                  · exact absurd y (by decide)
                  · exact absurd y (by decide))
                rw [lti, it] at c40
                omega
            · skip
              refine hj180 _ _ _ _ _ W35 ?_ ?_
              · exact T33  -- t29
              · exact ⟨rfl, J3⟩  -- k30
      · skip
        intro T41
        intro T42
        have A3 := ch_a9 W (ty_chAtlas W Ta0) J3.1 (fun f x z => by rcases F7 f x z with y | y <;> rw [y] <;> decide) H0
        refine At_chosen_c W35 T41 T42  ?_ (fun r43 q45 => ?_)
        · rw [J3.2.1 chAtlas (by decide) (by decide)]
          exact ⟨A3.1, fun z => A3.2.1 (M0 (by rw [← A3.2.2]; exact z))⟩
        intro W46
        intro M47
        intro T48
        refine Ma_settle_c W46 T48  ?_ (fun κ_49 q50 => ?_)
        · exact ⟨J3.2.2.1, D3 (Or.inr c37)⟩  -- p32
        intro W51
        intro M52
        refine hj158 _ _ _ _ _ _ _ _ _ W51 ?_ ?_
        · exact q50.1.1.t T33 (by decide)  -- t33
        · refine ⟨rfl, rfl, rfl, pf_m9 W46 (J3.1.t tm (by decide)) J3 q50.1, fun z => ?_, ⟨b20, by omega⟩, rfl, by omega, by omega⟩
          rcases q50.2.2.1 with y | y
          · exact y
          · rw [y] at z
            exact absurd z (by decide)

end
section
set_option maxHeartbeats 1600000
/-! the class: ChanceWorks between calls; what is not touched stays -/
/-- no field of an object of this class is in the frame -/
def un9 (F : Nat → Nat → Prop) (x K : Nat) : Prop := ∀ f, f / 100 = K → ¬ F f x
theorem ta_u9 {C : zC} {n0 t : Nat} {F : Nat → Nat → Prop} {κ τ : zS} (Z : zF F κ τ) (W : zW C n0 κ) (T : zT κ t = 13) (h : un9 F t 13) (H : taI κ t ∧ tokI κ t) : (taI τ t ∧ tokI τ t) ∧ zI τ taLength t = zI κ taLength t := by
  have i : ∀ f, f / 100 = 13 → zI τ f t = zI κ f t := fun f hf => Z.i (h f hf)
  have r : ∀ f, f / 100 = 13 → zR τ f t = zR κ f t := fun f hf => Z.r (h f hf)
  have p := (Z.row W (show zr taPlaces = some 20 by decide +kernel) (by decide) T (h taPlaces (by decide))).1
  have l := (Z.row W (show zr taLengths = some 20 by decide +kernel) (by decide) T (h taLengths (by decide))).1
  refine ⟨⟨?_, ?_⟩, i _ (by decide)⟩
  · unfold taI
    rw [i taLength (by decide), i taTotal (by decide), r taBytes (by decide), r taKinds (by decide), r taPlaces (by decide), r taLengths (by decide), Z.l (ty_taBytes W T), Z.l (ty_taKinds W T), Z.l (ty_taPlaces W T), Z.l (ty_taLengths W T)]
    exact H.1
  · unfold tokI
    rw [p, l, r taBytes (by decide), r taKinds (by decide), Z.l (ty_taBytes W T), Z.l (ty_taKinds W T)]
    exact H.2
theorem co_u9 {C : zC} {n0 c : Nat} {F : Nat → Nat → Prop} {κ τ : zS} (Z : zF F κ τ) (W : zW C n0 κ) (T : zT κ c = 5) (n : un9 F c 5) : (coI κ c → coI τ c) ∧ zI τ coVars c = zI κ coVars c ∧ zI τ coCells c = zI κ coCells c := by
  have i5 : ∀ f, f ∈ coIf → f / 100 = 5 := by decide
  refine ⟨fun I => coI_g I (fun f hf => Z.i (n f (i5 f hf))) (fun f hf => Z.r (n f (coRf_r f hf).2)) (fun f hf => Z.l (coRf_t W T hf)) (fun f hf => ?_), Z.i (n _ (by decide)), Z.i (n _ (by decide))⟩
  have m : f ∈ coRf := by rcases hf with rfl | rfl <;> decide
  have r := (Z.row W (coRf_r f m).1 (by decide) (T.trans (coRf_r f m).2.symm) (n f (coRf_r f m).2)).1
  rw [Z.r (n f (coRf_r f m).2)] at r
  exact r
theorem pa_u9 {C : zC} {n0 p : Nat} {F : Nat → Nat → Prop} {κ τ : zS} (Z : zF F κ τ) (W : zW C n0 κ) (T : zT κ p = 10) (n : un9 F p 10) (H : paL κ p ∧ paC κ p) : (paL τ p ∧ paC τ p) ∧ zR τ paTape p = zR κ paTape p := by
  have i : ∀ f, f / 100 = 10 → zI τ f p = zI κ f p := fun f hf => Z.i (n f hf)
  have r : ∀ f, f / 100 = 10 → zR τ f p = zR κ f p := fun f hf => Z.r (n f hf)
  refine ⟨⟨?_, ?_⟩, r _ (by decide)⟩
  · unfold paL
    rw [r paVarNames (by decide), r paArrayNames (by decide), r paFunctionNames (by decide), r paOwnNames (by decide), r paOwners (by decide), r paLasts (by decide), r paElses (by decide), Z.l (ty_paVarNames W T), Z.l (ty_paArrayNames W T), Z.l (ty_paFunctionNames W T), Z.l (ty_paOwnNames W T), Z.l (ty_paOwners W T), Z.l (ty_paLasts W T), Z.l (ty_paElses W T)]
    exact H.1
  · unfold paC
    rw [i paOwns (by decide), i paBlocks (by decide), i paWaits (by decide), r paWaiting (by decide), Z.l (ty_paWaiting W T)]
    exact H.2
theorem ma_u9 {C : zC} {n0 m : Nat} {F : Nat → Nat → Prop} {κ τ : zS} (Z : zF F κ τ) (W : zW C n0 κ) (T : zT κ m = 7) (n : un9 F m 7) (H : maL κ m) : maL τ m := by
  have r : ∀ f, f / 100 = 7 → zR τ f m = zR κ f m := fun f hf => Z.r (n f hf)
  unfold maL
  rw [r maMemory (by decide), r maStack (by decide), r maWorked (by decide), r maValues (by decide), r maWeights (by decide), Z.l (ty_maMemory W T), Z.l (ty_maStack W T), Z.l (ty_maWorked W T), Z.l (ty_maValues W T), Z.l (ty_maWeights W T)]
  exact H
theorem ho_u9 {C : zC} {n0 h M D S : Nat} {F : Nat → Nat → Prop} {κ τ : zS} (Z : zF F κ τ) (W : zW C n0 κ) (T : zT κ h = 6) (n : un9 F h 6) : (hoI κ h M D S → hoI τ h M D S) ∧ pV9 τ h = pV9 κ h ∧ zI τ hoTotal h = zI κ hoTotal h := by
  have q : ∀ f, f = hoStarts ∨ f = hoTable ∨ f = hoPool → zR τ f h = zR κ f h ∧ zA τ (zR κ f h) = zA κ (zR κ f h) ∧ zN τ (zR κ f h) = zN κ (zR κ f h) := fun f hf => by
    have q : zr f = some 20 ∧ f / 100 = 6 := by rcases hf with rfl | rfl | rfl <;> decide +kernel
    have w := (Z.row W q.1 (by decide) (T.trans q.2.symm) (n f q.2)).1
    have e := Z.r (n f q.2)
    rw [e] at w
    exact ⟨e, w, Z.l (W.r q.1 (T.trans q.2.symm))⟩
  have t : zI τ hoTotal h = zI κ hoTotal h := Z.i (n hoTotal (by decide))
  refine ⟨fun I => hoI_f I (fun f hf => Z.i (n f hf)) q, ?_, t⟩
  funext k i
  have s := q hoStarts (Or.inl rfl)
  have p := q hoPool (Or.inr (Or.inr rfl))
  unfold pV9
  rw [t, s.1, p.1, s.2.1, p.2.1]
theorem we_u9 {C : zC} {n0 w : Nat} {F : Nat → Nat → Prop} {κ τ : zS} (Z : zF F κ τ) (W : zW C n0 κ) (T : zT κ w = 14) (n : un9 F w 14) : (weM κ w → weM τ w) ∧ (weU κ w → weU τ w) ∧ (weL κ w → weL τ w) := by
  have h : ∀ f, f ∈ weRf → zN τ (zR τ f w) = zN κ (zR κ f w) := fun f hf => by
    obtain ⟨⟨t, h1, h2⟩, h3⟩ := weRf_r f hf
    have ty := W.r h1 (T.trans h3.symm)
    have t1 : zT κ (zR κ f w) = (t - 1) + 1 := by omega
    rw [Z.r (n f h3)]
    exact Z.l t1
  refine ⟨fun M => ?_, fun M => ?_, fun M => ?_⟩
  · unfold weM
    rw [h weFirsts (by decide), h weBackFirsts (by decide), h weOpen (by decide), h weKnotFirsts (by decide), h weKnotOf (by decide), h weOrder (by decide), h weSeen (by decide), h weLow (by decide), h weCursor (by decide), h wePath (by decide), h weHeap (by decide)]
    exact M
  · unfold weU
    rw [h weFirsts (by decide), h weBackFirsts (by decide), h weOpen (by decide), h weKnotFirsts (by decide), h weKnotOf (by decide), h weOrder (by decide), h weSeen (by decide), h weLow (by decide), h weCursor (by decide), h wePath (by decide), h weHeap (by decide)]
    exact M
  · unfold weL
    rw [h weTargets (by decide), h weSources (by decide), h weEdges (by decide)]
    exact M
/-- an atlas's rows and numbers: the plan may be touched -/
theorem at_u9 {C : zC} {n0 a : Nat} {F : Nat → Nat → Prop} {κ τ : zS} (Z : zF F κ τ) (W : zW C n0 κ) (T : zT κ a = 3) (n : ∀ f, f / 100 = 3 → f ≠ atPlan → ¬ F f a) (hp : zR τ atPlan a = zR κ atPlan a) : (∀ f, f / 100 = 3 → zR τ f a = zR κ f a) ∧ (∀ f, f ∈ atRf → zN τ (zR κ f a) = zN κ (zR κ f a) ∧ (f ≠ atPlan → zA τ (zR κ f a) = zA κ (zR κ f a))) := by
  have r : ∀ f, f / 100 = 3 → zR τ f a = zR κ f a := fun f hf => by
    by_cases e : f = atPlan
    · rw [e]; exact hp
    · exact Z.r (n f hf e)
  refine ⟨r, fun f hf => ?_⟩
  obtain ⟨⟨t, h1, h2⟩, h3⟩ := atRf_r f hf
  have ty := W.r h1 (T.trans h3.symm)
  have t1 : zT κ (zR κ f a) = (t - 1) + 1 := by omega
  refine ⟨Z.l t1, fun e => ?_⟩
  have q := (Z.row W h1 h2 (T.trans h3.symm) (n f h3 e)).1
  rw [r f h3] at q
  exact q
theorem atM_u9 {a : Nat} {κ τ : zS} (g : (∀ f, f / 100 = 3 → zR τ f a = zR κ f a) ∧ (∀ f, f ∈ atRf → zN τ (zR κ f a) = zN κ (zR κ f a) ∧ (f ≠ atPlan → zA τ (zR κ f a) = zA κ (zR κ f a)))) : (atM κ a → atM τ a) ∧ (atU κ a → atU τ a) ∧ (atL κ a → atL τ a) := by
  obtain ⟨r, g⟩ := g
  refine ⟨fun A1 => ?_, fun A1 => ?_, fun A2 => ?_⟩
  · unfold atM
    rw [r atFirsts (by decide), r atTotals (by decide), r atGains (by decide), r atPlan (by decide), r atChooses (by decide), r atHopeless (by decide), (g atFirsts (by decide)).1, (g atTotals (by decide)).1, (g atGains (by decide)).1, (g atPlan (by decide)).1, (g atChooses (by decide)).1, (g atHopeless (by decide)).1]
    exact A1
  · unfold atU
    rw [r atFirsts (by decide), r atTotals (by decide), r atGains (by decide), r atPlan (by decide), r atChooses (by decide), r atHopeless (by decide), (g atFirsts (by decide)).1, (g atTotals (by decide)).1, (g atGains (by decide)).1, (g atPlan (by decide)).1, (g atChooses (by decide)).1, (g atHopeless (by decide)).1]
    exact A1
  · unfold atL
    rw [r atSorts (by decide), r atNumbers (by decide), r atWeights (by decide), (g atSorts (by decide)).1, (g atNumbers (by decide)).1, (g atWeights (by decide)).1]
    exact A2
/-- atW stays, both ways -/
theorem atW_u9 {a n : Nat} {κ τ : zS} (g : (∀ f, f / 100 = 3 → zR τ f a = zR κ f a) ∧ (∀ f, f ∈ atRf → zN τ (zR κ f a) = zN κ (zR κ f a) ∧ (f ≠ atPlan → zA τ (zR κ f a) = zA κ (zR κ f a)))) (ix : zI τ atNexts a = zI κ atNexts a) (is : zI τ hoTotal (zR κ atStates a) = zI κ hoTotal (zR κ atStates a)) (ie : zI τ hoTotal (zR κ atEndings a) = zI κ hoTotal (zR κ atEndings a)) : atW τ a n ↔ atW κ a n := by
  obtain ⟨r, g⟩ := g
  unfold atW atM atL exK
  rw [r atFirsts (by decide), r atTotals (by decide), r atGains (by decide), r atPlan (by decide), r atChooses (by decide), r atHopeless (by decide), r atSorts (by decide), r atNumbers (by decide), r atWeights (by decide), r atStates (by decide), r atEndings (by decide), is, ie, ix, (g atFirsts (by decide)).1, (g atTotals (by decide)).1, (g atGains (by decide)).1, (g atPlan (by decide)).1, (g atChooses (by decide)).1, (g atHopeless (by decide)).1, (g atSorts (by decide)).1, (g atNumbers (by decide)).1, (g atWeights (by decide)).1, (g atFirsts (by decide)).2 (by decide), (g atTotals (by decide)).2 (by decide), (g atChooses (by decide)).2 (by decide), (g atSorts (by decide)).2 (by decide), (g atNumbers (by decide)).2 (by decide), (g atWeights (by decide)).2 (by decide)]

end
section
set_option maxHeartbeats 1600000
/-! what is seen of the class's tape and fault -/
def oC9 (κ : zS) (a : Nat) : Ob9 := mkO9 (zA κ (zR κ taBytes (zR κ chTape a))) (zI κ taLength (zR κ chTape a)) (zI κ chFaultCode a)
theorem oC_u9 {C : zC} {n0 a : Nat} {F : Nat → Nat → Prop} {κ τ : zS} (W : zW C n0 κ) (T : zT κ a = 15) (Z : zF F κ τ) (n1 : ¬ F chTape a) (n2 : ¬ F chFaultCode a) (n3 : ¬ F taLength (zR κ chTape a)) (n4 : ¬ F taBytes (zR κ chTape a)) : oC9 τ a = oC9 κ a := by
  have A := (Z.row W (show zr taBytes = some 21 by decide +kernel) (by decide) (ty_chTape W T) n4).1
  unfold oC9
  rw [Z.r n1, A, Z.i n3, Z.i n2]
theorem oC_v9 {C : zC} {n0 a : Nat} {F : Nat → Nat → Prop} {κ τ : zS} (W : zW C n0 κ) (T : zT κ a = 15) (Z : zF F κ τ) (h1 : un9 F a 15) (h2 : un9 F (zR κ chTape a) 13) : oC9 τ a = oC9 κ a := oC_u9 W T Z (h1 _ (by decide)) (h1 _ (by decide)) (h2 _ (by decide)) (h2 _ (by decide))
/-- the class's code stays -/
def kC7 (κ κ' : zS) (a : Nat) : Prop := zI κ' chReady a = zI κ chReady a ∧ cu7 κ' (zR κ' chCode a) = cu7 κ (zR κ chCode a)
def pC7 (κ κ' : zS) (a : Nat) : Prop := oC9 κ' a = oC9 κ a ∧ kC7 κ κ' a
theorem kC_z7 {C : zC} {n0 a : Nat} {F : Nat → Nat → Prop} {κ τ : zS} (W : zW C n0 κ) (T : zT κ a = 15) (Z : zF F κ τ) (n1 : ¬ F chReady a) (n2 : ¬ F chCode a) (h3 : un9 F (zR κ chCode a) 5) : kC7 κ τ a := ⟨Z.i n1, by rw [Z.r n2]; exact cu_f7 W (ty_chCode W T) Z h3⟩
theorem pC_v7 {C : zC} {n0 a : Nat} {F : Nat → Nat → Prop} {κ τ : zS} (W : zW C n0 κ) (T : zT κ a = 15) (Z : zF F κ τ) (h1 : un9 F a 15) (h2 : un9 F (zR κ chTape a) 13) (h3 : un9 F (zR κ chCode a) 5) : pC7 κ τ a := ⟨oC_v9 W T Z h1 h2, kC_z7 W T Z (h1 _ (by decide)) (h1 _ (by decide)) h3⟩
theorem kC_t7 {κ τ υ : zS} {a : Nat} (h : kC7 κ τ a) (g : kC7 τ υ a) : kC7 κ υ a := ⟨g.1.trans h.1, g.2.trans h.2⟩
theorem pC_t7 {κ τ υ : zS} {a : Nat} (h : pC7 κ τ a) (g : pC7 τ υ a) : pC7 κ υ a := ⟨g.1.trans h.1, kC_t7 h.2 g.2⟩
/-- what holds of both sides between calls -/
def RC7 (κ : zS) (a : Nat) (σ : rS) : Prop := oR9 σ = oC9 κ a ∧ (σ.1 14 = 0 ↔ zI κ chReady a = 0) ∧ (σ.1 14 ≠ 0 → ∃ nv s w, CR7 nv s w (cu7 κ (zR κ chCode a)) σ)
theorem rk_7 {κ κ' : zS} {a : Nat} {σ σ' : rS} (k : kR7 σ σ') (h : RC7 κ a σ) (c : kC7 κ κ' a) (o : oR9 σ' = oC9 κ' a) : RC7 κ' a σ' := by
  have e14 : σ'.1 14 = σ.1 14 := k.1 14 (by decide)
  refine ⟨o, by rw [e14, c.1]; exact h.2.1, fun z => ?_⟩
  rw [e14] at z
  obtain ⟨nv, s, w, g⟩ := h.2.2 z
  refine ⟨nv, s, w, ?_⟩
  rw [c.2]
  exact CR_k7 g k
theorem re_7 {κ κ' : zS} {a : Nat} {σ σ' : rS} (k : pR7 σ σ') (h : RC7 κ a σ) (c : pC7 κ κ' a) : RC7 κ' a σ' := rk_7 k.2 h c.2 (k.1.trans (h.1.trans c.1.symm))
/-- what the class has explored stays -/
def plC8 (κ : zS) (a : Nat) : Nat → Int32 := zA κ (zR κ atPlan (zR κ chAtlas a))
/-- the same, the plan aside -/
def kB8 (κ κ' : zS) (a : Nat) : Prop := zI κ' atExplored (zR κ' chAtlas a) = zI κ atExplored (zR κ chAtlas a) ∧ av8 κ' (zR κ' chAtlas a) = av8 κ (zR κ chAtlas a) ∧ zR κ' chAtlas a = zR κ chAtlas a
def kA8 (κ κ' : zS) (a : Nat) : Prop := zI κ' atExplored (zR κ' chAtlas a) = zI κ atExplored (zR κ chAtlas a) ∧ (av8 κ' (zR κ' chAtlas a), plC8 κ' a, zR κ' chAtlas a) = (av8 κ (zR κ chAtlas a), plC8 κ a, zR κ chAtlas a)
theorem kA_b8 {κ κ' : zS} {a : Nat} (h : kA8 κ κ' a) : kB8 κ κ' a := ⟨h.1, (Prod.mk.inj h.2).1, (Prod.mk.inj (Prod.mk.inj h.2).2).2⟩
def pB8 (κ κ' : zS) (a : Nat) : Prop := pC7 κ κ' a ∧ kB8 κ κ' a
def pC8 (κ κ' : zS) (a : Nat) : Prop := pC7 κ κ' a ∧ kA8 κ κ' a
theorem kB_z8 {C : zC} {n0 a : Nat} {F : Nat → Nat → Prop} {κ τ : zS} (W : zW C n0 κ) (T : zT κ a = 15) (Z : zF F κ τ) (n1 : ¬ F chAtlas a) (h : ∀ f, f / 100 = 3 → f ≠ atPlan → ¬ F f (zR κ chAtlas a)) (h1 : un9 F (zR κ atStates (zR κ chAtlas a)) 6) (h2 : un9 F (zR κ atEndings (zR κ chAtlas a)) 6) : kB8 κ τ a := by
  unfold kB8
  rw [Z.r n1]
  exact ⟨Z.i (h _ (by decide) (by decide)), av_f8 W (ty_chAtlas W T) Z h h1 h2, rfl⟩
theorem kA_z8 {C : zC} {n0 a : Nat} {F : Nat → Nat → Prop} {κ τ : zS} (W : zW C n0 κ) (T : zT κ a = 15) (Z : zF F κ τ) (n1 : ¬ F chAtlas a) (h : ∀ f, f / 100 = 3 → True → ¬ F f (zR κ chAtlas a)) (h1 : un9 F (zR κ atStates (zR κ chAtlas a)) 6) (h2 : un9 F (zR κ atEndings (zR κ chAtlas a)) 6) : kA8 κ τ a := by
  have b := kB_z8 W T Z n1 (fun f hf _ => h f hf trivial) h1 h2
  refine ⟨b.1, ?_⟩
  have p : plC8 τ a = plC8 κ a := by
    unfold plC8
    rw [Z.r n1]
    exact (Z.row W (show zr atPlan = some 20 by decide +kernel) (by decide) (ty_chAtlas W T) (h atPlan (by decide) trivial)).1
  rw [b.2.1, p, b.2.2]
theorem kA_t8 {κ τ υ : zS} {a : Nat} (h : kA8 κ τ a) (g : kA8 τ υ a) : kA8 κ υ a := ⟨g.1.trans h.1, g.2.trans h.2⟩
theorem pC_t8 {κ τ υ : zS} {a : Nat} (h : pC8 κ τ a) (g : pC8 τ υ a) : pC8 κ υ a := ⟨pC_t7 h.1 g.1, kA_t8 h.2 g.2⟩
def RA8 (κ : zS) (a : Nat) (σ : rS) : Prop := (σ.1 69 = 0 ↔ zI κ atExplored (zR κ chAtlas a) = 0) ∧ (σ.1 69 ≠ 0 → (∃ nv s w, CR7 nv s w (cu7 κ (zR κ chCode a)) σ ∧ AT8 w s (av8 κ (zR κ chAtlas a)) σ) ∧ HQ8 (av8 κ (zR κ chAtlas a)) σ ∧ RQ8 (av8 κ (zR κ chAtlas a)) σ ∧ ZQ8 σ ∧ PL8 (plC8 κ a) σ ∧ UQ15 σ) ∧ (σ.1 69 = 0 → no8 σ)
def RC8 (κ : zS) (a : Nat) (σ : rS) : Prop := RC7 κ a σ ∧ RA8 κ a σ
theorem rc_8 {κ κ' : zS} {a : Nat} {σ σ' : rS} (k : kR7 σ σ') (k2 : kT8 σ σ') (h : RA8 κ a σ) (c : kC7 κ κ' a) (c2 : kB8 κ κ' a) (p : σ.1 69 ≠ 0 → PL8 (plC8 κ a) σ → PL8 (plC8 κ' a) σ') : RA8 κ' a σ' := by
  have e69 : σ'.1 69 = σ.1 69 := k2.1 69 (by decide)
  refine ⟨by rw [e69, c2.1]; exact h.1, fun z => ?_, fun z => no_k8 (h.2.2 (by rw [← e69]; exact z)) k2⟩
  rw [e69] at z
  obtain ⟨⟨nv, s, w, g1, g2⟩, g3, g4, g5, g6, g7⟩ := h.2.1 z
  refine ⟨⟨nv, s, w, ?_, ?_⟩, by rw [c2.2.1]; exact ⟨HQ_k8 g3 k2, RQ_k8 g4 k2, ZQ_k8 g5 k2, p z g6, UQ_k15 g7 k2⟩⟩
  · rw [c.2]
    exact CR_k7 g1 k
  · rw [c2.2.1]
    exact AT_k8 g2 (fun g q => k2.1 g (by rcases q with q | q | q <;> rw [q] <;> decide)) (fun g q => k2.2 g ((by decide : ∀ g, g ∈ kt8 → g ∈ ky8) g q))
theorem ra_8 {κ κ' : zS} {a : Nat} {σ σ' : rS} (k : kR7 σ σ') (k2 : kS8 σ σ') (h : RA8 κ a σ) (c : kC7 κ κ' a) (c2 : kA8 κ κ' a) : RA8 κ' a σ' := rc_8 k (kS_t8 k2) h c (kA_b8 c2) (fun _ g j hj => by
  rw [k2.1 70 (by decide)] at hj
  rw [show plC8 κ' a = plC8 κ a from (Prod.mk.inj (Prod.mk.inj c2.2).2).1, k2.2 83 (by decide)]
  exact g j hj)
theorem re_8 {κ κ' : zS} {a : Nat} {σ σ' : rS} (k : pR8 σ σ') (h : RC8 κ a σ) (c : pC8 κ κ' a) : RC8 κ' a σ' := ⟨re_7 k.1 h.1 c.1, ra_8 k.1.2 k.2 h.2 c.1.2 c.2⟩
theorem pC_w8 {κ τ : zS} {a : Nat} {P Q : Prop} (h : kA8 κ τ a) (g : P ∧ Q ∧ pC7 κ τ a) : P ∧ Q ∧ pC8 κ τ a := ⟨g.1, g.2.1, g.2.2, h⟩
theorem pB_w8 {κ τ : zS} {a : Nat} {P Q : Prop} (h : kB8 κ τ a) (g : P ∧ Q ∧ pC7 κ τ a) : P ∧ Q ∧ pB8 κ τ a := ⟨g.1, g.2.1, g.2.2, h⟩
theorem pC_b8 {κ τ : zS} {a : Nat} {P Q : Prop} (h : kA8 κ τ a) (g : P ∧ Q ∧ pB8 κ τ a) : P ∧ Q ∧ pC8 κ τ a := ⟨g.1, g.2.1, g.2.2.1, h⟩
/-- decide, best: what they leave -/
def pDc8 (κ κ' : zS) (a : Nat) (σ : rS) (k c : Int32) : Prop := pB8 κ κ' a ∧ (dc8 σ k c → plC8 κ' a = upd (plC8 κ a) k.toNatClampNeg c) ∧ (¬ dc8 σ k c → plC8 κ' a = plC8 κ a)
theorem rd_8 {κ κ' : zS} {a : Nat} {σ σ' : rS} {x y : Int32} (k : pD8 x y σ σ') (ht : RC8 κ a σ) (c : pDc8 κ κ' a σ x y) : RC8 κ' a σ' := ⟨re_7 k.1.1 ht.1 c.1.1, rc_8 k.1.1.2 k.1.2 ht.2 c.1.1.2 c.1.2 (fun _ g j hj => by
  rw [k.1.2.1 70 (by decide)] at hj
  by_cases z : dc8 σ x y
  · rw [c.2.1 z, k.2.1 z]
    by_cases e : j = x.toNatClampNeg
    · rw [e, upd_eq, upd_eq]
    · rw [upd_ne e, upd_ne e]
      exact g j hj
  · rw [c.2.2 z, k.2.2 z]
    exact g j hj)⟩
def bp9 (κ κ' : zS) (t : Nat) (σ : rS) : Prop := (bv8 σ = 0 → ∀ k, k < (σ.1 70).toNatClampNeg → zA κ' (zR κ' atPlan t) k = pbW8 σ k) ∧ (bv8 σ ≠ 0 → zA κ' (zR κ' atPlan t) = zA κ (zR κ atPlan t))
def BB9 (κ κ' : zS) (a : Nat) (σ : rS) : Prop := pB8 κ κ' a ∧ (bc8 σ → bp9 κ κ' (zR κ chAtlas a) σ)
theorem rb_8 {κ κ' : zS} {a : Nat} {σ σ' : rS} {v : Int32} (ht : RC8 κ a σ) (k : pR7 σ σ' ∧ kT8 σ σ') (X : XB8 σ σ' v) (c : BB9 κ κ' a σ) : RC8 κ' a σ' := by
  refine ⟨re_7 k.1 ht.1 c.1.1, rc_8 k.1.2 k.2 ht.2 c.1.1.2 c.1.2 (fun ex g j hj => ?_)⟩
  obtain ⟨b0, b1⟩ := c.2 ex
  rw [k.2.1 70 (by decide)] at hj
  have gj : zA κ (zR κ atPlan (zR κ chAtlas a)) j = σ.2.2.1 83 j := g j hj
  show zA κ' (zR κ' atPlan (zR κ' chAtlas a)) j = _
  rw [c.1.2.2.2]
  rcases X with ⟨z, _⟩ | ⟨_, _, X⟩
  · exact absurd z ex
  · rcases X with ⟨h1, h2, bk⟩ | ⟨h1, ⟨h2, h3, bk⟩ | ⟨h2, h3, _⟩⟩
    · rw [b1 (by rw [bv_28 h1]; decide), bk.1 83 (Or.inl rfl)]; exact gj
    · rw [b1 (by rw [bv_38 h1 h3]; decide), bk.1 83 (Or.inl rfl)]; exact gj
    · rw [b0 (bv_08 h1 (fun k hk => (h3 k hk).2.1)) j hj]; exact (h3 j hj).2.2.symm

end
section
set_option maxHeartbeats 1600000
/-! the class: ChanceWorks between calls -/
/-- tape, codes, parser -/
def chA9 (κ : zS) (a : Nat) : Prop := (taI κ (zR κ chTape a) ∧ tokI κ (zR κ chTape a)) ∧ ((coI κ (zR κ chCode a) ∧ coI κ (zR κ chSpare a)) ∧ zR κ chCode a ≠ zR κ chSpare a) ∧ ((paL κ (zR κ chParser a) ∧ paC κ (zR κ chParser a)) ∧ zR κ paTape (zR κ chParser a) = zR κ chTape a)
/-- atlas and machine -/
def chB9 (κ : zS) (a : Nat) : Prop := atI κ (zR κ chAtlas a) ∧ zR κ atMachine (zR κ chAtlas a) = zR κ chMachine a ∧ (zI κ atExplored (zR κ chAtlas a) ≠ 0 → (zR κ atCode (zR κ chAtlas a) = zR κ chCode a ∧ 0 ≤ (zI κ atNexts (zR κ chAtlas a)).toInt) ∧ ((zI κ hoTotal (zR κ atStates (zR κ chAtlas a))).toInt = 0 → enZ9 κ (zR κ chAtlas a)))
/-- solver -/
def chC9 (ρ : Nat → Nat) (κ : zS) (a : Nat) : Prop := soR9 ρ κ (zR κ chSolver a) ∧ ((zN κ (zR κ soTaken (zR κ chSolver a))) = 0 ∨ (zN κ (zR κ soTaken (zR κ chSolver a))) = 1000) ∧ (zR κ soAtlas (zR κ chSolver a) = zR κ chAtlas a ∧ zR κ soWeb (zR κ chSolver a) = zR κ atWeb (zR κ chAtlas a)) ∧ ρ (zR κ chShown a) = 30
/-- what is solved, what is planned -/
def chS9 (ρ : Nat → Nat) (κ : zS) (a : Nat) : Prop := (zI κ soSolved (zR κ chSolver a) ≠ 0 → zI κ atExplored (zR κ chAtlas a) ≠ 0 ∧ ∃ P, (0 < P ∧ P < pB9 1490) ∧ ∀ n, atW κ (zR κ chAtlas a) n → vsI9 ρ κ (zR κ chSolver a) n P ∧ n ≤ (zN κ (zR κ soVisits (zR κ chSolver a)))) ∧ (zI κ soPlanned (zR κ chSolver a) ≠ 0 → zI κ atExplored (zR κ chAtlas a) ≠ 0 ∧ ∀ n, atW κ (zR κ chAtlas a) n → n ≤ (zN κ (zR κ soWorths (zR κ chSolver a))) ∧ ∀ k, k < n → ∃ u, zQ κ (zR κ soWorths (zR κ chSolver a)) k = some u)
/-- odds -/
def chD9 (ρ : Nat → Nat) (κ : zS) (a : Nat) : Prop := (zR κ odAtlas (zR κ chOdds a) = zR κ chAtlas a ∧ zR κ odSolver (zR κ chOdds a) = zR κ chSolver a ∧ zR κ odCalc (zR κ chOdds a) = zR κ soCalc (zR κ chSolver a)) ∧ ρ (zR κ odHeld (zR κ chOdds a)) = 15 ∧ ((odU9 κ (zR κ chOdds a) ∨ tbL9 κ (zR κ chOdds a)) ∧ (zN κ (zR κ odLinks (zR κ chOdds a))) ≤ 20000) ∧ (hoI κ (zR κ odGroups (zR κ chOdds a)) 3000 3 8192 ∧ (zN κ (zR κ odKey (zR κ chOdds a))) = 3) ∧ (∀ j u, j < 31 → zQ κ (zR κ odEdges (zR κ chOdds a)) j = some u → ρ u = 2000000 + j) ∧ (zR κ atStates (zR κ chAtlas a) ≠ zR κ odGroups (zR κ chOdds a) ∧ zR κ atEndings (zR κ chAtlas a) ≠ zR κ odGroups (zR κ chOdds a))
/-- its own rows -/
def chE9 (κ : zS) (a : Nat) : Prop := ((zN κ (zR κ chTold a)) = 200 ∧ 0 ≤ (zI κ chTolds a).toInt ∧ (zI κ chTolds a).toInt ≤ 200) ∧ ((zN κ (zR κ chRecord a)) = 5 ∧ (zN κ (zR κ chLastShared a)) = 34) ∧ dwI9 κ a
/-- how many numbers and fractions there are: those of the constructors, and those in places of rows -/
def cK9 (κ : zS) (a : Nat) : Prop := nT9 8 κ ≤ 17 + (nn9 κ (zR κ soCells (zR κ chSolver a)) + nn9 κ (zR κ odEdges (zR κ chOdds a)) + 2 * zV9 κ (zR κ chSolver a)) ∧ nT9 11 κ ≤ 2 + zV9 κ (zR κ chSolver a)
theorem cK_z9 {C : zC} {n0 a : Nat} {F : Nat → Nat → Prop} {κ τ : zS} (W : zW C n0 κ) (T : zT κ a = 15) (Z : zF F κ τ) (hs : zR τ chSolver a = zR κ chSolver a) (ho : zR τ chOdds a = zR κ chOdds a) (h : ∀ b, zn κ ≤ b → ¬ F 0 b) (nS : ∀ f, f = soCells ∨ f = soVisits ∨ f = soWorths → ¬ F f (zR κ chSolver a)) (he : nn9 κ (zR κ odEdges (zR κ chOdds a)) ≤ nn9 τ (zR τ odEdges (zR κ chOdds a))) (K : cK9 κ a) : cK9 τ a := by
  have tS := ty_chSolver W T
  have v := zV_z9 W tS Z (nS _ (Or.inr (Or.inl rfl))) (nS _ (Or.inr (Or.inr rfl)))
  have c := nC_z9 W tS Z (nS _ (Or.inl rfl))
  have n8 := nT_z9 W Z h (t := 8) (by decide)
  have n11 := nT_z9 W Z h (t := 11) (by decide)
  obtain ⟨k1, k2⟩ := K
  unfold cK9
  rw [hs, ho, v, c]
  exact ⟨by omega, by omega⟩
theorem cK_k9 {C : zC} {n0 a : Nat} {F : Nat → Nat → Prop} {κ τ : zS} (W : zW C n0 κ) (T : zT κ a = 15) (Z : zF F κ τ) (hs : zR τ chSolver a = zR κ chSolver a) (ho : zR τ chOdds a = zR κ chOdds a) (ne : ¬ F odEdges (zR κ chOdds a)) (kz : zK9 κ τ (zR κ chSolver a)) (K : cK9 κ a) : cK9 τ a := by
  have e := nE_z9 W (ty_chOdds W T) Z ne
  obtain ⟨k1, k2⟩ := K
  obtain ⟨z1, z2⟩ := kz
  unfold cK9
  rw [hs, ho, e]
  exact ⟨by omega, by omega⟩
theorem cK_e9 {C : zC} {n0 a : Nat} {F : Nat → Nat → Prop} {κ τ : zS} (W : zW C n0 κ) (T : zT κ a = 15) (Z : zF F κ τ) (hs : zR τ chSolver a = zR κ chSolver a) (ho : zR τ chOdds a = zR κ chOdds a) (nS : ∀ f, f = soCells ∨ f = soVisits ∨ f = soWorths → ¬ F f (zR κ chSolver a)) (ke : zE9 κ τ (zR κ chOdds a)) (K : cK9 κ a) : cK9 τ a := by
  have tS := ty_chSolver W T
  have v := zV_z9 W tS Z (nS _ (Or.inr (Or.inl rfl))) (nS _ (Or.inr (Or.inr rfl)))
  have c := nC_z9 W tS Z (nS _ (Or.inl rfl))
  obtain ⟨k1, k2⟩ := K
  obtain ⟨z1, z2⟩ := ke
  unfold cK9
  rw [hs, ho, v, c]
  exact ⟨by omega, by omega⟩
theorem zT_o9 {C : zC} {n0 x : Nat} {κ : zS} (W : zW C n0 κ) (h : zn κ ≤ x) : zT κ x = 0 := by
  by_cases z : zT κ x = 0
  · exact z
  · have y := (W.2.1 x z).2
    omega
def chI9 (ρ : Nat → Nat) (κ : zS) (a : Nat) (L : Int) : Prop := chA9 κ a ∧ chB9 κ a ∧ chC9 ρ κ a ∧ chS9 ρ κ a ∧ chD9 ρ κ a ∧ chE9 κ a ∧ (zI κ taLength (zR κ chTape a)).toInt ≤ L ∧ cK9 κ a
theorem un_t9 {F : Nat → Nat → Prop} {κ : zS} {x K : Nat} (h : ∀ f x, F f x → zT κ x = 7 ∨ zT κ x = 13 ∨ zT κ x = 15) (T : zT κ x = K) (hK : K ≠ 7 ∧ K ≠ 13 ∧ K ≠ 15) : ∀ f, ¬ F f x := fun f z => by
  have y := h f x z
  rw [T] at y
  rcases y with y | y | y
  · exact hK.1 y
  · exact hK.2.1 y
  · exact hK.2.2 y
theorem odd_u9 {C : zC} {n0 b : Nat} {F : Nat → Nat → Prop} {κ τ : zS} (Z : zF F κ τ) (W : zW C n0 κ) (T : zT κ b = 9) (n : un9 F b 9) : (∀ f, f / 100 = 9 → zR τ f b = zR κ f b) ∧ (odU9 κ b ∨ tbL9 κ b → odU9 τ b ∨ tbL9 τ b) ∧ (zN τ (zR τ odLinks b)) = (zN κ (zR κ odLinks b)) ∧ (zN τ (zR τ odKey b)) = (zN κ (zR κ odKey b)) ∧ zQ τ (zR τ odEdges b) = zQ κ (zR κ odEdges b) := by
  have r : ∀ f, f / 100 = 9 → zR τ f b = zR κ f b := fun f hf => Z.r (n f hf)
  have e1 : zN τ (zR τ odLefts b) = zN κ (zR κ odLefts b) := by rw [r _ (by decide)]; exact Z.l (ty_odLefts W T)
  have e2 : zN τ (zR τ odRights b) = zN κ (zR κ odRights b) := by rw [r _ (by decide)]; exact Z.l (ty_odRights W T)
  have e3 : zN τ (zR τ odBases b) = zN κ (zR κ odBases b) := by rw [r _ (by decide)]; exact Z.l (ty_odBases W T)
  have e4 : zN τ (zR τ odRanks b) = zN κ (zR κ odRanks b) := by rw [r _ (by decide)]; exact Z.l (ty_odRanks W T)
  have e5 : zN τ (zR τ odCellOf b) = zN κ (zR κ odCellOf b) := by rw [r _ (by decide)]; exact Z.l (ty_odCellOf W T)
  have e6 : zN τ (zR τ odHeads b) = zN κ (zR κ odHeads b) := by rw [r _ (by decide)]; exact Z.l (ty_odHeads W T)
  have e7 : zN τ (zR τ odEdges b) = zN κ (zR κ odEdges b) := by rw [r _ (by decide)]; exact Z.l (ty_odEdges W T)
  refine ⟨r, fun h => ?_, by rw [r _ (by decide)]; exact Z.l (ty_odLinks W T), by rw [r _ (by decide)]; exact Z.l (ty_odKey W T), (Z.row W (show zr odEdges = some 24 by decide +kernel) (by decide) (T.trans (by decide)) (n _ (by decide))).2.2⟩
  unfold odU9 tbL9
  rw [e1, e2, e3, e4, e5, e6, e7]
  exact h
/-- the atlas, where neither it nor its hoards nor its web nor the code are touched -/
theorem chB_u9 {C : zC} {n0 a : Nat} {F : Nat → Nat → Prop} {κ τ : zS} (W : zW C n0 κ) (T : zT κ a = 15) (Z : zF F κ τ) (hO : ∀ f, f / 100 = 15 → f ≠ chDrawnWeights → f ≠ chDrawnTotals → zR τ f a = zR κ f a) (n3 : un9 F (zR κ chAtlas a) 3) (ns : un9 F (zR κ atStates (zR κ chAtlas a)) 6) (ne : un9 F (zR κ atEndings (zR κ chAtlas a)) 6) (nw : un9 F (zR κ atWeb (zR κ chAtlas a)) 14) (nc : zI κ atExplored (zR κ chAtlas a) ≠ 0 → un9 F (zR κ atCode (zR κ chAtlas a)) 5) (hm : maL τ (zR κ chMachine a)) (B : chB9 κ a) : chB9 τ a ∧ (∀ n, atW τ (zR κ chAtlas a) n ↔ atW κ (zR κ chAtlas a) n) ∧ (zI τ atExplored (zR κ chAtlas a) = zI κ atExplored (zR κ chAtlas a)) ∧ (∀ f, f / 100 = 3 → zR τ f (zR κ chAtlas a) = zR κ f (zR κ chAtlas a)) := by
  have tA := ty_chAtlas W T
  have g := at_u9 Z W tA (fun f hf _ => n3 f hf) (Z.r (n3 atPlan (by decide)))
  obtain ⟨⟨⟨b1, b2, b3, b4⟩, b5, ⟨b6, b7⟩, b8, b9⟩, c1, c2⟩ := B
  have M := atM_u9 g
  have S := ho_u9 (M := 1000) (D := 142) (S := 2048) Z W (ty_atStates W tA) ns
  have E := ho_u9 (M := 1000) (D := 35) (S := 2048) Z W (ty_atEndings W tA) ne
  have V := we_u9 Z W (ty_atWeb W tA) nw
  have ex : zI τ atExplored (zR κ chAtlas a) = zI κ atExplored (zR κ chAtlas a) := Z.i (n3 _ (by decide))
  have Wn : ∀ n, atW τ (zR κ chAtlas a) n ↔ atW κ (zR κ chAtlas a) n := fun n => atW_u9 g (Z.i (n3 _ (by decide))) S.2.2 E.2.2
  have r := g.1
  refine ⟨?_, Wn, ex, r⟩
  unfold chB9 atI
  rw [hO chAtlas (by decide) (by decide) (by decide), hO chMachine (by decide) (by decide) (by decide), hO chCode (by decide) (by decide) (by decide), r atMachine (by decide), r atWeb (by decide), r atStates (by decide), r atEndings (by decide), r atCode (by decide), ex, S.2.2]
  refine ⟨⟨⟨b1.elim (fun z => Or.inl (M.2.1 z)) (fun z => Or.inr (M.1 z)), M.2.2 b2, ⟨?_, ?_⟩, b4⟩, by rw [c1]; exact hm, ⟨b6.elim (fun z => Or.inl (V.2.1 z)) (fun z => Or.inr (V.1 z)), V.2.2 b7⟩, b8, fun z => ?_⟩, c1, fun z => ⟨⟨(c2 z).1.1, by rw [Z.i (n3 atNexts (by decide))]; exact (c2 z).1.2⟩, fun y => ?_⟩⟩
  · rw [r atStates (by decide)]; exact S.1 b3.1
  · rw [r atEndings (by decide)]; exact E.1 b3.2
  · obtain ⟨n, hn⟩ := b9 z
    exact ⟨n, (Wn n).mpr hn⟩
  · have K := co_u9 Z W (ty_atCode W tA) (nc z)
    intro i hi
    rw [r atCode (by decide), K.2.1, K.2.2] at hi
    rw [r atEndings (by decide), E.2.1]
    exact (c2 z).2 y i hi
/-- a call that touches the tape, the machine and own fields alone -/
theorem chI_s9 {C : zC} {n0 a : Nat} {L L' : Int} {ρ : Nat → Nat} {F : Nat → Nat → Prop} {κ τ : zS} (W : zW C n0 κ) (T : zT κ a = 15) (Z : zF F κ τ) (hT : ∀ f x, F f x → zT κ x = 7 ∨ zT κ x = 13 ∨ zT κ x = 15) (hO : ∀ f, f / 100 = 15 → f ≠ chDrawnWeights → f ≠ chDrawnTotals → zR τ f a = zR κ f a) (hta : taI τ (zR κ chTape a) ∧ tokI τ (zR κ chTape a)) (hma : maL τ (zR κ chMachine a)) (hE : chE9 τ a) (hL : (zI τ taLength (zR κ chTape a)).toInt ≤ L') (I : chI9 ρ κ a L) : chI9 ρ τ a L' := by
  obtain ⟨⟨A1, ⟨⟨A2, A3⟩, A4⟩, A5, A6⟩, B, ⟨C1, C2, C3, C4⟩, ⟨S1, S2⟩, ⟨D1, D2, D3, ⟨D4, D5⟩, D6, D7⟩, _, _, K0⟩ := I
  have tA := ty_chAtlas W T
  have tS := ty_chSolver W T
  have tO := ty_chOdds W T
  have o := fun f h1 h2 h3 => hO f h1 h2 h3
  have hB := chB_u9 W T Z hO (fun f _ => un_t9 hT tA (by decide) f) (fun f _ => un_t9 hT (ty_atStates W tA) (by decide) f) (fun f _ => un_t9 hT (ty_atEndings W tA) (by decide) f) (fun f _ => un_t9 hT (ty_atWeb W tA) (by decide) f) (fun _ f _ => un_t9 hT (ty_atCode W tA) (by decide) f) hma B
  have hS := rs_h9 W tS C1 Z (fun f w y => un_t9 hT y (by decide) f) (fun f w y => un_t9 hT y (by decide) f) (fun f w y => un_t9 hT y (by decide) f) (fun f _ _ => un_t9 hT tS (by decide) f)
  have nS : ∀ f, ¬ F f (zR κ chSolver a) := un_t9 hT tS (by decide)
  have nO : ∀ f, ¬ F f (zR κ chOdds a) := un_t9 hT tO (by decide)
  have P := pa_u9 Z W (ty_chParser W T) (fun f _ => un_t9 hT (ty_chParser W T) (by decide) f) A5
  have K1 := co_u9 Z W (ty_chCode W T) (fun f _ => un_t9 hT (ty_chCode W T) (by decide) f)
  have K2 := co_u9 Z W (ty_chSpare W T) (fun f _ => un_t9 hT (ty_chSpare W T) (by decide) f)
  have G := odd_u9 Z W tO (fun f _ => nO f)
  have H := ho_u9 (M := 3000) (D := 3) (S := 8192) Z W (ty_odGroups W tO) (fun f _ => un_t9 hT (ty_odGroups W tO) (by decide) f)
  have sv : zQ τ (zR κ soVisits (zR κ chSolver a)) = zQ κ (zR κ soVisits (zR κ chSolver a)) ∧ zN τ (zR κ soVisits (zR κ chSolver a)) = zN κ (zR κ soVisits (zR κ chSolver a)) := by
    have q := (Z.row W (show zr soVisits = some 25 by decide +kernel) (by decide) (tS.trans (by decide)) (nS _)).2.2
    rw [Z.r (nS _)] at q
    exact ⟨q, Z.l (ty_soVisits W tS)⟩
  have sw : zQ τ (zR κ soWorths (zR κ chSolver a)) = zQ κ (zR κ soWorths (zR κ chSolver a)) ∧ zN τ (zR κ soWorths (zR κ chSolver a)) = zN κ (zR κ soWorths (zR κ chSolver a)) := by
    have q := (Z.row W (show zr soWorths = some 25 by decide +kernel) (by decide) (tS.trans (by decide)) (nS _)).2.2
    rw [Z.r (nS _)] at q
    exact ⟨q, Z.l (ty_soWorths W tS)⟩
  have rS : ∀ f, zR τ f (zR κ chSolver a) = zR κ f (zR κ chSolver a) := fun f => Z.r (nS f)
  have iS : ∀ f, zI τ f (zR κ chSolver a) = zI κ f (zR κ chSolver a) := fun f => Z.i (nS f)
  refine ⟨⟨?_, ?_, ?_⟩, hB.1, ?_, ?_, ?_, hE, ?_, ?_⟩
  · rw [o chTape (by decide) (by decide) (by decide)]; exact hta
  · rw [o chCode (by decide) (by decide) (by decide), o chSpare (by decide) (by decide) (by decide)]
    exact ⟨⟨K1.1 A2, K2.1 A3⟩, A4⟩
  · rw [o chParser (by decide) (by decide) (by decide), o chTape (by decide) (by decide) (by decide)]
    exact ⟨P.1, P.2.trans A6⟩
  · unfold chC9
    rw [o chSolver (by decide) (by decide) (by decide), o chAtlas (by decide) (by decide) (by decide), o chShown (by decide) (by decide) (by decide), rS, rS, rS, Z.l (ty_soTaken W tS), hB.2.2.2 atWeb (by decide)]
    exact ⟨hS.1, C2, C3, C4⟩
  · unfold chS9
    rw [o chSolver (by decide) (by decide) (by decide), o chAtlas (by decide) (by decide) (by decide), iS, iS, rS, rS, sv.2, sw.1, sw.2, hB.2.2.1]
    refine ⟨fun z => ?_, fun z => ?_⟩
    · obtain ⟨x1, P9, x2, x3⟩ := S1 z
      refine ⟨x1, P9, x2, fun n hn => ?_⟩
      have y := x3 n ((hB.2.1 n).mp hn)
      exact ⟨vs_h9 W tS Z (fun f w y => un_t9 hT y (by decide) f) (fun f w y => un_t9 hT y (by decide) f) (fun f w y => un_t9 hT y (by decide) f) nS y.1, y.2⟩
    · obtain ⟨x1, x3⟩ := S2 z
      exact ⟨x1, fun n hn => x3 n ((hB.2.1 n).mp hn)⟩
  · unfold chD9
    rw [o chSolver (by decide) (by decide) (by decide), o chAtlas (by decide) (by decide) (by decide), o chOdds (by decide) (by decide) (by decide), G.2.2.2.2, G.2.2.1, G.2.2.2.1, G.1 odAtlas (by decide), G.1 odSolver (by decide), G.1 odCalc (by decide), G.1 odHeld (by decide), G.1 odGroups (by decide), rS, hB.2.2.2 atStates (by decide), hB.2.2.2 atEndings (by decide)]
    exact ⟨D1, D2, ⟨G.2.1 D3.1, D3.2⟩, ⟨H.1 D4, D5⟩, D6, D7⟩
  · rw [o chTape (by decide) (by decide) (by decide)]; exact hL
  · exact cK_z9 W T Z (o chSolver (by decide) (by decide) (by decide)) (o chOdds (by decide) (by decide) (by decide)) (fun b hb => un_t9 hT (zT_o9 W hb) (by decide) 0) (fun f _ => nS f) (Nat.le_of_eq (nE_z9 W tO Z (nO _)).symm) K0

end
section
set_option maxHeartbeats 1600000
/-! the class: ChanceWorks' calls that touch the tape and its own fields alone -/
/-- the tape's bytes and their number -/
def twF9 (t : Nat) : Nat → Nat → Prop := fun f b => b = t ∧ (f = taLength ∨ f = taBytes)
theorem Ta_widen_c2 {C : zC} {n0 : Nat} {a0 : Nat} {a1 : Int32} {κ : zS} {Q : zS → Prop} (W : zW C n0 κ) (Ta0 : zT κ a0 = 13)  (hp : taI κ a0 ∧ 0 ≤ a1.toInt ∧ a1.toInt ≤ 10240) (h : ∀ (κ' : zS), (zF (oneF taBytes a0) κ κ' ∧ taI κ' a0 ∧ zI κ' = zI κ ∧ a1.toInt ≤ (zN κ' (zR κ' taBytes a0)) ∧ (zN κ (zR κ taBytes a0)) ≤ (zN κ' (zR κ' taBytes a0)) ∧ (∀ j, j < zN κ (zR κ taBytes a0) → zA κ' (zR κ' taBytes a0) j = zA κ (zR κ taBytes a0) j)) → Q κ') : zRun C 2 mTa_widen [.ref a0, .int a1] κ (oV Q noX) := by
  refine Ta_widen_run W Ta0 ?_
  replace W := W.lo (Nat.le_trans W.1.2.1 W.1.2.2) (Nat.le_refl (zn κ))
  unfold w_Ta_widen_0
  obtain ⟨H, p0, p1⟩ := hp
  have B := H.1
  have bN := W.n (ty_taBytes W Ta0)
  refine ⟨fun c1 => ?_, fun c1 => ?_⟩
  · skip
    refine h _ ?_
    · rw [lei, ofn_i bN] at c1
      exact ⟨zF.rf, H, rfl, c1, Nat.le_refl _, fun _ _ => rfl⟩
  · skip
    intro T2
    have c9 : (zN κ (zR κ taBytes a0) : Int) < a1.toInt := by rw [lei, ofn_i bN] at c1; omega
    have e2 : (a1 * 2).toInt = a1.toInt * 2 := by rw [mul_i (by rw [t2i]; omega) (by rw [t2i]; omega), t2i]
    have kn := cnk (x := a1 * 2) (by omega)
    refine Ar_copyOfB_c W T2  ?_ (fun r3 κ_4 q5 => ?_)
    · exact ⟨⟨by rw [lei, t0i]; omega, by omega⟩, fun e => by
        have e9 := congrArg Int32.toInt e
        rw [ofn_i bN] at e9
        omega⟩
    intro W6
    intro M7
    intro T8
    refine ⟨?_, ?_⟩
    · rw [q5.1]; exact q5.2.2.1  -- b3
    intro κ_9 hκ_9
    intro W10
    refine h _ ?_
    · have h9 : κ_9 = uo κ_4 taBytes a0 (zn κ) := by rw [hκ_9, q5.1]
      obtain ⟨F9, u1, u2, u3, u4, u5, -⟩ := gr_f (f := taBytes) W (by decide +kernel) (by decide) Ta0 (by decide) q5.2 h9 (by omega) (by omega)
      refine ⟨F9, ?_, u1, ?_, ?_, fun j hj => ?_⟩
      · unfold taI
        rw [u1, u3, u4, u2 taKinds a0 (fun z => absurd z.1 (by decide)), u2 taPlaces a0 (fun z => absurd z.1 (by decide)), u2 taLengths a0 (fun z => absurd z.1 (by decide)), (u5 _ _ (ty_taKinds W Ta0)).1, (u5 _ _ (ty_taPlaces W Ta0)).1, (u5 _ _ (ty_taLengths W Ta0)).1]
        exact ⟨⟨H.1.1, by omega, by omega, by omega⟩, H.2⟩
      · rw [u3, u4]; omega
      · rw [u3, u4]; omega
      · rw [u3, h9]
        exact q5.2.2.2.1 j (by omega) hj

/-- bytes written of a word -/
def adI9 (κ : zS) (a0 : Nat) (w : Int32) (k : Int) (τ : zS) : Prop := (∀ j, j < (zI κ taLength a0).toInt.toNat → zA τ (zR τ taBytes a0) j = zA κ (zR κ taBytes a0) j) ∧ (∀ i : Nat, (i : Int) < k → zA τ (zR τ taBytes a0) ((zI κ taLength a0).toInt.toNat + i) = bw9 w i)
theorem ad_09 {κ : zS} {a0 : Nat} {w : Int32} : adI9 κ a0 w ((24 - (24 : Int32).toInt) / 8) κ := ⟨fun _ _ => rfl, fun i hi => absurd hi (by show ¬ (i : Int) < 0; omega)⟩
theorem ua_99 {κ : zS} {r i j : Nat} {x : Int32} : zA (ua κ r i x) r j = if j = i then x else zA κ r j := by
  show (if r = r then upd (κ.2.2.2.2.1 r) i x else κ.2.2.2.2.1 r) j = _
  rw [if_pos rfl]
  unfold upd
  rfl
theorem bw_99 {w l : Int32} {i : Nat} (h0 : 0 ≤ l.toInt) (h1 : l.toInt ≤ 24) (h2 : l.toInt % 8 = 0) (hi : (i : Int) = (24 - l.toInt) / 8) : vp_nar .byte (Int8.toInt32 (Int32.toInt8 (w >>> (l &&& 31)))) = bw9 w i := by
  have e : l = (24 : Int32) - 8 * Int32.ofNat i := by
    have k : l.toInt = 24 ∨ l.toInt = 16 ∨ l.toInt = 8 ∨ l.toInt = 0 := by omega
    rcases k with k | k | k | k
    · have q : i = 0 := by omega
      rw [q]; exact Int32.toInt_inj.mp (k.trans rfl)
    · have q : i = 1 := by omega
      rw [q]; exact Int32.toInt_inj.mp (k.trans rfl)
    · have q : i = 2 := by omega
      rw [q]; exact Int32.toInt_inj.mp (k.trans rfl)
    · have q : i = 3 := by omega
      rw [q]; exact Int32.toInt_inj.mp (k.trans rfl)
  unfold bw9
  rw [← e]
theorem ad_s9 {κ τ υ : zS} {a0 : Nat} {w l : Int32} (hl : 0 ≤ (zI κ taLength a0).toInt) (h1 : l.toInt ≤ 24) (h0 : ¬ l.toInt < 0) (h2 : l.toInt % 8 = 0) (hN : (zI τ taLength a0).toInt ≤ 67108864) (ml : (zI τ taLength a0).toInt * 8 = (zI κ taLength a0).toInt * 8 + (24 - l.toInt)) (mR : zR τ = zR κ) (h : adI9 κ a0 w ((24 - l.toInt) / 8) τ) (hu : ∀ j, zA υ (zR υ taBytes a0) j = if j = (zI τ taLength a0).toNatClampNeg then vp_nar .byte (Int8.toInt32 (Int32.toInt8 (w >>> (l &&& 31)))) else zA τ (zR τ taBytes a0) j) : adI9 κ a0 w ((24 - (l.toInt - 8)) / 8) υ := by
  have ci : (zI τ taLength a0).toNatClampNeg = (zI κ taLength a0).toInt.toNat + ((24 - l.toInt) / 8).toNat := by
    have z := cnk (x := zI τ taLength a0) (by omega)
    omega
  refine ⟨fun j hj => ?_, fun i hi => ?_⟩
  · rw [hu, if_neg (by omega)]
    exact h.1 j hj
  · rw [hu]
    by_cases q : (i : Int) = (24 - l.toInt) / 8
    · rw [if_pos (by omega)]
      exact bw_99 (by omega) h1 h2 q
    · rw [if_neg (by omega)]
      exact h.2 i (by omega)
theorem Ta_addWord_c2 {C : zC} {n0 : Nat} {a0 : Nat} {a1 : Int32} {κ : zS} {Q : zS → Prop} (W : zW C n0 κ) (Ta0 : zT κ a0 = 13)  (hp : taI κ a0 ∧ (zI κ taLength a0).toInt + 4 ≤ (zN κ (zR κ taBytes a0))) (h : ∀ (κ' : zS), (zF (twF9 a0) κ κ' ∧ taI κ' a0 ∧ zR κ' = zR κ ∧ zN κ' = zN κ ∧ (zI κ' taLength a0).toInt = (zI κ taLength a0).toInt + 4 ∧ (∀ f, f ≠ taLength → zI κ' f a0 = zI κ f a0) ∧ adI9 κ a0 a1 4 κ') → Q κ') : zRun C 0 mTa_addWord [.ref a0, .int a1] κ (oV Q noX) := by
  refine Ta_addWord_run W Ta0 ?_
  replace W := W.lo (Nat.le_trans W.1.2.1 W.1.2.2) (Nat.le_refl (zn κ))
  unfold w_Ta_addWord_0
  obtain ⟨H, p0⟩ := hp
  have B := H.1
  have bN := W.n (ty_taBytes W Ta0)
  unfold w_Ta_addWord_3
  refine ⟨fun n l0 l1 l2 τ => n = (l2.toInt + 8).toNat ∧ (a0 = l0 ∧ a1 = l1 ∧ (-8 ≤ l2.toInt ∧ l2.toInt ≤ 24 ∧ l2.toInt % 8 = 0) ∧ zF (twF9 a0) κ τ ∧ zR τ = zR κ ∧ zN τ = zN κ ∧ (∀ f, f ≠ taLength → zI τ f a0 = zI κ f a0) ∧ (zI τ taLength a0).toInt * 8 = (zI κ taLength a0).toInt * 8 + (24 - l2.toInt) ∧ adI9 κ a0 a1 ((24 - l2.toInt) / 8) τ), ⟨_, rfl, ?_⟩, ?_⟩
  · exact ⟨rfl, rfl, by decide, zF.rf, rfl, rfl, fun _ _ => rfl, by show _ = _ + ((24 : Int) - 24); omega, ad_09⟩  -- j1
  rintro n3 _ _ x3_2 κ3 W3 T3_0 ⟨hn3, rfl, rfl, i3⟩
  obtain ⟨⟨m0, m1, m2⟩, F, mR, mN, mI, ml, mA⟩ := i3
  refine ⟨fun c1 => ?_, fun c1 => ?_⟩
  · skip
    refine h _ ?_
    · rw [lti, t0i] at c1
      have e : (zI κ3 taLength a0).toInt = (zI κ taLength a0).toInt + 4 := by omega
      have e8 : x3_2.toInt = -8 := by omega
      rw [e8, show ((24 : Int) - -8) / 8 = 4 by decide] at mA
      refine ⟨F, ?_, mR, mN, e, mI, mA⟩
      unfold taI
      rw [mR, mN, e, mI taTotal (by decide)]
      exact ⟨⟨by omega, by omega, H.1.2.2⟩, H.2⟩
  · skip
    refine ⟨fun c2 => ?_, fun c2 => ?_⟩
    · skip
      refine h _ ?_
      · exfalso
        rw [lti, t0i] at c1
        rw [mR, mN, lei, ofn_i bN] at c2
        omega
    · skip
      refine ⟨?_, ?_⟩
      · rw [lti, t0i] at c1
        rw [mR, mN, lei, ofn_i bN] at c2
        rw [mR, mN, inb_iff]
        omega
      intro κ_3 hκ_3
      intro W4
      intro κ_5 hκ_5
      intro W6
      intro x7 hx7
      rw [lti, t0i] at c1
      have f8 : (-8 : Int32).toInt = -8 := rfl
      have e7 : x7.toInt = x3_2.toInt - 8 := by rw [hx7, add_i (by rw [f8]; omega) (by rw [f8]; omega), f8]; omega
      refine ⟨_, ?_, rfl, ?_⟩
      · rw [hn3, e7]; omega  -- d5
      · have f1 : zF (twF9 a0) κ3 κ_3 := by rw [hκ_3]; exact zF_ua (by rw [ow_taBytes W3 T3_0]; exact ⟨rfl, Or.inr rfl⟩)
        have f2 : zF (twF9 a0) κ_3 κ_5 := by rw [hκ_5]; exact zF_ui ⟨rfl, Or.inl rfl⟩
        have i3 : zI κ_3 = zI κ3 := by rw [hκ_3]; rfl
        have is : zI κ_5 taLength a0 = zI κ3 taLength a0 + 1 := by
          rw [hκ_5]
          refine (if_pos ⟨rfl, rfl⟩).trans ?_
          rw [i3]
        have ts : (zI κ_5 taLength a0).toInt = (zI κ3 taLength a0).toInt + 1 := by rw [is, add_i (by rw [t1i]; omega) (by rw [t1i]; omega), t1i]
        refine ⟨rfl, rfl, ⟨by omega, by omega, by omega⟩, (F.tr f1).tr f2, by rw [hκ_5, hκ_3]; exact mR, by rw [hκ_5, hκ_3]; exact mN, fun f hf => ?_, by rw [ts]; omega, ?_⟩
        · rw [hκ_5]
          exact (if_neg (fun z => hf z.1)).trans ((congrFun (congrFun i3 f) a0).trans (mI f hf))
        · rw [e7]
          exact ad_s9 (by omega) m1 c1 m2 (by omega) ml mR mA (fun j => by rw [hκ_5, hκ_3]; exact ua_99)


theorem tw_9 {C : zC} {n0 t : Nat} {κ τ : zS} (W : zW C n0 κ) (T : zT κ t = 13) (Z : zF (twF9 t) κ τ) (h : (zN κ (zR κ taBytes t)) ≤ (zN τ (zR τ taBytes t))) (H : tokI κ t) : tokI τ t := by
  have n : ∀ f, f ≠ taLength → f ≠ taBytes → ¬ twF9 t f t := fun f h1 h2 z => z.2.elim h1 h2
  have p := (Z.row W (show zr taPlaces = some 20 by decide +kernel) (by decide) T (n taPlaces (by decide) (by decide))).1
  have l := (Z.row W (show zr taLengths = some 20 by decide +kernel) (by decide) T (n taLengths (by decide) (by decide))).1
  unfold tokI
  rw [p, l, Z.r (n taKinds (by decide) (by decide)), Z.l (ty_taKinds W T)]
  intro i hi
  have y := H i hi
  exact ⟨y.1, y.2.1, by omega⟩
theorem chE_u9 {C : zC} {n0 a : Nat} {F : Nat → Nat → Prop} {κ τ : zS} (W : zW C n0 κ) (T : zT κ a = 15) (Z : zF F κ τ) (n : un9 F a 15) (E : chE9 κ a) : chE9 τ a ∧ (∀ f, f / 100 = 15 → zR τ f a = zR κ f a) ∧ zI τ chTolds a = zI κ chTolds a := by
  have r : ∀ f, f / 100 = 15 → zR τ f a = zR κ f a := fun f hf => Z.r (n f hf)
  have i : zI τ chTolds a = zI κ chTolds a := Z.i (n _ (by decide))
  refine ⟨?_, r, i⟩
  unfold chE9 dwI9
  rw [r chTold (by decide), r chRecord (by decide), r chLastShared (by decide), r chDrawnWeights (by decide), r chDrawnTotals (by decide), i, Z.l (ty_chTold W T), Z.l (ty_chRecord W T), Z.l (ty_chLastShared W T), Z.l (ty_chDrawnWeights W T), Z.l (ty_chDrawnTotals W T)]
  exact E
/-- a call that touches the tape's bytes alone -/
theorem chI_t9 {C : zC} {n0 a : Nat} {L L' : Int} {ρ : Nat → Nat} {κ τ : zS} (W : zW C n0 κ) (T : zT κ a = 15) (Z : zF (twF9 (zR κ chTape a)) κ τ) (h : (zN κ (zR κ taBytes (zR κ chTape a))) ≤ (zN τ (zR τ taBytes (zR κ chTape a)))) (hta : taI τ (zR κ chTape a)) (hL : (zI τ taLength (zR κ chTape a)).toInt ≤ L') (I : chI9 ρ κ a L) : chI9 ρ τ a L' ∧ zI τ chTolds a = zI κ chTolds a := by
  have tt := ty_chTape W T
  have tm := ty_chMachine W T
  have un : ∀ x K, zT κ x = K → K ≠ 13 → un9 (twF9 (zR κ chTape a)) x K := fun x K h1 h2 f _ z => by
    rw [z.1, tt] at h1
    exact h2 h1.symm
  have E := chE_u9 W T Z (un a 15 T (by decide)) I.2.2.2.2.2.1
  have ma : maL κ (zR κ chMachine a) := by
    have y := I.2.1.1.2.1
    rw [I.2.1.2.1] at y
    exact y
  refine ⟨chI_s9 W T Z (fun f x z => Or.inr (Or.inl (by rw [z.1]; exact tt))) (fun f hf _ _ => E.2.1 f hf) ⟨hta, tw_9 W tt Z h I.1.1.2⟩ (ma_u9 Z W tm (un _ 7 tm (by decide)) ma) E.1 hL I, E.2.2⟩
/-- on the way of feed -/
def fdI9 (G : Nat → Int32) (κ τ : zS) (t : Nat) (k : Int) : Prop := ((∀ j, j < (zI κ taLength t).toInt.toNat → zA τ (zR τ taBytes t) j = zA κ (zR κ taBytes t) j) ∧ (∀ i : Nat, (i : Int) < k → zA τ (zR τ taBytes t) ((zI κ taLength t).toInt.toNat + i) = G i)) ∧ zF (twF9 t) κ τ ∧ taI τ t ∧ (zI τ taLength t).toInt = (zI κ taLength t).toInt + k ∧ ((zI κ taLength t).toInt + 20 ≤ (zN τ (zR τ taBytes t)) ∧ (zN κ (zR κ taBytes t)) ≤ (zN τ (zR τ taBytes t)))
theorem fd_s9 {G : Nat → Int32} {w : Int32} {κ τ σ : zS} {t : Nat} {k m : Int} (hl : 0 ≤ (zI κ taLength t).toInt) (hk : 0 ≤ k) (hG : ∀ i, i < 4 → G (k.toNat + i) = bw9 w i) (I : fdI9 G κ τ t k) (hm : m = k + 4) (q : zF (twF9 t) τ σ ∧ taI σ t ∧ zR σ = zR τ ∧ zN σ = zN τ ∧ (zI σ taLength t).toInt = (zI τ taLength t).toInt + 4 ∧ (∀ f, f ≠ taLength → zI σ f t = zI τ f t) ∧ adI9 τ t w 4 σ) : fdI9 G κ σ t m := by
  obtain ⟨⟨y1, y2⟩, Z, A, l, b1, b2⟩ := I
  have qa := q.2.2.2.2.2.2
  have yb : (∀ j, j < (zI κ taLength t).toInt.toNat → zA σ (zR σ taBytes t) j = zA κ (zR κ taBytes t) j) ∧ (∀ i : Nat, (i : Int) < m → zA σ (zR σ taBytes t) ((zI κ taLength t).toInt.toNat + i) = G i) := by
    refine ⟨fun j hj => (qa.1 j (by omega)).trans (y1 j hj), fun i hi => ?_⟩
    by_cases c : (i : Int) < k
    · exact (qa.1 _ (by omega)).trans (y2 i c)
    · have z := qa.2 (i - k.toNat) (by omega)
      have z2 := hG (i - k.toNat) (by omega)
      rw [show (zI τ taLength t).toInt.toNat + (i - k.toNat) = (zI κ taLength t).toInt.toNat + i by omega] at z
      rw [show k.toNat + (i - k.toNat) = i by omega] at z2
      exact z.trans z2.symm
  refine ⟨yb, Z.tr q.1, q.2.1, by rw [q.2.2.2.2.1]; omega, ?_⟩
  rw [q.2.2.1, q.2.2.2.1]
  exact ⟨b1, b2⟩
theorem tw_r9 {κ τ : zS} {t a : Nat} (Z : zF (twF9 t) κ τ) : zR τ chTape a = zR κ chTape a := Z.r (fun z => z.2.elim (fun y => absurd y (by decide)) (fun y => absurd y (by decide)))
theorem by9_0 {a1 a2 a3 a4 a5 : Int32} {i : Nat} (hi : i < 4) : by9 a1 a2 a3 a4 a5 ((0 : Int).toNat + i) = bw9 a1 i := by
  have k : i = 0 ∨ i = 1 ∨ i = 2 ∨ i = 3 := by omega
  rcases k with rfl | rfl | rfl | rfl <;> rfl
theorem by9_1 {a1 a2 a3 a4 a5 : Int32} {i : Nat} (hi : i < 4) : by9 a1 a2 a3 a4 a5 ((4 : Int).toNat + i) = bw9 a2 i := by
  have k : i = 0 ∨ i = 1 ∨ i = 2 ∨ i = 3 := by omega
  rcases k with rfl | rfl | rfl | rfl <;> rfl
theorem by9_2 {a1 a2 a3 a4 a5 : Int32} {i : Nat} (hi : i < 4) : by9 a1 a2 a3 a4 a5 ((8 : Int).toNat + i) = bw9 a3 i := by
  have k : i = 0 ∨ i = 1 ∨ i = 2 ∨ i = 3 := by omega
  rcases k with rfl | rfl | rfl | rfl <;> rfl
theorem by9_3 {a1 a2 a3 a4 a5 : Int32} {i : Nat} (hi : i < 4) : by9 a1 a2 a3 a4 a5 ((12 : Int).toNat + i) = bw9 a4 i := by
  have k : i = 0 ∨ i = 1 ∨ i = 2 ∨ i = 3 := by omega
  rcases k with rfl | rfl | rfl | rfl <;> rfl
theorem by9_4 {a1 a2 a3 a4 a5 : Int32} {i : Nat} (hi : i < 4) : by9 a1 a2 a3 a4 a5 ((16 : Int).toNat + i) = bw9 a5 i := by
  have k : i = 0 ∨ i = 1 ∨ i = 2 ∨ i = 3 := by omega
  rcases k with rfl | rfl | rfl | rfl <;> rfl
theorem Ch_feed_c {C : zC} {n0 : Nat} {a0 : Nat} {a1 : Int32} {a2 : Int32} {a3 : Int32} {a4 : Int32} {a5 : Int32} {κ : zS} {Q : Int32 → zS → Prop} {X : zXp} (W : zW C n0 κ) (Ta0 : zT κ a0 = 15) (ρ : Nat → Nat) (L9 : Int) (hp : chI9 ρ κ a0 L9 ∧ L9 ≤ 10220) (h : ∀ (v : Int32) (κ' : zS), (chI9 ρ κ' a0 (L9 + 20) ∧ (∃ F, zF F κ κ') ∧ ((oC9 κ' a0 = fdO9 (oC9 κ a0) (by9 a1 a2 a3 a4 a5) ∧ kC7 κ κ' a0) ∧ kA8 κ κ' a0)) → Q v κ') (hx : ∀ (cls : String) (κ' : zS), (False) → X cls κ') : zRun C 8 mCh_feed [.ref a0, .int a1, .int a2, .int a3, .int a4, .int a5] κ (oI Q X) := by
  refine Ch_feed_run W Ta0 ?_
  replace W := W.lo (Nat.le_trans W.1.2.1 W.1.2.2) (Nat.le_refl (zn κ))
  unfold w_Ch_feed_0
  obtain ⟨I, l9⟩ := hp
  have A := I.1.1
  have B := A.1.1
  have hl := I.2.2.2.2.2.2.1
  have e20 : (20 : Int32).toInt = 20 := rfl
  have el : (zI κ taLength (zR κ chTape a0) + 20).toInt = (zI κ taLength (zR κ chTape a0)).toInt + 20 := by rw [add_i (by rw [e20]; omega) (by rw [e20]; omega), e20]
  refine ⟨fun c1 => ?_, fun c1 => ?_⟩
  · skip
    intro T2
    refine Ta_widen_c2 W T2  ?_ (fun κ_3 q4 => ?_)
    · exact ⟨A.1, by omega, by omega⟩  -- p1
    intro W5
    intro M6
    intro T7
    have J0 : fdI9 (by9 a1 a2 a3 a4 a5) κ κ_3 (zR κ chTape a0) 0 := ⟨⟨fun j hj => q4.2.2.2.2.2 j (by omega), fun i hi => absurd hi (by omega)⟩, q4.1.mono (fun f b z => ⟨z.2, Or.inr z.1⟩), q4.2.1, by rw [q4.2.2.1]; omega, by have y := q4.2.2.2.1; omega, q4.2.2.2.2.1⟩
    rw [tw_r9 J0.2.1] at T7 ⊢
    refine Ta_addWord_c2 W5 T7  ?_ (fun κ_8 q9 => ?_)
    · exact ⟨J0.2.2.1, by have y := J0.2.2.2; omega⟩  -- p2
    intro W10
    intro M11
    intro T12
    have J1 := fd_s9 (m := 4) (w := a1) (by omega) (by omega) (fun i hi => by9_0 hi) J0 (by omega) q9
    rw [tw_r9 J1.2.1] at T12 ⊢
    refine Ta_addWord_c2 W10 T12  ?_ (fun κ_13 q14 => ?_)
    · exact ⟨J1.2.2.1, by have y := J1.2.2.2; omega⟩  -- p3
    intro W15
    intro M16
    intro T17
    have J2 := fd_s9 (m := 8) (w := a2) (by omega) (by omega) (fun i hi => by9_1 hi) J1 (by omega) q14
    rw [tw_r9 J2.2.1] at T17 ⊢
    refine Ta_addWord_c2 W15 T17  ?_ (fun κ_18 q19 => ?_)
    · exact ⟨J2.2.2.1, by have y := J2.2.2.2; omega⟩  -- p4
    intro W20
    intro M21
    intro T22
    have J3 := fd_s9 (m := 12) (w := a3) (by omega) (by omega) (fun i hi => by9_2 hi) J2 (by omega) q19
    rw [tw_r9 J3.2.1] at T22 ⊢
    refine Ta_addWord_c2 W20 T22  ?_ (fun κ_23 q24 => ?_)
    · exact ⟨J3.2.2.1, by have y := J3.2.2.2; omega⟩  -- p5
    intro W25
    intro M26
    intro T27
    have J4 := fd_s9 (m := 16) (w := a4) (by omega) (by omega) (fun i hi => by9_3 hi) J3 (by omega) q24
    rw [tw_r9 J4.2.1] at T27 ⊢
    refine Ta_addWord_c2 W25 T27  ?_ (fun κ_28 q29 => ?_)
    · exact ⟨J4.2.2.1, by have y := J4.2.2.2; omega⟩  -- p6
    intro W30
    intro M31
    refine h _ _ ?_
    · have J5 := fd_s9 (m := 20) (w := a5) (by omega) (by omega) (fun i hi => by9_4 hi) J4 (by omega) q29
      have R := chI_t9 (L' := L9 + 20) W Ta0 J5.2.1 J5.2.2.2.2.2 J5.2.2.1 (by have y := J5.2.2.2.1; omega) I
      refine ⟨R.1, ⟨_, J5.2.1⟩, ⟨?_, kC_z7 W Ta0 J5.2.1 (fun z => z.2.elim (fun y => absurd y (by decide)) (fun y => absurd y (by decide))) (fun z => z.2.elim (fun y => absurd y (by decide)) (fun y => absurd y (by decide))) (fun f hf z => z.2.elim (fun y => absurd hf (by rw [y]; decide)) (fun y => absurd hf (by rw [y]; decide)))⟩, kA_z8 W Ta0 J5.2.1 (fun z => z.2.elim (fun y => absurd y (by decide)) (fun y => absurd y (by decide))) (fun f hf _ z => z.2.elim (fun y => absurd hf (by rw [y]; decide)) (fun y => absurd hf (by rw [y]; decide))) (fun f hf z => z.2.elim (fun y => absurd hf (by rw [y]; decide)) (fun y => absurd hf (by rw [y]; decide))) (fun f hf z => z.2.elim (fun y => absurd hf (by rw [y]; decide)) (fun y => absurd hf (by rw [y]; decide)))⟩
      have l5 : zI κ_28 taLength (zR κ chTape a0) = zI κ taLength (zR κ chTape a0) + 20 := Int32.toInt_inj.mp (by rw [el]; exact J5.2.2.2.1)
      have fc : zI κ_28 chFaultCode a0 = zI κ chFaultCode a0 := J5.2.1.i (fun z => z.2.elim (fun y => absurd y (by decide)) (fun y => absurd y (by decide)))
      unfold oC9
      rw [tw_r9 J5.2.1, l5, fc]
      exact fd_m9 (by omega) (by omega) rfl J5.1.1 (fun i hi => J5.1.2 i (by omega))
  · skip
    intro κ_32 hκ_32
    refine hx _ _ ?_
    · have e65 : (65536 : Int32).toInt = 65536 := rfl
      rw [lei, el, e65] at c1
      omega

theorem Ch_end_c {C : zC} {n0 : Nat} {a0 : Nat} {a1 : Int32} {κ : zS} {Q : zS → Prop} {X : zXp} (W : zW C n0 κ) (Ta0 : zT κ a0 = 15) (ρ : Nat → Nat) (L9 : Int) (hp : chI9 ρ κ a0 L9) (h : ∀ (κ' : zS), (chI9 ρ κ' a0 L9 ∧ (∃ F, zF F κ κ') ∧ ((oC9 κ' a0 = trO9 (oC9 κ a0) a1 ∧ kC7 κ κ' a0) ∧ kA8 κ κ' a0)) → Q κ') (hx : ∀ (cls : String) (κ' : zS), (cls = "java/lang/IllegalArgumentException" ∧ κ' = ut κ ∧ trO9 (oC9 κ a0) a1 = oC9 κ a0) → X cls κ') : zRun C 8 mCh_end [.ref a0, .int a1] κ (oV Q X) := by
  refine Ch_end_run W Ta0 ?_
  replace W := W.lo (Nat.le_trans W.1.2.1 W.1.2.2) (Nat.le_refl (zn κ))
  unfold w_Ch_end_0
  refine ⟨fun c1 => ?_, fun c1 => ?_⟩
  · skip
    intro κ_2 hκ_2
    refine hx _ _ ?_
    · refine ⟨rfl, hκ_2, tr_n9 (fun z => ?_)⟩
      have z1 := z.1
      rw [lti, t0i] at c1
      rw [lei, t0i] at z1
      omega
  · skip
    refine ⟨fun c3 => ?_, fun c3 => ?_⟩
    · skip
      intro κ_4 hκ_4
      intro W5
      refine h _ ?_
      · have Z : zF (twF9 (zR κ chTape a0)) κ κ_4 := by rw [hκ_4]; exact zF_ui ⟨rfl, Or.inl rfl⟩
        have R4 : zR κ_4 = zR κ := by rw [hκ_4]; rfl
        have N4 : zN κ_4 = zN κ := by rw [hκ_4]; rfl
        have i4 : zI κ_4 taLength (zR κ chTape a0) = a1 := by rw [hκ_4]; exact if_pos ⟨rfl, rfl⟩
        have i5 : zI κ_4 taTotal (zR κ chTape a0) = zI κ taTotal (zR κ chTape a0) := by rw [hκ_4]; rfl
        have B := hp.1.1.1
        have B1 := B.1
        have cc : 0 ≤ a1 ∧ a1 ≤ zI κ taLength (zR κ chTape a0) := ⟨by rw [lti, t0i] at c1; rw [lei, t0i]; omega, c3⟩
        rw [lti, t0i] at c1
        rw [lei] at c3
        have hl := hp.2.2.2.2.2.2
        have R := chI_t9 (L' := L9) W Ta0 Z (by rw [R4, N4]; exact Nat.le_refl _) (by
          unfold taI
          rw [R4, N4, i4, i5]
          exact ⟨⟨by omega, by omega, B.1.2.2⟩, B.2⟩) (by rw [i4]; omega) hp
        refine ⟨R.1, ⟨_, Z⟩, ⟨?_, by rw [hκ_4]; rfl, by rw [hκ_4]; exact cu_f7 W (ty_chCode W Ta0) (zF_ui (F := fun f b => f = taLength) rfl) (fun f hf z => absurd hf (by rw [z]; decide))⟩, kA_z8 (F := fun f b => f = taLength) W Ta0 (by rw [hκ_4]; exact zF_ui rfl) (by decide) (fun f hf _ z => absurd hf (by rw [z]; decide)) (fun f hf z => absurd hf (by rw [z]; decide)) (fun f hf z => absurd hf (by rw [z]; decide))⟩
        have A4 : zA κ_4 = zA κ := by rw [hκ_4]; rfl
        have f4 : zI κ_4 chFaultCode a0 = zI κ chFaultCode a0 := by rw [hκ_4]; rfl
        unfold oC9
        rw [tr_m9 cc, R4, A4, i4, f4]
    · skip
      intro κ_6 hκ_6
      refine hx _ _ ?_
      · exact ⟨rfl, hκ_6, tr_n9 (fun z => c3 z.2)⟩

theorem chI_o9 {C : zC} {n0 a : Nat} {L : Int} {ρ : Nat → Nat} {F : Nat → Nat → Prop} {κ τ : zS} (W : zW C n0 κ) (T : zT κ a = 15) (Z : zF F κ τ) (hF : ∀ f x, F f x → x = a) (hO : ∀ f, f / 100 = 15 → f ≠ chDrawnWeights → f ≠ chDrawnTotals → zR τ f a = zR κ f a) (hE : chE9 τ a) (I : chI9 ρ κ a L) : chI9 ρ τ a L := by
  have tt := ty_chTape W T
  have tm := ty_chMachine W T
  have un : ∀ x K, zT κ x = K → K ≠ 15 → un9 F x K := fun x K h1 h2 f _ z => by
    rw [hF f x z, T] at h1
    exact h2 h1.symm
  have ma : maL κ (zR κ chMachine a) := by
    have y := I.2.1.1.2.1
    rw [I.2.1.2.1] at y
    exact y
  have A := ta_u9 Z W tt (un _ 13 tt (by decide)) I.1.1
  exact chI_s9 W T Z (fun f x z => Or.inr (Or.inr (by rw [hF f x z]; exact T))) hO A.1 (ma_u9 Z W tm (un _ 7 tm (by decide)) ma) hE (by rw [A.2]; exact I.2.2.2.2.2.2.1) I
theorem Ch_tell_c {C : zC} {n0 : Nat} {a0 : Nat} {a1 : Int32} {κ : zS} {Q : Int32 → zS → Prop} {X : zXp} (W : zW C n0 κ) (Ta0 : zT κ a0 = 15) (ρ : Nat → Nat) (L9 : Int) (hp : chI9 ρ κ a0 L9) (h : ∀ (v : Int32) (κ' : zS), (chI9 ρ κ' a0 L9 ∧ (∃ F, zF F κ κ') ∧ pC8 κ κ' a0) → Q v κ') (hx : ∀ (cls : String) (κ' : zS), (cls = "java/lang/UnsupportedOperationException" ∧ κ' = ut κ) → X cls κ') : zRun C 8 mCh_tell [.ref a0, .int a1] κ (oI Q X) := by
  refine Ch_tell_run W Ta0 ?_
  replace W := W.lo (Nat.le_trans W.1.2.1 W.1.2.2) (Nat.le_refl (zn κ))
  unfold w_Ch_tell_0
  have E := hp.2.2.2.2.2.1
  have e200 : (200 : Int32).toInt = 200 := rfl
  refine ⟨fun c1 => ?_, fun c1 => ?_⟩
  · skip
    refine ⟨?_, ?_⟩
    · rw [lti, e200] at c1
      rw [inb_iff, E.1.1]
      have y := E.1.2
      omega
    intro κ_2 hκ_2
    intro W3
    intro κ_4 hκ_4
    intro W5
    refine h _ _ ?_
    · have o := W.o (show zr chTold = some 20 by decide +kernel) (by decide) (Ta0.trans (by decide))
      have Z : zF (fun f b => b = a0 ∧ (f = chTold ∨ f = chTolds)) κ κ_4 := zF.tr (κ1 := κ_2) (by
        rw [hκ_2]
        exact zF_ua (by rw [o]; exact ⟨rfl, Or.inl rfl⟩)) (by
        rw [hκ_4]
        exact zF_ui ⟨rfl, Or.inr rfl⟩)
      have R4 : zR κ_4 = zR κ := by rw [hκ_4, hκ_2]; rfl
      have N4 : zN κ_4 = zN κ := by rw [hκ_4, hκ_2]; rfl
      have i2 : zI κ_2 chTolds a0 = zI κ chTolds a0 := by rw [hκ_2]; rfl
      have i4 : zI κ_4 chTolds a0 = zI κ chTolds a0 + 1 := by
        rw [← i2, hκ_4]
        exact if_pos ⟨rfl, rfl⟩
      have c1' := c1
      rw [lti, e200] at c1'
      have y := E.1.2
      have ix := cn1 (x := zI κ chTolds a0) y.1 (by omega)
      refine ⟨chI_o9 W Ta0 Z (fun f x z => z.1) (fun f _ _ _ => by rw [R4]) ?_ hp, ⟨_, Z⟩, ⟨⟨oC_u9 W Ta0 Z (fun z => z.2.elim (fun y => absurd y (by decide)) (fun y => absurd y (by decide))) (fun z => z.2.elim (fun y => absurd y (by decide)) (fun y => absurd y (by decide))) (fun z => z.2.elim (fun y => absurd y (by decide)) (fun y => absurd y (by decide))) (fun z => z.2.elim (fun y => absurd y (by decide)) (fun y => absurd y (by decide))), kC_z7 W Ta0 Z (fun z => z.2.elim (fun y => absurd y (by decide)) (fun y => absurd y (by decide))) (fun z => z.2.elim (fun y => absurd y (by decide)) (fun y => absurd y (by decide))) (fun f hf z => z.2.elim (fun y => absurd hf (by rw [y]; decide)) (fun y => absurd hf (by rw [y]; decide)))⟩, kA_z8 W Ta0 Z (fun z => z.2.elim (fun y => absurd y (by decide)) (fun y => absurd y (by decide))) (fun f hf _ z => z.2.elim (fun y => absurd hf (by rw [y]; decide)) (fun y => absurd hf (by rw [y]; decide))) (fun f hf z => z.2.elim (fun y => absurd hf (by rw [y]; decide)) (fun y => absurd hf (by rw [y]; decide))) (fun f hf z => z.2.elim (fun y => absurd hf (by rw [y]; decide)) (fun y => absurd hf (by rw [y]; decide)))⟩⟩
      unfold chE9 dwI9
      rw [R4, N4, i4, ix.2]
      exact ⟨⟨E.1.1, by omega, by omega⟩, E.2⟩
  · skip
    intro κ_6 hκ_6
    refine hx _ _ ?_
    · exact ⟨rfl, hκ_6⟩  -- x3

theorem Ch_forget_c {C : zC} {n0 : Nat} {a0 : Nat} {κ : zS} {Q : Int32 → zS → Prop} (W : zW C n0 κ) (Ta0 : zT κ a0 = 15) (ρ : Nat → Nat) (L9 : Int) (hp : chI9 ρ κ a0 L9) (h : ∀ (v : Int32) (κ' : zS), (chI9 ρ κ' a0 L9 ∧ (∃ F, zF F κ κ') ∧ pC8 κ κ' a0) → Q v κ') : zRun C 0 mCh_forget [.ref a0] κ (oI Q noX) := by
  refine Ch_forget_run W Ta0 ?_
  replace W := W.lo (Nat.le_trans W.1.2.1 W.1.2.2) (Nat.le_refl (zn κ))
  unfold w_Ch_forget_0
  intro x1 hx1
  intro κ_2 hκ_2
  intro W3
  refine h _ _ ?_
  · have E := hp.2.2.2.2.2.1
    have Z : zF (fun f b => b = a0 ∧ f = chTolds) κ κ_2 := by rw [hκ_2]; exact zF_ui ⟨rfl, rfl⟩
    have R4 : zR κ_2 = zR κ := by rw [hκ_2]; rfl
    have N4 : zN κ_2 = zN κ := by rw [hκ_2]; rfl
    have i4 : zI κ_2 chTolds a0 = 0 := by rw [hκ_2]; exact if_pos ⟨rfl, rfl⟩
    refine ⟨chI_o9 W Ta0 Z (fun f x z => z.1) (fun f _ _ _ => by rw [R4]) ?_ hp, ⟨_, Z⟩, ⟨⟨oC_u9 W Ta0 Z (fun z => absurd z.2 (by decide)) (fun z => absurd z.2 (by decide)) (fun z => absurd z.2 (by decide)) (fun z => absurd z.2 (by decide)), kC_z7 W Ta0 Z (fun z => absurd z.2 (by decide)) (fun z => absurd z.2 (by decide)) (fun f hf z => absurd hf (by rw [z.2]; decide))⟩, kA_z8 W Ta0 Z (fun z => absurd z.2 (by decide)) (fun f hf _ z => absurd hf (by rw [z.2]; decide)) (fun f hf z => absurd hf (by rw [z.2]; decide)) (fun f hf z => absurd hf (by rw [z.2]; decide))⟩⟩
    unfold chE9 dwI9
    rw [R4, N4, i4]
    exact ⟨⟨E.1.1, by decide, by decide⟩, E.2⟩

/-- a play keeps all -/
theorem pf_q9 {C : zC} {n0 a : Nat} {L : Int} {ρ : Nat → Nat} {κ τ : zS} (W : zW C n0 κ) (T : zT κ a = 15) (I : chI9 ρ κ a L) (q : zF (pfF9 (zR κ chMachine a) a) κ τ ∧ (∀ f, f ≠ chDrawnWeights → f ≠ chDrawnTotals → zR τ f a = zR κ f a) ∧ mkI τ (zR κ chMachine a) ∧ dwI9 τ a) : chI9 ρ τ a L ∧ (∃ F, zF F κ τ) ∧ pC8 κ τ a := by
  obtain ⟨Z, R, K, D⟩ := q
  have tt := ty_chTape W T
  have tm := ty_chMachine W T
  have am := ch_m9 W T
  have hT : ∀ f x, pfF9 (zR κ chMachine a) a f x → zT κ x = 7 ∨ zT κ x = 15 := fun f x z => by
    rcases z with z | z
    · left; rw [z]; exact tm
    · right; rw [z.1]; exact T
  have it : zI τ chTolds a = zI κ chTolds a := Z.i (fun z => by
    rcases z with z | ⟨_, z | z | z | z | z⟩
    · exact am.1 z
    all_goals exact absurd z (by decide))
  have A := ta_u9 Z W tt (fun f _ z => by rcases hT f _ z with y | y <;> rw [tt] at y <;> exact absurd y (by decide)) I.1.1
  have E := I.2.2.2.2.2.1
  refine ⟨chI_s9 W T Z (fun f x z => (hT f x z).elim Or.inl (fun y => Or.inr (Or.inr y))) (fun f _ h2 h3 => R f h2 h3) A.1 K.1 ?_ (by rw [A.2]; exact I.2.2.2.2.2.2.1) I, ⟨_, Z⟩, ⟨⟨oC_u9 W T Z (fun z => by
    rcases z with z | ⟨_, z | z | z | z | z⟩
    · exact am.1 z
    all_goals exact absurd z (by decide)) (fun z => by
    rcases z with z | ⟨_, z | z | z | z | z⟩
    · exact am.1 z
    all_goals exact absurd z (by decide)) (fun z => by rcases hT _ _ z with y | y <;> rw [tt] at y <;> exact absurd y (by decide)) (fun z => by rcases hT _ _ z with y | y <;> rw [tt] at y <;> exact absurd y (by decide)), kC_z7 W T Z (fun z => by
    rcases z with z | ⟨_, z | z | z | z | z⟩
    · exact am.1 z
    all_goals exact absurd z (by decide)) (fun z => by
    rcases z with z | ⟨_, z | z | z | z | z⟩
    · exact am.1 z
    all_goals exact absurd z (by decide)) (fun f _ z => by have tc := ty_chCode W T; rcases hT _ _ z with y | y <;> rw [tc] at y <;> exact absurd y (by decide))⟩, kA_z8 W T Z (fun z => by
    rcases z with z | ⟨_, z | z | z | z | z⟩
    · exact am.1 z
    all_goals exact absurd z (by decide)) (fun f _ _ z => by have tc := ty_chAtlas W T; rcases hT _ _ z with y | y <;> rw [tc] at y <;> exact absurd y (by decide)) (fun f _ z => by have tc := ty_atStates W (ty_chAtlas W T); rcases hT _ _ z with y | y <;> rw [tc] at y <;> exact absurd y (by decide)) (fun f _ z => by have tc := ty_atEndings W (ty_chAtlas W T); rcases hT _ _ z with y | y <;> rw [tc] at y <;> exact absurd y (by decide))⟩⟩
  refine ⟨?_, ?_, D⟩
  · rw [R chTold (by decide) (by decide), it, Z.l (ty_chTold W T)]
    exact E.1
  · rw [R chRecord (by decide) (by decide), R chLastShared (by decide) (by decide), Z.l (ty_chRecord W T), Z.l (ty_chLastShared W T)]
    exact E.2.1
theorem pf_p9 {a : Nat} {L : Int} {ρ : Nat → Nat} {κ : zS} {x : Int32} (I : chI9 ρ κ a L) (hx : x.toInt ≤ 2000) : maL κ (zR κ chMachine a) ∧ coI κ (zR κ chCode a) ∧ dwI9 κ a ∧ ((zN κ (zR κ chRecord a)) = 5 ∧ (zN κ (zR κ chLastShared a)) = 34 ∧ (zN κ (zR κ chTold a)) = 200 ∧ (zI κ chTolds a).toInt ≤ 200) ∧ atH κ (zR κ chAtlas a) ∧ (zI κ atExplored (zR κ chAtlas a) ≠ 0 → atM κ (zR κ chAtlas a)) ∧ x.toInt ≤ 2000 := by
  have ma := I.2.1.1.2.1
  rw [I.2.1.2.1] at ma
  have E := I.2.2.2.2.2.1
  refine ⟨ma, I.1.2.1.1.1, E.2.2, ⟨E.2.1.1, E.2.1.2, E.1.1, E.1.2.2⟩, I.2.1.1.1.2.2.1, fun z => ?_, hx⟩
  obtain ⟨n, hn⟩ := I.2.1.1.2.2.2.2 z
  exact hn.1
theorem Ch_play_c {C : zC} {n0 : Nat} {a0 : Nat} {a1 : Int64} {a3 : Int32} {κ : zS} {Q : Int32 → zS → Prop} {X : zXp} (W : zW C n0 κ) (Ta0 : zT κ a0 = 15) (ρ : Nat → Nat) (L9 : Int) (hp : chI9 ρ κ a0 L9) (h : ∀ (v : Int32) (κ' : zS), (chI9 ρ κ' a0 L9 ∧ (∃ F, zF F κ κ') ∧ pC8 κ κ' a0) → Q v κ') (hx : ∀ (cls : String) (κ' : zS), ((cls = "java/lang/IllegalStateException" ∨ cls = "java/lang/IllegalArgumentException") ∧ κ' = ut κ) → X cls κ') : zRun C 8 mCh_play [.ref a0, .long a1, .int a3] κ (oI Q X) := by
  refine Ch_play_run W Ta0 ?_
  replace W := W.lo (Nat.le_trans W.1.2.1 W.1.2.2) (Nat.le_refl (zn κ))
  unfold w_Ch_play_0
  refine ⟨fun c1 => ?_, fun c1 => ?_⟩
  · skip
    refine ⟨fun c2 => ?_, fun c2 => ?_⟩
    · skip
      intro κ_3 hκ_3
      refine hx _ _ ?_
      · exact ⟨Or.inr rfl, hκ_3⟩  -- x1
    · skip
      refine ⟨fun c4 => ?_, fun c4 => ?_⟩
      · skip
        intro T5
        refine Ch_perform_c W T5  ?_ (fun r6 κ_7 q8 => ?_)
        · have e : (2000 : Int32).toInt = 2000 := rfl
          rw [lei, e] at c4
          exact pf_p9 hp c4
        intro W9
        intro M10
        refine h _ _ ?_
        · exact pf_q9 W Ta0 hp q8  -- q3
      · skip
        intro κ_11 hκ_11
        refine hx _ _ ?_
        · exact ⟨Or.inr rfl, hκ_11⟩  -- x4
  · skip
    intro κ_12 hκ_12
    refine hx _ _ ?_
    · exact ⟨Or.inl rfl, hκ_12⟩  -- x5

theorem Ch_walk_c {C : zC} {n0 : Nat} {a0 : Nat} {a1 : Int32} {κ : zS} {Q : Int32 → zS → Prop} {X : zXp} (W : zW C n0 κ) (Ta0 : zT κ a0 = 15) (ρ : Nat → Nat) (L9 : Int) (hp : chI9 ρ κ a0 L9) (h : ∀ (v : Int32) (κ' : zS), (chI9 ρ κ' a0 L9 ∧ (∃ F, zF F κ κ') ∧ pC8 κ κ' a0) → Q v κ') (hx : ∀ (cls : String) (κ' : zS), ((cls = "java/lang/IllegalStateException" ∨ cls = "java/lang/IllegalArgumentException") ∧ κ' = ut κ) → X cls κ') : zRun C 8 mCh_walk [.ref a0, .int a1] κ (oI Q X) := by
  refine Ch_walk_run W Ta0 ?_
  replace W := W.lo (Nat.le_trans W.1.2.1 W.1.2.2) (Nat.le_refl (zn κ))
  unfold w_Ch_walk_0
  refine ⟨fun c1 => ?_, fun c1 => ?_⟩
  · skip
    refine ⟨fun c2 => ?_, fun c2 => ?_⟩
    · skip
      intro κ_3 hκ_3
      refine hx _ _ ?_
      · exact ⟨Or.inr rfl, hκ_3⟩  -- x1
    · skip
      refine ⟨fun c4 => ?_, fun c4 => ?_⟩
      · skip
        intro T5
        refine Ch_perform_c W T5  ?_ (fun r6 κ_7 q8 => ?_)
        · have e : (2000 : Int32).toInt = 2000 := rfl
          rw [lei, e] at c4
          exact pf_p9 hp c4
        intro W9
        intro M10
        refine h _ _ ?_
        · exact pf_q9 W Ta0 hp q8  -- q3
      · skip
        intro κ_11 hκ_11
        refine hx _ _ ?_
        · exact ⟨Or.inr rfl, hκ_11⟩  -- x4
  · skip
    intro κ_12 hκ_12
    refine hx _ _ ?_
    · exact ⟨Or.inl rfl, hκ_12⟩  -- x5

end
section
set_option maxHeartbeats 1600000
/-! the class: ChanceWorks' calls that change nothing -/
theorem ch_x9 {a : Nat} {L : Int} {ρ : Nat → Nat} {κ : zS} (I : chI9 ρ κ a L) (ex : zI κ atExplored (zR κ chAtlas a) ≠ 0) : (∃ n, atW κ (zR κ chAtlas a) n) ∧ atG κ (zR κ chAtlas a) := by
  refine ⟨I.2.1.1.2.2.2.2 ex, I.2.1.1.1.2.2.1, ?_⟩
  rw [(I.2.1.2.2 ex).1.1]
  exact I.1.2.1.1.1
/-- a state that is held -/
theorem ch_h9 {a : Nat} {L : Int} {ρ : Nat → Nat} {κ : zS} {r x : Int32} (I : chI9 ρ κ a L) (q : nb r ∧ (r ≠ 0 → zI κ atExplored (zR κ chAtlas a) ≠ 0 ∧ 0 ≤ x.toInt ∧ x.toInt < (zI κ hoTotal (zR κ atStates (zR κ chAtlas a))).toInt)) (hr : ¬ r = 0) : atG κ (zR κ chAtlas a) ∧ atM κ (zR κ chAtlas a) ∧ (0 ≤ x.toInt ∧ x.toInt < 1000) ∧ atL κ (zR κ chAtlas a) ∧ ((zI κ atNexts (zR κ chAtlas a)).toInt ≤ (zN κ (zR κ atNumbers (zR κ chAtlas a))) ∧ exK κ (zR κ chAtlas a) x.toNatClampNeg) := by
  obtain ⟨ex, x0, x1⟩ := q.2 hr
  obtain ⟨⟨n, A1, A2, A3, A4, A5, A6⟩, G⟩ := ch_x9 I ex
  have k := cnk x0
  exact ⟨G, A1, ⟨x0, by omega⟩, A2, A5, A6 _ (by omega)⟩
theorem ch_n9 {a : Nat} {L : Int} {ρ : Nat → Nat} {κ : zS} (I : chI9 ρ κ a L) : raJ κ (zR κ chShown a) 6500 := by
  have N := I.2.2.1.1.1.1
  have h30 := I.2.2.1.2.2.2
  have q := N.2 _ (show raR (ρ (zR κ chShown a)) by rw [h30]; exact Or.inr (Or.inl rfl))
  rw [h30] at q
  have t := nm_g N q.2.1 (show nmR (30 + 1) from Or.inr (Or.inr (Or.inr (Or.inl rfl)))) (by decide)
  have b := nm_g N q.2.2 (show nmR (30 + 2) from Or.inr (Or.inr (Or.inr (Or.inr (Or.inl rfl))))) (by decide)
  exact ⟨t.1, b.1, ro_n q.2.1 q.2.2 (by decide)⟩
theorem Ch_fault_c {C : zC} {n0 : Nat} {a0 : Nat} {κ : zS} {Q : Int32 → zS → Prop} (W : zW C n0 κ) (Ta0 : zT κ a0 = 15)  (h : ∀ (v : Int32) (κ' : zS), (κ = κ') → Q v κ') : zRun C 0 mCh_fault [.ref a0] κ (oI Q noX) := by
  refine Ch_fault_run W Ta0 ?_
  replace W := W.lo (Nat.le_trans W.1.2.1 W.1.2.2) (Nat.le_refl (zn κ))
  unfold w_Ch_fault_0
  refine h _ _ ?_
  · exact rfl  -- q1

theorem Ch_count_c {C : zC} {n0 : Nat} {a0 : Nat} {a1 : Int32} {κ : zS} {Q : Int32 → zS → Prop} {X : zXp} (W : zW C n0 κ) (Ta0 : zT κ a0 = 15)  (h : ∀ (v : Int32) (κ' : zS), (κ = κ') → Q v κ') (hx : ∀ (cls : String) (κ' : zS), (cls = "java/lang/IndexOutOfBoundsException" ∧ κ' = ut κ) → X cls κ') : zRun C 8 mCh_count [.ref a0, .int a1] κ (oI Q X) := by
  refine Ch_count_run W Ta0 ?_
  replace W := W.lo (Nat.le_trans W.1.2.1 W.1.2.2) (Nat.le_refl (zn κ))
  unfold w_Ch_count_0
  refine ⟨fun c1 => ?_, fun c1 => ?_⟩
  · skip
    intro κ_2 hκ_2
    refine hx _ _ ?_
    · exact ⟨rfl, hκ_2⟩  -- x1
  · skip
    refine ⟨fun c3 => ?_, fun c3 => ?_⟩
    · skip
      refine ⟨fun c4 => ?_, fun c4 => ?_⟩
      · skip
        refine ⟨fun c5 => ?_, fun c5 => ?_⟩
        · skip
          refine ⟨fun c6 => ?_, fun c6 => ?_⟩
          · skip
            refine h _ _ ?_
            · exact rfl  -- q2
          · skip
            intro T7
            refine At_howMany_c W T7  (fun r8 q10 => ?_)
            intro W11
            intro M12
            refine h _ _ ?_
            · exact rfl  -- q3
        · skip
          refine ⟨fun c13 => ?_, fun c13 => ?_⟩
          · skip
            refine h _ _ ?_
            · exact rfl  -- q4
          · skip
            intro T14
            refine Co_howMany_c W T14  (fun r15 q17 => ?_)
            intro W18
            intro M19
            refine h _ _ ?_
            · exact rfl  -- q5
      · skip
        refine h _ _ ?_
        · exact rfl  -- q6
    · skip
      intro κ_20 hκ_20
      refine hx _ _ ?_
      · exact ⟨rfl, hκ_20⟩  -- x7

theorem Ch_state_c {C : zC} {n0 : Nat} {a0 : Nat} {a1 : Int32} {a2 : Int32} {κ : zS} {Q : Int32 → zS → Prop} {X : zXp} (W : zW C n0 κ) (Ta0 : zT κ a0 = 15) (ρ : Nat → Nat) (L9 : Int) (hp : chI9 ρ κ a0 L9) (h : ∀ (v : Int32) (κ' : zS), (κ = κ') → Q v κ') (hx : ∀ (cls : String) (κ' : zS), (cls = "java/lang/IndexOutOfBoundsException" ∧ κ' = ut κ) → X cls κ') : zRun C 8 mCh_state [.ref a0, .int a1, .int a2] κ (oI Q X) := by
  refine Ch_state_run W Ta0 ?_
  replace W := W.lo (Nat.le_trans W.1.2.1 W.1.2.2) (Nat.le_refl (zn κ))
  unfold w_Ch_state_0
  intro T1
  refine At_holds_c W T1  (fun r2 q4 => ?_)
  intro W5
  intro M6
  refine ⟨fun c7 => ?_, fun c7 => ?_⟩
  · skip
    intro κ_8 hκ_8
    refine hx _ _ ?_
    · exact ⟨rfl, hκ_8⟩  -- x1
  · skip
    refine ⟨fun c9 => ?_, fun c9 => ?_⟩
    · skip
      intro κ_10 hκ_10
      refine hx _ _ ?_
      · exact ⟨rfl, hκ_10⟩  -- x2
    · skip
      refine ⟨fun c11 => ?_, fun c11 => ?_⟩
      · skip
        refine ⟨fun c12 => ?_, fun c12 => ?_, fun c12 => ?_, fun c12 => ?_, fun c12 => ?_, fun c12 => ?_⟩
        · skip
          refine ⟨?_, ?_⟩
          · have H := ch_h9 hp q4 c7
            rw [inb_iff, H.2.1.2.1]
            have y := H.2.2.1
            omega
          refine h _ _ ?_
          · exact rfl  -- q4
        · skip
          intro T13
          refine At_callsOf_c W5 T13  ?_ (fun r14 q16 => ?_)
          · exact (ch_h9 hp q4 c7).1  -- p5
          intro W17
          intro M18
          intro T19
          refine At_statementOf_c W17 T19  ?_ (fun r20 q22 => ?_)
          · exact (ch_h9 hp q4 c7).1  -- p6
          intro W23
          intro M24
          refine h _ _ ?_
          · exact rfl  -- q7
        · skip
          intro T25
          refine At_callsOf_c W5 T25  ?_ (fun r26 q28 => ?_)
          · exact (ch_h9 hp q4 c7).1  -- p8
          intro W29
          intro M30
          refine h _ _ ?_
          · exact rfl  -- q9
        · skip
          intro T31
          refine At_waysOf_c W5 T31  ?_ (fun r32 q34 => ?_)
          · have H := ch_h9 hp q4 c7
            exact ⟨H.2.1.1, H.2.2.1⟩
          intro W35
          intro M36
          refine h _ _ ?_
          · exact rfl  -- q11
        · skip
          refine ⟨?_, ?_⟩
          · have H := ch_h9 hp q4 c7
            rw [inb_iff, H.2.1.2.2.2.2.1]
            have y := H.2.2.1
            omega
          refine ⟨fun c37 => ?_, fun c37 => ?_⟩
          · skip
            refine h _ _ ?_
            · exact rfl  -- q13
          · skip
            refine h _ _ ?_
            · exact rfl  -- q14
        · skip
          refine ⟨?_, ?_⟩
          · have H := ch_h9 hp q4 c7
            rw [inb_iff, H.2.1.2.2.2.2.2]
            have y := H.2.2.1
            omega
          refine ⟨fun c38 => ?_, fun c38 => ?_⟩
          · skip
            refine h _ _ ?_
            · exact rfl  -- q16
          · skip
            refine h _ _ ?_
            · exact rfl  -- q17
      · skip
        intro κ_39 hκ_39
        refine hx _ _ ?_
        · exact ⟨rfl, hκ_39⟩  -- x18

theorem Ch_value_c {C : zC} {n0 : Nat} {a0 : Nat} {a1 : Int32} {a2 : Int32} {a3 : Int32} {κ : zS} {Q : Int32 → zS → Prop} {X : zXp} (W : zW C n0 κ) (Ta0 : zT κ a0 = 15) (ρ : Nat → Nat) (L9 : Int) (hp : chI9 ρ κ a0 L9) (h : ∀ (v : Int32) (κ' : zS), (κ = κ') → Q v κ') (hx : ∀ (cls : String) (κ' : zS), (cls = "java/lang/IndexOutOfBoundsException" ∧ κ' = ut κ) → X cls κ') : zRun C 8 mCh_value [.ref a0, .int a1, .int a2, .int a3] κ (oI Q X) := by
  refine Ch_value_run W Ta0 ?_
  replace W := W.lo (Nat.le_trans W.1.2.1 W.1.2.2) (Nat.le_refl (zn κ))
  unfold w_Ch_value_0
  intro T1
  refine At_holds_c W T1  (fun r2 q4 => ?_)
  intro W5
  intro M6
  refine ⟨fun c7 => ?_, fun c7 => ?_⟩
  · skip
    intro κ_8 hκ_8
    refine hx _ _ ?_
    · exact ⟨rfl, hκ_8⟩  -- x1
  · skip
    intro T9
    refine At_hasVariable_c W5 T9  ?_ (fun r10 q12 => ?_)
    · exact (ch_h9 hp q4 c7).1  -- p2
    intro W13
    intro M14
    refine ⟨fun c15 => ?_, fun c15 => ?_⟩
    · skip
      intro T16
      refine At_variableOf_c W13 T16  ?_ (fun r17 q19 => ?_)
      · exact (ch_h9 hp q4 c7).1  -- p3
      intro W20
      intro M21
      refine h _ _ ?_
      · exact rfl  -- q4
    · skip
      intro κ_22 hκ_22
      refine hx _ _ ?_
      · exact ⟨rfl, hκ_22⟩  -- x5

theorem Ch_next_c {C : zC} {n0 : Nat} {a0 : Nat} {a1 : Int32} {a2 : Int32} {a3 : Int32} {κ : zS} {Q : Int32 → zS → Prop} {X : zXp} (W : zW C n0 κ) (Ta0 : zT κ a0 = 15) (ρ : Nat → Nat) (L9 : Int) (hp : chI9 ρ κ a0 L9) (h : ∀ (v : Int32) (κ' : zS), (κ = κ') → Q v κ') (hx : ∀ (cls : String) (κ' : zS), (cls = "java/lang/IndexOutOfBoundsException" ∧ κ' = ut κ) → X cls κ') : zRun C 8 mCh_next [.ref a0, .int a1, .int a2, .int a3] κ (oI Q X) := by
  refine Ch_next_run W Ta0 ?_
  replace W := W.lo (Nat.le_trans W.1.2.1 W.1.2.2) (Nat.le_refl (zn κ))
  unfold w_Ch_next_0
  intro T1
  refine At_holds_c W T1  (fun r2 q4 => ?_)
  intro W5
  intro M6
  refine ⟨fun c7 => ?_, fun c7 => ?_⟩
  · skip
    intro κ_8 hκ_8
    refine hx _ _ ?_
    · exact ⟨rfl, hκ_8⟩  -- x1
  · skip
    refine ⟨fun c9 => ?_, fun c9 => ?_⟩
    · skip
      intro κ_10 hκ_10
      refine hx _ _ ?_
      · exact ⟨rfl, hκ_10⟩  -- x2
    · skip
      intro T11
      refine At_waysOf_c W5 T11  ?_ (fun r12 q14 => ?_)
      · have H := ch_h9 hp q4 c7
        exact ⟨H.2.1.1, H.2.2.1⟩
      intro W15
      intro M16
      refine ⟨fun c17 => ?_, fun c17 => ?_⟩
      · skip
        intro κ_18 hκ_18
        refine hx _ _ ?_
        · exact ⟨rfl, hκ_18⟩  -- x4
      · skip
        refine ⟨fun c19 => ?_, fun c19 => ?_⟩
        · skip
          intro κ_20 hκ_20
          refine hx _ _ ?_
          · exact ⟨rfl, hκ_20⟩  -- x5
        · skip
          refine ⟨fun c21 => ?_, fun c21 => ?_⟩
          · skip
            refine ⟨?_, ?_⟩
            · have H := ch_h9 hp q4 c7
              rw [inb_iff, H.2.1.1]
              have y := H.2.2.1
              omega
            intro x22 hx22
            have H := ch_h9 hp q4 c7
            have K := H.2.2.2.2.2.1
            have lw := H.2.2.2.1
            have l20 := lw.2
            have nx := H.2.2.2.2.1
            have xb : 0 ≤ x22.toInt ∧ x22.toInt < (zN κ (zR κ atNumbers (zR κ chAtlas a0))) := by
              rw [lti, t0i] at c9
              rw [lei, q14, sub_i (by omega) (by omega)] at c17
              rw [hx22, add_i (by omega) (by omega)]
              omega
            refine ⟨fun c23 => ?_, fun c23 => ?_⟩
            · skip
              refine ⟨fun c24 => ?_, fun c24 => ?_⟩
              · skip
                refine ⟨?_, ?_⟩
                · rw [inb_iff, lw.1.2]; exact xb  -- b7
                refine h _ _ ?_
                · exact rfl  -- q8
              · skip
                refine ⟨?_, ?_⟩
                · rw [inb_iff]; exact xb  -- b9
                refine h _ _ ?_
                · exact rfl  -- q10
            · skip
              refine ⟨?_, ?_⟩
              · rw [inb_iff, lw.1.1]; exact xb  -- b11
              refine h _ _ ?_
              · exact rfl  -- q12
          · skip
            intro κ_25 hκ_25
            refine hx _ _ ?_
            · exact ⟨rfl, hκ_25⟩  -- x13

theorem Ch_ending_c {C : zC} {n0 : Nat} {a0 : Nat} {a1 : Int32} {a2 : Int32} {κ : zS} {Q : Int32 → zS → Prop} {X : zXp} (W : zW C n0 κ) (Ta0 : zT κ a0 = 15) (ρ : Nat → Nat) (L9 : Int) (hp : chI9 ρ κ a0 L9) (h : ∀ (v : Int32) (κ' : zS), (κ = κ') → Q v κ') (hx : ∀ (cls : String) (κ' : zS), (cls = "java/lang/IndexOutOfBoundsException" ∧ κ' = ut κ) → X cls κ') : zRun C 8 mCh_ending [.ref a0, .int a1, .int a2] κ (oI Q X) := by
  refine Ch_ending_run W Ta0 ?_
  replace W := W.lo (Nat.le_trans W.1.2.1 W.1.2.2) (Nat.le_refl (zn κ))
  unfold w_Ch_ending_0
  intro T1
  refine At_holdsEnding_c W T1  (fun r2 q4 => ?_)
  intro W5
  intro M6
  refine ⟨fun c7 => ?_, fun c7 => ?_⟩
  · skip
    intro κ_8 hκ_8
    refine hx _ _ ?_
    · exact ⟨rfl, hκ_8⟩  -- x1
  · skip
    refine ⟨fun c9 => ?_, fun c9 => ?_⟩
    · skip
      intro κ_10 hκ_10
      refine hx _ _ ?_
      · exact ⟨rfl, hκ_10⟩  -- x2
    · skip
      intro T11
      refine Co_shared_c W5 T11  ?_ (fun r12 q14 => ?_)
      · exact hp.1.2.1.1.1  -- p3
      intro W15
      intro M16
      refine ⟨fun c17 => ?_, fun c17 => ?_⟩
      · skip
        refine ⟨fun c18 => ?_, fun c18 => ?_⟩
        · skip
          intro T19
          refine Ho_part_c W15 T19 1000 35 2048 ?_ (fun r20 q22 => ?_)
          · exact ⟨hp.2.1.1.1.2.2.1.2, Or.inr (Or.inl ⟨rfl, rfl, rfl⟩)⟩  -- p4
          intro W23
          intro M24
          refine h _ _ ?_
          · exact rfl  -- q5
        · skip
          intro T25
          refine Co_shared_c W15 T25  ?_ (fun r26 q28 => ?_)
          · exact hp.1.2.1.1.1  -- p6
          intro W29
          intro M30
          intro T31
          refine Ho_part_c W29 T31 1000 35 2048 ?_ (fun r32 q34 => ?_)
          · exact ⟨hp.2.1.1.1.2.2.1.2, Or.inr (Or.inl ⟨rfl, rfl, rfl⟩)⟩  -- p7
          intro W35
          intro M36
          refine h _ _ ?_
          · exact rfl  -- q8
      · skip
        intro κ_37 hκ_37
        refine hx _ _ ?_
        · exact ⟨rfl, hκ_37⟩  -- x9

theorem Ch_decided_c {C : zC} {n0 : Nat} {a0 : Nat} {a1 : Int32} {κ : zS} {Q : Int32 → zS → Prop} {X : zXp} (W : zW C n0 κ) (Ta0 : zT κ a0 = 15) (ρ : Nat → Nat) (L9 : Int) (hp : chI9 ρ κ a0 L9) (h : ∀ (v : Int32) (κ' : zS), (κ = κ') → Q v κ') (hx : ∀ (cls : String) (κ' : zS), (cls = "java/lang/IndexOutOfBoundsException" ∧ κ' = ut κ) → X cls κ') : zRun C 8 mCh_decided [.ref a0, .int a1] κ (oI Q X) := by
  refine Ch_decided_run W Ta0 ?_
  replace W := W.lo (Nat.le_trans W.1.2.1 W.1.2.2) (Nat.le_refl (zn κ))
  unfold w_Ch_decided_0
  intro T1
  refine At_holds_c W T1  (fun r2 q4 => ?_)
  intro W5
  intro M6
  refine ⟨fun c7 => ?_, fun c7 => ?_⟩
  · skip
    intro κ_8 hκ_8
    refine hx _ _ ?_
    · exact ⟨rfl, hκ_8⟩  -- x1
  · skip
    refine ⟨?_, ?_⟩
    · have H := ch_h9 hp q4 c7
      rw [inb_iff, H.2.1.2.2.2.2.1]
      have y := H.2.2.1
      omega
    refine ⟨fun c9 => ?_, fun c9 => ?_⟩
    · skip
      refine ⟨?_, ?_⟩
      · have H := ch_h9 hp q4 c7
        rw [inb_iff, H.2.1.2.2.2.1]
        have y := H.2.2.1
        omega
      refine h _ _ ?_
      · exact rfl  -- q4
    · skip
      intro κ_10 hκ_10
      refine hx _ _ ?_
      · exact ⟨rfl, hκ_10⟩  -- x5

theorem Ch_size_c {C : zC} {n0 : Nat} {a0 : Nat} {a1 : Int32} {κ : zS} {Q : Int32 → zS → Prop} {X : zXp} (W : zW C n0 κ) (Ta0 : zT κ a0 = 15) (ρ : Nat → Nat) (L9 : Int) (hp : chI9 ρ κ a0 L9) (h : ∀ (v : Int32) (κ' : zS), (κ = κ') → Q v κ') (hx : ∀ (cls : String) (κ' : zS), (cls = "java/lang/IndexOutOfBoundsException" ∧ κ' = ut κ) → X cls κ') : zRun C 8 mCh_size [.ref a0, .int a1] κ (oI Q X) := by
  refine Ch_size_run W Ta0 ?_
  replace W := W.lo (Nat.le_trans W.1.2.1 W.1.2.2) (Nat.le_refl (zn κ))
  unfold w_Ch_size_0
  refine ⟨fun c1 => ?_, fun c1 => ?_⟩
  · skip
    intro κ_2 hκ_2
    refine hx _ _ ?_
    · exact ⟨rfl, hκ_2⟩  -- x1
  · skip
    refine ⟨fun c3 => ?_, fun c3 => ?_⟩
    · skip
      refine ⟨fun c4 => ?_, fun c4 => ?_⟩
      · skip
        intro T5
        refine Nu_words_c W T5 6500 ?_ (fun r6 q8 => ?_)
        · exact ⟨(ch_n9 hp).2.1, by decide⟩  -- p2
        intro W9
        intro M10
        refine h _ _ ?_
        · exact rfl  -- q3
      · skip
        intro T11
        refine Nu_words_c W T11 6500 ?_ (fun r12 q14 => ?_)
        · exact ⟨(ch_n9 hp).1, by decide⟩  -- p4
        intro W15
        intro M16
        refine h _ _ ?_
        · exact rfl  -- q5
    · skip
      intro κ_17 hκ_17
      refine hx _ _ ?_
      · exact ⟨rfl, hκ_17⟩  -- x6

theorem Ch_limb_c {C : zC} {n0 : Nat} {a0 : Nat} {a1 : Int32} {a2 : Int32} {κ : zS} {Q : Int32 → zS → Prop} {X : zXp} (W : zW C n0 κ) (Ta0 : zT κ a0 = 15) (ρ : Nat → Nat) (L9 : Int) (hp : chI9 ρ κ a0 L9) (h : ∀ (v : Int32) (κ' : zS), (κ = κ') → Q v κ') (hx : ∀ (cls : String) (κ' : zS), (cls = "java/lang/IndexOutOfBoundsException" ∧ κ' = ut κ) → X cls κ') : zRun C 8 mCh_limb [.ref a0, .int a1, .int a2] κ (oI Q X) := by
  refine Ch_limb_run W Ta0 ?_
  replace W := W.lo (Nat.le_trans W.1.2.1 W.1.2.2) (Nat.le_refl (zn κ))
  unfold w_Ch_limb_0
  have hj41 : ∀ (l0 : Nat) (l2 : Int32) (s0 : Nat) (τ : zS), zW C (zn κ) τ → zT τ l0 = 15 → zT τ s0 = 8 → (κ = τ ∧ a0 = l0 ∧ a2 = l2 ∧ nuI κ s0 6500) → w_Ch_limb_41 C (zn κ) Q X  l0 l2 s0 τ := by
    rintro _ _ y41_s0 _ W41 T41_0 T41_1 ⟨rfl, rfl, rfl, j41⟩
    unfold w_Ch_limb_41
    refine ⟨fun c1 => ?_, fun c1 => ?_⟩
    · skip
      intro κ_2 hκ_2
      refine hx _ _ ?_
      · exact ⟨rfl, hκ_2⟩  -- x1
    · skip
      intro T3
      refine Nu_words_c W41 T3 6500 ?_ (fun r4 q6 => ?_)
      · exact ⟨j41, by decide⟩  -- p2
      intro W7
      intro M8
      refine ⟨fun c9 => ?_, fun c9 => ?_⟩
      · skip
        intro T10
        refine Nu_word_c W7 T10 6500 ?_ (fun r11 q13 => ?_)
        · exact j41.1  -- p3
        intro W14
        intro M15
        refine h _ _ ?_
        · exact rfl  -- q4
      · skip
        intro κ_16 hκ_16
        refine hx _ _ ?_
        · exact ⟨rfl, hκ_16⟩  -- x5
  refine ⟨fun c17 => ?_, fun c17 => ?_⟩
  · skip
    intro κ_18 hκ_18
    refine hx _ _ ?_
    · exact ⟨rfl, hκ_18⟩  -- x6
  · skip
    refine ⟨fun c19 => ?_, fun c19 => ?_⟩
    · skip
      refine ⟨fun c20 => ?_, fun c20 => ?_⟩
      · skip
        refine hj41 _ _ _ _ W ?_ ?_ ?_
        · exact Ta0  -- t7
        · exact ty_raBottom W (ty_chShown W Ta0)  -- t8
        · exact ⟨rfl, rfl, rfl, (ch_n9 hp).2.1⟩  -- k9
      · skip
        refine hj41 _ _ _ _ W ?_ ?_ ?_
        · exact Ta0  -- t10
        · exact ty_raTop W (ty_chShown W Ta0)  -- t11
        · exact ⟨rfl, rfl, rfl, (ch_n9 hp).1⟩  -- k12
    · skip
      intro κ_21 hκ_21
      refine hx _ _ ?_
      · exact ⟨rfl, hκ_21⟩  -- x13

theorem Ch_played_c {C : zC} {n0 : Nat} {a0 : Nat} {a1 : Int32} {κ : zS} {Q : Int64 → zS → Prop} {X : zXp} (W : zW C n0 κ) (Ta0 : zT κ a0 = 15) (ρ : Nat → Nat) (L9 : Int) (hp : chI9 ρ κ a0 L9) (h : ∀ (v : Int64) (κ' : zS), (κ = κ') → Q v κ') (hx : ∀ (cls : String) (κ' : zS), (cls = "java/lang/IndexOutOfBoundsException" ∧ κ' = ut κ) → X cls κ') : zRun C 8 mCh_played [.ref a0, .int a1] κ (oJ Q X) := by
  refine Ch_played_run W Ta0 ?_
  replace W := W.lo (Nat.le_trans W.1.2.1 W.1.2.2) (Nat.le_refl (zn κ))
  unfold w_Ch_played_0
  have E := hp.2.2.2.2.2.1
  have e5 : (5 : Int32).toInt = 5 := rfl
  have hj18 : ∀ (l0 : Nat) (l1 : Int32) (s0 : Int32) (τ : zS), zW C (zn κ) τ → zT τ l0 = 15 → (κ = τ ∧ a0 = l0 ∧ a1 = l1 ∧ 0 ≤ s0.toInt ∧ s0.toInt ≤ 34) → w_Ch_played_18 C (zn κ) Q X  l0 l1 s0 τ := by
    rintro _ _ y18_s0 _ W18 T18_0 ⟨rfl, rfl, rfl, j18⟩
    unfold w_Ch_played_18
    refine ⟨fun c1 => ?_, fun c1 => ?_⟩
    · skip
      intro κ_2 hκ_2
      refine hx _ _ ?_
      · exact ⟨rfl, hκ_2⟩  -- x1
    · skip
      refine ⟨fun c3 => ?_, fun c3 => ?_⟩
      · skip
        refine ⟨fun c4 => ?_, fun c4 => ?_⟩
        · skip
          refine ⟨fun c5 => ?_, fun c5 => ?_⟩
          · skip
            refine ⟨?_, ?_⟩
            · have s5 : ((5 : Int32) + y18_s0).toInt = 5 + y18_s0.toInt := by rw [add_i (by rw [e5]; omega) (by rw [e5]; omega), e5]
              rw [lti, s5] at c3
              rw [lei, e5] at c5
              rw [inb_iff, E.2.1.2, sub_i (by rw [e5]; omega) (by rw [e5]; omega), e5]
              omega
            refine h _ _ ?_
            · exact rfl  -- q3
          · skip
            refine ⟨?_, ?_⟩
            · rw [lti, t0i] at c1
              rw [lei, e5] at c5
              rw [inb_iff, E.2.1.1]
              omega
            refine h _ _ ?_
            · exact rfl  -- q5
        · skip
          refine h _ _ ?_
          · exact rfl  -- q6
      · skip
        intro κ_6 hκ_6
        refine hx _ _ ?_
        · exact ⟨rfl, hκ_6⟩  -- x7
  refine ⟨fun c7 => ?_, fun c7 => ?_⟩
  · skip
    refine hj18 _ _ _ _ W ?_ ?_
    · exact Ta0  -- t8
    · exact ⟨rfl, rfl, rfl, by decide, by decide⟩  -- k9
  · skip
    intro T8
    refine Co_shared_c W T8  ?_ (fun r9 q11 => ?_)
    · exact hp.1.2.1.1.1  -- p10
    intro W12
    intro M13
    refine hj18 _ _ _ _ W12 ?_ ?_
    · exact Ta0  -- t11
    · obtain ⟨-, hv, ha, hc, -⟩ := hp.1.2.1.1.1
      exact ⟨rfl, rfl, rfl, by omega, by omega⟩

end
