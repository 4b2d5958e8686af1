section
set_option maxHeartbeats 1600000
/-! the class explores as the reference does -/
theorem exr_8 {C : zC} {n0 a f : Nat} {κ : zS} (W : zW C n0 κ) (T : zT κ a = 3) (hf : f = atRings ∨ f = atGreatest) : ¬ exF κ a f a := fun z => by
  have n4 := at_ne W T
  rcases z with ⟨_, y⟩ | z | z | z
  · rcases hf with e | e <;> rw [e] at y <;> rcases y with y | y | y | y | y | y | y | y <;> exact absurd y (by decide)
  · exact n4.1.1 z.symm
  · exact n4.1.2.1 z.symm
  · exact n4.1.2.2 z.symm
theorem exp_8 {C : zC} {n0 a : Nat} {κ : zS} (W : zW C n0 κ) (T : zT κ a = 3) : ¬ exF κ a atPlan a := fun z => by
  have n4 := at_ne W T
  rcases z with ⟨_, y⟩ | z | z | z
  · rcases y with y | y | y | y | y | y | y | y <;> exact absurd y (by decide)
  · exact n4.1.1 z.symm
  · exact n4.1.2.1 z.symm
  · exact n4.1.2.2 z.symm
/-- the plan's row stays -/
theorem pz_r8 {C : zC} {n0 a : Nat} {F : Nat → Nat → Prop} {κ τ : zS} (W : zW C n0 κ) (T : zT κ a = 3) (Z : zF F κ τ) (n : ¬ F atPlan a) (h : pz8 κ a) : pz8 τ a := fun k hk => by
  rw [(Z.row W (show zr atPlan = some 20 by decide +kernel) (by decide) T n).1]
  exact h k hk
theorem At_discover_q6 {C : zC} {n0 : Nat} {a0 : Nat} {a1 : Nat} {a2 : Int32} {κ : zS} {Q : Int32 → zS → Prop} (W : zW C n0 κ) (Ta0 : zT κ a0 = 3) (Ta1 : zT κ a1 = 5) (u9 s9 w9 l9 : Nat) (σ9 : rS) (hR : CR6 u9 s9 w9 (am6 (ur κ maCode (zR κ atMachine a0) a1) (zR κ atMachine a0)) σ9) (hl9 : a2 = Int32.ofNat l9) (h19 : l9 ≤ 1000) (hp : atI κ a0 ∧ coI κ a1 ∧ (1 ≤ a2.toInt ∧ a2.toInt ≤ 1000)) (h : ∀ (v : Int32) (κ' : zS), ((zF (dsF κ a0) κ κ' ∧ atI κ' a0 ∧ zR κ' atCode a0 = a1 ∧ (zI κ' atExplored a0 ≠ 0 → 0 ≤ (zI κ' atNexts a0).toInt ∧ ((zI κ' hoTotal (zR κ' atStates a0)).toInt = 0 → enZ9 κ' a0))) ∧ (∃ σc r, gxE a2 σ9 = (σc, r) ∧ ((r = 0 ∧ v = -1 ∧ zI κ' atExplored a0 = 0) ∨ (r = 1 ∧ v = σc.1 70 ∧ zI κ' atExplored a0 ≠ 0 ∧ DX6 u9 s9 w9 l9 κ' a0 σc ∧ hC8 (zA κ' (zR κ' atHopeless a0)) σc ∧ rC8 (zI κ' atRings a0) (zI κ' atGreatest a0) σc ∧ pz8 κ' a0)))) → Q v κ') : zRun C 6 mAt_discover [.ref a0, .ref a1, .int a2] κ (oI Q noX) := by
  refine At_discover_run W Ta0 Ta1 ?_
  replace W := W.lo (Nat.le_trans W.1.2.1 W.1.2.2) (Nat.le_refl (zn κ))
  unfold w_At_discover_0
  have nw : zR κ atWeb a0 ≠ a0 := fun z => by
    have t := ty_atWeb W Ta0
    rw [z, Ta0] at t
    exact absurd t (by decide)
  have Tw := ty_atWeb W Ta0
  have Tm := ty_atMachine W Ta0
  have Ts := ty_atStates W Ta0
  have Te := ty_atEndings W Ta0
  have w1 : zR κ atWeb a0 ≠ zR κ atMachine a0 := fun z => by rw [z, Tm] at Tw; exact absurd Tw (by decide)
  have w2 : zR κ atWeb a0 ≠ zR κ atStates a0 := fun z => by rw [z, Ts] at Tw; exact absurd Tw (by decide)
  have w3 : zR κ atWeb a0 ≠ zR κ atEndings a0 := fun z => by rw [z, Te] at Tw; exact absurd Tw (by decide)
  have wd : ∀ g, ¬ ds0 κ a0 g (zR κ atWeb a0) := fun g z => by
    rcases z with z | z | z | z
    · exact nw z.1
    · exact w1 z
    · exact w2 z
    · exact w3 z
  have ne := at_ne W Ta0
  have ad : ∀ g, g < 304 → ¬ ds0 κ a0 g a0 := fun g hg z => by
    rcases z with z | z | z | z
    · have := z.2
      omega
    · exact ne.1.1 z.symm
    · exact ne.1.2.1 z.symm
    · exact ne.1.2.2 z.symm
  obtain ⟨⟨I1, I2, I3, I4⟩, I5, I6, I7, I8⟩ := hp.1
  have hj137 : ∀ (l0 : Nat) (τ : zS), zW C (zn κ) τ → zT τ l0 = 3 → ((a0 = l0 ∧ ∃ m9 : Nat, zF (ds0 κ a0) κ τ ∧ ldA τ a0 ∧ atW τ a0 m9 ∧ zI τ atExplored a0 = 0 ∧ zR τ atCode a0 = a1 ∧ ((zI τ hoTotal (zR τ atStates a0)).toInt = 0 → enZ9 τ a0)) ∧ E137 u9 s9 w9 l9 a2 σ9 τ a0 ∧ rz8 τ a0 ∧ pz8 τ a0) → w_At_discover_137 C (zn κ) Q  l0 τ := by
    rintro _ τ137 W137 T137_0 ⟨⟨rfl, j137⟩, hE⟩
    unfold w_At_discover_137
    intro T1
    obtain ⟨m9, Z137, A137, W9a, x137, c137, z137⟩ := j137
    have wt : zR τ137 atWeb a0 = zR κ atWeb a0 := Z137.r (ad atWeb (by decide))
    have V := weM_z W Tw Z137 wd
    refine At_survey_q6 W137 T1 m9 hE.2.1 ?_ (fun κ_2 q3 => ?_)
    · rw [wt]
      exact ⟨⟨I6.1.elim (fun z => Or.inl (V.2.1 z)) (fun z => Or.inr (V.1 z)), V.2.2 I6.2⟩, W9a⟩
    obtain ⟨q3, z9⟩ := q3
    have zS9 := z9
    intro W4
    intro M5
    intro κ_6 hκ_6
    intro W7
    refine h _ _ ?_
    · refine and_5 ?_ (fun o9 => ?_)  -- q2
      · have n9 := at_ne W137 T137_0
        have Tw9 := ty_atWeb W137 T137_0
        have Tm9 := ty_atMachine W137 T137_0
        have Tc9 := ty_maCode W137 Tm9
        have Ts9 := ty_atStates W137 T137_0
        have Te9 := ty_atEndings W137 T137_0
        have sv : ∀ x c, zT τ137 x = c → c ≠ 3 → c ≠ 14 → ∀ f, ¬ svF τ137 a0 f x := fun x c hx h3 h14 f z => by
          rcases z with z | z
          · rw [z.1, T137_0] at hx
            exact h3 hx.symm
          · rw [z, Tw9] at hx
            exact h14 hx.symm
        have nwa : a0 ≠ zR τ137 atWeb a0 := fun z => by rw [← z, T137_0] at Tw9; exact absurd Tw9 (by decide)
        have ra : ∀ f, zR κ_2 f a0 = zR τ137 f a0 ∨ hpF a0 f a0 := fun f => by
          by_cases z : hpF a0 f a0
          · exact Or.inr z
          · exact Or.inl (q3.1.r (fun y => y.elim z (fun y => nwa y)))
        have rS : zR κ_2 atStates a0 = zR τ137 atStates a0 := (ra atStates).resolve_right (fun z => absurd z.2 (by decide))
        have rE : zR κ_2 atEndings a0 = zR τ137 atEndings a0 := (ra atEndings).resolve_right (fun z => absurd z.2 (by decide))
        have rM : zR κ_2 atMachine a0 = zR τ137 atMachine a0 := (ra atMachine).resolve_right (fun z => absurd z.2 (by decide))
        have rW : zR κ_2 atWeb a0 = zR τ137 atWeb a0 := (ra atWeb).resolve_right (fun z => absurd z.2 (by decide))
        have H1 := hoI_zF q3.1 W137 Ts9 (sv _ _ Ts9 (by decide) (by decide)) A137.2.2.1.1
        have H2 := hoI_zF q3.1 W137 Te9 (sv _ _ Te9 (by decide) (by decide)) A137.2.2.1.2
        have Lm := maL_zF q3.1 W137 Tm9 (sv _ _ Tm9 (by decide) (by decide)) A137.2.2.2.1.1.1
        have x6 : zI κ_6 atExplored a0 = 1 := by rw [hκ_6]; exact if_pos ⟨rfl, rfl⟩
        have Z6 : zF (dsF κ a0) κ_2 κ_6 := by rw [hκ_6]; exact zF_ui (Or.inl (Or.inl ⟨rfl, by decide⟩))
        have R6 : zR κ_6 = zR κ_2 := by rw [hκ_6]; rfl
        have A6 : atW κ_6 a0 m9 := by rw [hκ_6]; exact q3.2.2.1
        refine ⟨((Z137.mono (fun f x z => Or.inl z)).tr (q3.1.mono (fun f x z => ?_))).tr Z6, ⟨⟨Or.inr A6.1, A6.2.1, ⟨?_, ?_⟩, ?_⟩, ?_, ⟨Or.inr ?_, ?_⟩, by rw [x6]; exact nb_1, fun _ => ⟨m9, A6⟩⟩, ?_, fun _ => ⟨?_, fun hz => ?_⟩⟩
        · rcases z with z | z
          · refine Or.inl (Or.inl ⟨z.1, ?_⟩)
            rcases z.2 with y | y | y <;> rw [y] <;> decide
          · exact Or.inr (z.trans wt)
        · rw [R6, rS, hκ_6]; exact H1
        · rw [R6, rE, hκ_6]; exact H2
        · rw [R6, rS, rE]; exact A137.2.2.2.2.2
        · rw [R6, rM, hκ_6]; exact Lm
        · rw [R6, rW, hκ_6]; exact q3.2.1.1
        · rw [R6, rW, hκ_6]; exact q3.2.1.2
        · rw [R6, q3.2.2.2]; exact c137
        · have y9 : zI κ_6 atNexts a0 = zI τ137 atNexts a0 := by
            rw [hκ_6]
            exact q3.1.i (fun z => z.elim (fun y => absurd y.2 (by decide)) (fun y => nwa y))
          rw [y9]
          exact A137.2.2.2.2.1.1
        · have I6 : ∀ f b, f ≠ atExplored → zI κ_6 f b = zI κ_2 f b := fun f b hf => by rw [hκ_6]; exact if_neg (fun y => hf y.1)
          have hz2 : (zI τ137 hoTotal (zR τ137 atStates a0)).toInt = 0 := by
            rw [R6, rS, I6 hoTotal _ (by decide), q3.1.i (sv _ _ Ts9 (by decide) (by decide) _)] at hz
            exact hz
          have E7 := enZ_z9 W137 T137_0 q3.1 (sv _ _ Te9 (by decide) (by decide)) (sv _ _ (ty_atCode W137 T137_0) (by decide) (by decide)) ((ra atCode).resolve_right (fun z => absurd z.2 (by decide))) rE (z137 hz2)
          intro i hi
          have q := E7 i
          unfold pV9 at q ⊢
          rw [R6, I6 coVars _ (by decide), I6 coCells _ (by decide)] at hi
          have A6' : zA κ_6 = zA κ_2 := by rw [hκ_6]; rfl
          rw [R6, I6 hoTotal _ (by decide), A6']
          exact q hi
      · obtain ⟨⟨σc, n, g, h70, X, U⟩, _, pz9⟩ := hE
        have Tw9 := ty_atWeb W137 T137_0
        have Ts9 := ty_atStates W137 T137_0
        have Te9 := ty_atEndings W137 T137_0
        have nwa : a0 ≠ zR τ137 atWeb a0 := fun z => by rw [← z, T137_0] at Tw9; exact absurd Tw9 (by decide)
        have nz : ∀ x, zT τ137 x = 6 → ∀ f, ¬ (svF τ137 a0 f x ∨ (x = a0 ∧ f = atExplored)) := fun x hx f z => by
          rcases z with (z | z) | z
          · rw [z.1, T137_0] at hx
            exact absurd hx (by decide)
          · rw [z, Tw9] at hx
            exact absurd hx (by decide)
          · rw [z.1, T137_0] at hx
            exact absurd hx (by decide)
        have Z : zF (fun f x => svF τ137 a0 f x ∨ (x = a0 ∧ f = atExplored)) τ137 κ_6 := (q3.1.mono (fun f x z => Or.inl z)).tr (by rw [hκ_6]; exact zF_ui (Or.inr ⟨rfl, rfl⟩))
        obtain ⟨D1, D2⟩ := DX_6 W137 T137_0 Z (fun f q z => by
          rcases z with (z | z) | z
          · have y := z.2
            rcases q with q | q | q | q | q | q | q | q | q | q | q <;> rw [q] at y <;> exact absurd y (by decide)
          · exact nwa z
          · have y := z.2
            rcases q with q | q | q | q | q | q | q | q | q | q | q <;> rw [q] at y <;> exact absurd y (by decide)) (nz _ Ts9) (nz _ Te9) X h70
        have x6 : zI κ_6 atExplored a0 = 1 := by rw [hκ_6]; exact if_pos ⟨rfl, rfl⟩
        exact ⟨σc, 1, g, Or.inr ⟨rfl, D1, by rw [x6]; decide, D2, by rw [hκ_6]; exact hC_x8 W9a X h70 zS9.1, by rw [hκ_6]; exact rC_x8 W9a X h70 zS9.2, pz_r8 W137 T137_0 Z (fun z => by
          rcases z with (z | z) | z
          · exact absurd z.2 (by decide)
          · exact nwa z
          · exact absurd z.2 (by decide)) pz9⟩⟩
  have hh104 : ∀ (l0 : Nat) (l2 : Int32) (l3 : Int32) (τ : zS), zW C (zn κ) τ → zT τ l0 = 3 → ((a0 = l0 ∧ a2 = l2 ∧ dsI κ τ a0 a1 a2 l3 ∧ ((zI τ hoTotal (zR τ atStates a0)).toInt = 0 → enZ9 τ a0)) ∧ E104 u9 s9 w9 l9 a2 σ9 τ a0 l3 ∧ rz8 τ a0 ∧ pz8 τ a0) → w_At_discover_104 C (zn κ) Q  l0 l2 l3 τ := by
    intro z0 z2 z3 τi Wi _ hinit
    unfold w_At_discover_104
    refine ⟨fun n l0 l2 l3 τ => n = (1000 - l3.toInt).toNat ∧ ((a0 = l0 ∧ a2 = l2 ∧ dsI κ τ a0 a1 a2 l3 ∧ ((zI τ hoTotal (zR τ atStates a0)).toInt = 0 → enZ9 τ a0)) ∧ E104 u9 s9 w9 l9 a2 σ9 τ a0 l3 ∧ rz8 τ a0 ∧ pz8 τ a0), ⟨_, rfl, hinit⟩, ?_⟩
    clear hinit
    rintro n104 _ _ x104_3 κ104 W104 T104_0 ⟨hn104, ⟨rfl, rfl, i104⟩, hE⟩
    obtain ⟨⟨Z104, A104, E104, F104, k104, m104, x104, c104⟩, z104⟩ := i104
    have kn := cnk k104
    have t0 := A104.2.2.1.1.2.1.1
    obtain ⟨⟨m8, σ8, g8, hm8, X8, U8⟩, rz9⟩ := hE
    refine ⟨fun c8 => ?_, fun c8 => ?_⟩
    · skip
      refine hj137 _ _ W104 ?_ ?_
      · exact T104_0  -- t3
      · refine and_5 ?_ (fun o9 => ⟨E137_6 ⟨m8, σ8, g8, hm8, X8, U8⟩ k104 (Or.inl (lei.mp c8)), rz9⟩)  -- k4
        rw [lei] at c8
        exact ⟨rfl, (zI κ104 hoTotal (zR κ104 atStates a0)).toInt.toNat, Z104, A104, ⟨A104.1, A104.2.1, by omega, by omega, A104.2.2.2.2.1.2, fun j hj => (E104 j (by omega)).1⟩, x104, c104, z104⟩
    · skip
      refine ⟨fun c9 => ?_, fun c9 => ?_⟩
      · skip
        refine hj137 _ _ W104 ?_ ?_
        · exact T104_0  -- t5
        · refine and_5 ?_ (fun o9 => ⟨E137_6 ⟨m8, σ8, g8, hm8, X8, U8⟩ k104 (Or.inr (by have y := lei.mp c9; rw [hl9, ofn_i (by omega)] at y; exact y)), rz9⟩)  -- k6
          rw [lei] at c8 c9
          exact ⟨rfl, (zI κ104 hoTotal (zR κ104 atStates a0)).toInt.toNat, Z104, A104, ⟨A104.1, A104.2.1, by omega, by omega, A104.2.2.2.2.1.2, fun j hj => (E104 j (by omega)).1⟩, x104, c104, z104⟩
      · skip
        intro T10
        refine At_expand_q6 W104 T10 1 U8 u9 s9 w9 l9 σ8 X8 hl9 (lt70_6 X8 (by rw [lei] at c8; omega)) ?_ (fun r11 κ_12 q13 => ?_)
        · rw [lei] at c8 c9
          exact ⟨A104, by omega, E104, F104⟩
        obtain ⟨q13, z9⟩ := q13
        rw [lei] at c8 c9
        have e := cn1 k104 (by omega)
        have n4 := at_ne W104 T104_0
        have rm : zR κ104 atMachine a0 = zR κ atMachine a0 := Z104.r (ad atMachine (by decide))
        have rs : zR κ104 atStates a0 = zR κ atStates a0 := Z104.r (ad atStates (by decide))
        have re : zR κ104 atEndings a0 = zR κ atEndings a0 := Z104.r (ad atEndings (by decide))
        have Z12 : zF (ds0 κ a0) κ κ_12 := Z104.tr (q13.2.1.mono (fun f x z => by
          rcases z with ⟨z, y⟩ | z | z | z
          · refine Or.inl ⟨z, ?_⟩
            rcases y with y | y | y | y | y | y | y | y <;> rw [y] <;> decide
          · exact Or.inr (Or.inl (z.trans rm))
          · exact Or.inr (Or.inr (Or.inl (z.trans rs)))
          · exact Or.inr (Or.inr (Or.inr (z.trans re)))))
        have nx : ∀ f, f < 306 → ¬ exF κ104 a0 f a0 := fun f hf z => by
          rcases z with ⟨z, y⟩ | z | z | z
          · rcases y with y | y | y | y | y | y | y | y <;> rw [y] at hf <;> exact absurd hf (by decide)
          · exact n4.1.1 z.symm
          · exact n4.1.2.1 z.symm
          · exact n4.1.2.2 z.symm
        have x12 : zI κ_12 atExplored a0 = 0 := (q13.2.1.i (nx atExplored (by decide))).trans x104
        have c12 : zR κ_12 atCode a0 = a1 := (q13.2.1.r (nx atCode (by decide))).trans c104
        intro W14
        intro M15
        refine ⟨fun c16 => ?_, fun c16 => ?_⟩
        · skip
          intro x17 hx17
          refine lp_b5 ?_ (fun d9 => ⟨rfl, ?_⟩)
          · rw [hn104, hx17, e.2]; omega  -- d8
          · refine and_5 ?_ (fun o9 => ?_)  -- i9
            · have q := q13.2.2.2.1 c16
              rw [hx17]
              refine ⟨rfl, rfl, ⟨Z12, q13.1, by rw [e.1]; exact q.1, fun _ => by rw [e.1]; exact q.2, by rw [e.2]; omega, q13.2.2.2.2.1 m104, x12, c12⟩, fun y => ?_⟩
              have g := q13.2.2.2.2.2 (by rw [t1i]; omega)
              rw [t1i] at g
              omega
            · obtain ⟨σ', z1, z2⟩ := z9
              have v1 : r11 = 1 := q13.2.2.1.resolve_left c16
              obtain ⟨U, X⟩ := z2 c16
              obtain ⟨m', y1, y2⟩ := E104_s6 g8 hm8 ⟨k104, by omega⟩ (lt70_6 X8 (by omega)) z1
              rw [hx17]
              refine ⟨⟨m', σ', by rw [y1, v1], y2, ?_, U⟩, ⟨(q13.2.1.i (exr_8 W104 T104_0 (Or.inl rfl))).trans rz9.1.1, (q13.2.1.i (exr_8 W104 T104_0 (Or.inr rfl))).trans rz9.1.2⟩, pz_r8 W104 T104_0 q13.2.1 (exp_8 W104 T104_0) rz9.2⟩
              rw [e.1]
              exact X
        · skip
          refine h _ _ ?_
          · refine and_5 ?_ (fun o9 => ?_)  -- q10
            · have V := weM_z W Tw Z12 wd
              have wt : zR κ_12 atWeb a0 = zR κ atWeb a0 := Z12.r (ad atWeb (by decide))
              refine ⟨Z12.mono (fun f x z => Or.inl z), ⟨⟨Or.inr q13.1.1, q13.1.2.1, q13.1.2.2.1, q13.1.2.2.2.2.2⟩, q13.1.2.2.2.1.1.1, ?_, by rw [x12]; exact nb_0, fun z => absurd x12 z⟩, c12, fun z => absurd x12 z⟩
              rw [wt]
              exact ⟨I6.1.elim (fun z => Or.inl (V.2.1 z)) (fun z => Or.inr (V.1 z)), V.2.2 I6.2⟩
            · obtain ⟨σ', z1, _⟩ := z9
              obtain ⟨m', y1, y2⟩ := E104_s6 g8 hm8 ⟨k104, by omega⟩ (lt70_6 X8 (by omega)) z1
              refine ⟨σ', 0, ?_, Or.inl ⟨rfl, rfl, x12⟩⟩
              rw [y1, c16]
              exact E104_06 (by omega)
  intro κ_18 hκ_18
  intro W19
  intro κ_20 hκ_20
  intro W21
  intro T22
  have Z20 : zF (fun f x => (x = a0 ∧ 304 ≤ f) ∨ x = zR κ atStates a0 ∨ x = zR κ atEndings a0) κ κ_20 := by
    rw [hκ_20, hκ_18]
    exact (zF_ui (Or.inl ⟨rfl, by decide⟩)).tr (zF_ur (Or.inl ⟨rfl, by decide⟩) (show zr atCode = some 5 by decide +kernel) (by decide))
  have r20 : ∀ f, f ≠ atCode → zR κ_20 f a0 = zR κ f a0 := fun f hf => by rw [hκ_20, hκ_18]; exact if_neg (fun z => hf z.1)
  refine At_clear_q6 W21 T22  ?_ (fun κ_23 q24 => ?_)
  · rw [hκ_20, hκ_18]
    exact ⟨I1, I2, I3, I4⟩
  obtain ⟨q24, z9⟩ := q24
  have zC9 := z9
  have Zm : zF (fun f x => (x = a0 ∧ 304 ≤ f) ∨ x = zR κ atStates a0 ∨ x = zR κ atEndings a0) κ κ_23 := Z20.tr (q24.1.mono (fun f x z => by
    rcases z with ⟨z, y⟩ | z | z
    · exact Or.inl ⟨z, Nat.le_trans (by decide) y⟩
    · exact Or.inr (Or.inl (z.trans (r20 atStates (by decide))))
    · exact Or.inr (Or.inr (z.trans (r20 atEndings (by decide))))))
  have nm : ∀ x c, zT κ x = c → c ≠ 3 → c ≠ 6 → ∀ f, ¬ (fun f x => (x = a0 ∧ 304 ≤ f) ∨ x = zR κ atStates a0 ∨ x = zR κ atEndings a0 : Nat → Nat → Prop) f x := fun x c hx h3 h6 f z => by
    rcases z with z | z | z
    · rw [z.1, Ta0] at hx; exact h3 hx.symm
    · rw [z, Ts] at hx; exact h6 hx.symm
    · rw [z, Te] at hx; exact h6 hx.symm
  have na : ∀ f, f < 304 → ¬ (fun f x => (x = a0 ∧ 304 ≤ f) ∨ x = zR κ atStates a0 ∨ x = zR κ atEndings a0 : Nat → Nat → Prop) f a0 := fun f hf z => by
    rcases z with z | z | z
    · have := z.2
      omega
    · exact ne.1.2.1 z.symm
    · exact ne.1.2.2 z.symm
  have rM : zR κ_23 atMachine a0 = zR κ atMachine a0 := Zm.r (na atMachine (by decide))
  have rS : zR κ_23 atStates a0 = zR κ atStates a0 := Zm.r (na atStates (by decide))
  have rE : zR κ_23 atEndings a0 = zR κ atEndings a0 := Zm.r (na atEndings (by decide))
  have T23 : zT κ_23 a0 = 3 := Zm.t Ta0 (by decide)
  have L23 : maL κ_23 (zR κ_23 atMachine a0) := by rw [rM]; exact maL_zF Zm W Tm (nm _ _ Tm (by decide) (by decide)) I5
  have C23 : coI κ_23 a1 := coI_zF Zm W Ta1 (nm _ _ Ta1 (by decide) (by decide)) hp.2.1
  have cl : ∀ f, f < 306 → ¬ clF κ_20 a0 f a0 := fun f hf z => by
    rcases z with z | z | z
    · have z2 := z.2
      have e6 : (atFirsts : Nat) = 306 := rfl
      omega
    · rw [r20 atStates (by decide)] at z
      exact ne.1.2.1 z.symm
    · rw [r20 atEndings (by decide)] at z
      exact ne.1.2.2 z.symm
  have x23 : zI κ_23 atExplored a0 = 0 := by
    rw [q24.1.i (cl atExplored (by decide)), hκ_20, hκ_18]
    exact if_pos ⟨rfl, rfl⟩
  have c23 : zR κ_23 atCode a0 = a1 := by
    rw [q24.1.r (cl atCode (by decide)), hκ_20]
    exact if_pos ⟨rfl, rfl⟩
  have ne23 : zR κ_23 atStates a0 ≠ zR κ_23 atEndings a0 := by rw [rS, rE]; exact I4
  intro W25
  intro M26
  intro T27
  intro T28
  have n3 := at_ne W25 T23
  refine Ma_begin_q6 W25 T27 T28  ?_ (fun κ_29 q30 => ?_)
  · exact ⟨L23, C23⟩  -- p12
  obtain ⟨q30, z9⟩ := q30
  have zb := z9
  have r29 : ∀ f, zR κ_29 f a0 = zR κ_23 f a0 := fun f => q30.1.r (fun z => n3.1.1 z.symm)
  have i29 : ∀ f, zI κ_29 f a0 = zI κ_23 f a0 := fun f => q30.1.i (fun z => n3.1.1 z.symm)
  have T29 : zT κ_29 a0 = 3 := q30.1.t T23 (by decide)
  have tq : zI κ_29 hoTotal (zR κ_29 atStates a0) = 0 := by rw [r29, q30.1.i (fun z => n3.2.1 z.symm)]; exact q24.2.2.2.2.1.1
  have ln : ∀ f, f ∈ atRf → zN κ_29 (zR κ_29 f a0) = zN κ_23 (zR κ_23 f a0) := fun f hf => by
    obtain ⟨⟨t, h1, h2⟩, h3⟩ := atRf_r f hf
    have ty := W25.r h1 (T23.trans h3.symm)
    have t1 : zT κ_23 (zR κ_23 f a0) = (t - 1) + 1 := by omega
    rw [r29]
    exact q30.1.l t1
  have A29 : ldA κ_29 a0 := by
    refine ⟨?_, ?_, ⟨?_, ?_⟩, ?_, ?_, ?_⟩
    · unfold atM
      rw [ln atFirsts (by decide), ln atTotals (by decide), ln atGains (by decide), ln atPlan (by decide), ln atChooses (by decide), ln atHopeless (by decide)]
      exact q24.2.1
    · unfold atL
      rw [ln atSorts (by decide), ln atNumbers (by decide), ln atWeights (by decide)]
      exact q24.2.2.1
    · rw [r29]; exact hoI_zF q30.1 W25 (ty_atStates W25 T23) (fun f z => n3.2.1 z.symm) q24.2.2.2.1.1
    · rw [r29]; exact hoI_zF q30.1 W25 (ty_atEndings W25 T23) (fun f z => n3.2.2 z.symm) q24.2.2.2.1.2
    · rw [r29]; exact ⟨q30.2.2.1, q30.2.2.2.1, q30.2.2.2.2.1⟩
    · rw [i29, q24.2.2.2.2.2.1, t0i]; omega
    · rw [r29, r29]; exact ne23
  have Z29 : zF (ds0 κ a0) κ κ_29 := (Zm.mono (fun f x z => by
    rcases z with z | z | z
    · exact Or.inl z
    · exact Or.inr (Or.inr (Or.inl z))
    · exact Or.inr (Or.inr (Or.inr z)))).tr (q30.1.mono (fun f x z => Or.inr (Or.inl (z.trans rM))))
  have sS : zR κ_29 atStates a0 = zR κ atStates a0 := (r29 atStates).trans rS
  have sE : zR κ_29 atEndings a0 = zR κ atEndings a0 := (r29 atEndings).trans rE
  intro W31
  intro M32
  have n29 := at_ne W31 T29
  have AS29 : hoA κ_29 (zR κ_29 atStates a0) 1000 142 2048 := by
    have q := q24.2.2.2.2.2.2.2.1
    have I := A29.2.2.1.1
    rw [r29] at I ⊢
    exact ho_A9 W25 q30.1 (ty_atStates W25 T23) (fun f z => n3.2.1 z.symm) I q (by decide)
  have AE29 : hoA κ_29 (zR κ_29 atEndings a0) 1000 35 2048 := by
    have q := q24.2.2.2.2.2.2.2.2
    have I := A29.2.2.1.2
    rw [r29] at I ⊢
    exact ho_A9 W25 q30.1 (ty_atEndings W25 T23) (fun f z => n3.2.2 z.symm) I q (by decide)
  have te29 : zI κ_29 hoTotal (zR κ_29 atEndings a0) = 0 := by rw [r29, q30.1.i (fun z => n3.2.2 z.symm)]; exact q24.2.2.2.2.1.2
  refine ⟨fun c33 => ?_, fun c33 => ?_⟩
  · skip
    intro T34
    refine Ma_length_q6 W31 T34  (fun r35 q37 => ?_)
    obtain ⟨q37, z9⟩ := q37
    intro W38
    intro M39
    intro T40
    intro T41
    refine Ho_enter_c2 W38 T40 T41 1000 142 2048 ?_ (fun r42 κ_43 q44 => ?_)
    · have O := A29.2.2.2.1.2.2.resolve_right c33
      refine ⟨A29.2.2.1.1, hP1, ?_, AS29, ho_U9 AS29 (by rw [tq]; rfl), ?_⟩
      · rw [q37]
        exact mO_l O
      · have y := mO_m9 O
        rw [q37, y.1, A29.2.2.2.1.1.1.1]
        omega
    have q9 := q44
    obtain ⟨⟨e1, e2, -, e4, e5, e6⟩, E44⟩ := q44
    have q44 : zF (hoF (zR κ_29 atStates a0)) κ_29 κ_43 ∧ hoI κ_43 (zR κ_29 atStates a0) 1000 142 2048 ∧ -1 ≤ r42.toInt ∧ r42.toInt < (zI κ_43 hoTotal (zR κ_29 atStates a0)).toInt ∧ enS κ_29 κ_43 (zR κ_29 atStates a0) r35 a2 r42 := ⟨e1, e2, e4, e5, e6⟩
    have T43 : zT κ_43 a0 = 3 := q44.1.t T29 (by decide)
    intro W45
    intro M46
    refine hh104 _ _ _ _ W45 (by assumption) ?_
    · refine and_5 ?_ (fun o9 => ?_)  -- j14
      · have a9 : ∀ f, ¬ hoF (zR κ_29 atStates a0) f a0 := fun f z => n29.1.2.1 z.1.symm
        have r43 : ∀ f, zR κ_43 f a0 = zR κ_29 f a0 := fun f => q44.1.r (a9 f)
        have i43 : ∀ f, zI κ_43 f a0 = zI κ_29 f a0 := fun f => q44.1.i (a9 f)
        have A43 : ldA κ_43 a0 := ldA_h W31 T29 A29 (Or.inl rfl) q44.1 q44.2.1 (hoI_zF q44.1 W31 (ty_atEndings W31 T29) (fun f z => A29.2.2.2.2.2 z.1.symm) A29.2.2.1.2)
        refine ⟨rfl, rfl, ⟨Z29.tr (q44.1.mono (fun f x z => Or.inr (Or.inr (Or.inl (z.1.trans sS))))), A43, fun j hj => absurd hj (Nat.not_lt_zero _), fun hj => absurd hj (Nat.not_lt_zero _), by decide, ?_, by rw [i43, i29]; exact x23, by rw [r43, r29]; exact c23⟩, fun y => ?_⟩
        rotate_left
        · exfalso
          rw [r43] at y
          have O := A29.2.2.2.1.2.2.resolve_right c33
          have yl := mO_m9 O
          have t0' : (zI κ_29 hoTotal (zR κ_29 atStates a0)).toInt = 0 := by rw [tq]; rfl
          have v0 : 0 ≤ r42.toInt := by
            by_cases w : 0 ≤ r42.toInt
            · exact w
            · have f := E44.2.2.2.2.1 (by omega)
              rw [t0', q37, yl.1] at f
              omega
          omega
        rw [r43]
        rcases q44.2.2.2.2 with y | y
        · rw [y, tq, t0i]; omega
        · have y1 := y.1
          rw [tq, t0i] at y1
          omega
      · have a9 : ∀ f, ¬ hoF (zR κ_29 atStates a0) f a0 := fun f z => n29.1.2.1 z.1.symm
        refine ⟨?_, ⟨(q44.1.i (a9 _)).trans ((i29 _).trans zC9.1.1), (q44.1.i (a9 _)).trans ((i29 _).trans zC9.1.2)⟩, pz_r8 W31 T29 q44.1 (a9 _) (pz_r8 W25 T23 q30.1 (fun z => n3.1.1 z.symm) zC9.2)⟩
        obtain ⟨e9, B9, hz⟩ := zb
        have hU29 : lU9 κ_29 a0 := ⟨AS29, AE29, ho_U9 AS29 (by rw [tq]; rfl), ho_U9 AE29 (by rw [te29]; rfl)⟩
        rw [rM, am_r6 W Tm Ta1 Zm (nm _ _ Tm (by decide) (by decide)) (nm _ _ Ta1 (by decide) (by decide))] at B9
        obtain ⟨σ1, r, hb, D⟩ := dsA_6 (κ := κ_29) (a := a0) hR B9 (by rw [r29]; exact hz) hl9 h19 hU29 tq te29 (by rw [i29]; exact q24.2.2.2.2.2.1)
        have r0 : r = 0 := D.2.2.2.resolve_right (fun q => c33 ((am_i6 (f := 711) (by decide)).symm.trans (D.2.2.1.1.trans q.1)))
        have x0 : zI κ_29 maOutcome (zR κ_29 atMachine a0) = 0 := (am_i6 (f := 711) (by decide)).symm.trans (D.2.2.1.1.trans r0)
        refine dsB_6 (x := zI κ_29 maOutcome (zR κ_29 atMachine a0)) (v := r42) hb D hl9 (fun k => ldE_06 (m := 0) W31 T29 A29.2.2.2.2.2 hU29 rfl x0 q37 q9.1.1 q9.1.2.2.1 q9.1.2.2.2.1 q9.1.2.2.2.2.2 q9.2) (fun z => ?_)
        have O := A29.2.2.2.1.2.2.resolve_right c33
        have yl := mO_m9 O
        have t0' : (zI κ_29 hoTotal (zR κ_29 atStates a0)).toInt = 0 := by rw [tq]; rfl
        have f := E44.2.2.2.2.1 (by rw [z]; decide)
        rw [t0', q37, yl.1] at f
        omega
  · skip
    refine ⟨?_, ?_⟩
    · have Lm := A29.2.2.2.1.1.1.1
      have sb := A29.2.2.2.1.2.1
      rw [inb_iff]; omega
    intro κ_47 hκ_47
    intro W48
    intro T49
    intro T50
    have f47 := mF_ua W31 (ty_atMachine W31 T29) (show zr maMemory = some 20 by decide +kernel) (by decide) hκ_47
    have R47 := f47.1.2.1
    have T47 : zT κ_47 a0 = 3 := f47.1.1.t T29 (by decide)
    have A47 : ldA κ_47 a0 := by
      refine ldA_0 W31 T29 A29 (f47.1.1.mono (fun f x q => Or.inl q)) (hoI_zF f47.1.1 W31 (ty_atStates W31 T29) (fun f e => n29.2.1 e.symm) A29.2.2.1.1) (hoI_zF f47.1.1 W31 (ty_atEndings W31 T29) (fun f e => n29.2.2 e.symm) A29.2.2.1.2) ⟨(mkI_f f47.1 W31 (ty_atMachine W31 T29) A29.2.2.2.1.1).1, by rw [f47.2.2]; exact A29.2.2.2.1.2.1, ?_⟩
      unfold mO
      rw [f47.2.2]
      exact A29.2.2.2.1.2.2
    have AE47 : hoA κ_47 (zR κ_47 atEndings a0) 1000 35 2048 := by
      have I := A47.2.2.1.2
      rw [R47] at I ⊢
      exact ho_A9 W31 f47.1.1 (ty_atEndings W31 T29) (fun f e => n29.2.2 e.symm) I AE29 (by decide)
    have te47 : zI κ_47 hoTotal (zR κ_47 atEndings a0) = 0 := by rw [R47, f47.2.2]; exact te29
    have e1 : (zI κ_47 maShared (zR κ_47 atMachine a0) + 1).toInt = (zI κ_29 maShared (zR κ_29 atMachine a0)).toInt + 1 := by
      have sb := A29.2.2.2.1.2.1
      rw [f47.2.2, R47]
      exact (cn1 sb.1 (by omega)).2
    refine Ho_enter_c2 W48 T49 T50 1000 35 2048 ?_ (fun r51 κ_52 q53 => ?_)
    · have sb := A29.2.2.2.1.2.1
      refine ⟨A47.2.2.1.2, hP2, by rw [e1]; omega, AE47, ho_U9 AE47 (by rw [te47]; rfl), ?_⟩
      rw [e1, R47, f47.1.2.2.1, A29.2.2.2.1.1.1.1]
      omega
    have q9 := q53
    obtain ⟨⟨h1, h2, -, h4, h5, h6⟩, E53⟩ := q53
    have q53 : zF (hoF (zR κ_47 atEndings a0)) κ_47 κ_52 ∧ hoI κ_52 (zR κ_47 atEndings a0) 1000 35 2048 ∧ True := ⟨h1, h2, trivial⟩
    have T52 : zT κ_52 a0 = 3 := q53.1.t T47 (by decide)
    intro W54
    intro M55
    refine hh104 _ _ _ _ W54 (by assumption) ?_
    · refine and_5 ?_ (fun o9 => ?_)  -- j17
      · have n47 := at_ne W48 T47
        have sb := A29.2.2.2.1.2.1
        have te0 : (zI κ_47 hoTotal (zR κ_47 atEndings a0)).toInt = 0 := by rw [te47]; rfl
        have v0 : 0 ≤ r51.toInt := by
          by_cases w : 0 ≤ r51.toInt
          · exact w
          · have f := E53.2.2.2.2.1 (by omega)
            rw [te0, e1, show (1000 : Int32).toInt = 1000 from rfl] at f
            omega
        have v1 : r51.toInt = 0 := by
          rcases h6 with y | y
          · rw [y, te47] at h5
            rw [t0i] at h5
            omega
          · have y2 := y.2.1
            omega
        have v2 : r51 = 0 := Int32.toInt_inj.mp (by rw [v1, t0i])
        have hk := (E53.2.2.1 v0).1
        have cS9 : zR κ_29 atCode a0 = a1 := by rw [r29]; exact c23
        have m47 : zA κ_47 (zR κ_47 maMemory (zR κ_47 atMachine a0)) (zI κ_29 maShared (zR κ_29 atMachine a0)).toNatClampNeg = 0 := by
          have mf : zA κ_47 (zR κ_29 maMemory (zR κ_29 atMachine a0)) = upd (zA κ_29 (zR κ_29 maMemory (zR κ_29 atMachine a0))) (zI κ_29 maShared (zR κ_29 atMachine a0)).toNatClampNeg 0 := by
            rw [hκ_47]
            exact if_pos rfl
          rw [R47, mf]
          exact if_pos rfl
        have EN52 : enZ9 κ_52 a0 := by
          have a9' : ∀ f, ¬ hoF (zR κ_47 atEndings a0) f a0 := fun f z => n47.1.2.2 z.1.symm
          have rc : zR κ_52 atCode a0 = a1 := by rw [q53.1.r (a9' atCode), R47]; exact cS9
          have re : zR κ_52 atEndings a0 = zR κ_47 atEndings a0 := q53.1.r (a9' atEndings)
          have Tc47 : zT κ_47 a1 = 5 := by
            have q := ty_atCode W48 T47
            rw [R47, cS9] at q
            exact q
          have hne : ∀ f, ¬ hoF (zR κ_47 atEndings a0) f a1 := fun f z => by
            have q := ty_atEndings W48 T47
            rw [← z.1, Tc47] at q
            exact absurd q (by decide)
          intro i hi
          rw [rc, q53.1.i (hne coVars), q53.1.i (hne coCells), f47.2.2] at hi
          have sh := q30.2.2.2.2.2.2
          rw [← r29 atMachine] at sh
          have nC : a1 ≠ zR κ_23 atMachine a0 := fun z => by
            have q := ty_atMachine W25 T23
            have q2 := Zm.t Ta1 (by decide)
            rw [← z, q2] at q
            exact absurd q (by decide)
          rw [q30.1.i (fun z => nC z), q30.1.i (fun z => nC z)] at hi
          have ei : i.toInt = (zI κ_29 maShared (zR κ_29 atMachine a0)).toInt := by rw [hi, sh]
          have kk : i.toNatClampNeg = (zI κ_29 maShared (zR κ_29 atMachine a0)).toNatClampNeg := by
            have z1 := cnk (x := i) (by omega)
            have z2 := cnk sb.1
            omega
          rw [re]
          rw [v2] at hk
          have q := pV9_k (g := 0) (i := i) (by decide) hk (by omega) (by rw [e1]; omega)
          rw [q, kk, m47]
          decide
        have a9 : ∀ f, ¬ hoF (zR κ_47 atEndings a0) f a0 := fun f z => n47.1.2.2 z.1.symm
        have r52 : ∀ f, zR κ_52 f a0 = zR κ_29 f a0 := fun f => (q53.1.r (a9 f)).trans (by rw [R47])
        have i52 : ∀ f, zI κ_52 f a0 = zI κ_29 f a0 := fun f => (q53.1.i (a9 f)).trans (by rw [f47.2.2])
        have A52 : ldA κ_52 a0 := ldA_h W48 T47 A47 (Or.inr rfl) q53.1 (hoI_zF q53.1 W48 (ty_atStates W48 T47) (fun f z => A47.2.2.2.2.2 z.1) A47.2.2.1.1) q53.2.1
        refine ⟨rfl, rfl, ⟨(Z29.tr (f47.1.1.mono (fun f x z => Or.inr (Or.inl (z.trans ((r29 atMachine).trans rM)))))).tr (q53.1.mono (fun f x z => Or.inr (Or.inr (Or.inr (z.1.trans (by rw [R47]; exact sE)))))), A52, fun j hj => absurd hj (Nat.not_lt_zero _), fun hj => absurd hj (Nat.not_lt_zero _), by decide, ?_, by rw [i52, i29]; exact x23, by rw [r52, r29]; exact c23⟩, fun _ => ?_⟩
        rotate_left
        · exact EN52
        have ns9 : zR κ_29 atStates a0 ≠ zR κ_47 atEndings a0 := by rw [R47]; exact A29.2.2.2.2.2
        rw [r52, q53.1.i (fun z => ns9 z.1), f47.2.2, tq, t0i]
        omega
      · have n47' := at_ne W48 T47
        have i52 : ∀ f, zI κ_52 f a0 = zI κ_23 f a0 := fun f => by
          rw [q53.1.i (fun z => n47'.1.2.2 z.1.symm), f47.2.2]
          exact i29 f
        refine ⟨?_, ⟨(i52 _).trans zC9.1.1, (i52 _).trans zC9.1.2⟩, pz_r8 W48 T47 q53.1 (fun z => n47'.1.2.2 z.1.symm) (pz_r8 W31 T29 f47.1.1 (fun z => n29.1.1 z.symm) (pz_r8 W25 T23 q30.1 (fun z => n3.1.1 z.symm) zC9.2))⟩
        obtain ⟨e9, B9, hz⟩ := zb
        have hU29 : lU9 κ_29 a0 := ⟨AS29, AE29, ho_U9 AS29 (by rw [tq]; rfl), ho_U9 AE29 (by rw [te29]; rfl)⟩
        rw [rM, am_r6 W Tm Ta1 Zm (nm _ _ Tm (by decide) (by decide)) (nm _ _ Ta1 (by decide) (by decide))] at B9
        obtain ⟨σ1, r, hb, D⟩ := dsA_6 (κ := κ_29) (a := a0) hR B9 (by rw [r29]; exact hz) hl9 h19 hU29 tq te29 (by rw [i29]; exact q24.2.2.2.2.2.1)
        have rr : (am6 κ_29 (zR κ_29 atMachine a0)).1 711 = 1 := (am_i6 (f := 711) (by decide)).trans c33
        have r1 : r = 1 := D.2.2.1.1.symm.trans rr
        have num : zI κ_29 maNumber (zR κ_29 atMachine a0) = 0 := by
          rcases D.2.2.1.2 with ⟨q, _⟩ | ⟨_, q, _⟩ | ⟨q, _⟩ | q
          · rw [r1] at q; exact absurd q (by decide)
          · refine (am_i6 (f := 712) (by decide)).symm.trans (q.trans ?_)
            rcases D.2.2.2 with q | ⟨_, q⟩
            · rw [r1] at q; exact absurd q (by decide)
            · exact q
          · rw [r1] at q; exact absurd q (by decide)
          · rw [r1] at q; exact absurd q (by decide)
        refine dsB_6 (x := zI κ_29 maOutcome (zR κ_29 atMachine a0)) (v := r51) hb D hl9 (fun k => ldE_16 W31 T29 W48 A29.2.2.2.2.2 hU29 rfl c33 (by rw [num]; exact hκ_47) q9.1.1 q9.1.2.2.1 q9.1.2.2.2.1 q9.1.2.2.2.2.2 q9.2) (fun z => ?_)
        have sb := A29.2.2.2.1.2.1
        have te0 : (zI κ_47 hoTotal (zR κ_47 atEndings a0)).toInt = 0 := by rw [te47]; rfl
        have f := E53.2.2.2.2.1 (by rw [z]; decide)
        rw [te0, e1, show (1000 : Int32).toInt = 1000 from rfl] at f
        omega

end
section
set_option maxHeartbeats 1600000
/-! the reference's explore comes to gxE -/
def cd9x (σ : rS) (a1 : Int32) : Int32 := if σ.1 14 = 0 then 1 else if 1 ≤ a1 ∧ a1 ≤ 1000 then 0 else 2
def AG9 (σ' σc : rS) : Prop := (∀ g, g = 70 ∨ g = 71 ∨ g = 72 ∨ g = 85 → σ'.1 g = σc.1 g) ∧ (∀ g, g ≤ 45 ∨ (73 ≤ g ∧ g ≤ 82) → σ'.2.2.1 g = σc.2.2.1 g)
def XS6 (a1 : Int32) (σ σ' : rS) (v : Int32) : Prop := σ'.1 0 = cd9x σ a1 ∧ ((cd9x σ a1 ≠ 0 ∧ v = 0 ∧ (∀ k, k ≠ 0 → σ'.1 k = σ.1 k) ∧ σ'.2 = σ.2) ∨ (cd9x σ a1 = 0 ∧ ∃ σc r, gxE a1 σ = (σc, r) ∧ ((r = 0 ∧ v = -1 ∧ σ'.1 69 = 0 ∧ no8 σ') ∨ (r ≠ 0 ∧ v = σc.1 70 ∧ σ'.1 69 ≠ 0 ∧ AG9 σ' σc ∧ hl8 σc σ' (σc.1 70).toNatClampNeg ∧ rC8 (σ'.1 88) (σ'.1 89) σc))))
theorem gxe_6 {a1 r v : Int32} {σ σ1 σ2 σ3 : rS} (h : σ1 = gx0 a1 σ) (zb : g5_begin σ1 = (σ2, r)) (c : ¬ r = 0) (z : g5_endingNumber σ2 = (σ3, v)) : gxE a1 σ = gxl fu5 (if v = -1 then 0 else 1) 0 σ3 := by
  have e : gx1 σ1 = (σ3, if v = -1 then 0 else 1) := by
    unfold gx1
    rw [zb, pmp_6, if_neg c, z, pmp_6]
  unfold gxE
  rw [← h, e, pmp_6]
theorem gxs_6 {a1 r v : Int32} {σ σ1 σ2 σ3 : rS} (h : σ1 = gx0 a1 σ) (zb : g5_begin σ1 = (σ2, r)) (c : r = 0) (z : g5_stateNumber σ2 = (σ3, v)) : gxE a1 σ = gxl fu5 (if v = -1 then 0 else 1) 0 σ3 := by
  have e : gx1 σ1 = (σ3, if v = -1 then 0 else 1) := by
    unfold gx1
    rw [zb, pmp_6, if_pos c, z, pmp_6]
  unfold gxE
  rw [← h, e, pmp_6]
theorem cdx_6 {a1 : Int32} {σ : rS} (w : σ.1 14 ≠ 0 ∧ 1 ≤ a1 ∧ a1 ≤ 1000) : cd9x σ a1 = 0 := by
  unfold cd9x
  rw [if_neg w.1, if_pos w.2]
theorem gxf_6 : ((1001 : Int32) - 0).toNatClampNeg < fu5 := by
  have e : ((1001 : Int32) - 0).toNatClampNeg = 1001 := by decide
  rw [e]
  unfold fu5
  omega
theorem explore_g5 {C : rCx} (hC : cOK C)  {σ : rS} {a1 : Int32} {Q : Int32 → rS → Prop} (hp : tyAll σ ∧ (σ.1 14 ≠ 0 → ∃ T, progOK σ (σ.1 3) T) ∧ exP σ) (h : ∀ (v : Int32) (σ' : rS), ((frM xpF xpR σ σ' ∧ exP σ' ∧ tyAll σ' ∧ (σ'.1 14 ≠ 0 → ∃ T, progOK σ' (σ'.1 3) T) ∧ (((∀ k, k ≠ 0 → σ'.1 k = σ.1 k) ∧ σ'.2 = σ.2) ∨ (σ'.1 94 = 0 ∧ σ'.1 114 = 0))) ∧ (XS6 a1 σ σ' v)) → Q v σ') : cI C 11 m_explore [.ref (co C), .int a1] σ Q := by
  refine m_explore_run hC ?_
  unfold w_explore_0
  obtain ⟨hT, hP, hX⟩ := hp
  have hT' : ∃ T, σ.1 14 ≠ 0 → rI σ (σ.1 3) T := by
    by_cases z : σ.1 14 = 0
    · exact ⟨0, fun y => absurd z y⟩
    · obtain ⟨T, g⟩ := hP z
      exact ⟨T, fun _ => ⟨hT, g⟩⟩
  obtain ⟨T, hI⟩ := hT'
  have ft : ∀ υ, frM xpF xpR σ υ → tyAll υ ∧ (υ.1 14 ≠ 0 → ∃ T, progOK υ (υ.1 3) T) := fun υ f => ⟨ty_M hT f (by decide) (by decide), fun z => ⟨T, by rw [f.1 3 (by decide)]; exact (rI_M (hI (by rw [← f.1 14 (by decide)]; exact z)) f (by decide) (by decide)).2⟩⟩
  have hj136 : ∀ (l2 : Int32) (τ : rS), ((frM xpF xpR σ τ ∧ rI τ (σ.1 3) T ∧ exRR9 τ ∧ nb l2 ∧ τ.1 94 = 0 ∧ τ.1 114 = 0 ∧ τ.1 88 = σ.1 88 ∧ (l2 ≠ 0 → exV τ (σ.1 3) T (τ.1 70))) ∧ cd9x σ a1 = 0 ∧ τ.1 0 = 0 ∧ gxE a1 σ = (τ, l2)) → w_explore_136 C Q  l2 τ := by
    rintro y136_2 τ136 ⟨j136, hE⟩
    unfold w_explore_136
    obtain ⟨g1, g2, g3, g4, g5, g6, g7, g8⟩ := j136
    refine ⟨?_, ?_⟩
    · clear h; exact g4  -- b1
    intro σ_1 hσ_1
    refine ⟨fun c2 => ?_, fun c2 => ?_⟩
    · skip
      unfold w_explore_164
      refine ⟨fun n l3 τ => n = (τ.1 70 - l3).toNatClampNeg ∧ ((frM xpF xpR σ τ ∧ 0 ≤ l3 ∧ l3 ≤ τ.1 70 ∧ τ.1 94 = 0 ∧ τ.1 114 = 0 ∧ exV τ (σ.1 3) T (τ.1 70) ∧ ∀ j : Int32, 0 ≤ j → j < l3 → rd τ 83 j = 0) ∧ cd9x σ a1 = 0 ∧ τ.1 0 = 0 ∧ ∃ σc r, gxE a1 σ = (σc, r) ∧ r ≠ 0 ∧ τ.1 69 ≠ 0 ∧ AG9 τ σc), ⟨_, rfl, ?_⟩, ?_⟩
      · refine and_5 ?_ (fun o9 => ?_)  -- j2
        · clear h; have e1 : ∀ k, k ≠ 69 → σ_1.1 k = τ136.1 k := fun k hk => by rw [hσ_1, si1, if_neg hk]
          have V := g8 c2
          rw [e1 70 (by decide)]
          exact ⟨frM_tr g1 (by rw [hσ_1]; exact frM_0 (by decide)), by decide, V.2.1.1.1, by rw [e1 94 (by decide)]; exact g5, by rw [e1 114 (by decide)]; exact g6, exV_o V e1 (fun k _ => by rw [hσ_1, si2]), fun j j0 j1 => absurd j1 (Int32.not_lt.mpr j0)⟩
        · clear o9
          obtain ⟨e0, t0, g⟩ := hE
          exact ⟨e0, by rw [hσ_1, si1, if_neg (by decide)]; exact t0, τ136, y136_2, g, c2, by rw [hσ_1, si1, if_pos rfl]; exact c2, ⟨fun k q => by rw [hσ_1, si1, if_neg (by omega)], fun k _ => by rw [hσ_1, si2]⟩⟩
      rintro n164 x164_3 σ164 ⟨hn164, i164, hE⟩
      obtain ⟨w1, w2, w3, w4, w5, w6, w7⟩ := i164
      refine ⟨fun c3 => ?_, fun c3 => ?_⟩
      · skip
        refine findRings_g5 hC  ?_ (fun σ_4 q5 => ?_)
        · clear h; exact exO_V w6  -- p3
        obtain ⟨q5, z9⟩ := q5
        have zF9 := z9
        refine h _ _ ?_
        · refine and_5 ?_ (fun o9 => ?_)  -- q4
          · clear h; have e : x164_3 = σ164.1 70 := Int32.le_antisymm w3 c3
            rw [e] at w7
            have F : frM xpF xpR σ σ_4 := frM_tr w1 (frM_mono q5.1 (by decide) (by decide))
            have e70 : σ_4.1 70 = σ164.1 70 := q5.1.1 70 (by decide)
            have rr : ∀ k, k ≠ 87 → σ_4.2.2.1 k = σ164.2.2.1 k := fun k hk => q5.1.2.2.1 k (fun z => hk (by simpa using z))
            refine ⟨F, ⟨exO_o (exO_V w6) (fun k hk => q5.1.1 k (by rcases hk with rfl | rfl | rfl <;> decide)) (fun k hk => rr k (by omega)), fun j j0 j1 => ?_, fun j j0 j1 => ?_, q5.2.1, fun z a ha t => ?_⟩, (ft _ F).1, (ft _ F).2, Or.inr ⟨by rw [q5.1.1 94 (by decide)]; exact w4, by rw [q5.1.1 114 (by decide)]; exact w5⟩⟩
            · rw [e70] at j1
              obtain ⟨r1, r2, r3, -⟩ := w6.2.2.1 j j0 j1
              unfold rowR
              simp only [rd]
              rw [rr 73 (by decide)]
              exact ⟨r1, r2, fun c c0 c1 => ⟨(r3 c c0 c1).1, s150 w6.1 (r3 c c0 c1).2⟩⟩
            · rw [e70] at j1
              have sj := (w6.2.2.2.2.2.1 j j0 j1).1
              have p := w7 j j0 j1
              simp only [rd] at p sj ⊢
              rw [rr 83 (by decide), rr 76 (by decide), p]
              exact ⟨fun _ => rfl, fun _ => ⟨by decide, sub_pos sj.1 sj.2.1⟩⟩
            · rw [e70] at ha
              exact q5.2.2 z a ha (Tr_congr (fun a b e => (edN_o (fun k hk => rr k (by omega)) (by decide)).mp e) t)
          · clear o9
            obtain ⟨e0, t0, σc, r, g, r0, t69, A⟩ := hE
            refine ⟨(q5.1.1 0 (by decide)).trans (t0.trans e0.symm), Or.inr ⟨e0, σc, r, g, Or.inr ⟨r0, ?_, ?_, ?_, ?_, ?_⟩⟩⟩
            · rw [q5.1.1 70 (by decide)]; exact A.1 70 (by decide)
            · rw [q5.1.1 69 (by decide)]; exact t69
            · exact ⟨fun k q => (q5.1.1 k (by rcases q with rfl | rfl | rfl | rfl <;> decide)).trans (A.1 k q), fun k q => (q5.1.2.2.1 k (fun z => by have y : k = 87 := (by simpa using z); omega)).trans (A.2 k q)⟩
            · intro k hk
              rw [← A.1 70 (by decide)] at hk
              rw [← hp_r8 (A.1 70 (by decide)) (fun g q => A.2 g (by omega))]
              exact zF9.1 k hk
            · exact (rC_r8 (A.1 70 (by decide)) (fun g q => A.2 g (by omega))).mp zF9.2
      · skip
        have u := uk w2 c3 (Int32.le_trans w6.2.1.1.2.1 w6.2.1.1.2.2)
        refine ⟨ib_1000.mpr ?_, ?_⟩
        · clear h; exact ⟨w2, u.2.2.2.2.2⟩  -- b5
        intro σ_6 hσ_6
        intro x7 hx7
        refine lp_b5 (cn_lt2 hn164 ?_ ?_) (fun d9 => ⟨rfl, ?_⟩)
        · clear h; rw [hx7, hσ_6, ri1]; exact u.1  -- d6
        · clear h; rw [hx7, hσ_6, ri1]; exact u.2.1  -- d7
        · refine and_5 ?_ (fun o9 => ?_)  -- i8
          · clear h; have e6 : ∀ k, σ_6.1 k = σ164.1 k := fun k => by rw [hσ_6, ri1]
            rw [hx7, e6 70]
            refine ⟨frM_tr w1 (by rw [hσ_6]; exact frM_1 (by decide)), u.2.2.1, u.2.2.2.1, by rw [e6]; exact w4, by rw [e6]; exact w5, exV_o w6 (fun k _ => e6 k) (fun k hk => by rw [hσ_6, ri3 hk]), fun j j0 j1 => ?_⟩
            rw [rd, hσ_6, ri4]
            split
            · rfl
            · rename_i ne
              refine w7 j j0 ?_
              rcases l1k w2 u.2.2.2.2.2 j1 with z | z
              · exact absurd (by rw [z]) ne
              · exact z
          · clear o9
            obtain ⟨e0, t0, σc, r, g, r0, t69, A⟩ := hE
            exact ⟨e0, by rw [hσ_6, ri1]; exact t0, σc, r, g, r0, by rw [hσ_6, ri1]; exact t69, ⟨fun k q => by rw [hσ_6, ri1]; exact A.1 k q, fun k q => by rw [hσ_6, ri3 (by omega)]; exact A.2 k q⟩⟩
    · skip
      intro σ_8 hσ_8
      intro σ_9 hσ_9
      intro σ_10 hσ_10
      refine h _ _ ?_
      · refine and_5 ?_ (fun o9 => ?_)  -- q9
        · clear h; have F : frM xpF xpR σ σ_10 := frM_tr g1 (frM_tr (by rw [hσ_1]; exact frM_0 (by decide) : frM xpF xpR τ136 σ_1) (by rw [hσ_10, hσ_9, hσ_8]; exact frM_tr (frM_tr (frM_0 (by decide)) (frM_0 (by decide))) (frM_0 (by decide))))
          have k : ∀ k, k ≠ 69 → k ≠ 70 → k ≠ 71 → k ≠ 72 → σ_10.1 k = τ136.1 k := fun k z1 z2 z3 z4 => by rw [hσ_10, si1, if_neg z4, hσ_9, si1, if_neg z3, hσ_8, si1, if_neg z2, hσ_1, si1, if_neg z1]
          exact ⟨F, exP_0 (by rw [hσ_10, si1, if_neg (by decide), hσ_9, si1, if_neg (by decide), hσ_8, si1, if_pos rfl]) (by rw [hσ_10, si1, if_neg (by decide), hσ_9, si1, if_pos rfl]) (by rw [hσ_10, si1, if_pos rfl]) (by rw [k 88 (by decide) (by decide) (by decide) (by decide), g7]; exact hX.2.2.2.1), (ft _ F).1, (ft _ F).2, Or.inr ⟨by rw [k 94 (by decide) (by decide) (by decide) (by decide)]; exact g5, by rw [k 114 (by decide) (by decide) (by decide) (by decide)]; exact g6⟩⟩
        · clear o9
          obtain ⟨e0, t0, g⟩ := hE
          refine ⟨?_, Or.inr ⟨e0, τ136, y136_2, g, Or.inl ⟨c2, rfl, ?_, ?_, ?_, ?_⟩⟩⟩
          · rw [hσ_10, si1, if_neg (by decide), hσ_9, si1, if_neg (by decide), hσ_8, si1, if_neg (by decide), hσ_1, si1, if_neg (by decide), t0, e0]
          · rw [hσ_10, si1, if_neg (by decide), hσ_9, si1, if_neg (by decide), hσ_8, si1, if_neg (by decide), hσ_1, si1, if_pos rfl]; exact c2
          · rw [hσ_10, si1, if_neg (by decide), hσ_9, si1, if_neg (by decide), hσ_8, si1, if_pos rfl]
          · rw [hσ_10, si1, if_neg (by decide), hσ_9, si1, if_pos rfl]
          · rw [hσ_10, si1, if_pos rfl]
  have hh112 : ∀ (l2 : Int32) (l3 : Int32) (τ : rS), ((frM xpF xpR σ τ ∧ rI τ (σ.1 3) T ∧ exRR9 τ ∧ 0 ≤ l3 ∧ l3 ≤ 1000 ∧ nb l2 ∧ τ.1 94 = 0 ∧ τ.1 114 = 0 ∧ τ.1 88 = σ.1 88 ∧ (l2 ≠ 0 → exV τ (σ.1 3) T l3)) ∧ cd9x σ a1 = 0 ∧ τ.1 0 = 0 ∧ ∃ m, gxE a1 σ = gxl m l2 l3 τ ∧ (1001 - l3).toNatClampNeg < m) → w_explore_112 C Q  l2 l3 τ := by
    intro z2 z3 τi hinit
    unfold w_explore_112
    refine ⟨fun n l2 l3 τ => n = (1001 - l3).toNatClampNeg ∧ ((frM xpF xpR σ τ ∧ rI τ (σ.1 3) T ∧ exRR9 τ ∧ 0 ≤ l3 ∧ l3 ≤ 1000 ∧ nb l2 ∧ τ.1 94 = 0 ∧ τ.1 114 = 0 ∧ τ.1 88 = σ.1 88 ∧ (l2 ≠ 0 → exV τ (σ.1 3) T l3)) ∧ cd9x σ a1 = 0 ∧ τ.1 0 = 0 ∧ ∃ m, gxE a1 σ = gxl m l2 l3 τ ∧ (1001 - l3).toNatClampNeg < m), ⟨_, rfl, hinit⟩, ?_⟩
    clear hinit
    rintro n112 x112_2 x112_3 σ112 ⟨hn112, i112, hE⟩
    obtain ⟨v1, v2, v3, v4, v5, v6, v7, v8, v9, v10⟩ := i112
    refine ⟨fun c11 => ?_, fun c11 => ?_⟩
    · skip
      refine hj136 _ _ ?_
      · refine and_5 ?_ (fun o9 => ?_)  -- k10
        · clear h; refine ⟨v1, v2, v3, v6, v7, v8, v9, fun z => ?_⟩
          have V := v10 z
          have e : x112_3 = σ112.1 70 := Int32.le_antisymm V.2.2.2.2.1.2 c11
          rw [e] at V
          exact V
        · clear o9
          obtain ⟨e0, t0, m, g, hm⟩ := hE
          obtain ⟨m, rfl⟩ : ∃ m9, m = m9 + 1 := ⟨m - 1, by omega⟩
          exact ⟨e0, t0, by rw [g, gxl, if_pos c11]⟩
    · skip
      refine ⟨fun c12 => ?_, fun c12 => ?_⟩
      · skip
        refine hj136 _ _ ?_
        · refine and_5 ?_ (fun o9 => ?_)  -- k11
          · clear h; exact ⟨v1, v2, v3, v6, v7, v8, v9, fun z => absurd c12 z⟩
          · clear o9
            obtain ⟨e0, t0, m, g, hm⟩ := hE
            obtain ⟨m, rfl⟩ : ∃ m9, m = m9 + 1 := ⟨m - 1, by omega⟩
            exact ⟨e0, t0, by rw [g, gxl, if_neg c11, if_pos c12]⟩
      · skip
        refine expand_g5 hC (σ.1 3) T ?_ (fun r13 σ_14 q15 => ?_)
        · clear h; exact ⟨v10 c12, Int32.not_le.mp c11⟩  -- p12
        obtain ⟨q15, z9⟩ := q15
        intro x16 hx16
        have u := u1001 v4 (Int32.lt_of_lt_of_le (Int32.not_le.mp c11) (Int32.le_trans v3.1.2.1 v3.1.2.2))
        refine lp_b5 (cn_lt2 hn112 ?_ ?_) (fun d9 => ⟨rfl, ?_⟩)
        · clear h; rw [hx16]; exact u.1  -- d13
        · clear h; rw [hx16]; exact u.2.1  -- d14
        · refine and_5 ?_ (fun o9 => ?_)  -- i15
          · clear h; rw [hx16]; exact ⟨frM_tr v1 (frM_G q15.1 (by decide) (by decide)), q15.2.1.1, q15.2.1.2.1, u.2.2.1, u.2.2.2, q15.2.2.1, by rw [q15.1.1 94 (by decide)]; exact v7, by rw [q15.1.1 114 (by decide)]; exact v8, by rw [q15.1.1 88 (by decide)]; exact v9, q15.2.2.2⟩
          · clear o9
            obtain ⟨e0, t0, m, g, hm⟩ := hE
            obtain ⟨m, rfl⟩ : ∃ m9, m = m9 + 1 := ⟨m - 1, by omega⟩
            refine ⟨e0, (q15.1.1 0 (by decide)).trans t0, m, by rw [g, gxl, if_neg c11, if_neg c12, z9, pmp_6, hx16], by omega⟩
  have hj28 : ∀ (l1 : Int32) (s1 : Int32) (τ : rS), ((σ = τ ∧ l1 = a1 ∧ (s1 ≤ 0 → σ.1 14 ≠ 0 ∧ 1 ≤ a1 ∧ a1 ≤ 1000)) ∧ s1 = cd9x σ a1) → w_explore_28 C Q  l1 s1 τ := by
    rintro y28_1 y28_s1 _ ⟨⟨rfl, j28⟩, hE⟩
    unfold w_explore_28
    intro σ_17 hσ_17
    refine ⟨fun c18 => ?_, fun c18 => ?_⟩
    · skip
      intro σ_19 hσ_19
      intro σ_20 hσ_20
      intro σ_21 hσ_21
      intro σ_22 hσ_22
      intro σ_23 hσ_23
      intro σ_24 hσ_24
      refine begin_g5 hC (σ.1 3) T ?_ (fun r25 σ_26 q27 => ?_)
      · clear h; have e0 : σ_17.1 0 = y28_s1 := by rw [hσ_17, si1, if_pos rfl]
        have w := j28.2 (by rw [← e0]; exact c18)
        have F : frM xpF xpR σ σ_24 := by rw [hσ_24, hσ_23, hσ_22, hσ_21, hσ_20, hσ_19, hσ_17]; exact frM_tr (frM_tr (frM_tr (frM_tr (frM_tr (frM_tr (frM_0 (by decide)) (frM_0 (by decide))) (frM_0 (by decide))) (frM_0 (by decide))) (frM_0 (by decide))) (frM_0 (by decide))) (frM_0 (by decide))
        exact rI_M (hI w.1) F (by decide) (by decide)
      obtain ⟨q27, z9⟩ := q27
      have zb := z9
      have e0 : σ_17.1 0 = y28_s1 := by rw [hσ_17, si1, if_pos rfl]
      have w := j28.2 (by rw [← e0]; exact c18)
      have F24 : frM xpF xpR σ σ_24 := by rw [hσ_24, hσ_23, hσ_22, hσ_21, hσ_20, hσ_19, hσ_17]; exact frM_tr (frM_tr (frM_tr (frM_tr (frM_tr (frM_tr (frM_0 (by decide)) (frM_0 (by decide))) (frM_0 (by decide))) (frM_0 (by decide))) (frM_0 (by decide))) (frM_0 (by decide))) (frM_0 (by decide))
      have I24 : rI σ_24 (σ.1 3) T := rI_M (hI w.1) F24 (by decide) (by decide)
      have v114 : σ_24.1 114 = 0 := by rw [hσ_24, si1, if_pos rfl]
      have v94 : σ_24.1 94 = 0 := by rw [hσ_24, si1, if_neg (by decide), hσ_23, si1, if_pos rfl]
      have v72 : σ_24.1 72 = 0 := by rw [hσ_24, si1, if_neg (by decide), hσ_23, si1, if_neg (by decide), hσ_22, si1, if_pos rfl]
      have v71 : σ_24.1 71 = 0 := by rw [hσ_24, si1, if_neg (by decide), hσ_23, si1, if_neg (by decide), hσ_22, si1, if_neg (by decide), hσ_21, si1, if_pos rfl]
      have v70 : σ_24.1 70 = 0 := by rw [hσ_24, si1, if_neg (by decide), hσ_23, si1, if_neg (by decide), hσ_22, si1, if_neg (by decide), hσ_21, si1, if_neg (by decide), hσ_20, si1, if_pos rfl]
      have v85 : σ_24.1 85 = a1 := by rw [hσ_24, si1, if_neg (by decide), hσ_23, si1, if_neg (by decide), hσ_22, si1, if_neg (by decide), hσ_21, si1, if_neg (by decide), hσ_20, si1, if_neg (by decide), hσ_19, si1, if_pos rfl]; exact j28.1
      have v88 : σ_24.1 88 = σ.1 88 := by rw [hσ_24, si1, if_neg (by decide), hσ_23, si1, if_neg (by decide), hσ_22, si1, if_neg (by decide), hσ_21, si1, if_neg (by decide), hσ_20, si1, if_neg (by decide), hσ_19, si1, if_neg (by decide), hσ_17, si1, if_neg (by decide)]
      have F26 : frM xpF xpR σ σ_26 := frM_tr F24 (frM_G q27.1 (by decide) (by decide))
      have I26 : rI σ_26 (σ.1 3) T := rI_fr I24 (frG_mono q27.1 (by decide) (by decide))
      have k26 : ∀ k, k ≠ 58 → k ≠ 61 → σ_26.1 k = σ_24.1 k := fun k z1 z2 => q27.1.1 k (by simp [z1, z2])
      refine ⟨fun c28 => ?_, fun c28 => ?_⟩
      · skip
        refine endingNumber_g5 hC  ?_ (fun r29 σ_30 q31 => ?_)
        · clear h; rw [k26 71 (by decide) (by decide), v71]; exact ⟨by decide, by decide⟩  -- p17
        obtain ⟨q31, z9⟩ := q31
        have k30 : ∀ k, k ≠ 58 → k ≠ 61 → k ≠ 71 → σ_30.1 k = σ_24.1 k := fun k z1 z2 z3 => (q31.1.1 k (by simp [z3])).trans (k26 k z1 z2)
        have I30 : rI σ_30 (σ.1 3) T := rI_ex I26 (frG_mono q31.1 (by decide) (by decide))
        have R30 : exRR9 σ_30 := by
          unfold exRR9
          rw [k30 70 (by decide) (by decide) (by decide), k30 72 (by decide) (by decide) (by decide), k30 85 (by decide) (by decide) (by decide), v70, v72, v85]
          exact ⟨⟨by decide, Int32.le_trans (by decide) w.2.1, w.2.2⟩, ⟨q31.2.1.1, q31.2.1.2.2⟩, by decide, by decide⟩
        have fin : ∀ l2 : Int32, nb l2 → (l2 ≠ 0 → exV σ_30 (σ.1 3) T 0) → frM xpF xpR σ σ_30 ∧ rI σ_30 (σ.1 3) T ∧ exRR9 σ_30 ∧ (0 : Int32) ≤ 0 ∧ (0 : Int32) ≤ 1000 ∧ nb l2 ∧ σ_30.1 94 = 0 ∧ σ_30.1 114 = 0 ∧ σ_30.1 88 = σ.1 88 ∧ (l2 ≠ 0 → exV σ_30 (σ.1 3) T 0) := fun l2 h1 h2 => ⟨frM_tr F26 (frM_G q31.1 (by decide) (by decide)), I30, R30, by decide, by decide, h1, by rw [k30 94 (by decide) (by decide) (by decide)]; exact v94, by rw [k30 114 (by decide) (by decide) (by decide)]; exact v114, by rw [k30 88 (by decide) (by decide) (by decide)]; exact v88, h2⟩
        refine ⟨fun c32 => ?_, fun c32 => ?_⟩
        · skip
          refine hh112 _ _ _ ?_
          · refine and_5 ?_ (fun o9 => ?_)  -- j18
            · clear h; exact fin _ nb_0 (fun z => absurd rfl z)
            · clear o9
              have s0 := cdx_6 w
              rw [s0] at hE
              have h24 : σ_24 = gx0 a1 σ := by rw [hσ_24, hσ_23, hσ_22, hσ_21, hσ_20, hσ_19, hσ_17, hE, j28.1]; rfl
              refine ⟨s0, ?_, fu5, by rw [gxe_6 h24 zb c28 z9, if_pos c32], gxf_6⟩
              rw [k30 0 (by decide) (by decide) (by decide), h24]; rfl
        · skip
          refine hh112 _ _ _ ?_
          · refine and_5 ?_ (fun o9 => ?_)  -- j19
            · clear h; refine fin _ nb_1 (fun _ => exV_0 I30 R30 (by rw [k30 72 (by decide) (by decide) (by decide)]; exact v72) (fun j j0 j1 => ?_))
              rw [k30 70 (by decide) (by decide) (by decide), v70] at j1
              exact absurd j1 (Int32.not_lt.mpr j0)
            · clear o9
              have s0 := cdx_6 w
              rw [s0] at hE
              have h24 : σ_24 = gx0 a1 σ := by rw [hσ_24, hσ_23, hσ_22, hσ_21, hσ_20, hσ_19, hσ_17, hE, j28.1]; rfl
              refine ⟨s0, ?_, fu5, by rw [gxe_6 h24 zb c28 z9, if_neg c32], gxf_6⟩
              rw [k30 0 (by decide) (by decide) (by decide), h24]; rfl
      · skip
        refine stateNumber_g5 hC  ?_ (fun r33 σ_34 q35 => ?_)
        · clear h; refine ⟨?_, ?_, ?_, ?_⟩
          · rcases q27.2 with z | z
            · exact z.2
            · exact absurd (c28.symm.trans z) (by decide)
          · rw [k26 70 (by decide) (by decide), v70]; decide
          · rw [k26 70 (by decide) (by decide), k26 85 (by decide) (by decide), v70, v85]; exact Int32.le_trans (by decide) w.2.1
          · rw [k26 85 (by decide) (by decide), v85]; exact w.2.2
        obtain ⟨q35, z9⟩ := q35
        have k34 : ∀ k, k ≠ 58 → k ≠ 61 → k ≠ 70 → σ_34.1 k = σ_24.1 k := fun k z1 z2 z3 => (q35.1.1 k (by simp [z3])).trans (k26 k z1 z2)
        have I34 : rI σ_34 (σ.1 3) T := rI_ex I26 (frG_mono q35.1 (by decide) (by decide))
        have R34 : exRR9 σ_34 := by
          have q := q35.2.1
          rw [k26 85 (by decide) (by decide), v85] at q
          unfold exRR9
          rw [k34 71 (by decide) (by decide) (by decide), k34 72 (by decide) (by decide) (by decide), k34 85 (by decide) (by decide) (by decide), v71, v72, v85]
          exact ⟨⟨q.1, q.2.2, w.2.2⟩, by decide, by decide⟩
        have fin : ∀ l2 : Int32, nb l2 → frM xpF xpR σ σ_34 ∧ rI σ_34 (σ.1 3) T ∧ exRR9 σ_34 ∧ (0 : Int32) ≤ 0 ∧ (0 : Int32) ≤ 1000 ∧ nb l2 ∧ σ_34.1 94 = 0 ∧ σ_34.1 114 = 0 ∧ σ_34.1 88 = σ.1 88 ∧ (l2 ≠ 0 → exV σ_34 (σ.1 3) T 0) := fun l2 h1 => ⟨frM_tr F26 (frM_G q35.1 (by decide) (by decide)), I34, R34, by decide, by decide, h1, by rw [k34 94 (by decide) (by decide) (by decide)]; exact v94, by rw [k34 114 (by decide) (by decide) (by decide)]; exact v114, by rw [k34 88 (by decide) (by decide) (by decide)]; exact v88, fun _ => exV_0 I34 R34 (by rw [k34 72 (by decide) (by decide) (by decide)]; exact v72) (fun j j0 j1 => q35.2.2.2.2 j j0 (by rw [k26 70 (by decide) (by decide), v70]; exact j0) j1)⟩
        refine ⟨fun c36 => ?_, fun c36 => ?_⟩
        · skip
          refine hh112 _ _ _ ?_
          · refine and_5 ?_ (fun o9 => ?_)  -- j21
            · clear h; exact fin _ nb_0
            · clear o9
              have s0 := cdx_6 w
              rw [s0] at hE
              have h24 : σ_24 = gx0 a1 σ := by rw [hσ_24, hσ_23, hσ_22, hσ_21, hσ_20, hσ_19, hσ_17, hE, j28.1]; rfl
              refine ⟨s0, ?_, fu5, by rw [gxs_6 h24 zb c28 z9, if_pos c36], gxf_6⟩
              rw [k34 0 (by decide) (by decide) (by decide), h24]; rfl
        · skip
          refine hh112 _ _ _ ?_
          · refine and_5 ?_ (fun o9 => ?_)  -- j22
            · clear h; exact fin _ nb_1
            · clear o9
              have s0 := cdx_6 w
              rw [s0] at hE
              have h24 : σ_24 = gx0 a1 σ := by rw [hσ_24, hσ_23, hσ_22, hσ_21, hσ_20, hσ_19, hσ_17, hE, j28.1]; rfl
              refine ⟨s0, ?_, fu5, by rw [gxs_6 h24 zb c28 z9, if_neg c36], gxf_6⟩
              rw [k34 0 (by decide) (by decide) (by decide), h24]; rfl
    · skip
      refine h _ _ ?_
      · refine and_5 ?_ (fun o9 => ?_)  -- q23
        · clear h; have F : frM xpF xpR σ σ_17 := by rw [hσ_17]; exact frM_0 (by decide)
          exact ⟨F, exP_o hX (fun k hk => by rw [hσ_17, si1, if_neg (by omega)]) (fun k _ => by rw [hσ_17, si2]), (ft _ F).1, (ft _ F).2, Or.inl ⟨fun k hk => by rw [hσ_17, si1, if_neg hk], by rw [hσ_17, si2]⟩⟩
        · clear o9
          have e0 : σ_17.1 0 = y28_s1 := by rw [hσ_17, si1, if_pos rfl]
          refine ⟨e0.trans hE, Or.inl ⟨fun z => c18 ?_, rfl, fun k hk => by rw [hσ_17, si1, if_neg hk], by rw [hσ_17, si2]⟩⟩
          rw [e0, hE, z]
          exact Int32.le_refl _
  refine ⟨fun c37 => ?_, fun c37 => ?_⟩
  · skip
    refine within_c hC  (fun r38 q40 => ?_)
    refine ⟨fun c41 => ?_, fun c41 => ?_⟩
    · skip
      refine hj28 _ _ _ ?_
      · refine and_5 ?_ (fun o9 => (cdx_6 ⟨c37, q40.2.mp c41⟩).symm)  -- k24
        clear h; exact ⟨rfl, rfl, fun _ => ⟨c37, q40.2.mp c41⟩⟩
    · skip
      refine hj28 _ _ _ ?_
      · refine and_5 ?_ (fun o9 => ?_)  -- k25
        · clear h; exact ⟨rfl, rfl, fun z => absurd z (by decide)⟩
        · clear o9
          unfold cd9x
          rw [if_neg c37, if_neg (fun z => absurd (q40.2.mpr z) (by first | exact c41 | exact fun y => y c41))]
  · skip
    refine hj28 _ _ _ ?_
    · refine and_5 ?_ (fun o9 => ?_)  -- k26
      · clear h; exact ⟨rfl, rfl, fun z => absurd z (by decide)⟩
      · clear o9
        unfold cd9x
        rw [if_pos (by first | exact c37 | exact Decidable.byContradiction c37)]

end
section
set_option maxHeartbeats 1600000
/-! the class's links to what follows -/
section
variable {m : Nat} {x : Int32} {e e' : E5}
theorem lk_16 (h0 : ¬ e.1 coStatements ≤ x) (h8 : ¬ cl5 x 8 e = -1) : f5_Co_linkFollows_2 (m + 1) x e = f5_Co_linkFollows_2 m (x + 1) e := by
  rw [f5_Co_linkFollows_2, if_neg h0, pb_e5, pb_e5, if_neg h8, pb_e5]
theorem lk_26 (h0 : ¬ e.1 coStatements ≤ x) (h8 : cl5 x 8 e = -1) (h9 : cl5 x 9 e = -1) : f5_Co_linkFollows_2 (m + 1) x e = f5_Co_linkFollows_2 m (x + 1) e := by
  rw [f5_Co_linkFollows_2, if_neg h0, pb_e5, pb_e5, if_pos h8, if_pos h9, pb_e5]
theorem lk_36 (h0 : ¬ e.1 coStatements ≤ x) (h8 : cl5 x 8 e = -1) (h9 : ¬ cl5 x 9 e = -1) (h7 : cl5 (cl5 x 9 e) 0 e = 7) (hs : f5_Co_setColumn x 8 (cl5 x 9 e) e = .inl (e', ())) : f5_Co_linkFollows_2 (m + 1) x e = f5_Co_linkFollows_2 m (x + 1) e' := by
  rw [f5_Co_linkFollows_2, if_neg h0, pb_e5, pb_e5, if_pos h8, if_neg h9, pb_e5, if_pos h7, hs, rdl_5, pb_e5]
theorem lk_46 (h0 : ¬ e.1 coStatements ≤ x) (h8 : cl5 x 8 e = -1) (h9 : ¬ cl5 x 9 e = -1) (h7 : ¬ cl5 (cl5 x 9 e) 0 e = 7) (hs : f5_Co_setColumn x 8 (cl5 (cl5 x 9 e) 8 e) e = .inl (e', ())) : f5_Co_linkFollows_2 (m + 1) x e = f5_Co_linkFollows_2 m (x + 1) e' := by
  rw [f5_Co_linkFollows_2, if_neg h0, pb_e5, pb_e5, if_pos h8, if_neg h9, pb_e5, if_neg h7, pb_e5, hs, rdl_5, pb_e5]
end
def LK9 (κ τ : zS) (a0 : Nat) (l1 : Int32) : Prop := ∀ p, zT κ p = 10 → zR κ paCode p = a0 → ∃ m, f5_Co_linkFollows_2 fu5 0 (ab5 κ p) = f5_Co_linkFollows_2 m l1 (ab5 τ p) ∧ (150 - l1.toInt).toNat < m
theorem lk_p6 {κ τ : zS} {a0 p : Nat} {x : Int32} (F : zF (oneF coRows a0) κ τ) (h1 : zT κ p = 10) (h2 : zR κ paCode p = a0) (c : ¬ zI τ coStatements a0 ≤ x) : (zT τ p = 10 ∧ zR τ paCode p = a0) ∧ ¬ (ab5 τ p).1 coStatements ≤ x := by
  have r : zR τ paCode p = a0 := (F.r (fun z => absurd z.1 (by decide))).trans h2
  refine ⟨⟨F.t h1 (by decide), r⟩, ?_⟩
  show ¬ zI τ coStatements (zR τ paCode p) ≤ x
  rw [r]
  exact c
theorem Co_linkFollows_q6 {C : zC} {n0 : Nat} {a0 : Nat} {κ : zS} {Q : zS → Prop} (W : zW C n0 κ) (Ta0 : zT κ a0 = 5)  (hp : coI κ a0) (h : ∀ (κ' : zS), ((zF (oneF coRows a0) κ κ' ∧ coI κ' a0 ∧ zI κ' = zI κ) ∧ (∀ p, zT κ p = 10 → zR κ paCode p = a0 → f5_Co_linkFollows_2 fu5 0 (ab5 κ p) = .inl (ab5 κ' p, ()))) → Q κ') : zRun C 1 mCo_linkFollows [.ref a0] κ (oV Q noX) := by
  refine Co_linkFollows_run W Ta0 ?_
  replace W := W.lo (Nat.le_trans W.1.2.1 W.1.2.2) (Nat.le_refl (zn κ))
  unfold w_Co_linkFollows_0
  unfold w_Co_linkFollows_2
  refine ⟨fun n l0 l1 τ => n = (150 - l1.toInt).toNat ∧ ((a0 = l0 ∧ zF (oneF coRows a0) κ τ ∧ coI τ a0 ∧ zI τ = zI κ ∧ 0 ≤ l1.toInt) ∧ LK9 κ τ a0 l1), ⟨_, rfl, ?_⟩, ?_⟩
  · refine and_5 ?_ (fun o9 => fun p _ _ => ⟨fu5, rfl, by unfold fu5; rw [t0i]; omega⟩)  -- j1
    exact ⟨rfl, zF.rf, hp, rfl, by decide⟩
  rintro n2 _ x2_1 κ2 W2 T2_0 ⟨hn2, ⟨rfl, i2⟩, hE⟩
  obtain ⟨F, I, eI, l0⟩ := i2
  refine ⟨fun c1 => ?_, fun c1 => ?_⟩
  · skip
    refine h _ ?_
    · refine and_5 ?_ (fun o9 => ?_)  -- q2
      · exact ⟨F, I, eI⟩
      · intro p h1 h2
        obtain ⟨m, g, hm⟩ := hE p h1 h2
        obtain ⟨m, rfl⟩ : ∃ m9, m = m9 + 1 := ⟨m - 1, by omega⟩
        have r : zR κ2 paCode p = a0 := (F.r (fun z => absurd z.1 (by decide))).trans h2
        refine g.trans ?_
        rw [f5_Co_linkFollows_2, if_pos]
        show zI κ2 coStatements (zR κ2 paCode p) ≤ x2_1
        rw [r]
        exact c1
  · skip
    intro T2
    have c9 : x2_1.toInt < 150 := by
      have g := I.2.2.2.2.2.1
      rw [lei] at c1
      omega
    have e1 : (x2_1 + 1).toInt = x2_1.toInt + 1 := by rw [add_i (by rw [t1i]; omega) (by rw [t1i]; omega), t1i]
    refine Co_column_q5 W2 T2  ?_ (fun r3 q5 => ?_)
    · exact ⟨I, by decide, by decide⟩  -- p3
    obtain ⟨q5, z9⟩ := q5
    have z1 := z9
    intro W6
    intro M7
    intro T8
    refine Co_column_q5 W6 T8  ?_ (fun r9 q11 => ?_)
    · exact ⟨I, by decide, by decide⟩  -- p4
    obtain ⟨q11, z9⟩ := q11
    have z2 := z9
    intro W12
    intro M13
    refine ⟨fun c14 => ?_, fun c14 => ?_⟩
    · skip
      intro x15 hx15
      refine lp_b5 ?_ (fun d9 => ⟨rfl, ?_⟩)
      · rw [hn2, hx15, e1]; omega  -- d5
      · refine and_5 ?_ (fun o9 => ?_)  -- i6
        · exact ⟨rfl, F, I, eI, by rw [hx15, e1]; omega⟩
        · intro p h1 h2
          obtain ⟨m, g, hm⟩ := hE p h1 h2
          obtain ⟨m, rfl⟩ : ∃ m9, m = m9 + 1 := ⟨m - 1, by omega⟩
          obtain ⟨⟨p1, p2⟩, p3⟩ := lk_p6 F h1 h2 c1
          rw [hx15]
          refine ⟨m, g.trans (lk_16 p3 ?_), by rw [e1]; omega⟩
          rw [← z2 p p1 p2]
          exact c14
    · skip
      refine ⟨fun c16 => ?_, fun c16 => ?_⟩
      · skip
        intro x17 hx17
        refine lp_b5 ?_ (fun d9 => ⟨rfl, ?_⟩)
        · rw [hn2, hx17, e1]; omega  -- d7
        · refine and_5 ?_ (fun o9 => ?_)  -- i8
          · exact ⟨rfl, F, I, eI, by rw [hx17, e1]; omega⟩
          · intro p h1 h2
            obtain ⟨m, g, hm⟩ := hE p h1 h2
            obtain ⟨m, rfl⟩ : ∃ m9, m = m9 + 1 := ⟨m - 1, by omega⟩
            obtain ⟨⟨p1, p2⟩, p3⟩ := lk_p6 F h1 h2 c1
            rw [hx17]
            exact ⟨m, g.trans (lk_26 p3 ((z2 p p1 p2).symm.trans c14) ((z1 p p1 p2).symm.trans c16)), by rw [e1]; omega⟩
      · skip
        intro T18
        refine Co_column_q5 W12 T18  ?_ (fun r19 q21 => ?_)
        · exact ⟨I, by decide, by decide⟩  -- p9
        obtain ⟨q21, z9⟩ := q21
        have z3 := z9
        intro W22
        intro M23
        refine ⟨fun c24 => ?_, fun c24 => ?_⟩
        · skip
          intro T25
          refine Co_column_q5 W22 T25  ?_ (fun r26 q28 => ?_)
          · exact ⟨I, by decide, by decide⟩  -- p10
          obtain ⟨q28, z9⟩ := q28
          have z4 := z9
          intro W29
          intro M30
          intro T31
          refine Co_setColumn_q5 W29 T31  ?_ (fun κ_32 q33 => ?_)
          · exact ⟨I, by decide, by decide⟩  -- p11
          obtain ⟨q33, z9⟩ := q33
          intro W34
          intro M35
          intro x36 hx36
          refine lp_b5 ?_ (fun d9 => ⟨rfl, ?_⟩)
          · rw [hn2, hx36, e1]; omega  -- d12
          · refine and_5 ?_ (fun o9 => ?_)  -- i13
            · exact ⟨rfl, F.tr q33.1, q33.2.1, q33.2.2.1.trans eI, by rw [hx36, e1]; omega⟩
            · intro p h1 h2
              obtain ⟨m, g, hm⟩ := hE p h1 h2
              obtain ⟨m, rfl⟩ : ∃ m9, m = m9 + 1 := ⟨m - 1, by omega⟩
              obtain ⟨⟨p1, p2⟩, p3⟩ := lk_p6 F h1 h2 c1
              rw [hx36]
              have y1 := z1 p p1 p2
              have y3 := z3 p p1 p2
              have y4 := z4 p p1 p2
              have y9 := z9 p p1 p2
              rw [y4] at y9
              rw [y1] at y3 y9 c16
              exact ⟨m, g.trans (lk_46 p3 ((z2 p p1 p2).symm.trans c14) c16 (by rw [← y3]; exact c24) y9), by rw [e1]; omega⟩
        · skip
          intro T37
          refine Co_setColumn_q5 W22 T37  ?_ (fun κ_38 q39 => ?_)
          · exact ⟨I, by decide, by decide⟩  -- p14
          obtain ⟨q39, z9⟩ := q39
          intro W40
          intro M41
          intro x42 hx42
          refine lp_b5 ?_ (fun d9 => ⟨rfl, ?_⟩)
          · rw [hn2, hx42, e1]; omega  -- d15
          · refine and_5 ?_ (fun o9 => ?_)  -- i16
            · exact ⟨rfl, F.tr q39.1, q39.2.1, q39.2.2.1.trans eI, by rw [hx42, e1]; omega⟩
            · intro p h1 h2
              obtain ⟨m, g, hm⟩ := hE p h1 h2
              obtain ⟨m, rfl⟩ : ∃ m9, m = m9 + 1 := ⟨m - 1, by omega⟩
              obtain ⟨⟨p1, p2⟩, p3⟩ := lk_p6 F h1 h2 c1
              rw [hx42]
              have y1 := z1 p p1 p2
              have y3 := z3 p p1 p2
              have y9 := z9 p p1 p2
              rw [y1] at y3 y9 c16
              exact ⟨m, g.trans (lk_36 p3 ((z2 p p1 p2).symm.trans c14) c16 (y3.symm.trans c24) y9), by rw [e1]; omega⟩

theorem Co_clear_q6 {C : zC} {n0 : Nat} {a0 : Nat} {κ : zS} {Q : zS → Prop} (W : zW C n0 κ) (Ta0 : zT κ a0 = 5)  (hp : coI κ a0) (h : ∀ (κ' : zS), ((zF (objF a0) κ κ' ∧ coI κ' a0 ∧ zR κ' = zR κ ∧ (zI κ' coVars a0).toInt = 0 ∧ (zI κ' coArrays a0).toInt = 0 ∧ (zI κ' coCells a0).toInt = 0 ∧ (zI κ' coFunctions a0).toInt = 0 ∧ (zI κ' coStatements a0).toInt = 0 ∧ (zI κ' coLength a0).toInt = 0 ∧ (zI κ' coMain a0).toInt = -1) ∧ (∀ g, g < 10 → zA κ' (zR κ' coFirstStatements a0) g = -1)) → Q κ') : zRun C 1 mCo_clear [.ref a0] κ (oV Q noX) := by
  refine Co_clear_run W Ta0 ?_
  replace W := W.lo (Nat.le_trans W.1.2.1 W.1.2.2) (Nat.le_refl (zn κ))
  unfold w_Co_clear_0
  intro κ_1 hκ_1
  intro W2
  intro κ_3 hκ_3
  intro W4
  intro κ_5 hκ_5
  intro W6
  intro κ_7 hκ_7
  intro W8
  intro κ_9 hκ_9
  intro W10
  intro κ_11 hκ_11
  intro W12
  intro κ_13 hκ_13
  intro W14
  intro T15
  refine Ar_fill_c W14 T15  (fun κ_16 q17 => ?_)
  intro W18
  intro M19
  refine h _ ?_
  · refine and_5 ?_ (fun o9 => ?_)  -- q1
    · have f1 : zF (objF a0) κ κ_1 := by rw [hκ_1]; exact zF_ui rfl
      have f3 : zF (objF a0) κ_1 κ_3 := by rw [hκ_3]; exact zF_ui rfl
      have f5 : zF (objF a0) κ_3 κ_5 := by rw [hκ_5]; exact zF_ui rfl
      have f7 : zF (objF a0) κ_5 κ_7 := by rw [hκ_7]; exact zF_ui rfl
      have f9 : zF (objF a0) κ_7 κ_9 := by rw [hκ_9]; exact zF_ui rfl
      have f11 : zF (objF a0) κ_9 κ_11 := by rw [hκ_11]; exact zF_ui rfl
      have f13 : zF (objF a0) κ_11 κ_13 := by rw [hκ_13]; exact zF_ui rfl
      have F := (((((f1.tr f3).tr f5).tr f7).tr f9).tr f11).tr f13
      have T13 := F.t Ta0 (by decide)
      have F16 : zF (objF a0) κ_13 κ_16 := by rw [q17]; exact zF_uf (by rw [coRf_o W14 T13 (by decide)])
      have r13 : zR κ_13 = zR κ := by rw [hκ_13, hκ_11, hκ_9, hκ_7, hκ_5, hκ_3, hκ_1]; rfl
      have n13 : zN κ_13 = zN κ := by rw [hκ_13, hκ_11, hκ_9, hκ_7, hκ_5, hκ_3, hκ_1]; rfl
      have a13 : zA κ_13 = zA κ := by rw [hκ_13, hκ_11, hκ_9, hκ_7, hκ_5, hκ_3, hκ_1]; rfl
      have i16 : zI κ_16 = zI κ_13 := by rw [q17]; rfl
      have r16 : zR κ_16 = zR κ := by rw [q17]; exact r13
      have n16 : zN κ_16 = zN κ := by rw [q17]; exact n13
      have v1 : zI κ_13 coVars a0 = 0 := by
        have e : zI κ_13 coVars a0 = zI κ_1 coVars a0 := by rw [hκ_13, hκ_11, hκ_9, hκ_7, hκ_5, hκ_3]; rfl
        rw [e, hκ_1]; exact if_pos ⟨rfl, rfl⟩
      have v3 : zI κ_13 coArrays a0 = 0 := by
        have e : zI κ_13 coArrays a0 = zI κ_3 coArrays a0 := by rw [hκ_13, hκ_11, hκ_9, hκ_7, hκ_5]; rfl
        rw [e, hκ_3]; exact if_pos ⟨rfl, rfl⟩
      have v5 : zI κ_13 coCells a0 = 0 := by
        have e : zI κ_13 coCells a0 = zI κ_5 coCells a0 := by rw [hκ_13, hκ_11, hκ_9, hκ_7]; rfl
        rw [e, hκ_5]; exact if_pos ⟨rfl, rfl⟩
      have v7 : zI κ_13 coFunctions a0 = 0 := by
        have e : zI κ_13 coFunctions a0 = zI κ_7 coFunctions a0 := by rw [hκ_13, hκ_11, hκ_9]; rfl
        rw [e, hκ_7]; exact if_pos ⟨rfl, rfl⟩
      have v9 : zI κ_13 coStatements a0 = 0 := by
        have e : zI κ_13 coStatements a0 = zI κ_9 coStatements a0 := by rw [hκ_13, hκ_11]; rfl
        rw [e, hκ_9]; exact if_pos ⟨rfl, rfl⟩
      have v11 : zI κ_13 coMain a0 = (-1) := by
        have e : zI κ_13 coMain a0 = zI κ_11 coMain a0 := by rw [hκ_13]; rfl
        rw [e, hκ_11]; exact if_pos ⟨rfl, rfl⟩
      have v13 : zI κ_13 coLength a0 = 0 := by
        rw [hκ_13]; exact if_pos ⟨rfl, rfl⟩
      have a16 : ∀ f, f = coArrayBases ∨ f = coArraySizes → zA κ_16 (zR κ f a0) = zA κ (zR κ f a0) := fun f hf => by
        rw [q17, r13]
        refine (if_neg ?_).trans (by show zA κ_13 _ = _; rw [a13])
        rcases hf with rfl | rfl
        · exact coRf_n W Ta0 (by decide) (by decide) (by decide)
        · exact coRf_n W Ta0 (by decide) (by decide) (by decide)
      rw [i16, v1, v3, v5, v7, v9, v11, v13]
      refine ⟨F.tr F16, ?_, r16, rfl, rfl, rfl, rfl, rfl, rfl, rfl⟩
      unfold coI at *
      rw [r16, n16, i16, v1, v3, v5, v7, v9, v13, a16 coArrayBases (Or.inl rfl), a16 coArraySizes (Or.inr rfl)]
      obtain ⟨g1, g2, g3, g4, g5, g6, g7, g8, g9⟩ := hp
      exact ⟨g1, by decide, by decide, by decide, by decide, by decide, ⟨by show (11 : Int) * 0 ≤ _; omega, g7.2⟩, ⟨by decide, by show (0 : Int) ≤ _; omega, g8.2.2⟩, g9⟩
    · intro g hg
      have z3 : zA κ_16 (zR κ_13 coFirstStatements a0) = fun k => if 0 ≤ k ∧ k < zN κ_13 (zR κ_13 coFirstStatements a0) then (-1) else zA κ_13 (zR κ_13 coFirstStatements a0) k := by rw [q17]; exact if_pos rfl
      have r : zR κ_16 = zR κ_13 := by rw [q17]; rfl
      rw [r, z3]
      refine if_pos ⟨Nat.zero_le _, ?_⟩
      rw [hκ_13, hκ_11, hκ_9, hκ_7, hκ_5, hκ_3, hκ_1]
      show g < zN κ (zR κ coFirstStatements a0)
      rw [hp.1.2.2.2.1]
      exact hg

end
section
set_option maxHeartbeats 1600000
/-! the class reads a text: its code told as well -/
theorem Pa_read_q6 {C : zC} {n0 : Nat} {a0 : Nat} {a1 : Nat} {κ : zS} {Q : zS → Prop} {X : zXp} (W : zW C n0 κ) (Ta0 : zT κ a0 = 10) (Ta1 : zT κ a1 = 5) (hx5 : tx5 C) (hp : paZ κ a0 a1 ∧ (zI κ taLength (zR κ paTape a0)).toInt ≤ 10240) (h : ∀ (κ' : zS), ((rdF κ κ' a0 a1 ∧ paI κ' a0) ∧ (∃ e0, (ini5 (up5 κ (zR κ paTape a0)) e0 ∧ ∀ g, g < 10 → e0.2.1 503 g = -1) ∧ ∃ e1, rd5 e0 = .inl (e1, ()) ∧ f5_Co_linkFollows_2 fu5 0 e1 = .inl (ab5 κ' a0, ()) ∧ zI κ' coStatements (zR κ' paCode a0) = e1.1 coStatements)) → Q κ') (hx : ∀ (cls : String) (κ' : zS), ((rdX5 κ cls κ' a0 a1) ∧ ∃ e0, (ini5 (up5 κ (zR κ paTape a0)) e0 ∧ ∀ g, g < 10 → e0.2.1 503 g = -1) ∧ rd5 e0 = .inr (zI κ' paFaultCode a0, zI κ' paFaultPlace a0)) → X cls κ') : zRun C 14 mPa_read [.ref a0, .ref a1] κ (oV Q X) := by
  refine Pa_read_run W Ta0 Ta1 ?_
  replace W := W.lo (Nat.le_trans W.1.2.1 W.1.2.2) (Nat.le_refl (zn κ))
  unfold w_Pa_read_0
  have hj122 : ∀ (l0 : Nat) (τ : zS), zW C (zn κ) τ → zT τ l0 = 10 → ((a0 = l0 ∧ rdJ κ τ a0 a1) ∧ (∃ e0, (ini5 (up5 κ (zR κ paTape a0)) e0 ∧ ∀ g, g < 10 → e0.2.1 503 g = -1) ∧ rd5 e0 = f5_Pa_read_122 (ab5 τ a0))) → w_Pa_read_122 C (zn κ) Q X  l0 τ := by
    rintro _ τ122 W122 T122_0 ⟨⟨rfl, j122⟩, e0, hi0, hE⟩
    unfold w_Pa_read_122
    intro T1
    refine Pa_findCalled_q5 W122 T1 hx5 ?_ (fun κ_2 q3 => ?_) (fun cls9 κ9 q9 => hx _ _ ?_)
    · exact j122.2  -- p1
    rotate_left
    obtain ⟨q9, z9⟩ := q9
    · refine and_5 ?_ (fun o9 => ⟨e0, hi0, hE.trans z9⟩)  -- x2
      exact ⟨rd_X W122 T122_0 j122 q9.1, q9.2⟩
    obtain ⟨q3, z9⟩ := q3
    replace hE := hE.trans z9
    intro W4
    intro M5
    intro T6
    have J := rd_S W122 T122_0 j122 q3
    have T2 := q3.1.1.t T122_0 (by decide)
    refine Co_linkFollows_q6 W4 T6  ?_ (fun κ_7 q8 => ?_)
    · exact J.2.1.2.1  -- p3
    obtain ⟨q8, zl⟩ := q8
    intro W9
    intro M10
    refine h _ ?_
    · refine and_5 ?_ (fun o9 => ?_)  -- q4
      · have N := (paN_c W4 T2 J.2.1 (q8.1.mono (fun _ _ z => z.2)) q8.2.1 (by rw [q8.2.2])).1
        exact ⟨rd_F W4 T2 J.1 N.1, N.2.1⟩
      · have N := (paN_c W4 T2 J.2.1 (q8.1.mono (fun _ _ z => z.2)) q8.2.1 (by rw [q8.2.2])).1
        refine ⟨e0, hi0, ab5 κ_2 a0, hE, zl a0 T2 rfl, ?_⟩
        rw [N.1.2.2, q8.2.2]
        rfl
  intro T11
  refine Ta_split_q5 W T11 hx5 ?_ (fun κ_12 q13 => ?_)
  · exact ⟨hp.1.1.1, hp.1.1.2, hp.2⟩  -- p5
  obtain ⟨q13, z9⟩ := q13
  have z7 := z9
  intro W14
  intro M15
  intro κ_16 hκ_16
  skip
  intro W17
  intro T18
  refine Co_clear_q6 W17 T18  ?_ (fun κ_19 q20 => ?_)
  · exact rd_c W W14 Ta0 Ta1 hp.1.2.1 q13.1 hκ_16  -- p6
  obtain ⟨q20, zc⟩ := q20
  intro W21
  intro M22
  intro κ_23 hκ_23
  skip
  intro W24
  intro κ_25 hκ_25
  skip
  intro W26
  intro κ_27 hκ_27
  skip
  intro W28
  intro κ_29 hκ_29
  skip
  intro W30
  intro κ_31 hκ_31
  skip
  intro W32
  intro T33
  obtain ⟨R1, R2, R3, R4, R5⟩ := rd_0 W W14 W17 W21 W28 W30 Ta0 Ta1 hp.1 q13 hκ_16 q20 hκ_23 hκ_25 hκ_27 hκ_29 hκ_31
  refine Pa_take_q5 W32 T33  ?_ (fun κ_34 q35 => ?_)
  · exact ⟨R2, by omega, by omega⟩  -- p7
  obtain ⟨q35, z9⟩ := q35
  skip
  intro W36
  intro M37
  unfold w_Pa_read_50
  refine ⟨fun n l0 l2 τ => n = (10244 - l2.toInt).toNat ∧ ((a0 = l0 ∧ rdJ κ τ a0 a1 ∧ 0 ≤ l2.toInt) ∧ ∃ e0, (ini5 (up5 κ (zR κ paTape a0)) e0 ∧ ∀ g, g < 10 → e0.2.1 503 g = -1) ∧ ∃ m5, n < m5 ∧ rd5 e0 = f5_Pa_read_50 m5 l2 (ab5 τ a0)), ⟨_, rfl, ?_⟩, ?_⟩
  · refine and_5 ?_ (fun o9 => ?_)  -- j8
    · obtain ⟨I, F, c, t⟩ := paO_p W32 T33 q35.1 R2
      refine ⟨rfl, ⟨rd_F W32 T33 R1 F, I, q35.2.1, ?_⟩, by decide⟩
      unfold psi
      rw [q35.2.2, R3, F.2.2, c, R5]
      decide
    · refine ⟨ab5 κ_31 a0, ⟨rd_i5 W W14 W17 Ta0 Ta1 q13.1 z7 hκ_16 q20 hκ_23 hκ_25 hκ_27 hκ_29 hκ_31 R2.2.2.1, fun g hg => ?_⟩, fu5, by unfold fu5; omega, ?_⟩
      · show zA κ_31 (zR κ_31 coFirstStatements (zR κ_31 paCode a0)) g = -1
        rw [hκ_31, hκ_29, hκ_27, hκ_25, hκ_23]
        show zA κ_19 (zR κ_19 coFirstStatements (zR κ_19 paCode a0)) g = -1
        rw [show zR κ_19 paCode a0 = zR κ_16 paCode a0 by rw [q20.2.2.1]]
        exact zc g hg
      · unfold rd5
        rw [z9]
        rfl
  rintro n50 _ x50_2 κ50 W50 T50_0 ⟨hn50, ⟨rfl, i50⟩, e0, hi0, m50, hm50, hE⟩
  obtain ⟨m50, rfl⟩ : ∃ m9, m50 = m9 + 1 := ⟨m50 - 1, by omega⟩
  have hj78 : ∀ (l0 : Nat) (l2 : Int32) (τ : zS), zW C (zn κ) τ → zT τ l0 = 10 → ((a0 = l0 ∧ rdJ κ τ a0 a1 ∧ l2 = x50_2 ∧ l2.toInt ≤ 10242) ∧ (∃ e0, (ini5 (up5 κ (zR κ paTape a0)) e0 ∧ ∀ g, g < 10 → e0.2.1 503 g = -1) ∧ rd5 e0 = f5_Pa_read_78 (f5_Pa_read_50 m50) l2 (ab5 τ a0))) → w_Pa_read_78 C (zn κ) Q X (fun (l0' : Nat) (l2' : Int32) (τ : zS) => ∃ k < n50, (fun (n : Nat) (l0 : Nat) (l2 : Int32) (τ : zS) => n = (10244 - l2.toInt).toNat ∧ ((a0 = l0 ∧ rdJ κ τ a0 a1 ∧ 0 ≤ l2.toInt) ∧ ∃ e0, (ini5 (up5 κ (zR κ paTape a0)) e0 ∧ ∀ g, g < 10 → e0.2.1 503 g = -1) ∧ ∃ m5, n < m5 ∧ rd5 e0 = f5_Pa_read_50 m5 l2 (ab5 τ a0))) k l0' l2' τ) l0 l2 τ := by
    clear hE hi0
    rintro _ y78_2 τ78 W78 T78_0 ⟨⟨rfl, j78⟩, e0, hi0, hE⟩
    unfold w_Pa_read_78
    have e3 := j78.2.1
    have l3 := j78.2.2
    have l0 := i50.2
    have e1 : (y78_2 + 1).toInt = y78_2.toInt + 1 := by rw [add_i (by rw [t1i, e3]; omega) (by rw [t1i]; omega), t1i]
    refine ⟨fun c38 => ?_, fun c38 => ?_⟩
    · skip
      replace hE := rb_f5 hE c38
      refine ⟨fun c39 => ?_, fun c39 => ?_⟩
      · skip
        replace hE := rb_f5 hE c39
        intro T40
        refine Pa_addStatement_q5 W78 T40  ?_ (fun r41 κ_42 q43 => ?_) (fun cls9 κ9 q9 => hx _ _ ?_)
        · exact j78.1.2  -- p9
        rotate_left
        obtain ⟨q9, z9⟩ := q9
        · refine and_5 ?_ (fun o9 => ⟨e0, hi0, rb_x5 hE z9⟩)  -- x10
          exact ⟨rd_X W78 T78_0 j78.1 q9.1, q9.2⟩
        obtain ⟨q43, z9⟩ := q43
        replace hE := rb_i5 hE z9
        intro W44
        intro M45
        intro T46
        have J2 := rd_S W78 T78_0 j78.1 q43.1
        refine Pa_statement_q5 W44 T46  ?_ (fun κ_47 q48 => ?_) (fun cls9 κ9 q9 => hx _ _ ?_)
        · exact ⟨J2.2, by rw [q43.2.1]; exact q43.2.2⟩  -- p11
        rotate_left
        obtain ⟨q9, z9⟩ := q9
        · refine and_5 ?_ (fun o9 => ⟨e0, hi0, rb_x5 hE z9⟩)  -- x12
          exact ⟨rd_X W44 T46 J2 q9.1, q9.2⟩
        obtain ⟨q48, z9⟩ := q48
        replace hE := rb_i5 hE z9
        intro W49
        intro M50
        intro x51 hx51
        replace hE := rb_p5 hE hx51
        refine lp_b5 ?_ (fun d9 => ⟨rfl, ?_⟩)
        · rw [hn50, hx51, e1, e3]; rw [e3] at l3; omega  -- d13
        · refine and_5 ?_ (fun o9 => ⟨e0, hi0, ⟨m50, by omega, hE⟩⟩)  -- i14
          exact ⟨rfl, rd_S W44 T46 J2 q48, by rw [hx51, e1, e3]; omega⟩
      · skip
        replace hE := rb_t5 hE c39
        intro T52
        refine Pa_closeBlock_q5 W78 T52  ?_ (fun κ_53 q54 => ?_) (fun cls9 κ9 q9 => hx _ _ ?_)
        · exact j78.1.2  -- p15
        rotate_left
        obtain ⟨q9, z9⟩ := q9
        · refine and_5 ?_ (fun o9 => ⟨e0, hi0, rb_x5 hE z9⟩)  -- x16
          exact ⟨rd_X W78 T78_0 j78.1 q9.1, q9.2⟩
        obtain ⟨q54, z9⟩ := q54
        replace hE := rb_i5 hE z9
        intro W55
        intro M56
        intro x57 hx57
        replace hE := rb_p5 hE hx57
        refine lp_b5 ?_ (fun d9 => ⟨rfl, ?_⟩)
        · rw [hn50, hx57, e1, e3]; rw [e3] at l3; omega  -- d17
        · refine and_5 ?_ (fun o9 => ⟨e0, hi0, ⟨m50, by omega, hE⟩⟩)  -- i18
          exact ⟨rfl, rd_S W78 T78_0 j78.1 q54, by rw [hx57, e1, e3]; omega⟩
    · skip
      replace hE := rb_t5 hE c38
      intro T58
      refine Pa_item_q5 W78 T58  ?_ (fun κ_59 q60 => ?_) (fun cls9 κ9 q9 => hx _ _ ?_)
      · exact j78.1.2  -- p19
      rotate_left
      obtain ⟨q9, z9⟩ := q9
      · refine and_5 ?_ (fun o9 => ⟨e0, hi0, rb_x5 hE z9⟩)  -- x20
        exact ⟨rd_X W78 T78_0 j78.1 q9.1, q9.2⟩
      obtain ⟨q60, z9⟩ := q60
      replace hE := rb_i5 hE z9
      intro W61
      intro M62
      intro x63 hx63
      replace hE := rb_p5 hE hx63
      refine lp_b5 ?_ (fun d9 => ⟨rfl, ?_⟩)
      · rw [hn50, hx63, e1, e3]; rw [e3] at l3; omega  -- d21
      · refine and_5 ?_ (fun o9 => ⟨e0, hi0, ⟨m50, by omega, hE⟩⟩)  -- i22
        exact ⟨rfl, rd_S W78 T78_0 j78.1 q60, by rw [hx63, e1, e3]; omega⟩
  refine ⟨fun c64 => ?_, fun c64 => ?_⟩
  · skip
    replace hE := rb_t5 hE c64
    refine hj122 _ _ W50 ?_ ?_
    · exact T50_0  -- t23
    · refine and_5 ?_ (fun o9 => ⟨e0, hi0, hE⟩)  -- k24
      exact ⟨rfl, i50.1⟩
  · skip
    replace hE := rb_f5 hE c64
    have l2 : x50_2.toInt ≤ 10242 := by
      rw [lti] at c64
      have tb := i50.1.2.1.1.2.2
      omega
    refine ⟨fun c65 => ?_, fun c65 => ?_⟩
    · skip
      replace hE := rb_f5 hE c65
      refine hj78 _ _ _ W50 ?_ ?_
      · exact T50_0  -- t25
      · refine and_5 ?_ (fun o9 => ⟨e0, hi0, hE⟩)  -- k26
        exact ⟨rfl, i50.1, rfl, l2⟩
    · skip
      replace hE := rb_t5 hE c65
      refine ⟨fun c66 => ?_, fun c66 => ?_⟩
      · skip
        replace hE := rb_t5 hE c66
        refine hj122 _ _ W50 ?_ ?_
        · exact T50_0  -- t27
        · refine and_5 ?_ (fun o9 => ⟨e0, hi0, hE⟩)  -- k28
          exact ⟨rfl, i50.1⟩
      · skip
        replace hE := rb_f5 hE c66
        refine hj78 _ _ _ W50 ?_ ?_
        · exact T50_0  -- t29
        · refine and_5 ?_ (fun o9 => ⟨e0, hi0, hE⟩)  -- k30
          exact ⟨rfl, i50.1, rfl, l2⟩

end
section
set_option maxHeartbeats 1600000
/-! the code of both sides behind a program, as a machine will see it -/
theorem ci_i6 : (∀ g, g ∈ ci6 → g ∈ in5) ∧ (∀ g, g ∈ in5 → g < 600 → g ∈ ci6) ∧ (∀ g, g ∈ mi6 → ¬ g < 600) ∧ (∀ g, g ∈ cr6 → g ∈ fx5) ∧ (∀ g, g ∈ fx5 → g < 600 → g ∈ cr6) ∧ (∀ g, g ∈ mr6 → ¬ g < 600) := by decide
theorem ab_am6 {κ : zS} {p m c : Nat} (hc : zR κ paCode p = c) : (∀ g, g < 600 → (am6 (ur κ maCode m c) m).1 g = (ab5 κ p).1 g) ∧ (∀ g, g < 600 → (am6 (ur κ maCode m c) m).2.1 g = (ab5 κ p).2.1 g) := by
  obtain ⟨l1, l2, l3, l4, l5, l6⟩ := ci_i6
  have rc : zR (ur κ maCode m c) maCode m = c := if_pos ⟨rfl, rfl⟩
  have ro : ∀ f b, f < 600 → zR (ur κ maCode m c) f b = zR κ f b := fun f b q => if_neg (fun y => absurd q (by rw [y.1]; decide))
  have ow : ∀ g, g < 600 → ow5 κ p g = c := fun g q => by
    unfold ow5
    rw [if_pos q, hc]
  have ii : ∀ g b, zI (ur κ maCode m c) g b = zI κ g b := fun _ _ => rfl
  have aa : ∀ x, zA (ur κ maCode m c) x = zA κ x := fun _ => rfl
  have ai : ∀ g, g ∈ in5 → g < 600 → ai5 κ p g = zI κ g c := fun g q1 q2 => by
    unfold ai5
    rw [if_pos q1, ow g q2]
  refine ⟨fun g hg => ?_, fun g hg => ?_⟩
  · show (if g ∈ ci6 then zI (ur κ maCode m c) g (zR (ur κ maCode m c) maCode m) else if g ∈ mi6 then zI (ur κ maCode m c) g m else 0) = ai5 κ p g
    by_cases q : g ∈ ci6
    · rw [if_pos q, rc, ii, ai g (l1 g q) hg]
    · rw [if_neg q, if_neg (fun y => l3 g y hg)]
      unfold ai5
      rw [if_neg (fun y => q (l2 g y hg))]
  · show (if g = 506 ∨ g = 507 ∨ g = 508 then (fun j => if j < mb6 (ur κ maCode m c) (zR (ur κ maCode m c) maCode m) g then zA (ur κ maCode m c) (zR (ur κ maCode m c) g (zR (ur κ maCode m c) maCode m)) j else 0) else if g ∈ cr6 then zA (ur κ maCode m c) (zR (ur κ maCode m c) g (zR (ur κ maCode m c) maCode m)) else if g ∈ mr6 then zA (ur κ maCode m c) (zR (ur κ maCode m c) g m) else fun _ => 0) = (if g = 1015 ∨ g = 506 ∨ g = 507 ∨ g = 508 then (fun j => if j < bd5 (ai5 κ p) g then zA κ (zR κ g (ow5 κ p g)) j else 0) else if g ∈ fx5 then zA κ (zR κ g (ow5 κ p g)) else fun _ => 0)
    rw [rc, ro g c hg, ow g hg]
    by_cases q : g = 506 ∨ g = 507 ∨ g = 508
    · rw [if_pos q, if_pos (Or.inr q)]
      have e : mb6 (ur κ maCode m c) c g = bd5 (ai5 κ p) g := by
        unfold mb6 bd5
        rw [if_neg (show ¬ g = 1015 by omega), ai 513 (by decide) (by decide), ai 515 (by decide) (by decide), ii, ii]
      rw [e]
      rfl
    · rw [if_neg q, if_neg (show ¬ (g = 1015 ∨ g = 506 ∨ g = 507 ∨ g = 508) by omega)]
      by_cases q2 : g ∈ cr6
      · rw [if_pos q2, if_pos (l4 g q2)]; rfl
      · rw [if_neg q2, if_neg (fun y => l6 g y hg), if_neg (fun y => q2 (l5 g y hg))]
section
variable {T : T5} {X : X5} {Bk N nv na f s : Nat} {Z : Int32}
theorem FN_x6 {e e' : E5} {σ σ' : rS} (h : FN6 T Bk N nv na f s e σ) (k : ((∀ g, g < 600 → e'.1 g = e.1 g) ∧ (∀ g, g < 600 → e'.2.1 g = e.2.1 g) ∧ True) ∧ (∀ g, g = 11 ∨ g = 15 ∨ g = 16 ∨ g = 17 ∨ g = 18 ∨ g = 19 ∨ g = 40 → σ'.1 g = σ.1 g) ∧ (∀ g, g ≤ 45 → σ'.2.2.1 g = σ.2.2.1 g) ∧ σ'.2.2.2 = σ.2.2.2) : FN6 T Bk N nv na f s e' σ' := by
  obtain ⟨⟨c1, c2, _⟩, d1, d2, _⟩ := k
  obtain ⟨⟨a1, a2, a3, a4, i, i1, i2, i3, i4⟩, ⟨b0, b1, b2, b3, b4⟩, p3, p4, p5, p6, ⟨q1, q2, q3⟩, ⟨g1, g2, g3, g4, g5⟩, R, r1, r2⟩ := h
  have hm : cm6 e e' := cm_e6 (c1 515 (by decide)) (c2 507 (by decide)) (c2 508 (by decide))
  refine ⟨⟨by rw [c1 509 (by decide)]; exact a1, by rw [c1 510 (by decide)]; exact a2, by rw [c1 512 (by decide)]; exact a3, by rw [c1 513 (by decide)]; exact a4, i, i1, by rw [c1 514 (by decide)]; exact i2, by rw [d1 40 (by decide)]; exact i3, by rw [c2 504 (by decide)]; exact i4⟩, ⟨by rw [d1 11 (by decide)]; exact b0, by rw [d1 15 (by decide)]; exact b1, by rw [d1 16 (by decide)]; exact b2, by rw [d1 18 (by decide)]; exact b3, by rw [d1 19 (by decide)]; exact b4⟩, fun j hj => ?_, fun j hj => ?_, fun j hj k5 => ?_, fun k hk => ?_, ⟨fun g hg => ?_, fun g hg => ?_, fun g x y => ?_⟩, ⟨fun k hk => ?_, fun k hk => ?_, ?_, ?_, ?_⟩, R, cd_e6 r1 (c1 515 (by decide)) (c2 507 (by decide)) (c2 508 (by decide)), r2⟩
  · obtain ⟨z, z1, z2⟩ := p3 j hj
    exact ⟨z, z1, st_m6 z2 hm (Nat.le_refl _) (Nat.le_refl _) (fun c _ => by rw [c2 506 (by decide)]) (by rw [d2 30 (by decide)]) (by rw [d2 31 (by decide)]) (by rw [d2 32 (by decide)]) (fun t _ _ _ => by rw [d2 39 (by decide)])⟩
  · have l := p4 j hj
    unfold lf6 at l ⊢
    rw [c2 506 (by decide), d2 33 (by decide), d2 34 (by decide), d2 37 (by decide), d2 38 (by decide)]
    exact l
  · rw [d2 30 (by decide)] at k5
    have l := p5 j hj k5
    unfold cl6 at l ⊢
    rw [c2 506 (by decide), c2 504 (by decide), d2 32 (by decide), d2 39 (by decide)]
    exact l
  · rw [c2 504 (by decide), d2 26 (by decide)]; exact p6 k hk
  · rw [c2 505 (by decide), d2 27 (by decide)]; exact q1 g hg
  · rw [c2 503 (by decide), d2 29 (by decide)]; exact q2 g hg
  · rw [c2 503 (by decide)]; exact q3 g x y
  · rw [c2 500 (by decide), d2 21 (by decide)]; exact g1 k hk
  · rw [c2 501 (by decide), c2 502 (by decide), d2 23 (by decide), d2 24 (by decide), c1 511 (by decide)]; exact g2 k hk
  · rw [c1 511 (by decide), d1 17 (by decide)]; exact g3
  · rw [c1 511 (by decide)]; exact g4
  · rw [c1 511 (by decide)]; exact g5
/-- code that was read, for a machine that will begin with it -/
theorem CR_p6 {κ : zS} {p m c : Nat} {σ : rS} (H : TR5 T X Bk N Z) (hE : T.2.1 (N - 1) = 142) (F : FN6 T Bk N nv na f s (ab5 κ p) σ) (hs : sx5 σ = X) (hp : ∀ k, k < f → ∃ n, n ≤ 4 ∧ σ.2.2.1 26 k = Int32.ofNat n) (hc : zR κ paCode p = c) (h5 : zN κ (zR κ 705 m) = 256) (h7 : zN κ (zR κ 707 m) = 16) (h1 : zN κ (zR κ 701 m) = 142) : ∃ w, CR6 nv s w (am6 (ur κ maCode m c) m) σ := by
  obtain ⟨a1, a2⟩ := ab_am6 (m := m) hc
  have ro : ∀ f b, f ≠ maCode → zR (ur κ maCode m c) f b = zR κ f b := fun f b q => if_neg (fun y => q y.1)
  obtain ⟨⟨⟨_, v1⟩, ⟨_, v2⟩, _⟩, _, _, _, _, _, _, ⟨_, _, _, g4, g5⟩, _⟩ := id F
  have e5 := a1 511 (by decide)
  have b0 : σ.1 11 = 0 := F.2.1.1
  refine ⟨nv + ((ab5 κ p).1 511).toInt.toNat, T, X, Bk, N, Z, na, f, ⟨H, hE⟩, FN_x6 F ⟨⟨a1, a2, trivial⟩, fun g q => by
    rw [si1]
    by_cases c : g = 11
    · rw [if_pos c, c]; exact b0.symm
    · rw [if_neg c], fun _ _ => rfl, rfl⟩, hs, hp, ⟨by omega, by omega, ?_⟩, ?_, ?_, ?_⟩
  · rw [e5]
    omega
  · rw [(am_rw6 (f := 705) (by decide)).2, ro _ _ (by decide)]; exact h5
  · rw [(am_rw6 (f := 707) (by decide)).2, ro _ _ (by decide)]; exact h7
  · rw [(am_rw6 (f := 701) (by decide)).2, ro _ _ (by decide)]; exact h1
end
/-- counts of names are at most 4 -/
theorem n26_6 {σ : rS} (h : eB (σ.2.2.1 26) 0 5) : ∀ k, ∃ n, n ≤ 4 ∧ σ.2.2.1 26 k = Int32.ofNat n := fun k => by
  obtain ⟨h1, h2⟩ := h k
  rw [lei, t0i] at h1
  rw [lti, show (5 : Int32).toInt = 5 from rfl] at h2
  exact ⟨((σ.2.2.1 26 k).toInt).toNat, by omega, Int32.toInt_inj.mp (by rw [ofn_i (by omega)]; omega)⟩

end
