set_option maxHeartbeats 1600000
/-! calls looked at -/
def f5_Pa_findCalled_89 (B2 : Int32 → E5 → R5 Unit) (a1 a3 : Int32) (e : E5) : R5 Unit := rdB5 (f5_Co_setColumn (a1) ((5 : Int32)) (a3) e) (fun e1 _ => pb5 (a1 + (1 : Int32)) (fun v1_4 => (B2 (v1_4) e1)))
def f5_Pa_findCalled_82 (B2 : Int32 → E5 → R5 Unit) (a1 a2 a3 : Int32) (e : E5) : R5 Unit := .inr (rv5 ((16 : Int32)) (a2) e)
def f5_Pa_findCalled_166  (e : E5) : R5 Unit := (if (e.1 coMain) = (-1 : Int32) then .inr (rv5 ((17 : Int32)) ((e.1 paAt)) e) else .inl (e, ()))
def f5_Pa_findCalled_107  : Nat → Int32 → E5 → R5 Unit
  | 0, _, _ => .inr (0, 0)
  | m5 + 1, a1, e => (if (e.1 coFunctions) ≤ a1 then (f5_Pa_findCalled_166 e) else (if (10 : Int32) ≤ a1 then (f5_Pa_findCalled_166 e) else pb5 (f5_Ta_isMain (tq5 e) ((e.2.1 paFunctionNames (a1).toNatClampNeg))) (fun r2 => (if r2 = (0 : Int32) then pb5 (a1 + (1 : Int32)) (fun v1_4 => (f5_Pa_findCalled_107 m5 (v1_4) e)) else (if (e.2.1 coNameCounts (a1).toNatClampNeg) = (0 : Int32) then rdB5 (stI5 coMain (a1) e) (fun e8 _ => pb5 (a1 + (1 : Int32)) (fun v1_9 => (f5_Pa_findCalled_107 m5 (v1_9) e8))) else pb5 (a1 + (1 : Int32)) (fun v1_7 => (f5_Pa_findCalled_107 m5 (v1_7) e)))))))
def f5_Pa_findCalled_2  : Nat → Int32 → E5 → R5 Unit
  | 0, _, _ => .inr (0, 0)
  | m5 + 1, a1, e => (if (e.1 coStatements) ≤ a1 then (f5_Pa_findCalled_107 fu5 ((0 : Int32)) e) else pb5 (cl5 (a1) ((0 : Int32)) e) (fun r2 => (if r2 = (5 : Int32) then pb5 (cl5 (a1) ((5 : Int32)) e) (fun r8 => pb5 (f5_Ta_findName (tq5 e) (e.2.1 paFunctionNames) (e.2.2 paFunctionNames) (e.1 coFunctions) (r8)) (fun r12 => (if r12 = (-1 : Int32) then (f5_Pa_findCalled_82 (f5_Pa_findCalled_2 m5) (a1) (r8) (r12) e) else pb5 (cl5 (a1) ((4 : Int32)) e) (fun r17 => (if (e.2.1 coNameCounts (r12).toNatClampNeg) = r17 then (f5_Pa_findCalled_89 (f5_Pa_findCalled_2 m5) (a1) (r12) e) else (f5_Pa_findCalled_82 (f5_Pa_findCalled_2 m5) (a1) (r8) (r12) e)))))) else pb5 (a1 + (1 : Int32)) (fun v1_4 => (f5_Pa_findCalled_2 m5 (v1_4) e)))))
def f5_Pa_findCalled  (e : E5) : R5 Unit := (f5_Pa_findCalled_2 fu5 ((0 : Int32)) e)

theorem Pa_findCalled_q5 {C : zC} {n0 : Nat} {a0 : Nat} {κ : zS} {Q : zS → Prop} {X : zXp} (W : zW C n0 κ) (Ta0 : zT κ a0 = 10) (hx5 : tx5 C) (hp : paA κ a0) (h : ∀ (κ' : zS), ((paS κ κ' a0) ∧ f5_Pa_findCalled (ab5 κ a0) = .inl (ab5 κ' a0, ())) → Q κ') (hx : ∀ (cls : String) (κ' : zS), ((paX5 κ cls κ' a0) ∧ f5_Pa_findCalled (ab5 κ a0) = .inr (zI κ' paFaultCode a0, zI κ' paFaultPlace a0)) → X cls κ') : zRun C 12 mPa_findCalled [.ref a0] κ (oV Q X) := by
  refine Pa_findCalled_run W Ta0 ?_
  replace W := W.lo (Nat.le_trans W.1.2.1 W.1.2.2) (Nat.le_refl (zn κ))
  unfold w_Pa_findCalled_0
  have S0 := paS_0 hp
  have hj166 : ∀ (l0 : Nat) (τ : zS), zW C (zn κ) τ → zT τ l0 = 10 → ((a0 = l0 ∧ paS κ τ a0) ∧ f5_Pa_findCalled (ab5 κ a0) = f5_Pa_findCalled_166 (ab5 τ a0)) → w_Pa_findCalled_166 C (zn κ) Q X  l0 τ := by
    rintro _ τ166 W166 T166_0 ⟨⟨rfl, j166⟩, hE⟩
    unfold w_Pa_findCalled_166
    refine ⟨fun c1 => ?_, fun c1 => ?_⟩
    · skip
      replace hE := rb_f5 hE c1
      refine h _ ?_
      · refine and_5 ?_ (fun o9 => hE)  -- q1
        exact j166
    · skip
      replace hE := rb_t5 hE c1
      intro T2
      refine Pa_refuse_q5 (by decide) W166 T2  ?_ (fun κ_3 q4 => False.elim q4) (fun cls9 κ9 q9 => hx _ _ ?_)
      · exact j166.2.1  -- p2
      obtain ⟨q9, z9⟩ := q9
      · refine and_5 ?_ (fun o9 => rb_r5 hE z9)  -- x3
        exact paX5_tr j166.1 q9
  have hE : f5_Pa_findCalled (ab5 κ a0) = f5_Pa_findCalled (ab5 κ a0) := rfl
  unfold w_Pa_findCalled_2
  refine ⟨fun n l0 l1 τ => n = (150 - l1.toInt).toNat ∧ ((a0 = l0 ∧ paS κ τ a0 ∧ 0 ≤ l1.toInt) ∧ ∃ m5, n < m5 ∧ f5_Pa_findCalled (ab5 κ a0) = f5_Pa_findCalled_2 m5 l1 (ab5 τ a0)), ⟨_, rfl, ?_⟩, ?_⟩
  · refine and_5 ?_ (fun o9 => ⟨fu5, by first | (unfold fu5; omega) | decide, hE⟩)  -- j4
    exact ⟨rfl, S0, by decide⟩
  rintro n2 _ x2_1 κ2 W2 T2_0 ⟨hn2, ⟨rfl, i2⟩, m2, hm2, hE⟩
  obtain ⟨m2, rfl⟩ : ∃ m9, m2 = m9 + 1 := ⟨m2 - 1, by omega⟩
  have hj89 : ∀ (l0 : Nat) (l1 : Int32) (l3 : Int32) (τ : zS), zW C (zn κ) τ → zT τ l0 = 10 → ((a0 = l0 ∧ paS κ τ a0 ∧ l1 = x2_1 ∧ l1.toInt < 150) ∧ f5_Pa_findCalled (ab5 κ a0) = f5_Pa_findCalled_89 (f5_Pa_findCalled_2 m2) l1 l3 (ab5 τ a0)) → w_Pa_findCalled_89 C (zn κ) Q X (fun (l0' : Nat) (l1' : Int32) (τ : zS) => ∃ k < n2, (fun (n : Nat) (l0 : Nat) (l1 : Int32) (τ : zS) => n = (150 - l1.toInt).toNat ∧ ((a0 = l0 ∧ paS κ τ a0 ∧ 0 ≤ l1.toInt) ∧ ∃ m5, n < m5 ∧ f5_Pa_findCalled (ab5 κ a0) = f5_Pa_findCalled_2 m5 l1 (ab5 τ a0))) k l0' l1' τ) l0 l1 l3 τ := by
    rintro _ y89_1 y89_3 τ89 W89 T89_0 ⟨⟨rfl, j89⟩, hE⟩
    unfold w_Pa_findCalled_89
    intro T5
    refine Co_setColumn_q5 W89 T5  ?_ (fun κ_6 q7 => ?_)
    · exact ⟨j89.1.2.1.2.1, by decide, by decide⟩  -- p5
    obtain ⟨q7, z9⟩ := q7
    replace hE := rb_i5 hE (z9 a0 (by first | exact Ta0 | exact paS_t j89.1 Ta0 | assumption) (by first | rfl | assumption))
    have S8 := paS_N j89.1 (paN_k W89 (paS_t j89.1 Ta0) j89.1.2.1 q7)
    intro W9
    intro M10
    intro x11 hx11
    replace hE := rb_p5 hE hx11
    refine lp_b5 ?_ (fun d9 => ⟨rfl, ?_⟩)
    · have e3 := j89.2.1
      have l3 := j89.2.2
      have l0 := i2.2
      have e1 : (y89_1 + 1).toInt = y89_1.toInt + 1 := by rw [add_i (by rw [t1i, e3]; omega) (by rw [t1i]; omega), t1i]
      rw [hn2, hx11, e1, e3]; rw [e3] at l3; omega
    · refine and_5 ?_ (fun o9 => ⟨m2, by omega, hE⟩)  -- i7
      have e3 := j89.2.1
      have l3 := j89.2.2
      have l0 := i2.2
      have e1 : (y89_1 + 1).toInt = y89_1.toInt + 1 := by rw [add_i (by rw [t1i, e3]; omega) (by rw [t1i]; omega), t1i]
      exact ⟨rfl, S8, by rw [hx11, e1, e3]; omega⟩
  have hj82 : ∀ (l0 : Nat) (l1 : Int32) (l2 : Int32) (l3 : Int32) (τ : zS), zW C (zn κ) τ → zT τ l0 = 10 → ((a0 = l0 ∧ paS κ τ a0) ∧ f5_Pa_findCalled (ab5 κ a0) = f5_Pa_findCalled_82 (f5_Pa_findCalled_2 m2) l1 l2 l3 (ab5 τ a0)) → w_Pa_findCalled_82 C (zn κ) Q X (fun (l0' : Nat) (l1' : Int32) (τ : zS) => ∃ k < n2, (fun (n : Nat) (l0 : Nat) (l1 : Int32) (τ : zS) => n = (150 - l1.toInt).toNat ∧ ((a0 = l0 ∧ paS κ τ a0 ∧ 0 ≤ l1.toInt) ∧ ∃ m5, n < m5 ∧ f5_Pa_findCalled (ab5 κ a0) = f5_Pa_findCalled_2 m5 l1 (ab5 τ a0))) k l0' l1' τ) l0 l1 l2 l3 τ := by
    rintro _ y82_1 y82_2 y82_3 τ82 W82 T82_0 ⟨⟨rfl, j82⟩, hE⟩
    unfold w_Pa_findCalled_82
    intro T12
    refine Pa_refuse_q5 (by decide) W82 T12  ?_ (fun κ_13 q14 => False.elim q14) (fun cls9 κ9 q9 => hx _ _ ?_)
    · exact j82.2.1  -- p8
    obtain ⟨q9, z9⟩ := q9
    · refine and_5 ?_ (fun o9 => rb_r5 hE z9)  -- x9
      exact paX5_tr j82.1 q9
  refine ⟨fun c15 => ?_, fun c15 => ?_⟩
  · skip
    replace hE := rb_t5 hE c15
    unfold w_Pa_findCalled_107
    refine ⟨fun n l0 l1 τ => n = (10 - l1.toInt).toNat ∧ ((a0 = l0 ∧ paS κ τ a0 ∧ 0 ≤ l1.toInt) ∧ ∃ m5, n < m5 ∧ f5_Pa_findCalled (ab5 κ a0) = f5_Pa_findCalled_107 m5 l1 (ab5 τ a0)), ⟨_, rfl, ?_⟩, ?_⟩
    · refine and_5 ?_ (fun o9 => ⟨fu5, by first | (unfold fu5; omega) | decide, hE⟩)  -- j10
      exact ⟨rfl, i2.1, by decide⟩
    rintro n107 _ x107_1 κ107 W107 T107_0 ⟨hn107, ⟨rfl, i107⟩, m107, hm107, hE⟩
    obtain ⟨m107, rfl⟩ : ∃ m9, m107 = m9 + 1 := ⟨m107 - 1, by omega⟩
    refine ⟨fun c16 => ?_, fun c16 => ?_⟩
    · skip
      replace hE := rb_t5 hE c16
      refine hj166 _ _ W107 ?_ ?_
      · exact paS_t i107.1 Ta0  -- t11
      · refine and_5 ?_ (fun o9 => hE)  -- k12
        exact ⟨rfl, i107.1⟩
    · skip
      replace hE := rb_f5 hE c16
      refine ⟨fun c17 => ?_, fun c17 => ?_⟩
      · skip
        replace hE := rb_t5 hE c17
        refine hj166 _ _ W107 ?_ ?_
        · exact paS_t i107.1 Ta0  -- t13
        · refine and_5 ?_ (fun o9 => hE)  -- k14
          exact ⟨rfl, i107.1⟩
      · skip
        replace hE := rb_f5 hE c17
        have e10 : (10 : Int32).toInt = 10 := rfl
        rw [lei, e10] at c17
        have l0 := i107.2
        have e1 : (x107_1 + 1).toInt = x107_1.toInt + 1 := by rw [add_i (by rw [t1i]; omega) (by rw [t1i]; omega), t1i]
        refine ⟨?_, ?_⟩
        · have L := i107.1.2.1.2.2.1.2.2.1
          rw [inb_iff]; omega
        intro T18
        refine Ta_isMain_q5 W107 T18 hx5 ?_ (fun r19 q21 => ?_)
        · exact ⟨i107.1.2.1.1.1, i107.1.2.1.1.2.1⟩  -- p16
        obtain ⟨q21, z9⟩ := q21
        replace hE := rb_p5 hE z9
        intro W22
        intro M23
        refine ⟨fun c24 => ?_, fun c24 => ?_⟩
        · skip
          replace hE := rb_t5 hE c24
          intro x25 hx25
          replace hE := rb_p5 hE hx25
          refine lp_b5 ?_ (fun d9 => ⟨rfl, ?_⟩)
          · rw [hn107, hx25, e1]; omega  -- d17
          · refine and_5 ?_ (fun o9 => ⟨m107, by omega, hE⟩)  -- i18
            exact ⟨rfl, i107.1, by rw [hx25, e1]; omega⟩
        · skip
          replace hE := rb_f5 hE c24
          refine ⟨?_, ?_⟩
          · have L := i107.1.2.1.2.1.1.2.2.2.2.1
            rw [inb_iff]; omega
          refine ⟨fun c26 => ?_, fun c26 => ?_⟩
          · skip
            replace hE := rb_f5 hE c26
            intro x27 hx27
            replace hE := rb_p5 hE hx27
            refine lp_b5 ?_ (fun d9 => ⟨rfl, ?_⟩)
            · rw [hn107, hx27, e1]; omega  -- d20
            · refine and_5 ?_ (fun o9 => ⟨m107, by omega, hE⟩)  -- i21
              exact ⟨rfl, i107.1, by rw [hx27, e1]; omega⟩
          · skip
            replace hE := rb_t5 hE c26
            intro κ_28 hκ_28
            replace hE := rb_i5 hE (ab_ui5 (p := a0) (f := coMain) hκ_28 (by decide) (by decide))
            have S29 := paS_N i107.1 (paN_m W22 (paS_t i107.1 Ta0) i107.1.2.1 hκ_28)
            intro W30
            intro x31 hx31
            replace hE := rb_p5 hE hx31
            refine lp_b5 ?_ (fun d9 => ⟨rfl, ?_⟩)
            · rw [hn107, hx31, e1]; omega  -- d22
            · refine and_5 ?_ (fun o9 => ⟨m107, by omega, hE⟩)  -- i23
              exact ⟨rfl, S29, by rw [hx31, e1]; omega⟩
  · skip
    replace hE := rb_f5 hE c15
    intro T32
    have l0 := i2.2
    have sb := i2.1.2.1.2.1.2.2.2.2.2.1
    rw [lei] at c15
    have l1 : x2_1.toInt < 150 := by omega
    have e1 : (x2_1 + 1).toInt = x2_1.toInt + 1 := by rw [add_i (by rw [t1i]; omega) (by rw [t1i]; omega), t1i]
    refine Co_column_q5 W2 T32  ?_ (fun r33 q35 => ?_)
    · exact ⟨i2.1.2.1.2.1, by decide, by decide⟩  -- p24
    obtain ⟨q35, z9⟩ := q35
    replace hE := rb_p5 hE (z9 a0 (by first | exact Ta0 | exact paS_t i2.1 Ta0 | assumption) (by first | rfl | assumption))
    intro W36
    intro M37
    refine ⟨fun c38 => ?_, fun c38 => ?_⟩
    · skip
      replace hE := rb_f5 hE c38
      intro x39 hx39
      replace hE := rb_p5 hE hx39
      refine lp_b5 ?_ (fun d9 => ⟨rfl, ?_⟩)
      · rw [hn2, hx39, e1]; omega  -- d25
      · refine and_5 ?_ (fun o9 => ⟨m2, by omega, hE⟩)  -- i26
        exact ⟨rfl, i2.1, by rw [hx39, e1]; omega⟩
    · skip
      replace hE := rb_t5 hE c38
      intro T40
      refine Co_column_q5 W36 T40  ?_ (fun r41 q43 => ?_)
      · exact ⟨i2.1.2.1.2.1, by decide, by decide⟩  -- p27
      obtain ⟨q43, z9⟩ := q43
      replace hE := rb_p5 hE (z9 a0 (by first | exact Ta0 | exact paS_t i2.1 Ta0 | assumption) (by first | rfl | assumption))
      intro W44
      intro M45
      intro T46
      intro T47
      refine Ta_findName_q5 W44 T46 T47  ?_ (fun r48 q50 => ?_)
      · exact ⟨i2.1.2.1.1.1, i2.1.2.1.1.2.1⟩  -- p28
      obtain ⟨q50, z9⟩ := q50
      replace hE := rb_p5 hE z9
      intro W51
      intro M52
      refine ⟨fun c53 => ?_, fun c53 => ?_⟩
      · skip
        replace hE := rb_t5 hE c53
        refine hj82 _ _ _ _ _ W51 ?_ ?_
        · exact paS_t i2.1 Ta0  -- t29
        · refine and_5 ?_ (fun o9 => hE)  -- k30
          exact ⟨rfl, i2.1⟩
      · skip
        replace hE := rb_f5 hE c53
        refine ⟨?_, ?_⟩
        · have L1 := i2.1.2.1.2.2.1.2.2.1
          have L2 := i2.1.2.1.2.1.1.2.2.2.2.1
          have n1 : r48.toInt ≠ -1 := fun e => c53 (Int32.toInt_inj.mp (e.trans tmi.symm))
          obtain ⟨u1, u2, -⟩ := q50
          rw [inb_iff]; omega
        intro T54
        refine Co_column_q5 W51 T54  ?_ (fun r55 q57 => ?_)
        · exact ⟨i2.1.2.1.2.1, by decide, by decide⟩  -- p32
        obtain ⟨q57, z9⟩ := q57
        replace hE := rb_p5 hE (z9 a0 (by first | exact Ta0 | exact paS_t i2.1 Ta0 | assumption) (by first | rfl | assumption))
        intro W58
        intro M59
        refine ⟨fun c60 => ?_, fun c60 => ?_⟩
        · skip
          replace hE := rb_t5 hE c60
          refine hj89 _ _ _ _ W58 ?_ ?_
          · exact paS_t i2.1 Ta0  -- t33
          · refine and_5 ?_ (fun o9 => hE)  -- k34
            exact ⟨rfl, i2.1, rfl, l1⟩
        · skip
          replace hE := rb_f5 hE c60
          refine hj82 _ _ _ _ _ W58 ?_ ?_
          · exact paS_t i2.1 Ta0  -- t35
          · refine and_5 ?_ (fun o9 => hE)  -- k36
            exact ⟨rfl, i2.1⟩
