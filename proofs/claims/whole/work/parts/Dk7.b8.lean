section
set_option maxHeartbeats 1600000
/-! calls looked at -/
def f5_Pa_findCalled_89 (B2 : Int32 → E5 → R5 Unit) (a1 a3 : Int32) (e : E5) : R5 Unit := rdB5 (f5_Co_setColumn (a1) ((5 : Int32)) (a3) e) (fun e1 _ => pb5 (a1 + (1 : Int32)) (fun v1_4 => (B2 (v1_4) e1)))
def f5_Pa_findCalled_82 (B2 : Int32 → E5 → R5 Unit) (a1 a2 a3 : Int32) (e : E5) : R5 Unit := .inr (rv5 ((16 : Int32)) (a2) e)
def f5_Pa_findCalled_166  (e : E5) : R5 Unit := (if (e.1 coMain) = (-1 : Int32) then .inr (rv5 ((17 : Int32)) ((e.1 paAt)) e) else .inl (e, ()))
def f5_Pa_findCalled_107  : Nat → Int32 → E5 → R5 Unit
  | 0, _, _ => .inr (0, 0)
  | m5 + 1, a1, e => (if (e.1 coFunctions) ≤ a1 then (f5_Pa_findCalled_166 e) else (if (10 : Int32) ≤ a1 then (f5_Pa_findCalled_166 e) else pb5 (f5_Ta_isMain (tq5 e) ((e.2.1 paFunctionNames (a1).toNatClampNeg))) (fun r2 => (if r2 = (0 : Int32) then pb5 (a1 + (1 : Int32)) (fun v1_4 => (f5_Pa_findCalled_107 m5 (v1_4) e)) else (if (e.2.1 coNameCounts (a1).toNatClampNeg) = (0 : Int32) then rdB5 (stI5 coMain (a1) e) (fun e8 _ => pb5 (a1 + (1 : Int32)) (fun v1_9 => (f5_Pa_findCalled_107 m5 (v1_9) e8))) else pb5 (a1 + (1 : Int32)) (fun v1_7 => (f5_Pa_findCalled_107 m5 (v1_7) e)))))))
def f5_Pa_findCalled_2  : Nat → Int32 → E5 → R5 Unit
  | 0, _, _ => .inr (0, 0)
  | m5 + 1, a1, e => (if (e.1 coStatements) ≤ a1 then (f5_Pa_findCalled_107 fu5 ((0 : Int32)) e) else pb5 (cl5 (a1) ((0 : Int32)) e) (fun r2 => (if r2 = (5 : Int32) then pb5 (cl5 (a1) ((5 : Int32)) e) (fun r8 => pb5 (f5_Ta_findName (tq5 e) (e.2.1 paFunctionNames) (e.2.2 paFunctionNames) (e.1 coFunctions) (r8)) (fun r12 => (if r12 = (-1 : Int32) then (f5_Pa_findCalled_82 (f5_Pa_findCalled_2 m5) (a1) (r8) (r12) e) else pb5 (cl5 (a1) ((4 : Int32)) e) (fun r17 => (if (e.2.1 coNameCounts (r12).toNatClampNeg) = r17 then (f5_Pa_findCalled_89 (f5_Pa_findCalled_2 m5) (a1) (r12) e) else (f5_Pa_findCalled_82 (f5_Pa_findCalled_2 m5) (a1) (r8) (r12) e)))))) else pb5 (a1 + (1 : Int32)) (fun v1_4 => (f5_Pa_findCalled_2 m5 (v1_4) e)))))
def f5_Pa_findCalled  (e : E5) : R5 Unit := (f5_Pa_findCalled_2 fu5 ((0 : Int32)) e)

theorem Pa_findCalled_q5 {C : zC} {n0 : Nat} {a0 : Nat} {κ : zS} {Q : zS → Prop} {X : zXp} (W : zW C n0 κ) (Ta0 : zT κ a0 = 10) (hx5 : tx5 C) (hp : paA κ a0) (h : ∀ (κ' : zS), ((paS κ κ' a0) ∧ f5_Pa_findCalled (ab5 κ a0) = .inl (ab5 κ' a0, ())) → Q κ') (hx : ∀ (cls : String) (κ' : zS), ((paX5 κ cls κ' a0) ∧ f5_Pa_findCalled (ab5 κ a0) = .inr (zI κ' paFaultCode a0, zI κ' paFaultPlace a0)) → X cls κ') : zRun C 12 mPa_findCalled [.ref a0] κ (oV Q X) := by
  refine Pa_findCalled_run W Ta0 ?_
  replace W := W.lo (Nat.le_trans W.1.2.1 W.1.2.2) (Nat.le_refl (zn κ))
  unfold w_Pa_findCalled_0
  have S0 := paS_0 hp
  have hj166 : ∀ (l0 : Nat) (τ : zS), zW C (zn κ) τ → zT τ l0 = 10 → ((a0 = l0 ∧ paS κ τ a0) ∧ f5_Pa_findCalled (ab5 κ a0) = f5_Pa_findCalled_166 (ab5 τ a0)) → w_Pa_findCalled_166 C (zn κ) Q X  l0 τ := by
    rintro _ τ166 W166 T166_0 ⟨⟨rfl, j166⟩, hE⟩
    unfold w_Pa_findCalled_166
    refine ⟨fun c1 => ?_, fun c1 => ?_⟩
    · skip
      replace hE := rb_f5 hE c1
      refine h _ ?_
      · refine and_5 ?_ (fun o9 => hE)  -- q1
        exact j166
    · skip
      replace hE := rb_t5 hE c1
      intro T2
      refine Pa_refuse_q5 (by decide) W166 T2  ?_ (fun κ_3 q4 => False.elim q4) (fun cls9 κ9 q9 => hx _ _ ?_)
      · exact j166.2.1  -- p2
      obtain ⟨q9, z9⟩ := q9
      · refine and_5 ?_ (fun o9 => rb_r5 hE z9)  -- x3
        exact paX5_tr j166.1 q9
  have hE : f5_Pa_findCalled (ab5 κ a0) = f5_Pa_findCalled (ab5 κ a0) := rfl
  unfold w_Pa_findCalled_2
  refine ⟨fun n l0 l1 τ => n = (150 - l1.toInt).toNat ∧ ((a0 = l0 ∧ paS κ τ a0 ∧ 0 ≤ l1.toInt) ∧ ∃ m5, n < m5 ∧ f5_Pa_findCalled (ab5 κ a0) = f5_Pa_findCalled_2 m5 l1 (ab5 τ a0)), ⟨_, rfl, ?_⟩, ?_⟩
  · refine and_5 ?_ (fun o9 => ⟨fu5, by first | (unfold fu5; omega) | decide, hE⟩)  -- j4
    exact ⟨rfl, S0, by decide⟩
  rintro n2 _ x2_1 κ2 W2 T2_0 ⟨hn2, ⟨rfl, i2⟩, m2, hm2, hE⟩
  obtain ⟨m2, rfl⟩ : ∃ m9, m2 = m9 + 1 := ⟨m2 - 1, by omega⟩
  have hj89 : ∀ (l0 : Nat) (l1 : Int32) (l3 : Int32) (τ : zS), zW C (zn κ) τ → zT τ l0 = 10 → ((a0 = l0 ∧ paS κ τ a0 ∧ l1 = x2_1 ∧ l1.toInt < 150) ∧ f5_Pa_findCalled (ab5 κ a0) = f5_Pa_findCalled_89 (f5_Pa_findCalled_2 m2) l1 l3 (ab5 τ a0)) → w_Pa_findCalled_89 C (zn κ) Q X (fun (l0' : Nat) (l1' : Int32) (τ : zS) => ∃ k < n2, (fun (n : Nat) (l0 : Nat) (l1 : Int32) (τ : zS) => n = (150 - l1.toInt).toNat ∧ ((a0 = l0 ∧ paS κ τ a0 ∧ 0 ≤ l1.toInt) ∧ ∃ m5, n < m5 ∧ f5_Pa_findCalled (ab5 κ a0) = f5_Pa_findCalled_2 m5 l1 (ab5 τ a0))) k l0' l1' τ) l0 l1 l3 τ := by
    rintro _ y89_1 y89_3 τ89 W89 T89_0 ⟨⟨rfl, j89⟩, hE⟩
    unfold w_Pa_findCalled_89
    intro T5
    refine Co_setColumn_q5 W89 T5  ?_ (fun κ_6 q7 => ?_)
    · exact ⟨j89.1.2.1.2.1, by decide, by decide⟩  -- p5
    obtain ⟨q7, z9⟩ := q7
    replace hE := rb_i5 hE (z9 a0 (by first | exact Ta0 | exact paS_t j89.1 Ta0 | assumption) (by first | rfl | assumption))
    have S8 := paS_N j89.1 (paN_k W89 (paS_t j89.1 Ta0) j89.1.2.1 q7)
    intro W9
    intro M10
    intro x11 hx11
    replace hE := rb_p5 hE hx11
    refine lp_b5 ?_ (fun d9 => ⟨rfl, ?_⟩)
    · have e3 := j89.2.1
      have l3 := j89.2.2
      have l0 := i2.2
      have e1 : (y89_1 + 1).toInt = y89_1.toInt + 1 := by rw [add_i (by rw [t1i, e3]; omega) (by rw [t1i]; omega), t1i]
      rw [hn2, hx11, e1, e3]; rw [e3] at l3; omega
    · refine and_5 ?_ (fun o9 => ⟨m2, by omega, hE⟩)  -- i7
      have e3 := j89.2.1
      have l3 := j89.2.2
      have l0 := i2.2
      have e1 : (y89_1 + 1).toInt = y89_1.toInt + 1 := by rw [add_i (by rw [t1i, e3]; omega) (by rw [t1i]; omega), t1i]
      exact ⟨rfl, S8, by rw [hx11, e1, e3]; omega⟩
  have hj82 : ∀ (l0 : Nat) (l1 : Int32) (l2 : Int32) (l3 : Int32) (τ : zS), zW C (zn κ) τ → zT τ l0 = 10 → ((a0 = l0 ∧ paS κ τ a0) ∧ f5_Pa_findCalled (ab5 κ a0) = f5_Pa_findCalled_82 (f5_Pa_findCalled_2 m2) l1 l2 l3 (ab5 τ a0)) → w_Pa_findCalled_82 C (zn κ) Q X (fun (l0' : Nat) (l1' : Int32) (τ : zS) => ∃ k < n2, (fun (n : Nat) (l0 : Nat) (l1 : Int32) (τ : zS) => n = (150 - l1.toInt).toNat ∧ ((a0 = l0 ∧ paS κ τ a0 ∧ 0 ≤ l1.toInt) ∧ ∃ m5, n < m5 ∧ f5_Pa_findCalled (ab5 κ a0) = f5_Pa_findCalled_2 m5 l1 (ab5 τ a0))) k l0' l1' τ) l0 l1 l2 l3 τ := by
    rintro _ y82_1 y82_2 y82_3 τ82 W82 T82_0 ⟨⟨rfl, j82⟩, hE⟩
    unfold w_Pa_findCalled_82
    intro T12
    refine Pa_refuse_q5 (by decide) W82 T12  ?_ (fun κ_13 q14 => False.elim q14) (fun cls9 κ9 q9 => hx _ _ ?_)
    · exact j82.2.1  -- p8
    obtain ⟨q9, z9⟩ := q9
    · refine and_5 ?_ (fun o9 => rb_r5 hE z9)  -- x9
      exact paX5_tr j82.1 q9
  refine ⟨fun c15 => ?_, fun c15 => ?_⟩
  · skip
    replace hE := rb_t5 hE c15
    unfold w_Pa_findCalled_107
    refine ⟨fun n l0 l1 τ => n = (10 - l1.toInt).toNat ∧ ((a0 = l0 ∧ paS κ τ a0 ∧ 0 ≤ l1.toInt) ∧ ∃ m5, n < m5 ∧ f5_Pa_findCalled (ab5 κ a0) = f5_Pa_findCalled_107 m5 l1 (ab5 τ a0)), ⟨_, rfl, ?_⟩, ?_⟩
    · refine and_5 ?_ (fun o9 => ⟨fu5, by first | (unfold fu5; omega) | decide, hE⟩)  -- j10
      exact ⟨rfl, i2.1, by decide⟩
    rintro n107 _ x107_1 κ107 W107 T107_0 ⟨hn107, ⟨rfl, i107⟩, m107, hm107, hE⟩
    obtain ⟨m107, rfl⟩ : ∃ m9, m107 = m9 + 1 := ⟨m107 - 1, by omega⟩
    refine ⟨fun c16 => ?_, fun c16 => ?_⟩
    · skip
      replace hE := rb_t5 hE c16
      refine hj166 _ _ W107 ?_ ?_
      · exact paS_t i107.1 Ta0  -- t11
      · refine and_5 ?_ (fun o9 => hE)  -- k12
        exact ⟨rfl, i107.1⟩
    · skip
      replace hE := rb_f5 hE c16
      refine ⟨fun c17 => ?_, fun c17 => ?_⟩
      · skip
        replace hE := rb_t5 hE c17
        refine hj166 _ _ W107 ?_ ?_
        · exact paS_t i107.1 Ta0  -- t13
        · refine and_5 ?_ (fun o9 => hE)  -- k14
          exact ⟨rfl, i107.1⟩
      · skip
        replace hE := rb_f5 hE c17
        have e10 : (10 : Int32).toInt = 10 := rfl
        rw [lei, e10] at c17
        have l0 := i107.2
        have e1 : (x107_1 + 1).toInt = x107_1.toInt + 1 := by rw [add_i (by rw [t1i]; omega) (by rw [t1i]; omega), t1i]
        refine ⟨?_, ?_⟩
        · have L := i107.1.2.1.2.2.1.2.2.1
          rw [inb_iff]; omega
        intro T18
        refine Ta_isMain_q5 W107 T18 hx5 ?_ (fun r19 q21 => ?_)
        · exact ⟨i107.1.2.1.1.1, i107.1.2.1.1.2.1⟩  -- p16
        obtain ⟨q21, z9⟩ := q21
        replace hE := rb_p5 hE z9
        intro W22
        intro M23
        refine ⟨fun c24 => ?_, fun c24 => ?_⟩
        · skip
          replace hE := rb_t5 hE c24
          intro x25 hx25
          replace hE := rb_p5 hE hx25
          refine lp_b5 ?_ (fun d9 => ⟨rfl, ?_⟩)
          · rw [hn107, hx25, e1]; omega  -- d17
          · refine and_5 ?_ (fun o9 => ⟨m107, by omega, hE⟩)  -- i18
            exact ⟨rfl, i107.1, by rw [hx25, e1]; omega⟩
        · skip
          replace hE := rb_f5 hE c24
          refine ⟨?_, ?_⟩
          · have L := i107.1.2.1.2.1.1.2.2.2.2.1
            rw [inb_iff]; omega
          refine ⟨fun c26 => ?_, fun c26 => ?_⟩
          · skip
            replace hE := rb_f5 hE c26
            intro x27 hx27
            replace hE := rb_p5 hE hx27
            refine lp_b5 ?_ (fun d9 => ⟨rfl, ?_⟩)
            · rw [hn107, hx27, e1]; omega  -- d20
            · refine and_5 ?_ (fun o9 => ⟨m107, by omega, hE⟩)  -- i21
              exact ⟨rfl, i107.1, by rw [hx27, e1]; omega⟩
          · skip
            replace hE := rb_t5 hE c26
            intro κ_28 hκ_28
            replace hE := rb_i5 hE (ab_ui5 (p := a0) (f := coMain) hκ_28 (by decide) (by decide))
            have S29 := paS_N i107.1 (paN_m W22 (paS_t i107.1 Ta0) i107.1.2.1 hκ_28)
            intro W30
            intro x31 hx31
            replace hE := rb_p5 hE hx31
            refine lp_b5 ?_ (fun d9 => ⟨rfl, ?_⟩)
            · rw [hn107, hx31, e1]; omega  -- d22
            · refine and_5 ?_ (fun o9 => ⟨m107, by omega, hE⟩)  -- i23
              exact ⟨rfl, S29, by rw [hx31, e1]; omega⟩
  · skip
    replace hE := rb_f5 hE c15
    intro T32
    have l0 := i2.2
    have sb := i2.1.2.1.2.1.2.2.2.2.2.1
    rw [lei] at c15
    have l1 : x2_1.toInt < 150 := by omega
    have e1 : (x2_1 + 1).toInt = x2_1.toInt + 1 := by rw [add_i (by rw [t1i]; omega) (by rw [t1i]; omega), t1i]
    refine Co_column_q5 W2 T32  ?_ (fun r33 q35 => ?_)
    · exact ⟨i2.1.2.1.2.1, by decide, by decide⟩  -- p24
    obtain ⟨q35, z9⟩ := q35
    replace hE := rb_p5 hE (z9 a0 (by first | exact Ta0 | exact paS_t i2.1 Ta0 | assumption) (by first | rfl | assumption))
    intro W36
    intro M37
    refine ⟨fun c38 => ?_, fun c38 => ?_⟩
    · skip
      replace hE := rb_f5 hE c38
      intro x39 hx39
      replace hE := rb_p5 hE hx39
      refine lp_b5 ?_ (fun d9 => ⟨rfl, ?_⟩)
      · rw [hn2, hx39, e1]; omega  -- d25
      · refine and_5 ?_ (fun o9 => ⟨m2, by omega, hE⟩)  -- i26
        exact ⟨rfl, i2.1, by rw [hx39, e1]; omega⟩
    · skip
      replace hE := rb_t5 hE c38
      intro T40
      refine Co_column_q5 W36 T40  ?_ (fun r41 q43 => ?_)
      · exact ⟨i2.1.2.1.2.1, by decide, by decide⟩  -- p27
      obtain ⟨q43, z9⟩ := q43
      replace hE := rb_p5 hE (z9 a0 (by first | exact Ta0 | exact paS_t i2.1 Ta0 | assumption) (by first | rfl | assumption))
      intro W44
      intro M45
      intro T46
      intro T47
      refine Ta_findName_q5 W44 T46 T47  ?_ (fun r48 q50 => ?_)
      · exact ⟨i2.1.2.1.1.1, i2.1.2.1.1.2.1⟩  -- p28
      obtain ⟨q50, z9⟩ := q50
      replace hE := rb_p5 hE z9
      intro W51
      intro M52
      refine ⟨fun c53 => ?_, fun c53 => ?_⟩
      · skip
        replace hE := rb_t5 hE c53
        refine hj82 _ _ _ _ _ W51 ?_ ?_
        · exact paS_t i2.1 Ta0  -- t29
        · refine and_5 ?_ (fun o9 => hE)  -- k30
          exact ⟨rfl, i2.1⟩
      · skip
        replace hE := rb_f5 hE c53
        refine ⟨?_, ?_⟩
        · have L1 := i2.1.2.1.2.2.1.2.2.1
          have L2 := i2.1.2.1.2.1.1.2.2.2.2.1
          have n1 : r48.toInt ≠ -1 := fun e => c53 (Int32.toInt_inj.mp (e.trans tmi.symm))
          obtain ⟨u1, u2, -⟩ := q50
          rw [inb_iff]; omega
        intro T54
        refine Co_column_q5 W51 T54  ?_ (fun r55 q57 => ?_)
        · exact ⟨i2.1.2.1.2.1, by decide, by decide⟩  -- p32
        obtain ⟨q57, z9⟩ := q57
        replace hE := rb_p5 hE (z9 a0 (by first | exact Ta0 | exact paS_t i2.1 Ta0 | assumption) (by first | rfl | assumption))
        intro W58
        intro M59
        refine ⟨fun c60 => ?_, fun c60 => ?_⟩
        · skip
          replace hE := rb_t5 hE c60
          refine hj89 _ _ _ _ W58 ?_ ?_
          · exact paS_t i2.1 Ta0  -- t33
          · refine and_5 ?_ (fun o9 => hE)  -- k34
            exact ⟨rfl, i2.1, rfl, l1⟩
        · skip
          replace hE := rb_f5 hE c60
          refine hj82 _ _ _ _ _ W58 ?_ ?_
          · exact paS_t i2.1 Ta0  -- t35
          · refine and_5 ?_ (fun o9 => hE)  -- k36
            exact ⟨rfl, i2.1⟩

end
section
set_option maxHeartbeats 1600000
/-! a whole text -/
def f5_Pa_read_122 (e : E5) : R5 Unit := f5_Pa_findCalled e
def f5_Pa_read_78 (B50 : Int32 → E5 → R5 Unit) (a2 : Int32) (e : E5) : R5 Unit := (if (e.1 paInside) = (0 : Int32) then rdB5 (f5_Pa_item e) (fun e15 _ => pb5 (a2 + (1 : Int32)) (fun v2_18 => (B50 (v2_18) e15))) else (if (e.1 paKind) = (125 : Int32) then rdB5 (f5_Pa_closeBlock e) (fun e10 _ => pb5 (a2 + (1 : Int32)) (fun v2_13 => (B50 (v2_13) e10))) else rdB5 (f5_Pa_addStatement e) (fun e1 r2 => rdB5 (f5_Pa_statement (r2) e1) (fun e4 _ => pb5 (a2 + (1 : Int32)) (fun v2_8 => (B50 (v2_8) e4))))))

def f5_Pa_read_50  : Nat → Int32 → E5 → R5 Unit
  | 0, _, _ => .inr (0, 0)
  | m5 + 1, a2, e => (if (e.1 taTotal) < a2 then (f5_Pa_read_122 e) else (if (e.1 paInside) = (0 : Int32) then (if (e.1 paKind) = (142 : Int32) then (f5_Pa_read_122 e) else (f5_Pa_read_78 (f5_Pa_read_50 m5) (a2) e)) else (f5_Pa_read_78 (f5_Pa_read_50 m5) (a2) e)))

def rd5 (e : E5) : R5 Unit := rdB5 (f5_Pa_take e) (fun e1 _ => f5_Pa_read_50 fu5 0 e1)
/-- what stands before the first token is taken: tokens out of the bytes, nothing told -/
def ini5 (U : U5) (e : E5) : Prop := ((my5 (e.2.1 taKinds) (e.1 taTotal), my5 (e.2.1 taPlaces) (e.1 taTotal), my5 (e.2.1 taLengths) (e.1 taTotal), e.1 taTotal) = f5_Ta_split U ∧ (e.2.1 taBytes, e.1 taLength, e.2.2 taBytes) = U) ∧ (e.1 coVars = 0 ∧ e.1 coArrays = 0 ∧ e.1 coCells = 0 ∧ e.1 coFunctions = 0 ∧ e.1 coStatements = 0 ∧ e.1 coLength = 0 ∧ e.1 coMain = -1) ∧ (e.1 paAt = -1 ∧ e.1 paOpen = 0 ∧ e.1 paInside = 0 ∧ e.1 paOwns = 0 ∧ e.1 paBlocks = 0) ∧ (e.2.2 paVarNames = 10 ∧ e.2.2 paArrayNames = 3 ∧ e.2.2 paFunctionNames = 10 ∧ e.2.2 paOwnNames = 8 ∧ e.2.2 paOwners = 41)
theorem z_05 {x : Int32} (h : x.toInt = 0) : x = 0 := Int32.toInt_inj.mp (h.trans t0i.symm)
theorem z_m5 {x : Int32} (h : x.toInt = -1) : x = -1 := Int32.toInt_inj.mp (h.trans tmi.symm)
theorem rd_i5 {C : zC} {n0 p c : Nat} {κ κ1 κ4 κ8 κ11 κ13 κ15 κ17 κ19 : zS} (W : zW C n0 κ) (W1 : zW C n0 κ1) (W4 : zW C n0 κ4) (T : zT κ p = 10) (Tc : zT κ c = 5) (Z1 : zF (objF (zR κ paTape p)) κ κ1) (z7 : f5_Ta_split (up5 κ (zR κ paTape p)) = ty5 κ1 (zR κ paTape p) ∧ up5 κ1 (zR κ paTape p) = up5 κ (zR κ paTape p))
    (e4 : κ4 = ur κ1 paCode p c) (q8 : zF (objF (zR κ4 paCode p)) κ4 κ8 ∧ coI κ8 (zR κ4 paCode p) ∧ zR κ8 = zR κ4 ∧ (zI κ8 coVars (zR κ4 paCode p)).toInt = 0 ∧ (zI κ8 coArrays (zR κ4 paCode p)).toInt = 0 ∧ (zI κ8 coCells (zR κ4 paCode p)).toInt = 0 ∧ (zI κ8 coFunctions (zR κ4 paCode p)).toInt = 0 ∧ (zI κ8 coStatements (zR κ4 paCode p)).toInt = 0 ∧ (zI κ8 coLength (zR κ4 paCode p)).toInt = 0 ∧ (zI κ8 coMain (zR κ4 paCode p)).toInt = -1)
    (e11 : κ11 = ui κ8 paAt p (-1)) (e13 : κ13 = ui κ11 paOpen p 0) (e15 : κ15 = ui κ13 paInside p 0) (e17 : κ17 = ui κ15 paOwns p 0) (e19 : κ19 = ui κ17 paBlocks p 0) (L : paL κ19 p) : ini5 (up5 κ (zR κ paTape p)) (ab5 κ19 p) := by
  have n := pa_ne W T
  have Tt := ty_paTape W T
  have ntc : zR κ paTape p ≠ c := fun e => by rw [e, Tc] at Tt; exact absurd Tt (by decide)
  have p1 : ∀ f, zR κ1 f p = zR κ f p := fun f => Z1.r (fun e => n.1 e.symm)
  have r4 : zR κ4 paCode p = c := by rw [e4]; exact if_pos ⟨rfl, rfl⟩
  have r4o : ∀ f b, f ≠ paCode → zR κ4 f b = zR κ1 f b := fun f b hf => by rw [e4]; exact if_neg (fun z => hf z.1)
  rw [r4] at q8
  obtain ⟨Z8, -, R8, v1, v2, v3, v4, v5, v6, v7⟩ := q8
  have i19 : ∀ f b, f ≠ paAt → f ≠ paOpen → f ≠ paInside → f ≠ paOwns → f ≠ paBlocks → zI κ19 f b = zI κ8 f b := fun f b a1 a2 a3 a4 a5 => by
    rw [e19, e17, e15, e13, e11]
    exact (if_neg (fun z => a5 z.1)).trans ((if_neg (fun z => a4 z.1)).trans ((if_neg (fun z => a3 z.1)).trans ((if_neg (fun z => a2 z.1)).trans (if_neg (fun z => a1 z.1)))))
  have r19 : zR κ19 = zR κ4 := by rw [e19, e17, e15, e13, e11]; exact R8
  have a19 : zA κ19 = zA κ8 := by rw [e19, e17, e15, e13, e11]; rfl
  have n19 : zN κ19 = zN κ8 := by rw [e19, e17, e15, e13, e11]; rfl
  have rt : zR κ19 paTape p = zR κ paTape p := by rw [r19, r4o _ _ (by decide), p1]
  have rc : zR κ19 paCode p = c := by rw [r19]; exact r4
  have Tt1 := Z1.t Tt (by decide)
  have Tt4 : zT κ4 (zR κ paTape p) = 13 := by rw [e4]; exact Tt1
  have rows : ∀ f t, zr f = some t → 20 ≤ t → f / 100 = 13 → f ≠ paCode → zA κ19 (zR κ19 f (zR κ paTape p)) = zA κ1 (zR κ1 f (zR κ paTape p)) ∧ zN κ19 (zR κ19 f (zR κ paTape p)) = zN κ1 (zR κ1 f (zR κ paTape p)) := fun f t hr ht hf hc => by
    have z := (Z8.row W4 hr ht (Tt4.trans hf.symm) (fun e => ntc e)).1
    have y := W4.r hr (Tt4.trans hf.symm)
    have l := Z8.l (a := zR κ4 f (zR κ paTape p)) (c := t - 1) (by omega)
    rw [R8] at z
    rw [a19, n19, r19, z, l, r4o f _ hc, e4]
    exact ⟨rfl, rfl⟩
  have ti : ∀ f, f ≠ paAt → f ≠ paOpen → f ≠ paInside → f ≠ paOwns → f ≠ paBlocks → zI κ19 f (zR κ paTape p) = zI κ1 f (zR κ paTape p) := fun f a1 a2 a3 a4 a5 => by
    rw [i19 f _ a1 a2 a3 a4 a5, Z8.i (fun e => ntc e), e4]
    rfl
  have tt := ti taTotal (by decide) (by decide) (by decide) (by decide) (by decide)
  have tl := ti taLength (by decide) (by decide) (by decide) (by decide) (by decide)
  have k1 := rows taKinds 20 (by decide +kernel) (by decide) (by decide) (by decide)
  have k2 := rows taPlaces 20 (by decide +kernel) (by decide) (by decide) (by decide)
  have k3 := rows taLengths 20 (by decide +kernel) (by decide) (by decide) (by decide)
  have k4 := rows taBytes 21 (by decide +kernel) (by decide) (by decide) (by decide)
  refine ⟨⟨?_, ?_⟩, ?_, ?_, ?_⟩
  · rw [z7.1]
    show (my5 (zA κ19 (zR κ19 taKinds (zR κ19 paTape p))) (zI κ19 taTotal (zR κ19 paTape p)), my5 (zA κ19 (zR κ19 taPlaces (zR κ19 paTape p))) (zI κ19 taTotal (zR κ19 paTape p)), my5 (zA κ19 (zR κ19 taLengths (zR κ19 paTape p))) (zI κ19 taTotal (zR κ19 paTape p)), zI κ19 taTotal (zR κ19 paTape p)) = _
    rw [rt, tt, k1.1, k2.1, k3.1]
    rfl
  · rw [← z7.2]
    show (zA κ19 (zR κ19 taBytes (zR κ19 paTape p)), zI κ19 taLength (zR κ19 paTape p), zN κ19 (zR κ19 taBytes (zR κ19 paTape p))) = _
    rw [rt, tl, k4.1, k4.2]
    rfl
  · have ci : ∀ f, f ≠ paAt → f ≠ paOpen → f ≠ paInside → f ≠ paOwns → f ≠ paBlocks → zI κ19 f (zR κ19 paCode p) = zI κ8 f c := fun f a1 a2 a3 a4 a5 => by rw [rc]; exact i19 f c a1 a2 a3 a4 a5
    exact ⟨(ci coVars (by decide) (by decide) (by decide) (by decide) (by decide)).trans (z_05 v1), (ci coArrays (by decide) (by decide) (by decide) (by decide) (by decide)).trans (z_05 v2), (ci coCells (by decide) (by decide) (by decide) (by decide) (by decide)).trans (z_05 v3), (ci coFunctions (by decide) (by decide) (by decide) (by decide) (by decide)).trans (z_05 v4), (ci coStatements (by decide) (by decide) (by decide) (by decide) (by decide)).trans (z_05 v5), (ci coLength (by decide) (by decide) (by decide) (by decide) (by decide)).trans (z_05 v6), (ci coMain (by decide) (by decide) (by decide) (by decide) (by decide)).trans (z_m5 v7)⟩
  · refine ⟨?_, ?_, ?_, ?_, ?_⟩
    · show zI κ19 paAt p = -1
      have e : zI κ19 paAt p = zI κ11 paAt p := by rw [e19, e17, e15, e13]; rfl
      rw [e, e11]
      exact if_pos ⟨rfl, rfl⟩
    · show zI κ19 paOpen p = 0
      have e : zI κ19 paOpen p = zI κ13 paOpen p := by rw [e19, e17, e15]; rfl
      rw [e, e13]
      exact if_pos ⟨rfl, rfl⟩
    · show zI κ19 paInside p = 0
      have e : zI κ19 paInside p = zI κ15 paInside p := by rw [e19, e17]; rfl
      rw [e, e15]
      exact if_pos ⟨rfl, rfl⟩
    · show zI κ19 paOwns p = 0
      have e : zI κ19 paOwns p = zI κ17 paOwns p := by rw [e19]; rfl
      rw [e, e17]
      exact if_pos ⟨rfl, rfl⟩
    · show zI κ19 paBlocks p = 0
      rw [e19]
      exact if_pos ⟨rfl, rfl⟩
  · exact ⟨L.1, L.2.1, L.2.2.1, L.2.2.2.1, L.2.2.2.2.1⟩
def rdX5 (κ : zS) (cls : String) (κ' : zS) (p c : Nat) : Prop := rdX κ cls κ' p c ∧ zI κ' paFaultCode p ≠ 0 -- paX5
theorem Pa_read_q5 {C : zC} {n0 : Nat} {a0 : Nat} {a1 : Nat} {κ : zS} {Q : zS → Prop} {X : zXp} (W : zW C n0 κ) (Ta0 : zT κ a0 = 10) (Ta1 : zT κ a1 = 5) (hx5 : tx5 C) (hp : paZ κ a0 a1 ∧ (zI κ taLength (zR κ paTape a0)).toInt ≤ 10240) (h : ∀ (κ' : zS), ((rdF κ κ' a0 a1 ∧ paI κ' a0) ∧ (∃ e0, ini5 (up5 κ (zR κ paTape a0)) e0 ∧ ∃ e1, rd5 e0 = .inl (e1, ()) ∧ zI κ' coStatements (zR κ' paCode a0) = e1.1 coStatements)) → Q κ') (hx : ∀ (cls : String) (κ' : zS), ((rdX5 κ cls κ' a0 a1) ∧ ∃ e0, ini5 (up5 κ (zR κ paTape a0)) e0 ∧ rd5 e0 = .inr (zI κ' paFaultCode a0, zI κ' paFaultPlace a0)) → X cls κ') : zRun C 14 mPa_read [.ref a0, .ref a1] κ (oV Q X) := by
  refine Pa_read_run W Ta0 Ta1 ?_
  replace W := W.lo (Nat.le_trans W.1.2.1 W.1.2.2) (Nat.le_refl (zn κ))
  unfold w_Pa_read_0
  have hj122 : ∀ (l0 : Nat) (τ : zS), zW C (zn κ) τ → zT τ l0 = 10 → ((a0 = l0 ∧ rdJ κ τ a0 a1) ∧ (∃ e0, (ini5 (up5 κ (zR κ paTape a0)) e0) ∧ rd5 e0 = f5_Pa_read_122 (ab5 τ a0))) → w_Pa_read_122 C (zn κ) Q X  l0 τ := by
    rintro _ τ122 W122 T122_0 ⟨⟨rfl, j122⟩, e0, hi0, hE⟩
    unfold w_Pa_read_122
    intro T1
    refine Pa_findCalled_q5 W122 T1 hx5 ?_ (fun κ_2 q3 => ?_) (fun cls9 κ9 q9 => hx _ _ ?_)
    · exact j122.2  -- p1
    rotate_left
    obtain ⟨q9, z9⟩ := q9
    · refine and_5 ?_ (fun o9 => ⟨e0, hi0, hE.trans z9⟩)  -- x2
      exact ⟨rd_X W122 T122_0 j122 q9.1, q9.2⟩
    obtain ⟨q3, z9⟩ := q3
    replace hE := hE.trans z9
    intro W4
    intro M5
    intro T6
    have J := rd_S W122 T122_0 j122 q3
    have T2 := q3.1.1.t T122_0 (by decide)
    refine Co_linkFollows_c W4 T6  ?_ (fun κ_7 q8 => ?_)
    · exact J.2.1.2.1  -- p3
    skip
    intro W9
    intro M10
    refine h _ ?_
    · refine and_5 ?_ (fun o9 => ?_)  -- q4
      · have N := (paN_c W4 T2 J.2.1 (q8.1.mono (fun _ _ z => z.2)) q8.2.1 (by rw [q8.2.2])).1
        exact ⟨rd_F W4 T2 J.1 N.1, N.2.1⟩
      · have N := (paN_c W4 T2 J.2.1 (q8.1.mono (fun _ _ z => z.2)) q8.2.1 (by rw [q8.2.2])).1
        refine ⟨e0, hi0, ab5 κ_2 a0, hE, ?_⟩
        rw [N.1.2.2, q8.2.2]
        rfl
  intro T11
  refine Ta_split_q5 W T11 hx5 ?_ (fun κ_12 q13 => ?_)
  · exact ⟨hp.1.1.1, hp.1.1.2, hp.2⟩  -- p5
  obtain ⟨q13, z9⟩ := q13
  have z7 := z9
  intro W14
  intro M15
  intro κ_16 hκ_16
  skip
  intro W17
  intro T18
  refine Co_clear_c W17 T18  ?_ (fun κ_19 q20 => ?_)
  · exact rd_c W W14 Ta0 Ta1 hp.1.2.1 q13.1 hκ_16  -- p6
  skip
  intro W21
  intro M22
  intro κ_23 hκ_23
  skip
  intro W24
  intro κ_25 hκ_25
  skip
  intro W26
  intro κ_27 hκ_27
  skip
  intro W28
  intro κ_29 hκ_29
  skip
  intro W30
  intro κ_31 hκ_31
  skip
  intro W32
  intro T33
  obtain ⟨R1, R2, R3, R4, R5⟩ := rd_0 W W14 W17 W21 W28 W30 Ta0 Ta1 hp.1 q13 hκ_16 q20 hκ_23 hκ_25 hκ_27 hκ_29 hκ_31
  refine Pa_take_q5 W32 T33  ?_ (fun κ_34 q35 => ?_)
  · exact ⟨R2, by omega, by omega⟩  -- p7
  obtain ⟨q35, z9⟩ := q35
  skip
  intro W36
  intro M37
  unfold w_Pa_read_50
  refine ⟨fun n l0 l2 τ => n = (10244 - l2.toInt).toNat ∧ ((a0 = l0 ∧ rdJ κ τ a0 a1 ∧ 0 ≤ l2.toInt) ∧ ∃ e0, (ini5 (up5 κ (zR κ paTape a0)) e0) ∧ ∃ m5, n < m5 ∧ rd5 e0 = f5_Pa_read_50 m5 l2 (ab5 τ a0)), ⟨_, rfl, ?_⟩, ?_⟩
  · refine and_5 ?_ (fun o9 => ?_)  -- j8
    · obtain ⟨I, F, c, t⟩ := paO_p W32 T33 q35.1 R2
      refine ⟨rfl, ⟨rd_F W32 T33 R1 F, I, q35.2.1, ?_⟩, by decide⟩
      unfold psi
      rw [q35.2.2, R3, F.2.2, c, R5]
      decide
    · refine ⟨ab5 κ_31 a0, rd_i5 W W14 W17 Ta0 Ta1 q13.1 z7 hκ_16 q20 hκ_23 hκ_25 hκ_27 hκ_29 hκ_31 R2.2.2.1, fu5, by unfold fu5; omega, ?_⟩
      unfold rd5
      rw [z9]
      rfl
  rintro n50 _ x50_2 κ50 W50 T50_0 ⟨hn50, ⟨rfl, i50⟩, e0, hi0, m50, hm50, hE⟩
  obtain ⟨m50, rfl⟩ : ∃ m9, m50 = m9 + 1 := ⟨m50 - 1, by omega⟩
  have hj78 : ∀ (l0 : Nat) (l2 : Int32) (τ : zS), zW C (zn κ) τ → zT τ l0 = 10 → ((a0 = l0 ∧ rdJ κ τ a0 a1 ∧ l2 = x50_2 ∧ l2.toInt ≤ 10242) ∧ (∃ e0, (ini5 (up5 κ (zR κ paTape a0)) e0) ∧ rd5 e0 = f5_Pa_read_78 (f5_Pa_read_50 m50) l2 (ab5 τ a0))) → w_Pa_read_78 C (zn κ) Q X (fun (l0' : Nat) (l2' : Int32) (τ : zS) => ∃ k < n50, (fun (n : Nat) (l0 : Nat) (l2 : Int32) (τ : zS) => n = (10244 - l2.toInt).toNat ∧ ((a0 = l0 ∧ rdJ κ τ a0 a1 ∧ 0 ≤ l2.toInt) ∧ ∃ e0, (ini5 (up5 κ (zR κ paTape a0)) e0) ∧ ∃ m5, n < m5 ∧ rd5 e0 = f5_Pa_read_50 m5 l2 (ab5 τ a0))) k l0' l2' τ) l0 l2 τ := by
    rintro _ y78_2 τ78 W78 T78_0 ⟨⟨rfl, j78⟩, e0, hi0, hE⟩
    unfold w_Pa_read_78
    have e3 := j78.2.1
    have l3 := j78.2.2
    have l0 := i50.2
    have e1 : (y78_2 + 1).toInt = y78_2.toInt + 1 := by rw [add_i (by rw [t1i, e3]; omega) (by rw [t1i]; omega), t1i]
    refine ⟨fun c38 => ?_, fun c38 => ?_⟩
    · skip
      replace hE := rb_f5 hE c38
      refine ⟨fun c39 => ?_, fun c39 => ?_⟩
      · skip
        replace hE := rb_f5 hE c39
        intro T40
        refine Pa_addStatement_q5 W78 T40  ?_ (fun r41 κ_42 q43 => ?_) (fun cls9 κ9 q9 => hx _ _ ?_)
        · exact j78.1.2  -- p9
        rotate_left
        obtain ⟨q9, z9⟩ := q9
        · refine and_5 ?_ (fun o9 => ⟨e0, hi0, rb_x5 hE z9⟩)  -- x10
          exact ⟨rd_X W78 T78_0 j78.1 q9.1, q9.2⟩
        obtain ⟨q43, z9⟩ := q43
        replace hE := rb_i5 hE z9
        intro W44
        intro M45
        intro T46
        have J2 := rd_S W78 T78_0 j78.1 q43.1
        refine Pa_statement_q5 W44 T46  ?_ (fun κ_47 q48 => ?_) (fun cls9 κ9 q9 => hx _ _ ?_)
        · exact ⟨J2.2, by rw [q43.2.1]; exact q43.2.2⟩  -- p11
        rotate_left
        obtain ⟨q9, z9⟩ := q9
        · refine and_5 ?_ (fun o9 => ⟨e0, hi0, rb_x5 hE z9⟩)  -- x12
          exact ⟨rd_X W44 T46 J2 q9.1, q9.2⟩
        obtain ⟨q48, z9⟩ := q48
        replace hE := rb_i5 hE z9
        intro W49
        intro M50
        intro x51 hx51
        replace hE := rb_p5 hE hx51
        refine lp_b5 ?_ (fun d9 => ⟨rfl, ?_⟩)
        · rw [hn50, hx51, e1, e3]; rw [e3] at l3; omega  -- d13
        · refine and_5 ?_ (fun o9 => ⟨e0, hi0, ⟨m50, by omega, hE⟩⟩)  -- i14
          exact ⟨rfl, rd_S W44 T46 J2 q48, by rw [hx51, e1, e3]; omega⟩
      · skip
        replace hE := rb_t5 hE c39
        intro T52
        refine Pa_closeBlock_q5 W78 T52  ?_ (fun κ_53 q54 => ?_) (fun cls9 κ9 q9 => hx _ _ ?_)
        · exact j78.1.2  -- p15
        rotate_left
        obtain ⟨q9, z9⟩ := q9
        · refine and_5 ?_ (fun o9 => ⟨e0, hi0, rb_x5 hE z9⟩)  -- x16
          exact ⟨rd_X W78 T78_0 j78.1 q9.1, q9.2⟩
        obtain ⟨q54, z9⟩ := q54
        replace hE := rb_i5 hE z9
        intro W55
        intro M56
        intro x57 hx57
        replace hE := rb_p5 hE hx57
        refine lp_b5 ?_ (fun d9 => ⟨rfl, ?_⟩)
        · rw [hn50, hx57, e1, e3]; rw [e3] at l3; omega  -- d17
        · refine and_5 ?_ (fun o9 => ⟨e0, hi0, ⟨m50, by omega, hE⟩⟩)  -- i18
          exact ⟨rfl, rd_S W78 T78_0 j78.1 q54, by rw [hx57, e1, e3]; omega⟩
    · skip
      replace hE := rb_t5 hE c38
      intro T58
      refine Pa_item_q5 W78 T58  ?_ (fun κ_59 q60 => ?_) (fun cls9 κ9 q9 => hx _ _ ?_)
      · exact j78.1.2  -- p19
      rotate_left
      obtain ⟨q9, z9⟩ := q9
      · refine and_5 ?_ (fun o9 => ⟨e0, hi0, rb_x5 hE z9⟩)  -- x20
        exact ⟨rd_X W78 T78_0 j78.1 q9.1, q9.2⟩
      obtain ⟨q60, z9⟩ := q60
      replace hE := rb_i5 hE z9
      intro W61
      intro M62
      intro x63 hx63
      replace hE := rb_p5 hE hx63
      refine lp_b5 ?_ (fun d9 => ⟨rfl, ?_⟩)
      · rw [hn50, hx63, e1, e3]; rw [e3] at l3; omega  -- d21
      · refine and_5 ?_ (fun o9 => ⟨e0, hi0, ⟨m50, by omega, hE⟩⟩)  -- i22
        exact ⟨rfl, rd_S W78 T78_0 j78.1 q60, by rw [hx63, e1, e3]; omega⟩
  refine ⟨fun c64 => ?_, fun c64 => ?_⟩
  · skip
    replace hE := rb_t5 hE c64
    refine hj122 _ _ W50 ?_ ?_
    · exact T50_0  -- t23
    · refine and_5 ?_ (fun o9 => ⟨e0, hi0, hE⟩)  -- k24
      exact ⟨rfl, i50.1⟩
  · skip
    replace hE := rb_f5 hE c64
    have l2 : x50_2.toInt ≤ 10242 := by
      rw [lti] at c64
      have tb := i50.1.2.1.1.2.2
      omega
    refine ⟨fun c65 => ?_, fun c65 => ?_⟩
    · skip
      replace hE := rb_f5 hE c65
      refine hj78 _ _ _ W50 ?_ ?_
      · exact T50_0  -- t25
      · refine and_5 ?_ (fun o9 => ⟨e0, hi0, hE⟩)  -- k26
        exact ⟨rfl, i50.1, rfl, l2⟩
    · skip
      replace hE := rb_t5 hE c65
      refine ⟨fun c66 => ?_, fun c66 => ?_⟩
      · skip
        replace hE := rb_t5 hE c66
        refine hj122 _ _ W50 ?_ ?_
        · exact T50_0  -- t27
        · refine and_5 ?_ (fun o9 => ⟨e0, hi0, hE⟩)  -- k28
          exact ⟨rfl, i50.1⟩
      · skip
        replace hE := rb_f5 hE c66
        refine hj78 _ _ _ W50 ?_ ?_
        · exact T50_0  -- t29
        · refine and_5 ?_ (fun o9 => ⟨e0, hi0, hE⟩)  -- k30
          exact ⟨rfl, i50.1, rfl, l2⟩

end
