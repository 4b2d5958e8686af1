set_option maxHeartbeats 1600000
/-! items, blocks -/
def f5_Pa_varItem_94 (a1 a2 : Int32) (e : E5) : R5 Unit := rdB5 (f5_Pa_pass ((59 : Int32)) e) (fun e1 _ => (if (10 : Int32) ≤ (e1.1 coVars) then .inl (e1, ()) else rdB5 (sa5 paVarNames (((e1.1 coVars)).toNatClampNeg) (a1) e1) (fun e5 _ => rdB5 (sa5 coVarStarts (((e5.1 coVars)).toNatClampNeg) (a2) e5) (fun e7 _ => rdB5 (stI5 coVars (((e7.1 coVars) + (1 : Int32))) e7) (fun e9 _ => .inl (e9, ()))))))
def f5_Pa_varItem_89 (a1 s0 : Int32) (e : E5) : R5 Unit := rdB5 (f5_Pa_take e) (fun e1 _ => (f5_Pa_varItem_94 (a1) (s0) e1))
def f5_Pa_varItem_52 (a1 a3 : Int32) (e : E5) : R5 Unit := rdB5 (f5_Pa_expect ((141 : Int32)) e) (fun e1 _ => (if a3 = (0 : Int32) then pb5 (f5_Ta_numberAt (tq5 e1) ((e1.1 paAt))) (fun r6 => (f5_Pa_varItem_89 (a1) (r6) e1)) else pb5 (f5_Ta_numberAt (tq5 e1) ((e1.1 paAt))) (fun r11 => (f5_Pa_varItem_89 (a1) ((-r11)) e1))))
def f5_Pa_varItem_43 (a1 s0 : Int32) (e : E5) : R5 Unit := (if s0 = (0 : Int32) then (f5_Pa_varItem_52 (a1) (s0) e) else rdB5 (f5_Pa_take e) (fun e1 _ => (f5_Pa_varItem_52 (a1) (s0) e1)))
def f5_Pa_varItem  (e : E5) : R5 Unit := rdB5 (f5_Pa_newName ((e.1 coVars)) ((10 : Int32)) e) (fun e1 r2 => (if (e1.1 paKind) = (61 : Int32) then rdB5 (f5_Pa_take e1) (fun e5 _ => (if (e5.1 paKind) = (45 : Int32) then (f5_Pa_varItem_43 (r2) ((1 : Int32)) e5) else (f5_Pa_varItem_43 (r2) ((0 : Int32)) e5))) else (f5_Pa_varItem_94 (r2) ((0 : Int32)) e1)))

def f5_Pa_arrayItem_59 (a1 a2 : Int32) (e : E5) : R5 Unit := rdB5 (f5_Pa_take e) (fun e1 _ => rdB5 (f5_Pa_closeSign ((93 : Int32)) e1) (fun e4 _ => rdB5 (f5_Pa_pass ((59 : Int32)) e4) (fun e8 _ => (if (3 : Int32) ≤ (e8.1 coArrays) then .inl (e8, ()) else rdB5 (sa5 paArrayNames (((e8.1 coArrays)).toNatClampNeg) (a1) e8) (fun e13 _ => rdB5 (sa5 coArrayBases (((e13.1 coArrays)).toNatClampNeg) ((e13.1 coCells)) e13) (fun e15 _ => rdB5 (sa5 coArraySizes (((e15.1 coArrays)).toNatClampNeg) (a2) e15) (fun e17 _ => rdB5 (stI5 coArrays (((e17.1 coArrays) + (1 : Int32))) e17) (fun e19 _ => rdB5 (stI5 coCells (((e19.1 coCells) + a2)) e19) (fun e21 _ => .inl (e21, ()))))))))))
def f5_Pa_arrayItem_49 (a1 a2 : Int32) (e : E5) : R5 Unit := .inr (rv5 ((12 : Int32)) ((e.1 paAt)) e)
def f5_Pa_arrayItem  (e : E5) : R5 Unit := rdB5 (f5_Pa_newName ((e.1 coArrays)) ((3 : Int32)) e) (fun e1 r2 => rdB5 (f5_Pa_openSign ((91 : Int32)) e1) (fun e4 _ => rdB5 (f5_Pa_expect ((141 : Int32)) e4) (fun e8 _ => pb5 (f5_Ta_numberAt (tq5 e8) ((e8.1 paAt))) (fun r14 => (if r14 < (1 : Int32) then (f5_Pa_arrayItem_49 (r2) (r14) e8) else (if r14 ≤ (8 : Int32) then (f5_Pa_arrayItem_59 (r2) (r14) e8) else (f5_Pa_arrayItem_49 (r2) (r14) e8)))))))

def f5_Pa_functionHead_73 (B37 : Int32 → Int32 → Int32 → E5 → R5 Unit) (a1 a3 s0 : Int32) (e : E5) : R5 Unit := (if s0 = (0 : Int32) then pb5 (a3 + (1 : Int32)) (fun v3_1 => (B37 (a1) (s0) (v3_1) e)) else rdB5 (f5_Pa_take e) (fun e2 _ => pb5 (a3 + (1 : Int32)) (fun v3_5 => (B37 (a1) (s0) (v3_5) e2))))
def f5_Pa_functionHead_144  (e : E5) : R5 Unit := rdB5 (stI5 paInside ((1 : Int32)) e) (fun e1 _ => rdB5 (f5_Pa_pushBlock ((-1 : Int32)) ((0 : Int32)) e1) (fun e2 _ => .inl (e2, ())))
def f5_Pa_functionHead_88 (a1 : Int32) (e : E5) : R5 Unit := rdB5 (f5_Pa_closeSign ((41 : Int32)) e) (fun e1 _ => rdB5 (f5_Pa_openSign ((123 : Int32)) e1) (fun e4 _ => (if (10 : Int32) ≤ (e4.1 coFunctions) then (f5_Pa_functionHead_144 e4) else rdB5 (sa5 paFunctionNames (((e4.1 coFunctions)).toNatClampNeg) (a1) e4) (fun e9 _ => rdB5 (sa5 coNameCounts (((e9.1 coFunctions)).toNatClampNeg) ((e9.1 paOwns)) e9) (fun e11 _ => (f5_Pa_functionHead_144 e11))))))
def f5_Pa_functionHead_37  : Nat → Int32 → Int32 → Int32 → E5 → R5 Unit
  | 0, _, _, _, _ => .inr (0, 0)
  | m5 + 1, a1, a2, a3, e => (if a2 = (0 : Int32) then (f5_Pa_functionHead_88 (a1) e) else (if (4 : Int32) < a3 then (f5_Pa_functionHead_88 (a1) e) else rdB5 (f5_Pa_newName ((e.1 paOwns)) ((4 : Int32)) e) (fun e1 r2 => rdB5 (f5_Pa_addOwn (r2) e1) (fun e4 _ => (if (e4.1 paKind) = (44 : Int32) then (f5_Pa_functionHead_73 (f5_Pa_functionHead_37 m5) (a1) (a3) ((1 : Int32)) e4) else (f5_Pa_functionHead_73 (f5_Pa_functionHead_37 m5) (a1) (a3) ((0 : Int32)) e4))))))
def f5_Pa_functionHead_34 (a1 s0 : Int32) (e : E5) : R5 Unit := (f5_Pa_functionHead_37 fu5 (a1) (s0) ((0 : Int32)) e)
def f5_Pa_functionHead  (e : E5) : R5 Unit := rdB5 (f5_Pa_newName ((e.1 coFunctions)) ((10 : Int32)) e) (fun e1 r2 => rdB5 (f5_Pa_openSign ((40 : Int32)) e1) (fun e4 _ => (if (e4.1 paKind) = (41 : Int32) then (f5_Pa_functionHead_34 (r2) ((0 : Int32)) e4) else (f5_Pa_functionHead_34 (r2) ((1 : Int32)) e4))))

def f5_Pa_item_35 (a1 : Int32) (e : E5) : R5 Unit := rdB5 (f5_Pa_take e) (fun e1 _ => (if a1 = (150 : Int32) then rdB5 (f5_Pa_varItem e1) (fun e12 _ => .inl (e12, ())) else (if a1 = (151 : Int32) then rdB5 (f5_Pa_arrayItem e1) (fun e8 _ => .inl (e8, ())) else rdB5 (f5_Pa_functionHead e1) (fun e4 _ => .inl (e4, ())))))
def f5_Pa_item  (e : E5) : R5 Unit := pb5 ((e.1 paKind)) (fun v1_1 => (if v1_1 = (150 : Int32) then (f5_Pa_item_35 (v1_1) e) else (if v1_1 = (151 : Int32) then (f5_Pa_item_35 (v1_1) e) else (if v1_1 = (152 : Int32) then (f5_Pa_item_35 (v1_1) e) else .inr (rv5 ((2 : Int32)) ((e.1 paAt)) e)))))

def f5_Pa_closeBlock_86  (e : E5) : R5 Unit := rdB5 (stI5 paOwns ((0 : Int32)) e) (fun e1 _ => rdB5 (stI5 paInside ((0 : Int32)) e1) (fun e2 _ => .inl (e2, ())))
def f5_Pa_closeBlock_24 (s1 : Int32) (e : E5) : R5 Unit := rdB5 (stI5 paBlocks (s1) e) (fun e1 _ => pb5 ((e1.2.1 paOwners ((e1.1 paBlocks)).toNatClampNeg)) (fun v1_3 => (if v1_3 = (-1 : Int32) then (if (10 : Int32) ≤ (e1.1 coFunctions) then (f5_Pa_closeBlock_86 e1) else rdB5 (sa5 coOwnCounts (((e1.1 coFunctions)).toNatClampNeg) ((e1.1 paOwns)) e1) (fun e19 _ => rdB5 (stI5 coFunctions (((e19.1 coFunctions) + (1 : Int32))) e19) (fun e21 _ => (f5_Pa_closeBlock_86 e21)))) else (if (e1.1 paKind) = (155 : Int32) then pb5 (cl5 (v1_3) ((0 : Int32)) e1) (fun r5 => (if r5 = (6 : Int32) then (if (e1.2.1 paElses ((e1.1 paBlocks)).toNatClampNeg) = (0 : Int32) then rdB5 (f5_Pa_take e1) (fun e8 _ => rdB5 (f5_Pa_openSign ((123 : Int32)) e8) (fun e11 _ => rdB5 (f5_Pa_pushBlock (v1_3) ((1 : Int32)) e11) (fun e15 _ => .inl (e15, ())))) else .inl (e1, ())) else .inl (e1, ()))) else .inl (e1, ())))))
def f5_Pa_closeBlock  (e : E5) : R5 Unit := rdB5 (f5_Pa_closeSign ((125 : Int32)) e) (fun e1 _ => (if (e1.1 paBlocks) ≤ (0 : Int32) then (f5_Pa_closeBlock_24 ((0 : Int32)) e1) else (f5_Pa_closeBlock_24 (((e1.1 paBlocks) - (1 : Int32))) e1)))

def f5_Pa_addStatement_205 (a1 a2 a3 : Int32) (e : E5) : R5 Int32 := rdB5 (sa5 paLasts ((a2).toNatClampNeg) (a1) e) (fun e1 _ => rdB5 (f5_Co_setColumn (a1) ((9 : Int32)) (a3) e1) (fun e3 _ => rdB5 (f5_Co_setColumn (a1) ((10 : Int32)) ((e3.1 coFunctions)) e3) (fun e7 _ => .inl (e7, a1))))
def f5_Pa_addStatement_170 (a1 a2 a3 s1 s2 : Int32) (e : E5) : R5 Int32 := rdB5 (f5_Co_setColumn (s1) (s2) (a1) e) (fun e1 _ => (f5_Pa_addStatement_205 (a1) (a2) (a3) e1))
def f5_Pa_addStatement_107 (a1 s0 : Int32) (e : E5) : R5 Int32 := pb5 ((e.2.1 paOwners (s0).toNatClampNeg)) (fun v3_1 => (if (e.2.1 paLasts (s0).toNatClampNeg) = (-1 : Int32) then (if v3_1 = (-1 : Int32) then (if (10 : Int32) ≤ (e.1 coFunctions) then (f5_Pa_addStatement_205 (a1) (s0) (v3_1) e) else rdB5 (sa5 coFirstStatements (((e.1 coFunctions)).toNatClampNeg) (a1) e) (fun e2 _ => (f5_Pa_addStatement_205 (a1) (s0) (v3_1) e2))) else (if (e.2.1 paElses (s0).toNatClampNeg) = (0 : Int32) then (f5_Pa_addStatement_170 (a1) (s0) (v3_1) (v3_1) ((6 : Int32)) e) else (f5_Pa_addStatement_170 (a1) (s0) (v3_1) (v3_1) ((7 : Int32)) e))) else rdB5 (f5_Co_setColumn ((e.2.1 paLasts (s0).toNatClampNeg)) ((8 : Int32)) (a1) e) (fun e4 _ => (f5_Pa_addStatement_205 (a1) (s0) (v3_1) e4))))
def f5_Pa_addStatement_82  (e : E5) : R5 Int32 := rdB5 (f5_Co_addStatement e) (fun e1 r2 => (if (e1.1 paBlocks) ≤ (0 : Int32) then (f5_Pa_addStatement_107 (r2) ((0 : Int32)) e1) else (f5_Pa_addStatement_107 (r2) (((e1.1 paBlocks) - (1 : Int32))) e1)))
def f5_Pa_addStatement_59  (e : E5) : R5 Int32 := (if (e.1 coStatements) < (150 : Int32) then (f5_Pa_addStatement_82 e) else .inr (rv5 ((15 : Int32)) ((e.1 paAt)) e))
def f5_Pa_addStatement_50  (e : E5) : R5 Int32 := .inr (rv5 ((2 : Int32)) ((e.1 paAt)) e)
def f5_Pa_addStatement  (e : E5) : R5 Int32 := (if (e.1 paKind) = (140 : Int32) then (f5_Pa_addStatement_59 e) else (if (e.1 paKind) = (153 : Int32) then (f5_Pa_addStatement_59 e) else (if (e.1 paKind) = (154 : Int32) then (f5_Pa_addStatement_59 e) else (if (e.1 paKind) < (156 : Int32) then (f5_Pa_addStatement_50 e) else (if (e.1 paKind) ≤ (159 : Int32) then (f5_Pa_addStatement_59 e) else (f5_Pa_addStatement_50 e))))))

theorem Pa_varItem_q5 {C : zC} {n0 : Nat} {a0 : Nat} {κ : zS} {Q : zS → Prop} {X : zXp} (W : zW C n0 κ) (Ta0 : zT κ a0 = 10)  (hp : paA κ a0) (h : ∀ (κ' : zS), ((paS κ κ' a0) ∧ f5_Pa_varItem (ab5 κ a0) = .inl (ab5 κ' a0, ())) → Q κ') (hx : ∀ (cls : String) (κ' : zS), ((paX5 κ cls κ' a0) ∧ f5_Pa_varItem (ab5 κ a0) = .inr (zI κ' paFaultCode a0, zI κ' paFaultPlace a0)) → X cls κ') : zRun C 11 mPa_varItem [.ref a0] κ (oV Q X) := by
  refine Pa_varItem_run W Ta0 ?_
  replace W := W.lo (Nat.le_trans W.1.2.1 W.1.2.2) (Nat.le_refl (zn κ))
  unfold w_Pa_varItem_0
  have S0 := paS_0 hp
  have hj94 : ∀ (l0 : Nat) (l1 : Int32) (l2 : Int32) (τ : zS), zW C (zn κ) τ → zT τ l0 = 10 → ((a0 = l0 ∧ paS κ τ a0) ∧ f5_Pa_varItem (ab5 κ a0) = f5_Pa_varItem_94 l1 l2 (ab5 τ a0)) → w_Pa_varItem_94 C (zn κ) Q X  l0 l1 l2 τ := by
    rintro _ y94_1 y94_2 τ94 W94 T94_0 ⟨⟨rfl, j94⟩, hE⟩
    unfold w_Pa_varItem_94
    intro T1
    refine Pa_pass_q5 W94 T1  ?_ (fun κ_2 q3 => ?_) (fun cls9 κ9 q9 => hx _ _ ?_)
    · exact ⟨j94.2.1, j94.2.2.1, by decide⟩  -- p1
    rotate_left
    obtain ⟨q9, z9⟩ := q9
    · refine and_5 ?_ (fun o9 => rb_x5 hE z9)  -- x2
      exact paX5_tr j94.1 q9
    obtain ⟨q3, z9⟩ := q3
    replace hE := rb_i5 hE z9
    have S4 := paS_T Ta0 j94 W94 q3
    intro W5
    intro M6
    refine ⟨fun c7 => ?_, fun c7 => ?_⟩
    · skip
      replace hE := rb_t5 hE c7
      refine h _ ?_
      · refine and_5 ?_ (fun o9 => hE)  -- q3
        exact S4
    · skip
      replace hE := rb_f5 hE c7
      have e10 : (10 : Int32).toInt = 10 := rfl
      rw [lei, e10] at c7
      have v := S4.2.1.2.1.2.1
      refine ⟨?_, ?_⟩
      · have L := S4.2.1.2.2.1.1
        rw [inb_iff]; omega
      intro κ_8 hκ_8
      replace hE := rb_i5 hE (ab_ua5 (p := a0) (f := paVarNames) W5 (by first | exact Ta0 | exact paS_t S4 Ta0 | assumption) hκ_8 (by decide))
      have S9 := paS_N S4 (paN_ua W5 (paS_t S4 Ta0) S4.2.1 (show zr paVarNames = some 20 by decide +kernel) (by decide) hκ_8)
      intro W10
      refine ⟨?_, ?_⟩
      · have L := S9.2.1.2.1.1.1
        have e : zI κ_8 coVars (zR κ_8 paCode a0) = zI κ_2 coVars (zR κ_2 paCode a0) := by rw [hκ_8]; rfl
        rw [e, inb_iff]; omega
      intro κ_11 hκ_11
      replace hE := rb_i5 hE (ab_ua5 (p := a0) (f := coVarStarts) W10 (by first | exact Ta0 | exact paS_t S9 Ta0 | assumption | (rw [hκ_8, ua_t5]; first | exact Ta0 | exact paS_t S4 Ta0 | assumption)) hκ_11 (by decide))
      have S12 := paS_N S9 (paN_cu W10 (paS_t S9 Ta0) S9.2.1 hκ_11)
      intro W13
      intro κ_14 hκ_14
      replace hE := rb_i5 hE (ab_ui5 (p := a0) (f := coVars) hκ_14 (by decide) (by decide))
      intro W15
      refine h _ ?_
      · refine and_5 ?_ (fun o9 => hE)  -- q6
        have e : zI κ_11 coVars (zR κ_11 paCode a0) = zI κ_2 coVars (zR κ_2 paCode a0) := by rw [hκ_11, hκ_8]; rfl
        have e1 : (zI κ_2 coVars (zR κ_2 paCode a0) + 1).toInt = (zI κ_2 coVars (zR κ_2 paCode a0)).toInt + 1 := by rw [add_i (by rw [t1i]; omega) (by rw [t1i]; omega), t1i]
        exact paS_N S12 (paN_v W13 (paS_t S12 Ta0) S12.2.1 hκ_14 (Or.inl rfl) (by rw [e, e1]; omega) (by rw [e, e1]; omega))
  have hj89 : ∀ (l0 : Nat) (l1 : Int32) (s0 : Int32) (τ : zS), zW C (zn κ) τ → zT τ l0 = 10 → ((a0 = l0 ∧ paS κ τ a0 ∧ zI τ paKind a0 = 141) ∧ f5_Pa_varItem (ab5 κ a0) = f5_Pa_varItem_89 l1 s0 (ab5 τ a0)) → w_Pa_varItem_89 C (zn κ) Q X  l0 l1 s0 τ := by
    rintro _ y89_1 y89_s0 τ89 W89 T89_0 ⟨⟨rfl, j89⟩, hE⟩
    unfold w_Pa_varItem_89
    intro T16
    refine Pa_take_q5 W89 T16  ?_ (fun κ_17 q18 => ?_)
    · exact ⟨j89.1.2.1, paK_t j89.1.2.2.1 j89.2 (by decide)⟩  -- p7
    obtain ⟨q18, z9⟩ := q18
    replace hE := rb_i5 hE z9
    have S19 := paS_T Ta0 j89.1 W89 q18
    intro W20
    intro M21
    refine hj94 _ _ _ _ W20 ?_ ?_
    · exact paS_t S19 Ta0  -- t8
    · refine and_5 ?_ (fun o9 => hE)  -- k9
      exact ⟨rfl, S19⟩
  have hj52 : ∀ (l0 : Nat) (l1 : Int32) (l3 : Int32) (τ : zS), zW C (zn κ) τ → zT τ l0 = 10 → ((a0 = l0 ∧ paS κ τ a0) ∧ f5_Pa_varItem (ab5 κ a0) = f5_Pa_varItem_52 l1 l3 (ab5 τ a0)) → w_Pa_varItem_52 C (zn κ) Q X  l0 l1 l3 τ := by
    rintro _ y52_1 y52_3 τ52 W52 T52_0 ⟨⟨rfl, j52⟩, hE⟩
    unfold w_Pa_varItem_52
    intro T22
    refine Pa_expect_q5 W52 T22  ?_ (fun κ_23 q24 => ?_) (fun cls9 κ9 q9 => hx _ _ ?_)
    · exact j52.2.1  -- p10
    rotate_left
    obtain ⟨q9, z9⟩ := q9
    · refine and_5 ?_ (fun o9 => rb_x5 hE z9)  -- x11
      exact paX5_tr j52.1 q9
    obtain ⟨q24, z9⟩ := q24
    replace hE := rb_i5 hE z9
    have S25 := paS_e j52 q24
    intro W26
    intro M27
    refine ⟨fun c28 => ?_, fun c28 => ?_⟩
    · skip
      replace hE := rb_t5 hE c28
      intro T29
      refine Ta_numberAt_q5 W26 T29  ?_ (fun r30 q32 => ?_)
      · exact S25.2.1.1.1  -- p12
      obtain ⟨q32, z9⟩ := q32
      replace hE := rb_p5 hE z9
      intro W33
      intro M34
      refine hj89 _ _ _ _ W33 ?_ ?_
      · exact paS_t S25 Ta0  -- t13
      · refine and_5 ?_ (fun o9 => hE)  -- k14
        exact ⟨rfl, S25, by rw [← q24.1]; exact q24.2⟩
    · skip
      replace hE := rb_f5 hE c28
      intro T35
      refine Ta_numberAt_q5 W26 T35  ?_ (fun r36 q38 => ?_)
      · exact S25.2.1.1.1  -- p15
      obtain ⟨q38, z9⟩ := q38
      replace hE := rb_p5 hE z9
      intro W39
      intro M40
      refine hj89 _ _ _ _ W39 ?_ ?_
      · exact paS_t S25 Ta0  -- t16
      · refine and_5 ?_ (fun o9 => hE)  -- k17
        exact ⟨rfl, S25, by rw [← q24.1]; exact q24.2⟩
  have hj43 : ∀ (l0 : Nat) (l1 : Int32) (s0 : Int32) (τ : zS), zW C (zn κ) τ → zT τ l0 = 10 → ((a0 = l0 ∧ paS κ τ a0 ∧ (s0 ≠ 0 → zI τ paKind a0 = 45)) ∧ f5_Pa_varItem (ab5 κ a0) = f5_Pa_varItem_43 l1 s0 (ab5 τ a0)) → w_Pa_varItem_43 C (zn κ) Q X  l0 l1 s0 τ := by
    rintro _ y43_1 y43_s0 τ43 W43 T43_0 ⟨⟨rfl, j43⟩, hE⟩
    unfold w_Pa_varItem_43
    refine ⟨fun c41 => ?_, fun c41 => ?_⟩
    · skip
      replace hE := rb_t5 hE c41
      refine hj52 _ _ _ _ W43 ?_ ?_
      · exact paS_t j43.1 Ta0  -- t18
      · refine and_5 ?_ (fun o9 => hE)  -- k19
        exact ⟨rfl, j43.1⟩
    · skip
      replace hE := rb_f5 hE c41
      intro T42
      refine Pa_take_q5 W43 T42  ?_ (fun κ_43 q44 => ?_)
      · exact ⟨j43.1.2.1, paK_t j43.1.2.2.1 (j43.2 c41) (by decide)⟩  -- p20
      obtain ⟨q44, z9⟩ := q44
      replace hE := rb_i5 hE z9
      have S45 := paS_T Ta0 j43.1 W43 q44
      intro W46
      intro M47
      refine hj52 _ _ _ _ W46 ?_ ?_
      · exact paS_t S45 Ta0  -- t21
      · refine and_5 ?_ (fun o9 => hE)  -- k22
        exact ⟨rfl, S45⟩
  have hE : f5_Pa_varItem (ab5 κ a0) = f5_Pa_varItem (ab5 κ a0) := rfl
  intro T48
  refine Pa_newName_q5 W T48  ?_ (fun r49 κ_50 q51 => ?_) (fun cls9 κ9 q9 => hx _ _ ?_)
  · exact ⟨S0.2.1, S0.2.2.1⟩  -- p23
  rotate_left
  obtain ⟨q9, z9⟩ := q9
  · refine and_5 ?_ (fun o9 => rb_x5 hE z9)  -- x24
    exact paX5_tr S0.1 q9
  obtain ⟨q51, z9⟩ := q51
  replace hE := rb_i5 hE z9
  have S52 := paS_T Ta0 S0 W q51.1
  intro W53
  intro M54
  refine ⟨fun c55 => ?_, fun c55 => ?_⟩
  · skip
    replace hE := rb_f5 hE c55
    refine hj94 _ _ _ _ W53 ?_ ?_
    · exact paS_t S52 Ta0  -- t25
    · refine and_5 ?_ (fun o9 => hE)  -- k26
      exact ⟨rfl, S52⟩
  · skip
    replace hE := rb_t5 hE c55
    intro T56
    refine Pa_take_q5 W53 T56  ?_ (fun κ_57 q58 => ?_)
    · exact ⟨S52.2.1, paK_t S52.2.2.1 c55 (by decide)⟩  -- p27
    obtain ⟨q58, z9⟩ := q58
    replace hE := rb_i5 hE z9
    have S59 := paS_T Ta0 S52 W53 q58
    intro W60
    intro M61
    refine ⟨fun c62 => ?_, fun c62 => ?_⟩
    · skip
      replace hE := rb_f5 hE c62
      refine hj43 _ _ _ _ W60 ?_ ?_
      · exact paS_t S59 Ta0  -- t28
      · refine and_5 ?_ (fun o9 => hE)  -- k29
        exact ⟨rfl, S59, fun z => absurd rfl z⟩
    · skip
      replace hE := rb_t5 hE c62
      refine hj43 _ _ _ _ W60 ?_ ?_
      · exact paS_t S59 Ta0  -- t30
      · refine and_5 ?_ (fun o9 => hE)  -- k31
        exact ⟨rfl, S59, fun _ => c62⟩

theorem Pa_arrayItem_q5 {C : zC} {n0 : Nat} {a0 : Nat} {κ : zS} {Q : zS → Prop} {X : zXp} (W : zW C n0 κ) (Ta0 : zT κ a0 = 10)  (hp : paA κ a0) (h : ∀ (κ' : zS), ((paS κ κ' a0) ∧ f5_Pa_arrayItem (ab5 κ a0) = .inl (ab5 κ' a0, ())) → Q κ') (hx : ∀ (cls : String) (κ' : zS), ((paX5 κ cls κ' a0) ∧ f5_Pa_arrayItem (ab5 κ a0) = .inr (zI κ' paFaultCode a0, zI κ' paFaultPlace a0)) → X cls κ') : zRun C 11 mPa_arrayItem [.ref a0] κ (oV Q X) := by
  refine Pa_arrayItem_run W Ta0 ?_
  replace W := W.lo (Nat.le_trans W.1.2.1 W.1.2.2) (Nat.le_refl (zn κ))
  unfold w_Pa_arrayItem_0
  have S0 := paS_0 hp
  have hj59 : ∀ (l0 : Nat) (l1 : Int32) (l2 : Int32) (τ : zS), zW C (zn κ) τ → zT τ l0 = 10 → ((a0 = l0 ∧ paS κ τ a0 ∧ zI τ paKind a0 = 141 ∧ 1 ≤ l2.toInt ∧ l2.toInt ≤ 8) ∧ f5_Pa_arrayItem (ab5 κ a0) = f5_Pa_arrayItem_59 l1 l2 (ab5 τ a0)) → w_Pa_arrayItem_59 C (zn κ) Q X  l0 l1 l2 τ := by
    rintro _ y59_1 y59_2 τ59 W59 T59_0 ⟨⟨rfl, j59⟩, hE⟩
    unfold w_Pa_arrayItem_59
    intro T1
    refine Pa_take_q5 W59 T1  ?_ (fun κ_2 q3 => ?_)
    · exact ⟨j59.1.2.1, paK_t j59.1.2.2.1 j59.2.1 (by decide)⟩  -- p1
    obtain ⟨q3, z9⟩ := q3
    replace hE := rb_i5 hE z9
    have S4 := paS_T Ta0 j59.1 W59 q3
    intro W5
    intro M6
    intro T7
    refine Pa_closeSign_q5 W5 T7  ?_ (fun κ_8 q9 => ?_) (fun cls9 κ9 q9 => hx _ _ ?_)
    · exact ⟨S4.2.1, S4.2.2.1, by decide⟩  -- p2
    rotate_left
    obtain ⟨q9, z9⟩ := q9
    · refine and_5 ?_ (fun o9 => rb_x5 hE z9)  -- x3
      exact paX5_tr S4.1 q9
    obtain ⟨q9, z9⟩ := q9
    replace hE := rb_i5 hE z9
    have S10 := paS_T Ta0 S4 W5 q9
    intro W11
    intro M12
    intro T13
    refine Pa_pass_q5 W11 T13  ?_ (fun κ_14 q15 => ?_) (fun cls9 κ9 q9 => hx _ _ ?_)
    · exact ⟨S10.2.1, S10.2.2.1, by decide⟩  -- p4
    rotate_left
    obtain ⟨q9, z9⟩ := q9
    · refine and_5 ?_ (fun o9 => rb_x5 hE z9)  -- x5
      exact paX5_tr S10.1 q9
    obtain ⟨q15, z9⟩ := q15
    replace hE := rb_i5 hE z9
    have S16 := paS_T Ta0 S10 W11 q15
    intro W17
    intro M18
    refine ⟨fun c19 => ?_, fun c19 => ?_⟩
    · skip
      replace hE := rb_t5 hE c19
      refine h _ ?_
      · refine and_5 ?_ (fun o9 => hE)  -- q6
        exact S16
    · skip
      replace hE := rb_f5 hE c19
      have e3 : (3 : Int32).toInt = 3 := rfl
      rw [lei, e3] at c19
      have v := S16.2.1.2.1.2.2.1
      refine ⟨?_, ?_⟩
      · have L := S16.2.1.2.2.1.2.1
        rw [inb_iff]; omega
      intro κ_20 hκ_20
      replace hE := rb_i5 hE (ab_ua5 (p := a0) (f := paArrayNames) W17 (by first | exact Ta0 | exact paS_t S16 Ta0 | assumption) hκ_20 (by decide))
      have S21 := paS_N S16 (paN_ua W17 (paS_t S16 Ta0) S16.2.1 (show zr paArrayNames = some 20 by decide +kernel) (by decide) hκ_20)
      intro W22
      have e20 : zI κ_20 coArrays (zR κ_20 paCode a0) = zI κ_14 coArrays (zR κ_14 paCode a0) := by rw [hκ_20]; rfl
      refine ⟨?_, ?_⟩
      · have L := S21.2.1.2.1.1.2.1
        rw [e20, inb_iff]; omega
      intro κ_23 hκ_23
      replace hE := rb_i5 hE (ab_ua5 (p := a0) (f := coArrayBases) W22 (by first | exact Ta0 | exact paS_t S21 Ta0 | assumption | (rw [hκ_20, ua_t5]; first | exact Ta0 | exact paS_t S16 Ta0 | assumption)) hκ_23 (by decide))
      intro W24
      refine ⟨?_, ?_⟩
      · have L := S21.2.1.2.1.1.2.2.1
        have e : zI κ_23 coArrays (zR κ_23 paCode a0) = zI κ_20 coArrays (zR κ_20 paCode a0) := by rw [hκ_23]; rfl
        have n : zN κ_23 (zR κ_23 coArraySizes (zR κ_23 paCode a0)) = zN κ_20 (zR κ_20 coArraySizes (zR κ_20 paCode a0)) := by rw [hκ_23]; rfl
        rw [e, n, e20, inb_iff]; omega
      intro κ_25 hκ_25
      replace hE := rb_i5 hE (ab_ua5 (p := a0) (f := coArraySizes) W24 (by first | exact Ta0 | exact paS_t S21 Ta0 | assumption | (rw [hκ_23, ua_t5, hκ_20, ua_t5]; first | exact Ta0 | exact paS_t S16 Ta0 | assumption)) hκ_25 (by decide))
      intro W26
      intro κ_27 hκ_27
      replace hE := rb_i5 hE (ab_ui5 (p := a0) (f := coArrays) hκ_27 (by decide) (by decide))
      intro W28
      intro κ_29 hκ_29
      replace hE := rb_i5 hE (ab_ui5 (p := a0) (f := coCells) hκ_29 (by decide) (by decide))
      intro W30
      refine h _ ?_
      · refine and_5 ?_ (fun o9 => hE)  -- q10
        exact paS_N S21 (paN_a W22 (paS_t S21 Ta0) S21.2.1 (by rw [e20]; omega) j59.2.2.1 j59.2.2.2 hκ_23 hκ_25 hκ_27 hκ_29)
  have hj49 : ∀ (l0 : Nat) (l1 : Int32) (l2 : Int32) (τ : zS), zW C (zn κ) τ → zT τ l0 = 10 → ((a0 = l0 ∧ paS κ τ a0) ∧ f5_Pa_arrayItem (ab5 κ a0) = f5_Pa_arrayItem_49 l1 l2 (ab5 τ a0)) → w_Pa_arrayItem_49 C (zn κ) Q X  l0 l1 l2 τ := by
    rintro _ y49_1 y49_2 τ49 W49 T49_0 ⟨⟨rfl, j49⟩, hE⟩
    unfold w_Pa_arrayItem_49
    intro T31
    refine Pa_refuse_q5 (by decide) W49 T31  ?_ (fun κ_32 q33 => False.elim q33) (fun cls9 κ9 q9 => hx _ _ ?_)
    · exact j49.2.1  -- p11
    obtain ⟨q9, z9⟩ := q9
    · refine and_5 ?_ (fun o9 => rb_r5 hE z9)  -- x12
      exact paX5_tr j49.1 q9
  have hE : f5_Pa_arrayItem (ab5 κ a0) = f5_Pa_arrayItem (ab5 κ a0) := rfl
  intro T34
  refine Pa_newName_q5 W T34  ?_ (fun r35 κ_36 q37 => ?_) (fun cls9 κ9 q9 => hx _ _ ?_)
  · exact ⟨S0.2.1, S0.2.2.1⟩  -- p13
  rotate_left
  obtain ⟨q9, z9⟩ := q9
  · refine and_5 ?_ (fun o9 => rb_x5 hE z9)  -- x14
    exact paX5_tr S0.1 q9
  obtain ⟨q37, z9⟩ := q37
  replace hE := rb_i5 hE z9
  have S38 := paS_T Ta0 S0 W q37.1
  intro W39
  intro M40
  intro T41
  refine Pa_openSign_q5 W39 T41  ?_ (fun κ_42 q43 => ?_) (fun cls9 κ9 q9 => hx _ _ ?_)
  · exact ⟨S38.2.1, S38.2.2.1, by decide⟩  -- p15
  rotate_left
  obtain ⟨q9, z9⟩ := q9
  · refine and_5 ?_ (fun o9 => rb_x5 hE z9)  -- x16
    exact paX5_tr S38.1 q9
  obtain ⟨q43, z9⟩ := q43
  replace hE := rb_i5 hE z9
  have S44 := paS_T Ta0 S38 W39 q43
  intro W45
  intro M46
  intro T47
  refine Pa_expect_q5 W45 T47  ?_ (fun κ_48 q49 => ?_) (fun cls9 κ9 q9 => hx _ _ ?_)
  · exact S44.2.1  -- p17
  rotate_left
  obtain ⟨q9, z9⟩ := q9
  · refine and_5 ?_ (fun o9 => rb_x5 hE z9)  -- x18
    exact paX5_tr S44.1 q9
  obtain ⟨q49, z9⟩ := q49
  replace hE := rb_i5 hE z9
  have S50 := paS_e S44 q49
  intro W51
  intro M52
  intro T53
  refine Ta_numberAt_q5 W51 T53  ?_ (fun r54 q56 => ?_)
  · exact S50.2.1.1.1  -- p19
  obtain ⟨q56, z9⟩ := q56
  replace hE := rb_p5 hE z9
  intro W57
  intro M58
  refine ⟨fun c59 => ?_, fun c59 => ?_⟩
  · skip
    replace hE := rb_t5 hE c59
    refine hj49 _ _ _ _ W57 ?_ ?_
    · exact paS_t S50 Ta0  -- t20
    · refine and_5 ?_ (fun o9 => hE)  -- k21
      exact ⟨rfl, S50⟩
  · skip
    replace hE := rb_f5 hE c59
    refine ⟨fun c60 => ?_, fun c60 => ?_⟩
    · skip
      replace hE := rb_t5 hE c60
      refine hj59 _ _ _ _ W57 ?_ ?_
      · exact paS_t S50 Ta0  -- t22
      · refine and_5 ?_ (fun o9 => hE)  -- k23
        have e8 : (8 : Int32).toInt = 8 := rfl
        rw [lti, t1i] at c59
        rw [lei, e8] at c60
        exact ⟨rfl, S50, by rw [← q49.1]; exact q49.2, by omega, c60⟩
    · skip
      replace hE := rb_f5 hE c60
      refine hj49 _ _ _ _ W57 ?_ ?_
      · exact paS_t S50 Ta0  -- t24
      · refine and_5 ?_ (fun o9 => hE)  -- k25
        exact ⟨rfl, S50⟩

theorem Pa_functionHead_q5 {C : zC} {n0 : Nat} {a0 : Nat} {κ : zS} {Q : zS → Prop} {X : zXp} (W : zW C n0 κ) (Ta0 : zT κ a0 = 10)  (hp : paA κ a0) (h : ∀ (κ' : zS), ((paS κ κ' a0) ∧ f5_Pa_functionHead (ab5 κ a0) = .inl (ab5 κ' a0, ())) → Q κ') (hx : ∀ (cls : String) (κ' : zS), ((paX5 κ cls κ' a0) ∧ f5_Pa_functionHead (ab5 κ a0) = .inr (zI κ' paFaultCode a0, zI κ' paFaultPlace a0)) → X cls κ') : zRun C 11 mPa_functionHead [.ref a0] κ (oV Q X) := by
  refine Pa_functionHead_run W Ta0 ?_
  replace W := W.lo (Nat.le_trans W.1.2.1 W.1.2.2) (Nat.le_refl (zn κ))
  unfold w_Pa_functionHead_0
  have S0 := paS_0 hp
  have hj144 : ∀ (l0 : Nat) (τ : zS), zW C (zn κ) τ → zT τ l0 = 10 → ((a0 = l0 ∧ paS κ τ a0) ∧ f5_Pa_functionHead (ab5 κ a0) = f5_Pa_functionHead_144 (ab5 τ a0)) → w_Pa_functionHead_144 C (zn κ) Q X  l0 τ := by
    rintro _ τ144 W144 T144_0 ⟨⟨rfl, j144⟩, hE⟩
    unfold w_Pa_functionHead_144
    intro κ_1 hκ_1
    replace hE := rb_i5 hE (ab_ui5 (p := a0) (f := paInside) hκ_1 (by decide) (by decide))
    have S2 := paS_N j144 (paN_u W144 (paS_t j144 Ta0) j144.2.1 hκ_1 (Or.inr (Or.inr rfl)))
    intro W3
    intro T4
    refine Pa_pushBlock_q5 W3 T4  ?_ (fun κ_5 q6 => ?_)
    · exact S2.2.1  -- p1
    obtain ⟨q6, z9⟩ := q6
    replace hE := rb_i5 hE z9
    have S7 := paS_N S2 q6
    intro W8
    intro M9
    refine h _ ?_
    · refine and_5 ?_ (fun o9 => hE)  -- q2
      exact S7
  have hj88 : ∀ (l0 : Nat) (l1 : Int32) (τ : zS), zW C (zn κ) τ → zT τ l0 = 10 → ((a0 = l0 ∧ paS κ τ a0) ∧ f5_Pa_functionHead (ab5 κ a0) = f5_Pa_functionHead_88 l1 (ab5 τ a0)) → w_Pa_functionHead_88 C (zn κ) Q X  l0 l1 τ := by
    rintro _ y88_1 τ88 W88 T88_0 ⟨⟨rfl, j88⟩, hE⟩
    unfold w_Pa_functionHead_88
    intro T10
    refine Pa_closeSign_q5 W88 T10  ?_ (fun κ_11 q12 => ?_) (fun cls9 κ9 q9 => hx _ _ ?_)
    · exact ⟨j88.2.1, j88.2.2.1, by decide⟩  -- p3
    rotate_left
    obtain ⟨q9, z9⟩ := q9
    · refine and_5 ?_ (fun o9 => rb_x5 hE z9)  -- x4
      exact paX5_tr j88.1 q9
    obtain ⟨q12, z9⟩ := q12
    replace hE := rb_i5 hE z9
    have S13 := paS_T Ta0 j88 W88 q12
    intro W14
    intro M15
    intro T16
    refine Pa_openSign_q5 W14 T16  ?_ (fun κ_17 q18 => ?_) (fun cls9 κ9 q9 => hx _ _ ?_)
    · exact ⟨S13.2.1, S13.2.2.1, by decide⟩  -- p5
    rotate_left
    obtain ⟨q9, z9⟩ := q9
    · refine and_5 ?_ (fun o9 => rb_x5 hE z9)  -- x6
      exact paX5_tr S13.1 q9
    obtain ⟨q18, z9⟩ := q18
    replace hE := rb_i5 hE z9
    have S19 := paS_T Ta0 S13 W14 q18
    intro W20
    intro M21
    refine ⟨fun c22 => ?_, fun c22 => ?_⟩
    · skip
      replace hE := rb_t5 hE c22
      refine hj144 _ _ W20 ?_ ?_
      · exact paS_t S19 Ta0  -- t7
      · refine and_5 ?_ (fun o9 => hE)  -- k8
        exact ⟨rfl, S19⟩
    · skip
      replace hE := rb_f5 hE c22
      have e10 : (10 : Int32).toInt = 10 := rfl
      rw [lei, e10] at c22
      have v := S19.2.1.2.1.2.2.2.2.1
      refine ⟨?_, ?_⟩
      · have L := S19.2.1.2.2.1.2.2.1
        rw [inb_iff]; omega
      intro κ_23 hκ_23
      replace hE := rb_i5 hE (ab_ua5 (p := a0) (f := paFunctionNames) W20 (by first | exact Ta0 | exact paS_t S19 Ta0 | assumption) hκ_23 (by decide))
      have S24 := paS_N S19 (paN_ua W20 (paS_t S19 Ta0) S19.2.1 (show zr paFunctionNames = some 20 by decide +kernel) (by decide) hκ_23)
      intro W25
      refine ⟨?_, ?_⟩
      · have L := S24.2.1.2.1.1.2.2.2.2.1
        have e : zI κ_23 coFunctions (zR κ_23 paCode a0) = zI κ_17 coFunctions (zR κ_17 paCode a0) := by rw [hκ_23]; rfl
        rw [e, inb_iff]; omega
      intro κ_26 hκ_26
      replace hE := rb_i5 hE (ab_ua5 (p := a0) (f := coNameCounts) W25 (by first | exact Ta0 | exact paS_t S24 Ta0 | assumption | (rw [hκ_23, ua_t5]; first | exact Ta0 | exact paS_t S19 Ta0 | assumption)) hκ_26 (by decide))
      have S27 := paS_N S24 (paN_cu W25 (paS_t S24 Ta0) S24.2.1 hκ_26)
      intro W28
      refine hj144 _ _ W28 ?_ ?_
      · exact paS_t S27 Ta0  -- t11
      · refine and_5 ?_ (fun o9 => hE)  -- k12
        exact ⟨rfl, S27⟩
  have hj34 : ∀ (l0 : Nat) (l1 : Int32) (s0 : Int32) (τ : zS), zW C (zn κ) τ → zT τ l0 = 10 → ((a0 = l0 ∧ paS κ τ a0) ∧ f5_Pa_functionHead (ab5 κ a0) = f5_Pa_functionHead_34 l1 s0 (ab5 τ a0)) → w_Pa_functionHead_34 C (zn κ) Q X  l0 l1 s0 τ := by
    rintro _ y34_1 y34_s0 τ34 W34 T34_0 ⟨⟨rfl, j34⟩, hE⟩
    unfold w_Pa_functionHead_34
    unfold w_Pa_functionHead_37
    refine ⟨fun n l0 l1 l2 l3 τ => n = (5 - l3.toInt).toNat ∧ ((a0 = l0 ∧ paS κ τ a0 ∧ 0 ≤ l3.toInt ∧ l3.toInt ≤ 5) ∧ ∃ m5, n < m5 ∧ f5_Pa_functionHead (ab5 κ a0) = f5_Pa_functionHead_37 m5 l1 l2 l3 (ab5 τ a0)), ⟨_, rfl, ?_⟩, ?_⟩
    · refine and_5 ?_ (fun o9 => ⟨fu5, by first | exact fb5 | (unfold fu5; omega) | decide, hE⟩)  -- j13
      exact ⟨rfl, j34, by decide, by decide⟩
    rintro n37 _ x37_1 x37_2 x37_3 κ37 W37 T37_0 ⟨hn37, ⟨rfl, i37⟩, m37, hm37, hE⟩
    obtain ⟨m37, rfl⟩ : ∃ m9, m37 = m9 + 1 := ⟨m37 - 1, by omega⟩
    have hj73 : ∀ (l0 : Nat) (l1 : Int32) (l3 : Int32) (s0 : Int32) (τ : zS), zW C (zn κ) τ → zT τ l0 = 10 → ((a0 = l0 ∧ paS κ τ a0 ∧ l3 = x37_3 ∧ l3.toInt ≤ 4 ∧ (s0 ≠ 0 → zI τ paKind a0 = 44)) ∧ f5_Pa_functionHead (ab5 κ a0) = f5_Pa_functionHead_73 (f5_Pa_functionHead_37 m37) l1 l3 s0 (ab5 τ a0)) → w_Pa_functionHead_73 C (zn κ) Q X (fun (l0' : Nat) (l1' : Int32) (l2' : Int32) (l3' : Int32) (τ : zS) => ∃ k < n37, (fun (n : Nat) (l0 : Nat) (l1 : Int32) (l2 : Int32) (l3 : Int32) (τ : zS) => n = (5 - l3.toInt).toNat ∧ ((a0 = l0 ∧ paS κ τ a0 ∧ 0 ≤ l3.toInt ∧ l3.toInt ≤ 5) ∧ ∃ m5, n < m5 ∧ f5_Pa_functionHead (ab5 κ a0) = f5_Pa_functionHead_37 m5 l1 l2 l3 (ab5 τ a0))) k l0' l1' l2' l3' τ) l0 l1 l3 s0 τ := by
      clear hE
      rintro _ y73_1 y73_3 y73_s0 τ73 W73 T73_0 ⟨⟨rfl, j73⟩, hE⟩
      unfold w_Pa_functionHead_73
      obtain ⟨J, rfl, l4, jk⟩ := j73
      have l0 := i37.2.1
      have e1 : (y73_3 + 1).toInt = y73_3.toInt + 1 := by rw [add_i (by rw [t1i]; omega) (by rw [t1i]; omega), t1i]
      refine ⟨fun c29 => ?_, fun c29 => ?_⟩
      · skip
        replace hE := rb_t5 hE c29
        intro x30 hx30
        replace hE := rb_p5 hE hx30
        refine lp_b5 ?_ (fun d9 => ⟨rfl, ?_⟩)
        · rw [hn37, hx30, e1]; omega  -- d14
        · refine and_5 ?_ (fun o9 => ⟨m37, by omega, hE⟩)  -- i15
          exact ⟨rfl, J, by rw [hx30, e1]; omega, by rw [hx30, e1]; omega⟩
      · skip
        replace hE := rb_f5 hE c29
        intro T31
        refine Pa_take_q5 W73 T31  ?_ (fun κ_32 q33 => ?_)
        · exact ⟨J.2.1, paK_t J.2.2.1 (jk c29) (by decide)⟩  -- p16
        obtain ⟨q33, z9⟩ := q33
        replace hE := rb_i5 hE z9
        have S34 := paS_T Ta0 J W73 q33
        intro W35
        intro M36
        intro x37 hx37
        replace hE := rb_p5 hE hx37
        refine lp_b5 ?_ (fun d9 => ⟨rfl, ?_⟩)
        · rw [hn37, hx37, e1]; omega  -- d17
        · refine and_5 ?_ (fun o9 => ⟨m37, by omega, hE⟩)  -- i18
          exact ⟨rfl, S34, by rw [hx37, e1]; omega, by rw [hx37, e1]; omega⟩
    refine ⟨fun c38 => ?_, fun c38 => ?_⟩
    · skip
      replace hE := rb_t5 hE c38
      refine hj88 _ _ _ W37 ?_ ?_
      · exact paS_t i37.1 Ta0  -- t19
      · refine and_5 ?_ (fun o9 => hE)  -- k20
        exact ⟨rfl, i37.1⟩
    · skip
      replace hE := rb_f5 hE c38
      refine ⟨fun c39 => ?_, fun c39 => ?_⟩
      · skip
        replace hE := rb_t5 hE c39
        refine hj88 _ _ _ W37 ?_ ?_
        · exact paS_t i37.1 Ta0  -- t21
        · refine and_5 ?_ (fun o9 => hE)  -- k22
          exact ⟨rfl, i37.1⟩
      · skip
        replace hE := rb_f5 hE c39
        intro T40
        refine Pa_newName_q5 W37 T40  ?_ (fun r41 κ_42 q43 => ?_) (fun cls9 κ9 q9 => hx _ _ ?_)
        · exact ⟨i37.1.2.1, i37.1.2.2.1⟩  -- p23
        rotate_left
        obtain ⟨q9, z9⟩ := q9
        · refine and_5 ?_ (fun o9 => rb_x5 hE z9)  -- x24
          exact paX5_tr i37.1.1 q9
        obtain ⟨q43, z9⟩ := q43
        replace hE := rb_i5 hE z9
        have S44 := paS_T Ta0 i37.1 W37 q43.1
        intro W45
        intro M46
        intro T47
        refine Pa_addOwn_q5 W45 T47  ?_ (fun κ_48 q49 => ?_)
        · exact S44.2.1  -- p25
        obtain ⟨q49, z9⟩ := q49
        replace hE := rb_i5 hE z9
        have S50 := paS_N S44 q49
        intro W51
        intro M52
        refine ⟨fun c53 => ?_, fun c53 => ?_⟩
        · skip
          replace hE := rb_f5 hE c53
          refine hj73 _ _ _ _ _ W51 ?_ ?_
          · exact paS_t S50 Ta0  -- t26
          · refine and_5 ?_ (fun o9 => hE)  -- k27
            have e4 : (4 : Int32).toInt = 4 := rfl
            rw [lti, e4] at c39
            exact ⟨rfl, S50, rfl, by omega, fun z => absurd rfl z⟩
        · skip
          replace hE := rb_t5 hE c53
          refine hj73 _ _ _ _ _ W51 ?_ ?_
          · exact paS_t S50 Ta0  -- t28
          · refine and_5 ?_ (fun o9 => hE)  -- k29
            have e4 : (4 : Int32).toInt = 4 := rfl
            rw [lti, e4] at c39
            exact ⟨rfl, S50, rfl, by omega, fun _ => c53⟩
  have hE : f5_Pa_functionHead (ab5 κ a0) = f5_Pa_functionHead (ab5 κ a0) := rfl
  intro T54
  refine Pa_newName_q5 W T54  ?_ (fun r55 κ_56 q57 => ?_) (fun cls9 κ9 q9 => hx _ _ ?_)
  · exact ⟨S0.2.1, S0.2.2.1⟩  -- p30
  rotate_left
  obtain ⟨q9, z9⟩ := q9
  · refine and_5 ?_ (fun o9 => rb_x5 hE z9)  -- x31
    exact paX5_tr S0.1 q9
  obtain ⟨q57, z9⟩ := q57
  replace hE := rb_i5 hE z9
  have S58 := paS_T Ta0 S0 W q57.1
  intro W59
  intro M60
  intro T61
  refine Pa_openSign_q5 W59 T61  ?_ (fun κ_62 q63 => ?_) (fun cls9 κ9 q9 => hx _ _ ?_)
  · exact ⟨S58.2.1, S58.2.2.1, by decide⟩  -- p32
  rotate_left
  obtain ⟨q9, z9⟩ := q9
  · refine and_5 ?_ (fun o9 => rb_x5 hE z9)  -- x33
    exact paX5_tr S58.1 q9
  obtain ⟨q63, z9⟩ := q63
  replace hE := rb_i5 hE z9
  have S64 := paS_T Ta0 S58 W59 q63
  intro W65
  intro M66
  refine ⟨fun c67 => ?_, fun c67 => ?_⟩
  · skip
    replace hE := rb_t5 hE c67
    refine hj34 _ _ _ _ W65 ?_ ?_
    · exact paS_t S64 Ta0  -- t34
    · refine and_5 ?_ (fun o9 => hE)  -- k35
      exact ⟨rfl, S64⟩
  · skip
    replace hE := rb_f5 hE c67
    refine hj34 _ _ _ _ W65 ?_ ?_
    · exact paS_t S64 Ta0  -- t36
    · refine and_5 ?_ (fun o9 => hE)  -- k37
      exact ⟨rfl, S64⟩

theorem Pa_item_q5 {C : zC} {n0 : Nat} {a0 : Nat} {κ : zS} {Q : zS → Prop} {X : zXp} (W : zW C n0 κ) (Ta0 : zT κ a0 = 10)  (hp : paA κ a0) (h : ∀ (κ' : zS), ((paS κ κ' a0) ∧ f5_Pa_item (ab5 κ a0) = .inl (ab5 κ' a0, ())) → Q κ') (hx : ∀ (cls : String) (κ' : zS), ((paX5 κ cls κ' a0) ∧ f5_Pa_item (ab5 κ a0) = .inr (zI κ' paFaultCode a0, zI κ' paFaultPlace a0)) → X cls κ') : zRun C 12 mPa_item [.ref a0] κ (oV Q X) := by
  refine Pa_item_run W Ta0 ?_
  replace W := W.lo (Nat.le_trans W.1.2.1 W.1.2.2) (Nat.le_refl (zn κ))
  unfold w_Pa_item_0
  have S0 := paS_0 hp
  have hj35 : ∀ (l0 : Nat) (l1 : Int32) (τ : zS), zW C (zn κ) τ → zT τ l0 = 10 → ((κ = τ ∧ a0 = l0 ∧ zI κ paKind a0 ≠ 142) ∧ f5_Pa_item (ab5 κ a0) = f5_Pa_item_35 l1 (ab5 τ a0)) → w_Pa_item_35 C (zn κ) Q X  l0 l1 τ := by
    rintro _ y35_1 _ W35 T35_0 ⟨⟨rfl, rfl, j35⟩, hE⟩
    unfold w_Pa_item_35
    intro T1
    refine Pa_take_q5 W35 T1  ?_ (fun κ_2 q3 => ?_)
    · exact ⟨hp.1, paK_t hp.2.1 rfl j35⟩  -- p1
    obtain ⟨q3, z9⟩ := q3
    replace hE := rb_i5 hE z9
    have S4 := paS_T Ta0 S0 W35 q3
    intro W5
    intro M6
    refine ⟨fun c7 => ?_, fun c7 => ?_⟩
    · skip
      replace hE := rb_f5 hE c7
      refine ⟨fun c8 => ?_, fun c8 => ?_⟩
      · skip
        replace hE := rb_f5 hE c8
        intro T9
        refine Pa_functionHead_q5 W5 T9  ?_ (fun κ_10 q11 => ?_) (fun cls9 κ9 q9 => hx _ _ ?_)
        · exact S4.2  -- p2
        rotate_left
        obtain ⟨q9, z9⟩ := q9
        · refine and_5 ?_ (fun o9 => rb_x5 hE z9)  -- x3
          exact paX5_tr S4.1 q9
        obtain ⟨q11, z9⟩ := q11
        replace hE := rb_i5 hE z9
        intro W12
        intro M13
        refine h _ ?_
        · refine and_5 ?_ (fun o9 => hE)  -- q4
          exact ⟨S4.1.tr q11.1, q11.2⟩
      · skip
        replace hE := rb_t5 hE c8
        intro T14
        refine Pa_arrayItem_q5 W5 T14  ?_ (fun κ_15 q16 => ?_) (fun cls9 κ9 q9 => hx _ _ ?_)
        · exact S4.2  -- p5
        rotate_left
        obtain ⟨q9, z9⟩ := q9
        · refine and_5 ?_ (fun o9 => rb_x5 hE z9)  -- x6
          exact paX5_tr S4.1 q9
        obtain ⟨q16, z9⟩ := q16
        replace hE := rb_i5 hE z9
        intro W17
        intro M18
        refine h _ ?_
        · refine and_5 ?_ (fun o9 => hE)  -- q7
          exact ⟨S4.1.tr q16.1, q16.2⟩
    · skip
      replace hE := rb_t5 hE c7
      intro T19
      refine Pa_varItem_q5 W5 T19  ?_ (fun κ_20 q21 => ?_) (fun cls9 κ9 q9 => hx _ _ ?_)
      · exact S4.2  -- p8
      rotate_left
      obtain ⟨q9, z9⟩ := q9
      · refine and_5 ?_ (fun o9 => rb_x5 hE z9)  -- x9
        exact paX5_tr S4.1 q9
      obtain ⟨q21, z9⟩ := q21
      replace hE := rb_i5 hE z9
      intro W22
      intro M23
      refine h _ ?_
      · refine and_5 ?_ (fun o9 => hE)  -- q10
        exact ⟨S4.1.tr q21.1, q21.2⟩
  have hE : f5_Pa_item (ab5 κ a0) = f5_Pa_item (ab5 κ a0) := rfl
  intro x24 hx24
  replace hE := rb_p5 hE hx24
  refine ⟨fun c25 => ?_, fun c25 => ?_⟩
  · skip
    replace hE := rb_t5 hE c25
    refine hj35 _ _ _ W ?_ ?_
    · exact paS_t S0 Ta0  -- t11
    · refine and_5 ?_ (fun o9 => hE)  -- k12
      exact ⟨rfl, rfl, by rw [← hx24, c25]; decide⟩
  · skip
    replace hE := rb_f5 hE c25
    refine ⟨fun c26 => ?_, fun c26 => ?_⟩
    · skip
      replace hE := rb_t5 hE c26
      refine hj35 _ _ _ W ?_ ?_
      · exact paS_t S0 Ta0  -- t13
      · refine and_5 ?_ (fun o9 => hE)  -- k14
        exact ⟨rfl, rfl, by rw [← hx24, c26]; decide⟩
    · skip
      replace hE := rb_f5 hE c26
      refine ⟨fun c27 => ?_, fun c27 => ?_⟩
      · skip
        replace hE := rb_t5 hE c27
        refine hj35 _ _ _ W ?_ ?_
        · exact paS_t S0 Ta0  -- t15
        · refine and_5 ?_ (fun o9 => hE)  -- k16
          exact ⟨rfl, rfl, by rw [← hx24, c27]; decide⟩
      · skip
        replace hE := rb_f5 hE c27
        intro T28
        refine Pa_refuse_q5 (by decide) W T28  ?_ (fun κ_29 q30 => False.elim q30) (fun cls9 κ9 q9 => hx _ _ ?_)
        · exact S0.2.1  -- p17
        obtain ⟨q9, z9⟩ := q9
        · refine and_5 ?_ (fun o9 => rb_r5 hE z9)  -- x18
          exact paX5_tr S0.1 q9

theorem Pa_closeBlock_q5 {C : zC} {n0 : Nat} {a0 : Nat} {κ : zS} {Q : zS → Prop} {X : zXp} (W : zW C n0 κ) (Ta0 : zT κ a0 = 10)  (hp : paA κ a0) (h : ∀ (κ' : zS), ((paS κ κ' a0) ∧ f5_Pa_closeBlock (ab5 κ a0) = .inl (ab5 κ' a0, ())) → Q κ') (hx : ∀ (cls : String) (κ' : zS), ((paX5 κ cls κ' a0) ∧ f5_Pa_closeBlock (ab5 κ a0) = .inr (zI κ' paFaultCode a0, zI κ' paFaultPlace a0)) → X cls κ') : zRun C 10 mPa_closeBlock [.ref a0] κ (oV Q X) := by
  refine Pa_closeBlock_run W Ta0 ?_
  replace W := W.lo (Nat.le_trans W.1.2.1 W.1.2.2) (Nat.le_refl (zn κ))
  unfold w_Pa_closeBlock_0
  have S0 := paS_0 hp
  have hj86 : ∀ (l0 : Nat) (τ : zS), zW C (zn κ) τ → zT τ l0 = 10 → ((a0 = l0 ∧ paS κ τ a0) ∧ f5_Pa_closeBlock (ab5 κ a0) = f5_Pa_closeBlock_86 (ab5 τ a0)) → w_Pa_closeBlock_86 C (zn κ) Q X  l0 τ := by
    rintro _ τ86 W86 T86_0 ⟨⟨rfl, j86⟩, hE⟩
    unfold w_Pa_closeBlock_86
    intro κ_1 hκ_1
    replace hE := rb_i5 hE (ab_ui5 (p := a0) (f := paOwns) hκ_1 (by decide) (by decide))
    have S2 := paS_N j86 (paN_u W86 (paS_t j86 Ta0) j86.2.1 hκ_1 (Or.inl ⟨rfl, by decide, by decide⟩))
    intro W3
    intro κ_4 hκ_4
    replace hE := rb_i5 hE (ab_ui5 (p := a0) (f := paInside) hκ_4 (by decide) (by decide))
    have S5 := paS_N S2 (paN_u W3 (paS_t S2 Ta0) S2.2.1 hκ_4 (Or.inr (Or.inr rfl)))
    intro W6
    refine h _ ?_
    · refine and_5 ?_ (fun o9 => hE)  -- q1
      exact S5
  have hj24 : ∀ (l0 : Nat) (s0 : Nat) (s1 : Int32) (τ : zS), zW C (zn κ) τ → zT τ l0 = 10 → zT τ s0 = 10 → ((a0 = l0 ∧ paS κ τ a0 ∧ s0 = a0 ∧ 0 ≤ s1.toInt ∧ s1.toInt ≤ 40) ∧ f5_Pa_closeBlock (ab5 κ a0) = f5_Pa_closeBlock_24 s1 (ab5 τ a0)) → w_Pa_closeBlock_24 C (zn κ) Q X  l0 s0 s1 τ := by
    rintro _ y24_s0 y24_s1 τ24 W24 T24_0 T24_1 ⟨⟨rfl, j24⟩, hE⟩
    unfold w_Pa_closeBlock_24
    intro κ_7 hκ_7
    replace hE := rb_i5 hE (ab_ui5 (p := a0) (f := paBlocks) (hκ_7.trans (congrArg (fun z => ui τ24 paBlocks z y24_s1) j24.2.1)) (by decide) (by decide))
    have S8 := paS_N j24.1 (paN_u W24 (paS_t j24.1 Ta0) j24.1.2.1 (show κ_7 = ui τ24 paBlocks a0 y24_s1 by rw [hκ_7, j24.2.1]) (Or.inr (Or.inl ⟨rfl, j24.2.2.1, by have := j24.2.2.2; omega⟩)))
    intro W9
    have e7 : zI κ_7 paBlocks a0 = y24_s1 := by rw [hκ_7, j24.2.1]; exact if_pos ⟨rfl, rfl⟩
    have jb := j24.2.2
    refine ⟨?_, ?_⟩
    · have L := S8.2.1.2.2.1.2.2.2.2.1
      rw [e7, inb_iff]; omega
    intro x10 hx10
    replace hE := rb_p5 hE hx10
    refine ⟨fun c11 => ?_, fun c11 => ?_⟩
    · skip
      replace hE := rb_f5 hE c11
      refine ⟨fun c12 => ?_, fun c12 => ?_⟩
      · skip
        replace hE := rb_f5 hE c12
        refine h _ ?_
        · refine and_5 ?_ (fun o9 => hE)  -- q3
          exact S8
      · skip
        replace hE := rb_t5 hE c12
        intro T13
        refine Co_column_q5 W9 T13  ?_ (fun r14 q16 => ?_)
        · exact ⟨S8.2.1.2.1, by decide, by decide⟩  -- p4
        obtain ⟨q16, z9⟩ := q16
        replace hE := rb_p5 hE (z9 a0 (by first | exact Ta0 | exact paS_t S8 Ta0 | assumption) (by first | rfl | assumption))
        intro W17
        intro M18
        refine ⟨fun c19 => ?_, fun c19 => ?_⟩
        · skip
          replace hE := rb_f5 hE c19
          refine h _ ?_
          · refine and_5 ?_ (fun o9 => hE)  -- q5
            exact S8
        · skip
          replace hE := rb_t5 hE c19
          refine ⟨?_, ?_⟩
          · have L := S8.2.1.2.2.1.2.2.2.2.2.2
            rw [e7, inb_iff]; omega
          refine ⟨fun c20 => ?_, fun c20 => ?_⟩
          · skip
            replace hE := rb_f5 hE c20
            refine h _ ?_
            · refine and_5 ?_ (fun o9 => hE)  -- q7
              exact S8
          · skip
            replace hE := rb_t5 hE c20
            intro T21
            refine Pa_take_q5 W17 T21  ?_ (fun κ_22 q23 => ?_)
            · exact ⟨S8.2.1, paK_t S8.2.2.1 c12 (by decide)⟩  -- p8
            obtain ⟨q23, z9⟩ := q23
            replace hE := rb_i5 hE z9
            have S24 := paS_T Ta0 S8 W17 q23
            intro W25
            intro M26
            intro T27
            refine Pa_openSign_q5 W25 T27  ?_ (fun κ_28 q29 => ?_) (fun cls9 κ9 q9 => hx _ _ ?_)
            · exact ⟨S24.2.1, S24.2.2.1, by decide⟩  -- p9
            rotate_left
            obtain ⟨q9, z9⟩ := q9
            · refine and_5 ?_ (fun o9 => rb_x5 hE z9)  -- x10
              exact paX5_tr S24.1 q9
            obtain ⟨q29, z9⟩ := q29
            replace hE := rb_i5 hE z9
            have S30 := paS_T Ta0 S24 W25 q29
            intro W31
            intro M32
            intro T33
            refine Pa_pushBlock_q5 W31 T33  ?_ (fun κ_34 q35 => ?_)
            · exact S30.2.1  -- p11
            obtain ⟨q35, z9⟩ := q35
            replace hE := rb_i5 hE z9
            have S36 := paS_N S30 q35
            intro W37
            intro M38
            refine h _ ?_
            · refine and_5 ?_ (fun o9 => hE)  -- q12
              exact S36
    · skip
      replace hE := rb_t5 hE c11
      refine ⟨fun c39 => ?_, fun c39 => ?_⟩
      · skip
        replace hE := rb_t5 hE c39
        refine hj86 _ _ W9 ?_ ?_
        · exact paS_t S8 Ta0  -- t13
        · refine and_5 ?_ (fun o9 => hE)  -- k14
          exact ⟨rfl, S8⟩
      · skip
        replace hE := rb_f5 hE c39
        have e10 : (10 : Int32).toInt = 10 := rfl
        rw [lei, e10] at c39
        have fv := S8.2.1.2.1.2.2.2.2.1
        have fb : 0 ≤ (zI κ_7 coFunctions (zR κ_7 paCode a0)).toInt ∧ (zI κ_7 coFunctions (zR κ_7 paCode a0)).toInt < 10 := ⟨fv.1, by omega⟩
        refine ⟨?_, ?_⟩
        · have L := S8.2.1.2.1.1.2.2.2.2.2
          rw [inb_iff]; omega
        intro κ_40 hκ_40
        replace hE := rb_i5 hE (ab_ua5 (p := a0) (f := coOwnCounts) W9 (by first | exact Ta0 | exact paS_t S8 Ta0 | assumption | (rw [hκ_7, ui_t5]; first | exact Ta0 | exact paS_t j24.1 Ta0 | assumption)) hκ_40 (by decide))
        have S41 := paS_N S8 (paN_cu W9 (paS_t S8 Ta0) S8.2.1 hκ_40)
        intro W42
        intro κ_43 hκ_43
        replace hE := rb_i5 hE (ab_ui5 (p := a0) (f := coFunctions) hκ_43 (by decide) (by decide))
        have S44 := cb_f Ta0 S41 W42 hκ_40 hκ_43 fb
        intro W45
        refine hj86 _ _ W45 ?_ ?_
        · exact paS_t S44 Ta0  -- t16
        · refine and_5 ?_ (fun o9 => hE)  -- k17
          exact ⟨rfl, S44⟩
  have hE : f5_Pa_closeBlock (ab5 κ a0) = f5_Pa_closeBlock (ab5 κ a0) := rfl
  intro T46
  refine Pa_closeSign_q5 W T46  ?_ (fun κ_47 q48 => ?_) (fun cls9 κ9 q9 => hx _ _ ?_)
  · exact ⟨S0.2.1, S0.2.2.1, by decide⟩  -- p18
  rotate_left
  obtain ⟨q9, z9⟩ := q9
  · refine and_5 ?_ (fun o9 => rb_x5 hE z9)  -- x19
    exact paX5_tr S0.1 q9
  obtain ⟨q48, z9⟩ := q48
  replace hE := rb_i5 hE z9
  have S49 := paS_T Ta0 S0 W q48
  intro W50
  intro M51
  refine ⟨fun c52 => ?_, fun c52 => ?_⟩
  · skip
    replace hE := rb_t5 hE c52
    refine hj24 _ _ _ _ W50 ?_ ?_ ?_
    · exact paS_t S49 Ta0  -- t20
    · exact paS_t S49 Ta0  -- t21
    · refine and_5 ?_ (fun o9 => hE)  -- k22
      exact ⟨rfl, S49, rfl, by decide, by decide⟩
  · skip
    replace hE := rb_f5 hE c52
    refine hj24 _ _ _ _ W50 ?_ ?_ ?_
    · exact paS_t S49 Ta0  -- t23
    · exact paS_t S49 Ta0  -- t24
    · refine and_5 ?_ (fun o9 => hE)  -- k25
      have b := S49.2.1.2.2.2.2.1
      rw [lei, t0i] at c52
      have ed := dec_i (x := zI κ_47 paBlocks a0) (by omega)
      exact ⟨rfl, S49, rfl, by rw [ed]; omega, by rw [ed]; omega⟩

theorem Pa_addStatement_q5 {C : zC} {n0 : Nat} {a0 : Nat} {κ : zS} {Q : Int32 → zS → Prop} {X : zXp} (W : zW C n0 κ) (Ta0 : zT κ a0 = 10)  (hp : paA κ a0) (h : ∀ (v : Int32) (κ' : zS), ((paS κ κ' a0 ∧ zI κ' paKind a0 = zI κ paKind a0 ∧ zI κ paKind a0 ≠ 142) ∧ f5_Pa_addStatement (ab5 κ a0) = .inl (ab5 κ' a0, v)) → Q v κ') (hx : ∀ (cls : String) (κ' : zS), ((paX5 κ cls κ' a0) ∧ f5_Pa_addStatement (ab5 κ a0) = .inr (zI κ' paFaultCode a0, zI κ' paFaultPlace a0)) → X cls κ') : zRun C 9 mPa_addStatement [.ref a0] κ (oI Q X) := by
  refine Pa_addStatement_run W Ta0 ?_
  replace W := W.lo (Nat.le_trans W.1.2.1 W.1.2.2) (Nat.le_refl (zn κ))
  unfold w_Pa_addStatement_0
  have S0 := paS_0 hp
  have hj205 : ∀ (l0 : Nat) (l1 : Int32) (l2 : Int32) (l3 : Int32) (τ : zS), zW C (zn κ) τ → zT τ l0 = 10 → ((a0 = l0 ∧ paS κ τ a0 ∧ zI τ paKind a0 = zI κ paKind a0 ∧ zI κ paKind a0 ≠ 142 ∧ 0 ≤ l2.toInt ∧ l2.toInt ≤ 40) ∧ f5_Pa_addStatement (ab5 κ a0) = f5_Pa_addStatement_205 l1 l2 l3 (ab5 τ a0)) → w_Pa_addStatement_205 C (zn κ) Q X  l0 l1 l2 l3 τ := by
    rintro _ y205_1 y205_2 y205_3 τ205 W205 T205_0 ⟨⟨rfl, j205⟩, hE⟩
    unfold w_Pa_addStatement_205
    refine ⟨?_, ?_⟩
    · have L := j205.1.2.1.2.2.1.2.2.2.2.2.1
      have b := j205.2.2.2
      rw [inb_iff]; omega
    intro κ_1 hκ_1
    replace hE := rb_i5 hE (ab_ua5 (p := a0) (f := paLasts) W205 (by first | exact Ta0 | exact paS_t j205.1 Ta0 | assumption) hκ_1 (by decide))
    have S2 := paS_N j205.1 (paN_ua W205 (paS_t j205.1 Ta0) j205.1.2.1 (show zr paLasts = some 20 by decide +kernel) (by decide) hκ_1)
    intro W3
    intro T4
    refine Co_setColumn_q5 W3 T4  ?_ (fun κ_5 q6 => ?_)
    · exact ⟨S2.2.1.2.1, by decide, by decide⟩  -- p2
    obtain ⟨q6, z9⟩ := q6
    replace hE := rb_i5 hE (z9 a0 (by first | exact Ta0 | exact paS_t S2 Ta0 | assumption) (by first | rfl | assumption))
    have S7 := paS_N S2 (paN_k W3 (paS_t S2 Ta0) S2.2.1 q6)
    intro W8
    intro M9
    intro T10
    refine Co_setColumn_q5 W8 T10  ?_ (fun κ_11 q12 => ?_)
    · exact ⟨S7.2.1.2.1, by decide, by decide⟩  -- p3
    obtain ⟨q12, z9⟩ := q12
    replace hE := rb_i5 hE (z9 a0 (by first | exact Ta0 | exact paS_t S7 Ta0 | assumption) (by first | rfl | assumption))
    have S13 := paS_N S7 (paN_k W8 (paS_t S7 Ta0) S7.2.1 q12)
    intro W14
    intro M15
    refine h _ _ ?_
    · refine and_5 ?_ (fun o9 => hE)  -- q4
      have i1 : zI κ_1 = zI τ205 := by rw [hκ_1]; rfl
      exact ⟨S13, by rw [q12.2.2.1, q6.2.2.1, i1]; exact j205.2.1, j205.2.2.1⟩
  have hj170 : ∀ (l0 : Nat) (l1 : Int32) (l2 : Int32) (l3 : Int32) (s0 : Nat) (s1 : Int32) (s2 : Int32) (τ : zS), zW C (zn κ) τ → zT τ l0 = 10 → zT τ s0 = 5 → ((a0 = l0 ∧ paS κ τ a0 ∧ zI τ paKind a0 = zI κ paKind a0 ∧ zI κ paKind a0 ≠ 142 ∧ (0 ≤ l2.toInt ∧ l2.toInt ≤ 40) ∧ s0 = zR τ paCode a0 ∧ (s2 = 6 ∨ s2 = 7)) ∧ f5_Pa_addStatement (ab5 κ a0) = f5_Pa_addStatement_170 l1 l2 l3 s1 s2 (ab5 τ a0)) → w_Pa_addStatement_170 C (zn κ) Q X  l0 l1 l2 l3 s0 s1 s2 τ := by
    rintro _ y170_1 y170_2 y170_3 y170_s0 y170_s1 y170_s2 τ170 W170 T170_0 T170_1 ⟨⟨rfl, j170⟩, hE⟩
    unfold w_Pa_addStatement_170
    intro T16
    refine Co_setColumn_q5 W170 T16  ?_ (fun κ_17 q18 => ?_)
    · rw [j170.2.2.2.2.1]
      refine ⟨j170.1.2.1.2.1, ?_⟩
      rcases j170.2.2.2.2.2 with e | e <;> rw [e] <;> exact ⟨by decide, by decide⟩
    obtain ⟨q18, z9⟩ := q18
    replace hE := rb_i5 hE (z9 a0 (paS_t j170.1 Ta0) j170.2.2.2.2.1.symm)
    rw [j170.2.2.2.2.1] at q18
    have S19 := paS_N j170.1 (paN_k W170 (paS_t j170.1 Ta0) j170.1.2.1 q18)
    intro W20
    intro M21
    refine hj205 _ _ _ _ _ W20 ?_ ?_
    · exact paS_t S19 Ta0  -- t6
    · refine and_5 ?_ (fun o9 => hE)  -- k7
      exact ⟨rfl, S19, by rw [q18.2.2.1]; exact j170.2.1, j170.2.2.1, j170.2.2.2.1⟩
  have hj107 : ∀ (l0 : Nat) (l1 : Int32) (s0 : Int32) (τ : zS), zW C (zn κ) τ → zT τ l0 = 10 → ((a0 = l0 ∧ paS κ τ a0 ∧ zI τ paKind a0 = zI κ paKind a0 ∧ zI κ paKind a0 ≠ 142 ∧ 0 ≤ s0.toInt ∧ s0.toInt ≤ 40) ∧ f5_Pa_addStatement (ab5 κ a0) = f5_Pa_addStatement_107 l1 s0 (ab5 τ a0)) → w_Pa_addStatement_107 C (zn κ) Q X  l0 l1 s0 τ := by
    rintro _ y107_1 y107_s0 τ107 W107 T107_0 ⟨⟨rfl, j107⟩, hE⟩
    unfold w_Pa_addStatement_107
    have L := j107.1.2.1.2.2.1.2.2.2.2
    have L1 := L.1
    have L2 := L.2.1
    have L3 := L.2.2
    have b := j107.2.2.2
    refine ⟨?_, ?_⟩
    · rw [inb_iff]; omega  -- b8
    intro x22 hx22
    replace hE := rb_p5 hE hx22
    refine ⟨?_, ?_⟩
    · rw [inb_iff]; omega  -- b9
    refine ⟨fun c23 => ?_, fun c23 => ?_⟩
    · skip
      replace hE := rb_t5 hE c23
      refine ⟨fun c24 => ?_, fun c24 => ?_⟩
      · skip
        replace hE := rb_t5 hE c24
        refine ⟨fun c25 => ?_, fun c25 => ?_⟩
        · skip
          replace hE := rb_t5 hE c25
          refine hj205 _ _ _ _ _ W107 ?_ ?_
          · exact paS_t j107.1 Ta0  -- t10
          · refine and_5 ?_ (fun o9 => hE)  -- k11
            exact ⟨rfl, j107.1, j107.2.1, j107.2.2.1, j107.2.2.2⟩
        · skip
          replace hE := rb_f5 hE c25
          refine ⟨?_, ?_⟩
          · have e10 : (10 : Int32).toInt = 10 := rfl
            rw [lei, e10] at c25
            have fv := j107.1.2.1.2.1.2.2.2.2.1
            have LF := j107.1.2.1.2.1.1.2.2.2.1
            rw [inb_iff]; omega
          intro κ_26 hκ_26
          replace hE := rb_i5 hE (ab_ua5 (p := a0) (f := coFirstStatements) W107 (by first | exact Ta0 | exact paS_t j107.1 Ta0 | assumption) hκ_26 (by decide))
          have S27 := paS_N j107.1 (paN_cu W107 (paS_t j107.1 Ta0) j107.1.2.1 hκ_26)
          intro W28
          refine hj205 _ _ _ _ _ W28 ?_ ?_
          · exact paS_t S27 Ta0  -- t13
          · refine and_5 ?_ (fun o9 => hE)  -- k14
            exact ⟨rfl, S27, by rw [hκ_26]; exact j107.2.1, j107.2.2.1, j107.2.2.2⟩
      · skip
        replace hE := rb_f5 hE c24
        refine ⟨?_, ?_⟩
        · rw [inb_iff]; omega  -- b15
        refine ⟨fun c29 => ?_, fun c29 => ?_⟩
        · skip
          replace hE := rb_t5 hE c29
          refine hj170 _ _ _ _ _ _ _ _ W107 ?_ ?_ ?_
          · exact paS_t j107.1 Ta0  -- t16
          · exact ty_paCode W107 (paS_t j107.1 Ta0)  -- t17
          · refine and_5 ?_ (fun o9 => hE)  -- k18
            exact ⟨rfl, j107.1, j107.2.1, j107.2.2.1, j107.2.2.2, rfl, Or.inl rfl⟩
        · skip
          replace hE := rb_f5 hE c29
          refine hj170 _ _ _ _ _ _ _ _ W107 ?_ ?_ ?_
          · exact paS_t j107.1 Ta0  -- t19
          · exact ty_paCode W107 (paS_t j107.1 Ta0)  -- t20
          · refine and_5 ?_ (fun o9 => hE)  -- k21
            exact ⟨rfl, j107.1, j107.2.1, j107.2.2.1, j107.2.2.2, rfl, Or.inr rfl⟩
    · skip
      replace hE := rb_f5 hE c23
      refine ⟨?_, ?_⟩
      · rw [inb_iff]; omega  -- b22
      intro T30
      refine Co_setColumn_q5 W107 T30  ?_ (fun κ_31 q32 => ?_)
      · exact ⟨j107.1.2.1.2.1, by decide, by decide⟩  -- p23
      obtain ⟨q32, z9⟩ := q32
      replace hE := rb_i5 hE (z9 a0 (by first | exact Ta0 | exact paS_t j107.1 Ta0 | assumption) (by first | rfl | assumption))
      have S33 := paS_N j107.1 (paN_k W107 (paS_t j107.1 Ta0) j107.1.2.1 q32)
      intro W34
      intro M35
      refine hj205 _ _ _ _ _ W34 ?_ ?_
      · exact paS_t S33 Ta0  -- t24
      · refine and_5 ?_ (fun o9 => hE)  -- k25
        exact ⟨rfl, S33, by rw [q32.2.2.1]; exact j107.2.1, j107.2.2.1, j107.2.2.2⟩
  have hj82 : ∀ (l0 : Nat) (τ : zS), zW C (zn κ) τ → zT τ l0 = 10 → ((κ = τ ∧ a0 = l0 ∧ zI κ paKind a0 ≠ 142 ∧ (zI κ coStatements (zR κ paCode a0)).toInt < 150) ∧ f5_Pa_addStatement (ab5 κ a0) = f5_Pa_addStatement_82 (ab5 τ a0)) → w_Pa_addStatement_82 C (zn κ) Q X  l0 τ := by
    rintro _ _ W82 T82_0 ⟨⟨rfl, rfl, j82⟩, hE⟩
    unfold w_Pa_addStatement_82
    intro T36
    refine Co_addStatement_q5 W82 T36  ?_ (fun r37 κ_38 q39 => ?_)
    · exact ⟨S0.2.1.2.1, j82.2⟩  -- p26
    obtain ⟨q39, z9⟩ := q39
    replace hE := rb_i5 hE (z9 a0 (by first | exact Ta0 | exact paS_t S0 Ta0 | assumption) (by first | rfl | assumption))
    have S40 := paS_N S0 (paN_c W82 (paS_t S0 Ta0) S0.2.1 q39.1 q39.2.1 (q39.2.2.2.2 coLength (by decide))).1
    intro W41
    intro M42
    have N := (paN_c W82 Ta0 hp.1 q39.1 q39.2.1 (q39.2.2.2.2 coLength (by decide))).1
    refine ⟨fun c43 => ?_, fun c43 => ?_⟩
    · skip
      replace hE := rb_t5 hE c43
      refine hj107 _ _ _ _ W41 ?_ ?_
      · exact paS_t S40 Ta0  -- t27
      · refine and_5 ?_ (fun o9 => hE)  -- k28
        exact ⟨rfl, S40, N.2.2.1.2, j82.1, by decide, by decide⟩
    · skip
      replace hE := rb_f5 hE c43
      refine hj107 _ _ _ _ W41 ?_ ?_
      · exact paS_t S40 Ta0  -- t29
      · refine and_5 ?_ (fun o9 => hE)  -- k30
        have b := S40.2.1.2.2.2.2.1
        rw [lei, t0i] at c43
        have ed := dec_i (x := zI κ_38 paBlocks a0) (by omega)
        exact ⟨rfl, S40, N.2.2.1.2, j82.1, by rw [ed]; omega, by rw [ed]; omega⟩
  have hj59 : ∀ (l0 : Nat) (τ : zS), zW C (zn κ) τ → zT τ l0 = 10 → ((κ = τ ∧ a0 = l0 ∧ zI κ paKind a0 ≠ 142) ∧ f5_Pa_addStatement (ab5 κ a0) = f5_Pa_addStatement_59 (ab5 τ a0)) → w_Pa_addStatement_59 C (zn κ) Q X  l0 τ := by
    rintro _ _ W59 T59_0 ⟨⟨rfl, rfl, j59⟩, hE⟩
    unfold w_Pa_addStatement_59
    refine ⟨fun c44 => ?_, fun c44 => ?_⟩
    · skip
      replace hE := rb_t5 hE c44
      refine hj82 _ _ W59 ?_ ?_
      · exact paS_t S0 Ta0  -- t31
      · refine and_5 ?_ (fun o9 => hE)  -- k32
        have e15 : (150 : Int32).toInt = 150 := rfl
        rw [lti, e15] at c44
        exact ⟨rfl, rfl, j59, c44⟩
    · skip
      replace hE := rb_f5 hE c44
      intro T45
      refine Pa_refuse_q5 (by decide) W59 T45  ?_ (fun κ_46 q47 => False.elim q47) (fun cls9 κ9 q9 => hx _ _ ?_)
      · exact S0.2.1  -- p33
      obtain ⟨q9, z9⟩ := q9
      · refine and_5 ?_ (fun o9 => rb_r5 hE z9)  -- x34
        exact paX5_tr S0.1 q9
  have hj50 : ∀ (l0 : Nat) (τ : zS), zW C (zn κ) τ → zT τ l0 = 10 → ((κ = τ ∧ a0 = l0 ∧ True) ∧ f5_Pa_addStatement (ab5 κ a0) = f5_Pa_addStatement_50 (ab5 τ a0)) → w_Pa_addStatement_50 C (zn κ) Q X  l0 τ := by
    rintro _ _ W50 T50_0 ⟨⟨rfl, rfl, j50⟩, hE⟩
    unfold w_Pa_addStatement_50
    intro T48
    refine Pa_refuse_q5 (by decide) W50 T48  ?_ (fun κ_49 q50 => False.elim q50) (fun cls9 κ9 q9 => hx _ _ ?_)
    · exact S0.2.1  -- p35
    obtain ⟨q9, z9⟩ := q9
    · refine and_5 ?_ (fun o9 => rb_r5 hE z9)  -- x36
      exact paX5_tr S0.1 q9
  have hE : f5_Pa_addStatement (ab5 κ a0) = f5_Pa_addStatement (ab5 κ a0) := rfl
  refine ⟨fun c51 => ?_, fun c51 => ?_⟩
  · skip
    replace hE := rb_t5 hE c51
    refine hj59 _ _ W ?_ ?_
    · exact paS_t S0 Ta0  -- t37
    · refine and_5 ?_ (fun o9 => hE)  -- k38
      exact ⟨rfl, rfl, by rw [c51]; decide⟩
  · skip
    replace hE := rb_f5 hE c51
    refine ⟨fun c52 => ?_, fun c52 => ?_⟩
    · skip
      replace hE := rb_t5 hE c52
      refine hj59 _ _ W ?_ ?_
      · exact paS_t S0 Ta0  -- t39
      · refine and_5 ?_ (fun o9 => hE)  -- k40
        exact ⟨rfl, rfl, by rw [c52]; decide⟩
    · skip
      replace hE := rb_f5 hE c52
      refine ⟨fun c53 => ?_, fun c53 => ?_⟩
      · skip
        replace hE := rb_t5 hE c53
        refine hj59 _ _ W ?_ ?_
        · exact paS_t S0 Ta0  -- t41
        · refine and_5 ?_ (fun o9 => hE)  -- k42
          exact ⟨rfl, rfl, by rw [c53]; decide⟩
      · skip
        replace hE := rb_f5 hE c53
        refine ⟨fun c54 => ?_, fun c54 => ?_⟩
        · skip
          replace hE := rb_t5 hE c54
          refine hj50 _ _ W ?_ ?_
          · exact paS_t S0 Ta0  -- t43
          · refine and_5 ?_ (fun o9 => hE)  -- k44
            exact ⟨rfl, rfl, trivial⟩
        · skip
          replace hE := rb_f5 hE c54
          refine ⟨fun c55 => ?_, fun c55 => ?_⟩
          · skip
            replace hE := rb_t5 hE c55
            refine hj59 _ _ W ?_ ?_
            · exact paS_t S0 Ta0  -- t45
            · refine and_5 ?_ (fun o9 => hE)  -- k46
              exact ⟨rfl, rfl, fun e => c54 (by rw [e]; decide)⟩
          · skip
            replace hE := rb_f5 hE c55
            refine hj50 _ _ W ?_ ?_
            · exact paS_t S0 Ta0  -- t47
            · refine and_5 ?_ (fun o9 => hE)  -- k48
              exact ⟨rfl, rfl, trivial⟩
