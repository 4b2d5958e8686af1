set_option maxHeartbeats 1600000
/-! statements -/
def f5_Pa_localStatement (a1 : Int32) (e : E5) : R5 Unit := rdB5 (f5_Pa_take e) (fun e1 _ => rdB5 (f5_Pa_newName ((e1.1 paOwns)) ((8 : Int32)) e1) (fun e5 r6 => rdB5 (f5_Pa_pass ((61 : Int32)) e5) (fun e8 _ => rdB5 (f5_Pa_expression (a1) ((-1 : Int32)) e8) (fun e12 _ => rdB5 (f5_Pa_pass ((59 : Int32)) e12) (fun e16 _ => rdB5 (f5_Pa_setPlace (a1) ((2 : Int32)) ((e16.1 paOwns)) e16) (fun e21 _ => rdB5 (f5_Co_setColumn (a1) ((0 : Int32)) ((0 : Int32)) e21) (fun e25 _ => rdB5 (f5_Pa_addOwn (r6) e25) (fun e28 _ => .inl (e28, ())))))))))

def f5_Pa_wordStatement_49 (a1 s1 s2 s3 : Int32) (e : E5) : R5 Unit := rdB5 (f5_Co_setColumn (s1) (s2) (s3) e) (fun e1 _ => rdB5 (f5_Pa_openSign ((123 : Int32)) e1) (fun e4 _ => rdB5 (f5_Pa_pushBlock (a1) ((0 : Int32)) e4) (fun e8 _ => .inl (e8, ()))))
def f5_Pa_wordStatement_29 (a1 a2 : Int32) (e : E5) : R5 Unit := (if a2 = (154 : Int32) then (f5_Pa_wordStatement_49 (a1) (a1) ((0 : Int32)) ((6 : Int32)) e) else (f5_Pa_wordStatement_49 (a1) (a1) ((0 : Int32)) ((7 : Int32)) e))
def f5_Pa_wordStatement_97 (s1 s2 s3 : Int32) (e : E5) : R5 Unit := rdB5 (f5_Co_setColumn (s1) (s2) (s3) e) (fun e1 _ => rdB5 (f5_Pa_pass ((59 : Int32)) e1) (fun e4 _ => .inl (e4, ())))
def f5_Pa_wordStatement (a1 : Int32) (e : E5) : R5 Unit := pb5 ((e.1 paKind)) (fun v2_1 => rdB5 (f5_Pa_take e) (fun e2 _ => rdB5 (f5_Pa_expression (a1) ((-1 : Int32)) e2) (fun e5 _ => (if v2_1 = (154 : Int32) then (f5_Pa_wordStatement_29 (a1) (v2_1) e5) else (if v2_1 = (156 : Int32) then (f5_Pa_wordStatement_29 (a1) (v2_1) e5) else (if v2_1 = (157 : Int32) then (f5_Pa_wordStatement_97 (a1) ((0 : Int32)) ((8 : Int32)) e5) else (if v2_1 = (158 : Int32) then (f5_Pa_wordStatement_97 (a1) ((0 : Int32)) ((9 : Int32)) e5) else (f5_Pa_wordStatement_97 (a1) ((0 : Int32)) ((10 : Int32)) e5))))))))

def f5_Pa_behindPlace_159 (a4 : Int32) (e : E5) : R5 Int32 := (if a4 = (0 : Int32) then .inl (e, (-1 : Int32)) else .inl (e, ((e.1 paAt) - (1 : Int32))))
def f5_Pa_behindPlace_133 (a3 s0 : Int32) (e : E5) : R5 Int32 := (if s0 = (0 : Int32) then (if a3 = (1 : Int32) then rdB5 (f5_Pa_take e) (fun e5 _ => (f5_Pa_behindPlace_159 (s0) e5)) else (if a3 = (2 : Int32) then rdB5 (f5_Pa_take e) (fun e9 _ => (f5_Pa_behindPlace_159 (s0) e9)) else (if a3 = (4 : Int32) then rdB5 (f5_Pa_take e) (fun e13 _ => (f5_Pa_behindPlace_159 (s0) e13)) else (f5_Pa_behindPlace_159 (s0) e)))) else rdB5 (f5_Pa_take e) (fun e1 _ => (f5_Pa_behindPlace_159 (s0) e1)))
def f5_Pa_behindPlace_91 (a1 a3 : Int32) (e : E5) : R5 Int32 := rdB5 (f5_Co_setColumn (a1) ((0 : Int32)) (a3) e) (fun e1 _ => (if a3 = (0 : Int32) then (if (e1.1 paKind) = (140 : Int32) then pb5 (cl5 (a1) ((1 : Int32)) e1) (fun r7 => (if r7 = (3 : Int32) then (f5_Pa_behindPlace_133 (a3) ((0 : Int32)) e1) else (f5_Pa_behindPlace_133 (a3) ((1 : Int32)) e1))) else (f5_Pa_behindPlace_133 (a3) ((0 : Int32)) e1)) else (f5_Pa_behindPlace_133 (a3) ((0 : Int32)) e1)))
def f5_Pa_behindPlace_63 (a1 s0 : Int32) (e : E5) : R5 Int32 := (if s0 = (2 : Int32) then rdB5 (f5_Pa_expect ((161 : Int32)) e) (fun e1 _ => (f5_Pa_behindPlace_91 (a1) (s0) e1)) else (f5_Pa_behindPlace_91 (a1) (s0) e))
def f5_Pa_behindPlace_25 (a1 a2 : Int32) (e : E5) : R5 Int32 := rdB5 (f5_Pa_take e) (fun e1 _ => (if a2 = (0 : Int32) then (if (e1.1 paKind) = (162 : Int32) then (f5_Pa_behindPlace_91 (a1) ((4 : Int32)) e1) else (f5_Pa_behindPlace_91 (a1) ((0 : Int32)) e1)) else (if (e1.1 paKind) = (123 : Int32) then (f5_Pa_behindPlace_63 (a1) ((3 : Int32)) e1) else (if (e1.1 paKind) = (160 : Int32) then (f5_Pa_behindPlace_63 (a1) ((1 : Int32)) e1) else (f5_Pa_behindPlace_63 (a1) ((2 : Int32)) e1)))))
def f5_Pa_behindPlace_14 (a1 s0 : Int32) (e : E5) : R5 Int32 := (if s0 = (0 : Int32) then rdB5 (f5_Pa_expect ((61 : Int32)) e) (fun e1 _ => (f5_Pa_behindPlace_25 (a1) (s0) e1)) else (f5_Pa_behindPlace_25 (a1) (s0) e))
def f5_Pa_behindPlace (a1 : Int32) (e : E5) : R5 Int32 := (if (e.1 paKind) = (126 : Int32) then (f5_Pa_behindPlace_14 (a1) ((1 : Int32)) e) else (f5_Pa_behindPlace_14 (a1) ((0 : Int32)) e))

def f5_Pa_finish_107 (B48 : Int32 → Int32 → Int32 → Int32 → E5 → R5 Unit) (a1 a2 a4 s0 : Int32) (e : E5) : R5 Unit := (if s0 = (0 : Int32) then pb5 (a4 + (1 : Int32)) (fun v4_1 => (B48 (a1) (a2) (s0) (v4_1) e)) else rdB5 (f5_Pa_pass ((44 : Int32)) e) (fun e2 _ => pb5 (a4 + (1 : Int32)) (fun v4_5 => (B48 (a1) (a2) (s0) (v4_5) e2))))
def f5_Pa_finish_48  : Nat → Int32 → Int32 → Int32 → Int32 → E5 → R5 Unit
  | 0, _, _, _, _, _ => .inr (0, 0)
  | m5 + 1, a1, a2, a3, a4, e => (if a3 = (0 : Int32) then rdB5 (f5_Pa_closeSign ((41 : Int32)) e) (fun e1 _ => .inl (e1, ())) else (if (e.1 taTotal) < a4 then rdB5 (f5_Pa_closeSign ((41 : Int32)) e) (fun e4 _ => .inl (e4, ())) else rdB5 (f5_Pa_expression (a1) ((-1 : Int32)) e) (fun e7 _ => (if a2 = (5 : Int32) then (if (e7.1 paKind) = (44 : Int32) then (f5_Pa_finish_107 (f5_Pa_finish_48 m5) (a1) (a2) (a4) ((1 : Int32)) e7) else (f5_Pa_finish_107 (f5_Pa_finish_48 m5) (a1) (a2) (a4) ((0 : Int32)) e7)) else (if a2 = (2 : Int32) then (if a4 = (0 : Int32) then (f5_Pa_finish_107 (f5_Pa_finish_48 m5) (a1) (a2) (a4) ((1 : Int32)) e7) else (f5_Pa_finish_107 (f5_Pa_finish_48 m5) (a1) (a2) (a4) ((0 : Int32)) e7)) else (f5_Pa_finish_107 (f5_Pa_finish_48 m5) (a1) (a2) (a4) ((0 : Int32)) e7))))))
def f5_Pa_finish_44 (a1 a2 s0 : Int32) (e : E5) : R5 Unit := (f5_Pa_finish_48 fu5 (a1) (a2) (s0) ((0 : Int32)) e)
def f5_Pa_finish (a1 a2 : Int32) (e : E5) : R5 Unit := (if a2 = (0 : Int32) then pb5 (cl5 (a1) ((5 : Int32)) e) (fun r7 => rdB5 (f5_Pa_expression (a1) (r7) e) (fun e9 _ => .inl (e9, ()))) else rdB5 (f5_Pa_openSign ((40 : Int32)) e) (fun e1 _ => (if a2 = (5 : Int32) then (if (e1.1 paKind) = (41 : Int32) then (f5_Pa_finish_44 (a1) (a2) ((0 : Int32)) e1) else (f5_Pa_finish_44 (a1) (a2) ((1 : Int32)) e1)) else (f5_Pa_finish_44 (a1) (a2) ((1 : Int32)) e1))))

def f5_Pa_spread_72 (B10 : Int32 → Int32 → Int32 → E5 → R5 Unit) (a1 a3 s0 : Int32) (e : E5) : R5 Unit := (if s0 = (0 : Int32) then pb5 (a3 + (1 : Int32)) (fun v3_1 => (B10 (a1) (s0) (v3_1) e)) else rdB5 (f5_Pa_take e) (fun e2 _ => pb5 (a3 + (1 : Int32)) (fun v3_5 => (B10 (a1) (s0) (v3_5) e2))))
def f5_Pa_spread_48 (B10 : Int32 → Int32 → Int32 → E5 → R5 Unit) (a1 a3 : Int32) (e : E5) : R5 Unit := rdB5 (f5_Pa_take e) (fun e1 _ => rdB5 (f5_Pa_expression (a1) ((-1 : Int32)) e1) (fun e4 _ => (if (e4.1 paKind) = (44 : Int32) then (f5_Pa_spread_72 B10 (a1) (a3) ((1 : Int32)) e4) else (f5_Pa_spread_72 B10 (a1) (a3) ((0 : Int32)) e4))))
def f5_Pa_spread_10  : Nat → Int32 → Int32 → Int32 → E5 → R5 Unit
  | 0, _, _, _, _ => .inr (0, 0)
  | m5 + 1, a1, a2, a3, e => (if a2 = (0 : Int32) then rdB5 (f5_Pa_closeSign ((125 : Int32)) e) (fun e1 _ => .inl (e1, ())) else (if (8 : Int32) < a3 then rdB5 (f5_Pa_closeSign ((125 : Int32)) e) (fun e4 _ => .inl (e4, ())) else rdB5 (f5_Pa_expression (a1) ((-1 : Int32)) e) (fun e7 _ => rdB5 (f5_Pa_expect ((58 : Int32)) e7) (fun e10 _ => (if a3 < (8 : Int32) then (f5_Pa_spread_48 (f5_Pa_spread_10 m5) (a1) (a3) e10) else .inr (rv5 ((15 : Int32)) ((e10.1 paAt)) e10))))))
def f5_Pa_spread (a1 : Int32) (e : E5) : R5 Unit := rdB5 (f5_Pa_openSign ((123 : Int32)) e) (fun e1 _ => (f5_Pa_spread_10 fu5 (a1) ((1 : Int32)) ((0 : Int32)) e1))

def f5_Pa_statement_268  (e : E5) : R5 Unit := rdB5 (f5_Pa_pass ((59 : Int32)) e) (fun e1 _ => .inl (e1, ()))
def f5_Pa_statement_233 (a1 : Int32) (e : E5) : R5 Unit := pb5 (cl5 (a1) ((0 : Int32)) e) (fun r2 => (if r2 = (3 : Int32) then rdB5 (f5_Pa_spread (a1) e) (fun e13 _ => (f5_Pa_statement_268 e13)) else pb5 (cl5 (a1) ((0 : Int32)) e) (fun r6 => rdB5 (f5_Pa_finish (a1) (r6) e) (fun e8 _ => (f5_Pa_statement_268 e8)))))
def f5_Pa_statement_223 (a1 : Int32) (e : E5) : R5 Unit := rdB5 (f5_Co_setColumn (a1) ((0 : Int32)) ((5 : Int32)) e) (fun e1 _ => (f5_Pa_statement_233 (a1) e1))
def f5_Pa_statement_191 (a1 a3 s0 : Int32) (e : E5) : R5 Unit := rdB5 (f5_Co_setColumn (a1) ((5 : Int32)) (s0) e) (fun e1 _ => (if a3 = (0 : Int32) then (if s0 = (-1 : Int32) then (f5_Pa_statement_233 (a1) e1) else (if (e1.1 paKind) = (40 : Int32) then (f5_Pa_statement_223 (a1) e1) else (f5_Pa_statement_233 (a1) e1))) else (f5_Pa_statement_223 (a1) e1)))
def f5_Pa_statement_177 (a1 a2 s0 : Int32) (e : E5) : R5 Unit := (if s0 = (0 : Int32) then rdB5 (f5_Pa_behindPlace (a1) e) (fun e1 r2 => (f5_Pa_statement_191 (a1) (s0) (r2) e1)) else (f5_Pa_statement_191 (a1) (s0) (a2) e))
def f5_Pa_statement_151 (a1 a2 : Int32) (e : E5) : R5 Unit := (if (e.1 paKind) = (40 : Int32) then pb5 (cl5 (a1) ((1 : Int32)) e) (fun r2 => (if r2 = (0 : Int32) then (f5_Pa_statement_177 (a1) (a2) ((1 : Int32)) e) else (f5_Pa_statement_177 (a1) (a2) ((0 : Int32)) e))) else (f5_Pa_statement_177 (a1) (a2) ((0 : Int32)) e))
def f5_Pa_statement_121 (a1 a2 a3 s1 s2 : Int32) (e : E5) : R5 Unit := (if a3 < (0 : Int32) then pb5 (f5_Ta_findName (tq5 e) (e.2.1 paVarNames) (e.2.2 paVarNames) (e.1 coVars) (a2)) (fun r2 => rdB5 (f5_Pa_setPlace (s1) (s2) (r2) e) (fun e4 _ => (f5_Pa_statement_151 (a1) (a2) e4))) else rdB5 (f5_Pa_setPlace (s1) (s2) (a3) e) (fun e9 _ => (f5_Pa_statement_151 (a1) (a2) e9)))
def f5_Pa_statement_104 (a1 a2 : Int32) (e : E5) : R5 Unit := rdB5 (f5_Pa_findVariable (a2) e) (fun e1 r2 => (if r2 < (0 : Int32) then (f5_Pa_statement_121 (a1) (a2) (r2) (a1) ((1 : Int32)) e1) else (f5_Pa_statement_121 (a1) (a2) (r2) (a1) ((2 : Int32)) e1)))
def f5_Pa_statement (a1 : Int32) (e : E5) : R5 Unit := (if (e.1 paKind) = (153 : Int32) then rdB5 (f5_Pa_localStatement (a1) e) (fun e29 _ => .inl (e29, ())) else (if (e.1 paKind) = (140 : Int32) then pb5 ((e.1 paAt)) (fun v2_1 => rdB5 (f5_Pa_take e) (fun e2 _ => (if (e2.1 paKind) = (91 : Int32) then rdB5 (f5_Pa_findArray (v2_1) e2) (fun e6 r7 => rdB5 (f5_Pa_setPlace (a1) ((3 : Int32)) (r7) e6) (fun e9 _ => rdB5 (f5_Pa_openSign ((91 : Int32)) e9) (fun e13 _ => rdB5 (f5_Pa_expression ((-1 : Int32)) ((-1 : Int32)) e13) (fun e17 _ => rdB5 (f5_Pa_closeSign ((93 : Int32)) e17) (fun e21 _ => (f5_Pa_statement_151 (a1) (v2_1) e21)))))) else (if (e2.1 paKind) = (61 : Int32) then (f5_Pa_statement_104 (a1) (v2_1) e2) else (if (e2.1 paKind) = (126 : Int32) then (f5_Pa_statement_104 (a1) (v2_1) e2) else (f5_Pa_statement_151 (a1) (v2_1) e2)))))) else rdB5 (f5_Pa_wordStatement (a1) e) (fun e26 _ => .inl (e26, ()))))

theorem Pa_localStatement_q5 {C : zC} {n0 : Nat} {a0 : Nat} {a1 : Int32} {κ : zS} {Q : zS → Prop} {X : zXp} (W : zW C n0 κ) (Ta0 : zT κ a0 = 10)  (hp : paA κ a0 ∧ zI κ paKind a0 = 153) (h : ∀ (κ' : zS), ((paS κ κ' a0) ∧ f5_Pa_localStatement a1 (ab5 κ a0) = .inl (ab5 κ' a0, ())) → Q κ') (hx : ∀ (cls : String) (κ' : zS), ((paX5 κ cls κ' a0) ∧ f5_Pa_localStatement a1 (ab5 κ a0) = .inr (zI κ' paFaultCode a0, zI κ' paFaultPlace a0)) → X cls κ') : zRun C 12 mPa_localStatement [.ref a0, .int a1] κ (oV Q X) := by
  refine Pa_localStatement_run W Ta0 ?_
  replace W := W.lo (Nat.le_trans W.1.2.1 W.1.2.2) (Nat.le_refl (zn κ))
  unfold w_Pa_localStatement_0
  have S0 := paS_0 hp.1
  have hE : f5_Pa_localStatement a1 (ab5 κ a0) = f5_Pa_localStatement a1 (ab5 κ a0) := rfl
  intro T1
  refine Pa_take_q5 W T1  ?_ (fun κ_2 q3 => ?_)
  · exact ⟨hp.1.1, paK_t hp.1.2.1 hp.2 (by decide)⟩  -- p1
  obtain ⟨q3, z9⟩ := q3
  replace hE := rb_i5 hE z9
  have S4 := paS_T Ta0 S0 W q3
  intro W5
  intro M6
  intro T7
  refine Pa_newName_q5 W5 T7  ?_ (fun r8 κ_9 q10 => ?_) (fun cls9 κ9 q9 => hx _ _ ?_)
  · exact ⟨S4.2.1, S4.2.2.1⟩  -- p2
  rotate_left
  obtain ⟨q9, z9⟩ := q9
  · refine and_5 ?_ (fun o9 => rb_x5 hE z9)  -- x3
    exact paX5_tr S4.1 q9
  obtain ⟨q10, z9⟩ := q10
  replace hE := rb_i5 hE z9
  have S11 := paS_T Ta0 S4 W5 q10.1
  intro W12
  intro M13
  intro T14
  refine Pa_pass_q5 W12 T14  ?_ (fun κ_15 q16 => ?_) (fun cls9 κ9 q9 => hx _ _ ?_)
  · exact ⟨S11.2.1, S11.2.2.1, by decide⟩  -- p4
  rotate_left
  obtain ⟨q9, z9⟩ := q9
  · refine and_5 ?_ (fun o9 => rb_x5 hE z9)  -- x5
    exact paX5_tr S11.1 q9
  obtain ⟨q16, z9⟩ := q16
  replace hE := rb_i5 hE z9
  have S17 := paS_T Ta0 S11 W12 q16
  intro W18
  intro M19
  intro T20
  refine Pa_expression_q5 W18 T20  ?_ (fun κ_21 q22 => ?_) (fun cls9 κ9 q9 => hx _ _ ?_)
  · exact ⟨S17.2.1, S17.2.2.1, S17.2.2.2, Or.inl rfl⟩  -- p6
  rotate_left
  obtain ⟨q9, z9⟩ := q9
  · refine and_5 ?_ (fun o9 => rb_x5 hE z9)  -- x7
    exact paX5_tr S17.1 q9
  obtain ⟨q22, z9⟩ := q22
  replace hE := rb_i5 hE z9
  have S23 := (⟨S17.1.tr q22.1, q22.2⟩ : paS κ κ_21 a0)
  intro W24
  intro M25
  intro T26
  refine Pa_pass_q5 W24 T26  ?_ (fun κ_27 q28 => ?_) (fun cls9 κ9 q9 => hx _ _ ?_)
  · exact ⟨S23.2.1, S23.2.2.1, by decide⟩  -- p8
  rotate_left
  obtain ⟨q9, z9⟩ := q9
  · refine and_5 ?_ (fun o9 => rb_x5 hE z9)  -- x9
    exact paX5_tr S23.1 q9
  obtain ⟨q28, z9⟩ := q28
  replace hE := rb_i5 hE z9
  have S29 := paS_T Ta0 S23 W24 q28
  intro W30
  intro M31
  intro T32
  refine Pa_setPlace_q5 W30 T32  ?_ (fun κ_33 q34 => ?_)
  · exact S29.2.1  -- p10
  obtain ⟨q34, z9⟩ := q34
  replace hE := rb_i5 hE z9
  have S35 := paS_N S29 q34
  intro W36
  intro M37
  intro T38
  refine Co_setColumn_q5 W36 T38  ?_ (fun κ_39 q40 => ?_)
  · exact ⟨S35.2.1.2.1, by decide, by decide⟩  -- p11
  obtain ⟨q40, z9⟩ := q40
  replace hE := rb_i5 hE (z9 a0 (by first | exact Ta0 | exact paS_t S35 Ta0 | assumption) (by first | rfl | assumption))
  have S41 := paS_N S35 (paN_k W36 (paS_t S35 Ta0) S35.2.1 q40)
  intro W42
  intro M43
  intro T44
  refine Pa_addOwn_q5 W42 T44  ?_ (fun κ_45 q46 => ?_)
  · exact S41.2.1  -- p12
  obtain ⟨q46, z9⟩ := q46
  replace hE := rb_i5 hE z9
  have S47 := paS_N S41 q46
  intro W48
  intro M49
  refine h _ ?_
  · refine and_5 ?_ (fun o9 => hE)  -- q13
    exact S47

theorem Pa_wordStatement_q5 {C : zC} {n0 : Nat} {a0 : Nat} {a1 : Int32} {κ : zS} {Q : zS → Prop} {X : zXp} (W : zW C n0 κ) (Ta0 : zT κ a0 = 10)  (hp : paA κ a0 ∧ zI κ paKind a0 ≠ 142) (h : ∀ (κ' : zS), ((paS κ κ' a0) ∧ f5_Pa_wordStatement a1 (ab5 κ a0) = .inl (ab5 κ' a0, ())) → Q κ') (hx : ∀ (cls : String) (κ' : zS), ((paX5 κ cls κ' a0) ∧ f5_Pa_wordStatement a1 (ab5 κ a0) = .inr (zI κ' paFaultCode a0, zI κ' paFaultPlace a0)) → X cls κ') : zRun C 12 mPa_wordStatement [.ref a0, .int a1] κ (oV Q X) := by
  refine Pa_wordStatement_run W Ta0 ?_
  replace W := W.lo (Nat.le_trans W.1.2.1 W.1.2.2) (Nat.le_refl (zn κ))
  unfold w_Pa_wordStatement_0
  have S0 := paS_0 hp.1
  have hj97 : ∀ (l0 : Nat) (s0 : Nat) (s1 : Int32) (s2 : Int32) (s3 : Int32) (τ : zS), zW C (zn κ) τ → zT τ l0 = 10 → zT τ s0 = 5 → ((a0 = l0 ∧ paS κ τ a0 ∧ s0 = zR τ paCode a0 ∧ s2 = 0) ∧ f5_Pa_wordStatement a1 (ab5 κ a0) = f5_Pa_wordStatement_97 s1 s2 s3 (ab5 τ a0)) → w_Pa_wordStatement_97 C (zn κ) Q X  l0 s0 s1 s2 s3 τ := by
    rintro _ y97_s0 y97_s1 y97_s2 y97_s3 τ97 W97 T97_0 T97_1 ⟨⟨rfl, j97⟩, hE⟩
    unfold w_Pa_wordStatement_97
    intro T1
    refine Co_setColumn_q5 W97 T1  ?_ (fun κ_2 q3 => ?_)
    · rw [j97.2.1, j97.2.2]; exact ⟨j97.1.2.1.2.1, by decide, by decide⟩  -- p1
    obtain ⟨q3, z9⟩ := q3
    replace hE := rb_i5 hE (z9 a0 (paS_t j97.1 Ta0) j97.2.1.symm)
    rw [j97.2.1] at q3
    have S4 := paS_N j97.1 (paN_k W97 (paS_t j97.1 Ta0) j97.1.2.1 q3)
    intro W5
    intro M6
    intro T7
    refine Pa_pass_q5 W5 T7  ?_ (fun κ_8 q9 => ?_) (fun cls9 κ9 q9 => hx _ _ ?_)
    · exact ⟨S4.2.1, S4.2.2.1, by decide⟩  -- p2
    rotate_left
    obtain ⟨q9, z9⟩ := q9
    · refine and_5 ?_ (fun o9 => rb_x5 hE z9)  -- x3
      exact paX5_tr S4.1 q9
    obtain ⟨q9, z9⟩ := q9
    replace hE := rb_i5 hE z9
    have S10 := paS_T Ta0 S4 W5 q9
    intro W11
    intro M12
    refine h _ ?_
    · refine and_5 ?_ (fun o9 => hE)  -- q4
      exact S10
  have hj49 : ∀ (l0 : Nat) (l1 : Int32) (s0 : Nat) (s1 : Int32) (s2 : Int32) (s3 : Int32) (τ : zS), zW C (zn κ) τ → zT τ l0 = 10 → zT τ s0 = 5 → ((a0 = l0 ∧ a1 = l1 ∧ paS κ τ a0 ∧ s0 = zR τ paCode a0 ∧ s2 = 0) ∧ f5_Pa_wordStatement a1 (ab5 κ a0) = f5_Pa_wordStatement_49 l1 s1 s2 s3 (ab5 τ a0)) → w_Pa_wordStatement_49 C (zn κ) Q X  l0 l1 s0 s1 s2 s3 τ := by
    rintro _ _ y49_s0 y49_s1 y49_s2 y49_s3 τ49 W49 T49_0 T49_1 ⟨⟨rfl, rfl, j49⟩, hE⟩
    unfold w_Pa_wordStatement_49
    intro T13
    refine Co_setColumn_q5 W49 T13  ?_ (fun κ_14 q15 => ?_)
    · rw [j49.2.1, j49.2.2]; exact ⟨j49.1.2.1.2.1, by decide, by decide⟩  -- p5
    obtain ⟨q15, z9⟩ := q15
    replace hE := rb_i5 hE (z9 a0 (paS_t j49.1 Ta0) j49.2.1.symm)
    rw [j49.2.1] at q15
    have S16 := paS_N j49.1 (paN_k W49 (paS_t j49.1 Ta0) j49.1.2.1 q15)
    intro W17
    intro M18
    intro T19
    refine Pa_openSign_q5 W17 T19  ?_ (fun κ_20 q21 => ?_) (fun cls9 κ9 q9 => hx _ _ ?_)
    · exact ⟨S16.2.1, S16.2.2.1, by decide⟩  -- p6
    rotate_left
    obtain ⟨q9, z9⟩ := q9
    · refine and_5 ?_ (fun o9 => rb_x5 hE z9)  -- x7
      exact paX5_tr S16.1 q9
    obtain ⟨q21, z9⟩ := q21
    replace hE := rb_i5 hE z9
    have S22 := paS_T Ta0 S16 W17 q21
    intro W23
    intro M24
    intro T25
    refine Pa_pushBlock_q5 W23 T25  ?_ (fun κ_26 q27 => ?_)
    · exact S22.2.1  -- p8
    obtain ⟨q27, z9⟩ := q27
    replace hE := rb_i5 hE z9
    have S28 := paS_N S22 q27
    intro W29
    intro M30
    refine h _ ?_
    · refine and_5 ?_ (fun o9 => hE)  -- q9
      exact S28
  have hj29 : ∀ (l0 : Nat) (l1 : Int32) (l2 : Int32) (τ : zS), zW C (zn κ) τ → zT τ l0 = 10 → ((a0 = l0 ∧ a1 = l1 ∧ paS κ τ a0) ∧ f5_Pa_wordStatement a1 (ab5 κ a0) = f5_Pa_wordStatement_29 l1 l2 (ab5 τ a0)) → w_Pa_wordStatement_29 C (zn κ) Q X  l0 l1 l2 τ := by
    rintro _ _ y29_2 τ29 W29 T29_0 ⟨⟨rfl, rfl, j29⟩, hE⟩
    unfold w_Pa_wordStatement_29
    refine ⟨fun c31 => ?_, fun c31 => ?_⟩
    · skip
      replace hE := rb_f5 hE c31
      refine hj49 _ _ _ _ _ _ _ W29 ?_ ?_ ?_
      · exact paS_t j29 Ta0  -- t10
      · exact ty_paCode W29 (paS_t j29 Ta0)  -- t11
      · refine and_5 ?_ (fun o9 => hE)  -- k12
        exact ⟨rfl, rfl, j29, rfl, rfl⟩
    · skip
      replace hE := rb_t5 hE c31
      refine hj49 _ _ _ _ _ _ _ W29 ?_ ?_ ?_
      · exact paS_t j29 Ta0  -- t13
      · exact ty_paCode W29 (paS_t j29 Ta0)  -- t14
      · refine and_5 ?_ (fun o9 => hE)  -- k15
        exact ⟨rfl, rfl, j29, rfl, rfl⟩
  have hE : f5_Pa_wordStatement a1 (ab5 κ a0) = f5_Pa_wordStatement a1 (ab5 κ a0) := rfl
  intro x32 hx32
  replace hE := rb_p5 hE hx32
  intro T33
  refine Pa_take_q5 W T33  ?_ (fun κ_34 q35 => ?_)
  · exact ⟨hp.1.1, paK_t hp.1.2.1 rfl hp.2⟩  -- p16
  obtain ⟨q35, z9⟩ := q35
  replace hE := rb_i5 hE z9
  have S36 := paS_T Ta0 S0 W q35
  intro W37
  intro M38
  intro T39
  refine Pa_expression_q5 W37 T39  ?_ (fun κ_40 q41 => ?_) (fun cls9 κ9 q9 => hx _ _ ?_)
  · exact ⟨S36.2.1, S36.2.2.1, S36.2.2.2, Or.inl rfl⟩  -- p17
  rotate_left
  obtain ⟨q9, z9⟩ := q9
  · refine and_5 ?_ (fun o9 => rb_x5 hE z9)  -- x18
    exact paX5_tr S36.1 q9
  obtain ⟨q41, z9⟩ := q41
  replace hE := rb_i5 hE z9
  have S42 := (⟨S36.1.tr q41.1, q41.2⟩ : paS κ κ_40 a0)
  intro W43
  intro M44
  refine ⟨fun c45 => ?_, fun c45 => ?_⟩
  · skip
    replace hE := rb_t5 hE c45
    refine hj29 _ _ _ _ W43 ?_ ?_
    · exact paS_t S42 Ta0  -- t19
    · refine and_5 ?_ (fun o9 => hE)  -- k20
      exact ⟨rfl, rfl, S42⟩
  · skip
    replace hE := rb_f5 hE c45
    refine ⟨fun c46 => ?_, fun c46 => ?_⟩
    · skip
      replace hE := rb_f5 hE c46
      refine ⟨fun c47 => ?_, fun c47 => ?_⟩
      · skip
        replace hE := rb_f5 hE c47
        refine ⟨fun c48 => ?_, fun c48 => ?_⟩
        · skip
          replace hE := rb_f5 hE c48
          refine hj97 _ _ _ _ _ _ W43 ?_ ?_ ?_
          · exact paS_t S42 Ta0  -- t21
          · exact ty_paCode W43 (paS_t S42 Ta0)  -- t22
          · refine and_5 ?_ (fun o9 => hE)  -- k23
            exact ⟨rfl, S42, rfl, rfl⟩
        · skip
          replace hE := rb_t5 hE c48
          refine hj97 _ _ _ _ _ _ W43 ?_ ?_ ?_
          · exact paS_t S42 Ta0  -- t24
          · exact ty_paCode W43 (paS_t S42 Ta0)  -- t25
          · refine and_5 ?_ (fun o9 => hE)  -- k26
            exact ⟨rfl, S42, rfl, rfl⟩
      · skip
        replace hE := rb_t5 hE c47
        refine hj97 _ _ _ _ _ _ W43 ?_ ?_ ?_
        · exact paS_t S42 Ta0  -- t27
        · exact ty_paCode W43 (paS_t S42 Ta0)  -- t28
        · refine and_5 ?_ (fun o9 => hE)  -- k29
          exact ⟨rfl, S42, rfl, rfl⟩
    · skip
      replace hE := rb_t5 hE c46
      refine hj29 _ _ _ _ W43 ?_ ?_
      · exact paS_t S42 Ta0  -- t30
      · refine and_5 ?_ (fun o9 => hE)  -- k31
        exact ⟨rfl, rfl, S42⟩

theorem Pa_behindPlace_q5 {C : zC} {n0 : Nat} {a0 : Nat} {a1 : Int32} {κ : zS} {Q : Int32 → zS → Prop} {X : zXp} (W : zW C n0 κ) (Ta0 : zT κ a0 = 10)  (hp : paA κ a0) (h : ∀ (v : Int32) (κ' : zS), ((paS κ κ' a0 ∧ 2 ≤ psi κ' a0) ∧ f5_Pa_behindPlace a1 (ab5 κ a0) = .inl (ab5 κ' a0, v)) → Q v κ') (hx : ∀ (cls : String) (κ' : zS), ((paX5 κ cls κ' a0) ∧ f5_Pa_behindPlace a1 (ab5 κ a0) = .inr (zI κ' paFaultCode a0, zI κ' paFaultPlace a0)) → X cls κ') : zRun C 10 mPa_behindPlace [.ref a0, .int a1] κ (oI Q X) := by
  refine Pa_behindPlace_run W Ta0 ?_
  replace W := W.lo (Nat.le_trans W.1.2.1 W.1.2.2) (Nat.le_refl (zn κ))
  unfold w_Pa_behindPlace_0
  have S0 := paS_0 hp
  have hj159 : ∀ (l0 : Nat) (l4 : Int32) (τ : zS), zW C (zn κ) τ → zT τ l0 = 10 → ((a0 = l0 ∧ paS κ τ a0 ∧ 2 ≤ psi τ a0) ∧ f5_Pa_behindPlace a1 (ab5 κ a0) = f5_Pa_behindPlace_159 l4 (ab5 τ a0)) → w_Pa_behindPlace_159 C (zn κ) Q X  l0 l4 τ := by
    rintro _ y159_4 τ159 W159 T159_0 ⟨⟨rfl, j159⟩, hE⟩
    unfold w_Pa_behindPlace_159
    refine ⟨fun c1 => ?_, fun c1 => ?_⟩
    · skip
      replace hE := rb_t5 hE c1
      refine h _ _ ?_
      · refine and_5 ?_ (fun o9 => hE)  -- q1
        exact j159
    · skip
      replace hE := rb_f5 hE c1
      refine h _ _ ?_
      · refine and_5 ?_ (fun o9 => hE)  -- q2
        exact j159
  have hj133 : ∀ (l0 : Nat) (l3 : Int32) (s0 : Int32) (τ : zS), zW C (zn κ) τ → zT τ l0 = 10 → ((a0 = l0 ∧ paS κ τ a0 ∧ 2 ≤ psi τ a0 ∧ (l3 = 0 ∨ l3 = 3 ∨ zI τ paKind a0 ≠ 142) ∧ (s0 ≠ 0 → zI τ paKind a0 ≠ 142)) ∧ f5_Pa_behindPlace a1 (ab5 κ a0) = f5_Pa_behindPlace_133 l3 s0 (ab5 τ a0)) → w_Pa_behindPlace_133 C (zn κ) Q X  l0 l3 s0 τ := by
    rintro _ y133_3 y133_s0 τ133 W133 T133_0 ⟨⟨rfl, j133⟩, hE⟩
    unfold w_Pa_behindPlace_133
    refine ⟨fun c2 => ?_, fun c2 => ?_⟩
    · skip
      replace hE := rb_f5 hE c2
      intro T3
      refine Pa_take_q5 W133 T3  ?_ (fun κ_4 q5 => ?_)
      · exact ⟨j133.1.2.1, paK_t j133.1.2.2.1 rfl (j133.2.2.2 c2)⟩  -- p3
      obtain ⟨q5, z9⟩ := q5
      replace hE := rb_i5 hE z9
      have S6 := paS_T Ta0 j133.1 W133 q5
      intro W7
      intro M8
      refine hj159 _ _ _ W7 ?_ ?_
      · exact paS_t S6 Ta0  -- t4
      · refine and_5 ?_ (fun o9 => hE)  -- k5
        exact ⟨rfl, S6, psi2 Ta0 j133.1 W133 q5⟩
    · skip
      replace hE := rb_t5 hE c2
      refine ⟨fun c9 => ?_, fun c9 => ?_⟩
      · skip
        replace hE := rb_t5 hE c9
        intro T10
        refine Pa_take_q5 W133 T10  ?_ (fun κ_11 q12 => ?_)
        · exact ⟨j133.1.2.1, paK_t j133.1.2.2.1 rfl (bh_k j133.2.2.1 (by rw [c9]; decide) (by rw [c9]; decide))⟩  -- p6
        obtain ⟨q12, z9⟩ := q12
        replace hE := rb_i5 hE z9
        have S13 := paS_T Ta0 j133.1 W133 q12
        intro W14
        intro M15
        refine hj159 _ _ _ W14 ?_ ?_
        · exact paS_t S13 Ta0  -- t7
        · refine and_5 ?_ (fun o9 => hE)  -- k8
          exact ⟨rfl, S13, psi2 Ta0 j133.1 W133 q12⟩
      · skip
        replace hE := rb_f5 hE c9
        refine ⟨fun c16 => ?_, fun c16 => ?_⟩
        · skip
          replace hE := rb_t5 hE c16
          intro T17
          refine Pa_take_q5 W133 T17  ?_ (fun κ_18 q19 => ?_)
          · exact ⟨j133.1.2.1, paK_t j133.1.2.2.1 rfl (bh_k j133.2.2.1 (by rw [c16]; decide) (by rw [c16]; decide))⟩  -- p9
          obtain ⟨q19, z9⟩ := q19
          replace hE := rb_i5 hE z9
          have S20 := paS_T Ta0 j133.1 W133 q19
          intro W21
          intro M22
          refine hj159 _ _ _ W21 ?_ ?_
          · exact paS_t S20 Ta0  -- t10
          · refine and_5 ?_ (fun o9 => hE)  -- k11
            exact ⟨rfl, S20, psi2 Ta0 j133.1 W133 q19⟩
        · skip
          replace hE := rb_f5 hE c16
          refine ⟨fun c23 => ?_, fun c23 => ?_⟩
          · skip
            replace hE := rb_f5 hE c23
            refine hj159 _ _ _ W133 ?_ ?_
            · exact paS_t j133.1 Ta0  -- t12
            · refine and_5 ?_ (fun o9 => hE)  -- k13
              exact ⟨rfl, j133.1, j133.2.1⟩
          · skip
            replace hE := rb_t5 hE c23
            intro T24
            refine Pa_take_q5 W133 T24  ?_ (fun κ_25 q26 => ?_)
            · exact ⟨j133.1.2.1, paK_t j133.1.2.2.1 rfl (bh_k j133.2.2.1 (by rw [c23]; decide) (by rw [c23]; decide))⟩  -- p14
            obtain ⟨q26, z9⟩ := q26
            replace hE := rb_i5 hE z9
            have S27 := paS_T Ta0 j133.1 W133 q26
            intro W28
            intro M29
            refine hj159 _ _ _ W28 ?_ ?_
            · exact paS_t S27 Ta0  -- t15
            · refine and_5 ?_ (fun o9 => hE)  -- k16
              exact ⟨rfl, S27, psi2 Ta0 j133.1 W133 q26⟩
  have hj91 : ∀ (l0 : Nat) (l1 : Int32) (l3 : Int32) (τ : zS), zW C (zn κ) τ → zT τ l0 = 10 → ((a0 = l0 ∧ a1 = l1 ∧ paS κ τ a0 ∧ 2 ≤ psi τ a0 ∧ (l3 = 0 ∨ l3 = 3 ∨ zI τ paKind a0 ≠ 142)) ∧ f5_Pa_behindPlace a1 (ab5 κ a0) = f5_Pa_behindPlace_91 l1 l3 (ab5 τ a0)) → w_Pa_behindPlace_91 C (zn κ) Q X  l0 l1 l3 τ := by
    rintro _ _ y91_3 τ91 W91 T91_0 ⟨⟨rfl, rfl, j91⟩, hE⟩
    unfold w_Pa_behindPlace_91
    intro T30
    refine Co_setColumn_q5 W91 T30  ?_ (fun κ_31 q32 => ?_)
    · exact ⟨j91.1.2.1.2.1, by decide, by decide⟩  -- p17
    obtain ⟨q32, z9⟩ := q32
    replace hE := rb_i5 hE (z9 a0 (by first | exact Ta0 | exact paS_t j91.1 Ta0 | assumption) (by first | rfl | assumption))
    have S33 := paS_N j91.1 (paN_k W91 (paS_t j91.1 Ta0) j91.1.2.1 q32)
    intro W34
    intro M35
    have P : psi κ_31 a0 = psi τ91 a0 := psi_N (paN_k W91 (paS_t j91.1 Ta0) j91.1.2.1 q32)
    refine ⟨fun c36 => ?_, fun c36 => ?_⟩
    · skip
      replace hE := rb_f5 hE c36
      refine hj133 _ _ _ _ W34 ?_ ?_
      · exact paS_t S33 Ta0  -- t18
      · refine and_5 ?_ (fun o9 => hE)  -- k19
        exact ⟨rfl, S33, by rw [P]; exact j91.2.1, by rw [q32.2.2.1]; exact j91.2.2, fun z => absurd rfl z⟩
    · skip
      replace hE := rb_t5 hE c36
      refine ⟨fun c37 => ?_, fun c37 => ?_⟩
      · skip
        replace hE := rb_f5 hE c37
        refine hj133 _ _ _ _ W34 ?_ ?_
        · exact paS_t S33 Ta0  -- t20
        · refine and_5 ?_ (fun o9 => hE)  -- k21
          exact ⟨rfl, S33, by rw [P]; exact j91.2.1, by rw [q32.2.2.1]; exact j91.2.2, fun z => absurd rfl z⟩
      · skip
        replace hE := rb_t5 hE c37
        intro T38
        refine Co_column_q5 W34 T38  ?_ (fun r39 q41 => ?_)
        · exact ⟨S33.2.1.2.1, by decide, by decide⟩  -- p22
        obtain ⟨q41, z9⟩ := q41
        replace hE := rb_p5 hE (z9 a0 (by first | exact Ta0 | exact paS_t S33 Ta0 | assumption) (by first | rfl | assumption))
        intro W42
        intro M43
        refine ⟨fun c44 => ?_, fun c44 => ?_⟩
        · skip
          replace hE := rb_t5 hE c44
          refine hj133 _ _ _ _ W42 ?_ ?_
          · exact paS_t S33 Ta0  -- t23
          · refine and_5 ?_ (fun o9 => hE)  -- k24
            exact ⟨rfl, S33, by rw [P]; exact j91.2.1, by rw [q32.2.2.1]; exact j91.2.2, fun z => absurd rfl z⟩
        · skip
          replace hE := rb_f5 hE c44
          refine hj133 _ _ _ _ W42 ?_ ?_
          · exact paS_t S33 Ta0  -- t25
          · refine and_5 ?_ (fun o9 => hE)  -- k26
            exact ⟨rfl, S33, by rw [P]; exact j91.2.1, by rw [q32.2.2.1]; exact j91.2.2, fun _ => by rw [c37]; decide⟩
  have hj63 : ∀ (l0 : Nat) (l1 : Int32) (s0 : Int32) (τ : zS), zW C (zn κ) τ → zT τ l0 = 10 → ((a0 = l0 ∧ a1 = l1 ∧ paS κ τ a0 ∧ 2 ≤ psi τ a0 ∧ (s0 = 2 ∨ s0 = 3 ∨ (s0 = 1 ∧ zI τ paKind a0 ≠ 142))) ∧ f5_Pa_behindPlace a1 (ab5 κ a0) = f5_Pa_behindPlace_63 l1 s0 (ab5 τ a0)) → w_Pa_behindPlace_63 C (zn κ) Q X  l0 l1 s0 τ := by
    rintro _ _ y63_s0 τ63 W63 T63_0 ⟨⟨rfl, rfl, j63⟩, hE⟩
    unfold w_Pa_behindPlace_63
    refine ⟨fun c45 => ?_, fun c45 => ?_⟩
    · skip
      replace hE := rb_f5 hE c45
      refine hj91 _ _ _ _ W63 ?_ ?_
      · exact paS_t j63.1 Ta0  -- t27
      · refine and_5 ?_ (fun o9 => hE)  -- k28
        refine ⟨rfl, rfl, j63.1, j63.2.1, ?_⟩
        rcases j63.2.2 with e | e | e
        · exact absurd e c45
        · exact Or.inr (Or.inl e)
        · exact Or.inr (Or.inr e.2)
    · skip
      replace hE := rb_t5 hE c45
      intro T46
      refine Pa_expect_q5 W63 T46  ?_ (fun κ_47 q48 => ?_) (fun cls9 κ9 q9 => hx _ _ ?_)
      · exact j63.1.2.1  -- p29
      rotate_left
      obtain ⟨q9, z9⟩ := q9
      · refine and_5 ?_ (fun o9 => rb_x5 hE z9)  -- x30
        exact paX5_tr j63.1.1 q9
      obtain ⟨q48, z9⟩ := q48
      replace hE := rb_i5 hE z9
      have S49 := paS_e j63.1 q48
      intro W50
      intro M51
      refine hj91 _ _ _ _ W50 ?_ ?_
      · exact paS_t S49 Ta0  -- t31
      · refine and_5 ?_ (fun o9 => hE)  -- k32
        exact ⟨rfl, rfl, S49, by rw [← q48.1]; exact j63.2.1, Or.inr (Or.inr (by rw [← q48.1, q48.2]; decide))⟩
  have hj25 : ∀ (l0 : Nat) (l1 : Int32) (l2 : Int32) (τ : zS), zW C (zn κ) τ → zT τ l0 = 10 → ((κ = τ ∧ a0 = l0 ∧ a1 = l1 ∧ zI κ paKind a0 ≠ 142) ∧ f5_Pa_behindPlace a1 (ab5 κ a0) = f5_Pa_behindPlace_25 l1 l2 (ab5 τ a0)) → w_Pa_behindPlace_25 C (zn κ) Q X  l0 l1 l2 τ := by
    rintro _ _ y25_2 _ W25 T25_0 ⟨⟨rfl, rfl, rfl, j25⟩, hE⟩
    unfold w_Pa_behindPlace_25
    intro T52
    refine Pa_take_q5 W25 T52  ?_ (fun κ_53 q54 => ?_)
    · exact ⟨hp.1, paK_t hp.2.1 rfl j25⟩  -- p33
    obtain ⟨q54, z9⟩ := q54
    replace hE := rb_i5 hE z9
    have S55 := paS_T Ta0 S0 W25 q54
    intro W56
    intro M57
    refine ⟨fun c58 => ?_, fun c58 => ?_⟩
    · skip
      replace hE := rb_t5 hE c58
      refine ⟨fun c59 => ?_, fun c59 => ?_⟩
      · skip
        replace hE := rb_f5 hE c59
        refine hj91 _ _ _ _ W56 ?_ ?_
        · exact paS_t S55 Ta0  -- t34
        · refine and_5 ?_ (fun o9 => hE)  -- k35
          exact ⟨rfl, rfl, S55, psi2 Ta0 S0 W25 q54, Or.inl rfl⟩
      · skip
        replace hE := rb_t5 hE c59
        refine hj91 _ _ _ _ W56 ?_ ?_
        · exact paS_t S55 Ta0  -- t36
        · refine and_5 ?_ (fun o9 => hE)  -- k37
          exact ⟨rfl, rfl, S55, psi2 Ta0 S0 W25 q54, Or.inr (Or.inr (by rw [c59]; decide))⟩
    · skip
      replace hE := rb_f5 hE c58
      refine ⟨fun c60 => ?_, fun c60 => ?_⟩
      · skip
        replace hE := rb_f5 hE c60
        refine ⟨fun c61 => ?_, fun c61 => ?_⟩
        · skip
          replace hE := rb_f5 hE c61
          refine hj63 _ _ _ _ W56 ?_ ?_
          · exact paS_t S55 Ta0  -- t38
          · refine and_5 ?_ (fun o9 => hE)  -- k39
            exact ⟨rfl, rfl, S55, psi2 Ta0 S0 W25 q54, Or.inl rfl⟩
        · skip
          replace hE := rb_t5 hE c61
          refine hj63 _ _ _ _ W56 ?_ ?_
          · exact paS_t S55 Ta0  -- t40
          · refine and_5 ?_ (fun o9 => hE)  -- k41
            exact ⟨rfl, rfl, S55, psi2 Ta0 S0 W25 q54, Or.inr (Or.inr ⟨rfl, by rw [c61]; decide⟩)⟩
      · skip
        replace hE := rb_t5 hE c60
        refine hj63 _ _ _ _ W56 ?_ ?_
        · exact paS_t S55 Ta0  -- t42
        · refine and_5 ?_ (fun o9 => hE)  -- k43
          exact ⟨rfl, rfl, S55, psi2 Ta0 S0 W25 q54, Or.inr (Or.inl rfl)⟩
  have hj14 : ∀ (l0 : Nat) (l1 : Int32) (s0 : Int32) (τ : zS), zW C (zn κ) τ → zT τ l0 = 10 → ((κ = τ ∧ a0 = l0 ∧ a1 = l1 ∧ (s0 ≠ 0 → zI κ paKind a0 = 126)) ∧ f5_Pa_behindPlace a1 (ab5 κ a0) = f5_Pa_behindPlace_14 l1 s0 (ab5 τ a0)) → w_Pa_behindPlace_14 C (zn κ) Q X  l0 l1 s0 τ := by
    rintro _ _ y14_s0 _ W14 T14_0 ⟨⟨rfl, rfl, rfl, j14⟩, hE⟩
    unfold w_Pa_behindPlace_14
    refine ⟨fun c62 => ?_, fun c62 => ?_⟩
    · skip
      replace hE := rb_f5 hE c62
      refine hj25 _ _ _ _ W14 ?_ ?_
      · exact paS_t S0 Ta0  -- t44
      · refine and_5 ?_ (fun o9 => hE)  -- k45
        exact ⟨rfl, rfl, rfl, by rw [j14 c62]; decide⟩
    · skip
      replace hE := rb_t5 hE c62
      intro T63
      refine Pa_expect_q5 W14 T63  ?_ (fun κ_64 q65 => ?_) (fun cls9 κ9 q9 => hx _ _ ?_)
      · exact S0.2.1  -- p46
      rotate_left
      obtain ⟨q9, z9⟩ := q9
      · refine and_5 ?_ (fun o9 => rb_x5 hE z9)  -- x47
        exact paX5_tr S0.1 q9
      obtain ⟨q65, z9⟩ := q65
      replace hE := rb_i5 hE z9
      have S66 := paS_e S0 q65
      intro W67
      intro M68
      refine hj25 _ _ _ _ W67 ?_ ?_
      · exact paS_t S66 Ta0  -- t48
      · refine and_5 ?_ (fun o9 => hE)  -- k49
        exact ⟨q65.1, rfl, rfl, by rw [q65.2]; decide⟩
  have hE : f5_Pa_behindPlace a1 (ab5 κ a0) = f5_Pa_behindPlace a1 (ab5 κ a0) := rfl
  refine ⟨fun c69 => ?_, fun c69 => ?_⟩
  · skip
    replace hE := rb_f5 hE c69
    refine hj14 _ _ _ _ W ?_ ?_
    · exact paS_t S0 Ta0  -- t50
    · refine and_5 ?_ (fun o9 => hE)  -- k51
      exact ⟨rfl, rfl, rfl, fun z => absurd rfl z⟩
  · skip
    replace hE := rb_t5 hE c69
    refine hj14 _ _ _ _ W ?_ ?_
    · exact paS_t S0 Ta0  -- t52
    · refine and_5 ?_ (fun o9 => hE)  -- k53
      exact ⟨rfl, rfl, rfl, fun _ => c69⟩

theorem Pa_finish_q5 {C : zC} {n0 : Nat} {a0 : Nat} {a1 : Int32} {a2 : Int32} {κ : zS} {Q : zS → Prop} {X : zXp} (W : zW C n0 κ) (Ta0 : zT κ a0 = 10)  (hp : paA κ a0 ∧ 2 ≤ psi κ a0) (h : ∀ (κ' : zS), ((paS κ κ' a0) ∧ f5_Pa_finish a1 a2 (ab5 κ a0) = .inl (ab5 κ' a0, ())) → Q κ') (hx : ∀ (cls : String) (κ' : zS), ((paX5 κ cls κ' a0) ∧ f5_Pa_finish a1 a2 (ab5 κ a0) = .inr (zI κ' paFaultCode a0, zI κ' paFaultPlace a0)) → X cls κ') : zRun C 12 mPa_finish [.ref a0, .int a1, .int a2] κ (oV Q X) := by
  refine Pa_finish_run W Ta0 ?_
  replace W := W.lo (Nat.le_trans W.1.2.1 W.1.2.2) (Nat.le_refl (zn κ))
  unfold w_Pa_finish_0
  have S0 := paS_0 hp.1
  have hj44 : ∀ (l0 : Nat) (l1 : Int32) (l2 : Int32) (s0 : Int32) (τ : zS), zW C (zn κ) τ → zT τ l0 = 10 → ((a0 = l0 ∧ a1 = l1 ∧ a2 = l2 ∧ paS κ τ a0) ∧ f5_Pa_finish a1 a2 (ab5 κ a0) = f5_Pa_finish_44 l1 l2 s0 (ab5 τ a0)) → w_Pa_finish_44 C (zn κ) Q X  l0 l1 l2 s0 τ := by
    rintro _ _ _ y44_s0 τ44 W44 T44_0 ⟨⟨rfl, rfl, rfl, j44⟩, hE⟩
    unfold w_Pa_finish_44
    unfold w_Pa_finish_48
    refine ⟨fun n l0 l1 l2 l3 l4 τ => n = (10244 - l4.toInt).toNat ∧ ((a0 = l0 ∧ a1 = l1 ∧ a2 = l2 ∧ paS κ τ a0 ∧ 0 ≤ l4.toInt ∧ l4.toInt ≤ 10244) ∧ ∃ m5, n < m5 ∧ f5_Pa_finish a1 a2 (ab5 κ a0) = f5_Pa_finish_48 m5 l1 l2 l3 l4 (ab5 τ a0)), ⟨_, rfl, ?_⟩, ?_⟩
    · refine and_5 ?_ (fun o9 => ⟨fu5, by first | exact fb5 | (unfold fu5; omega) | decide, hE⟩)  -- j1
      exact ⟨rfl, rfl, rfl, j44, by decide, by decide⟩
    rintro n48 _ _ _ x48_3 x48_4 κ48 W48 T48_0 ⟨hn48, ⟨rfl, rfl, rfl, i48⟩, m48, hm48, hE⟩
    obtain ⟨m48, rfl⟩ : ∃ m9, m48 = m9 + 1 := ⟨m48 - 1, by omega⟩
    have hj107 : ∀ (l0 : Nat) (l1 : Int32) (l2 : Int32) (l4 : Int32) (s0 : Int32) (τ : zS), zW C (zn κ) τ → zT τ l0 = 10 → ((a0 = l0 ∧ a1 = l1 ∧ a2 = l2 ∧ paS κ τ a0 ∧ l4 = x48_4 ∧ l4.toInt ≤ 10242) ∧ f5_Pa_finish a1 a2 (ab5 κ a0) = f5_Pa_finish_107 (f5_Pa_finish_48 m48) l1 l2 l4 s0 (ab5 τ a0)) → w_Pa_finish_107 C (zn κ) Q X (fun (l0' : Nat) (l1' : Int32) (l2' : Int32) (l3' : Int32) (l4' : Int32) (τ : zS) => ∃ k < n48, (fun (n : Nat) (l0 : Nat) (l1 : Int32) (l2 : Int32) (l3 : Int32) (l4 : Int32) (τ : zS) => n = (10244 - l4.toInt).toNat ∧ ((a0 = l0 ∧ a1 = l1 ∧ a2 = l2 ∧ paS κ τ a0 ∧ 0 ≤ l4.toInt ∧ l4.toInt ≤ 10244) ∧ ∃ m5, n < m5 ∧ f5_Pa_finish a1 a2 (ab5 κ a0) = f5_Pa_finish_48 m5 l1 l2 l3 l4 (ab5 τ a0))) k l0' l1' l2' l3' l4' τ) l0 l1 l2 l4 s0 τ := by
      clear hE
      rintro _ _ _ y107_4 y107_s0 τ107 W107 T107_0 ⟨⟨rfl, rfl, rfl, j107⟩, hE⟩
      unfold w_Pa_finish_107
      have e4 := j107.2.1
      have l4 := j107.2.2
      have l0 := i48.2.1
      have e1 : (y107_4 + 1).toInt = y107_4.toInt + 1 := by rw [add_i (by rw [t1i, e4]; omega) (by rw [t1i]; omega), t1i]
      refine ⟨fun c1 => ?_, fun c1 => ?_⟩
      · skip
        replace hE := rb_t5 hE c1
        intro x2 hx2
        replace hE := rb_p5 hE hx2
        refine lp_b5 ?_ (fun d9 => ⟨rfl, ?_⟩)
        · rw [hn48, hx2, e1, e4]; rw [e4] at l4; omega  -- d2
        · refine and_5 ?_ (fun o9 => ⟨m48, by omega, hE⟩)  -- i3
          exact ⟨rfl, rfl, rfl, j107.1, by rw [hx2, e1, e4]; omega, by rw [hx2, e1]; omega⟩
      · skip
        replace hE := rb_f5 hE c1
        intro T3
        refine Pa_pass_q5 W107 T3  ?_ (fun κ_4 q5 => ?_) (fun cls9 κ9 q9 => hx _ _ ?_)
        · exact ⟨j107.1.2.1, j107.1.2.2.1, by decide⟩  -- p4
        rotate_left
        obtain ⟨q9, z9⟩ := q9
        · refine and_5 ?_ (fun o9 => rb_x5 hE z9)  -- x5
          exact paX5_tr j107.1.1 q9
        obtain ⟨q5, z9⟩ := q5
        replace hE := rb_i5 hE z9
        have S6 := paS_T Ta0 j107.1 W107 q5
        intro W7
        intro M8
        intro x9 hx9
        replace hE := rb_p5 hE hx9
        refine lp_b5 ?_ (fun d9 => ⟨rfl, ?_⟩)
        · rw [hn48, hx9, e1, e4]; rw [e4] at l4; omega  -- d6
        · refine and_5 ?_ (fun o9 => ⟨m48, by omega, hE⟩)  -- i7
          exact ⟨rfl, rfl, rfl, S6, by rw [hx9, e1, e4]; omega, by rw [hx9, e1]; omega⟩
    refine ⟨fun c10 => ?_, fun c10 => ?_⟩
    · skip
      replace hE := rb_t5 hE c10
      intro T11
      refine Pa_closeSign_q5 W48 T11  ?_ (fun κ_12 q13 => ?_) (fun cls9 κ9 q9 => hx _ _ ?_)
      · exact ⟨i48.1.2.1, i48.1.2.2.1, by decide⟩  -- p8
      rotate_left
      obtain ⟨q9, z9⟩ := q9
      · refine and_5 ?_ (fun o9 => rb_x5 hE z9)  -- x9
        exact paX5_tr i48.1.1 q9
      obtain ⟨q13, z9⟩ := q13
      replace hE := rb_i5 hE z9
      have S14 := paS_T Ta0 i48.1 W48 q13
      intro W15
      intro M16
      refine h _ ?_
      · refine and_5 ?_ (fun o9 => hE)  -- q10
        exact S14
    · skip
      replace hE := rb_f5 hE c10
      refine ⟨fun c17 => ?_, fun c17 => ?_⟩
      · skip
        replace hE := rb_t5 hE c17
        intro T18
        refine Pa_closeSign_q5 W48 T18  ?_ (fun κ_19 q20 => ?_) (fun cls9 κ9 q9 => hx _ _ ?_)
        · exact ⟨i48.1.2.1, i48.1.2.2.1, by decide⟩  -- p11
        rotate_left
        obtain ⟨q9, z9⟩ := q9
        · refine and_5 ?_ (fun o9 => rb_x5 hE z9)  -- x12
          exact paX5_tr i48.1.1 q9
        obtain ⟨q20, z9⟩ := q20
        replace hE := rb_i5 hE z9
        have S21 := paS_T Ta0 i48.1 W48 q20
        intro W22
        intro M23
        refine h _ ?_
        · refine and_5 ?_ (fun o9 => hE)  -- q13
          exact S21
      · skip
        replace hE := rb_f5 hE c17
        intro T24
        refine Pa_expression_q5 W48 T24  ?_ (fun κ_25 q26 => ?_) (fun cls9 κ9 q9 => hx _ _ ?_)
        · exact ⟨i48.1.2.1, i48.1.2.2.1, i48.1.2.2.2, Or.inl rfl⟩  -- p14
        rotate_left
        obtain ⟨q9, z9⟩ := q9
        · refine and_5 ?_ (fun o9 => rb_x5 hE z9)  -- x15
          exact paX5_tr i48.1.1 q9
        obtain ⟨q26, z9⟩ := q26
        replace hE := rb_i5 hE z9
        have S27 := (⟨i48.1.1.tr q26.1, q26.2⟩ : paS κ κ_25 a0)
        intro W28
        intro M29
        have l2 : x48_4.toInt ≤ 10242 := by
          rw [lti] at c17
          have tb := i48.1.2.1.1.2.2
          omega
        refine ⟨fun c30 => ?_, fun c30 => ?_⟩
        · skip
          replace hE := rb_f5 hE c30
          refine ⟨fun c31 => ?_, fun c31 => ?_⟩
          · skip
            replace hE := rb_f5 hE c31
            refine hj107 _ _ _ _ _ _ W28 ?_ ?_
            · exact paS_t S27 Ta0  -- t16
            · refine and_5 ?_ (fun o9 => hE)  -- k17
              exact ⟨rfl, rfl, rfl, S27, rfl, l2⟩
          · skip
            replace hE := rb_t5 hE c31
            refine ⟨fun c32 => ?_, fun c32 => ?_⟩
            · skip
              replace hE := rb_f5 hE c32
              refine hj107 _ _ _ _ _ _ W28 ?_ ?_
              · exact paS_t S27 Ta0  -- t18
              · refine and_5 ?_ (fun o9 => hE)  -- k19
                exact ⟨rfl, rfl, rfl, S27, rfl, l2⟩
            · skip
              replace hE := rb_t5 hE c32
              refine hj107 _ _ _ _ _ _ W28 ?_ ?_
              · exact paS_t S27 Ta0  -- t20
              · refine and_5 ?_ (fun o9 => hE)  -- k21
                exact ⟨rfl, rfl, rfl, S27, rfl, l2⟩
        · skip
          replace hE := rb_t5 hE c30
          refine ⟨fun c33 => ?_, fun c33 => ?_⟩
          · skip
            replace hE := rb_f5 hE c33
            refine hj107 _ _ _ _ _ _ W28 ?_ ?_
            · exact paS_t S27 Ta0  -- t22
            · refine and_5 ?_ (fun o9 => hE)  -- k23
              exact ⟨rfl, rfl, rfl, S27, rfl, l2⟩
          · skip
            replace hE := rb_t5 hE c33
            refine hj107 _ _ _ _ _ _ W28 ?_ ?_
            · exact paS_t S27 Ta0  -- t24
            · refine and_5 ?_ (fun o9 => hE)  -- k25
              exact ⟨rfl, rfl, rfl, S27, rfl, l2⟩
  have hE : f5_Pa_finish a1 a2 (ab5 κ a0) = f5_Pa_finish a1 a2 (ab5 κ a0) := rfl
  refine ⟨fun c34 => ?_, fun c34 => ?_⟩
  · skip
    replace hE := rb_f5 hE c34
    intro T35
    refine Pa_openSign_q5 W T35  ?_ (fun κ_36 q37 => ?_) (fun cls9 κ9 q9 => hx _ _ ?_)
    · exact ⟨S0.2.1, S0.2.2.1, by decide⟩  -- p26
    rotate_left
    obtain ⟨q9, z9⟩ := q9
    · refine and_5 ?_ (fun o9 => rb_x5 hE z9)  -- x27
      exact paX5_tr S0.1 q9
    obtain ⟨q37, z9⟩ := q37
    replace hE := rb_i5 hE z9
    have S38 := paS_T Ta0 S0 W q37
    intro W39
    intro M40
    refine ⟨fun c41 => ?_, fun c41 => ?_⟩
    · skip
      replace hE := rb_f5 hE c41
      refine hj44 _ _ _ _ _ W39 ?_ ?_
      · exact paS_t S38 Ta0  -- t28
      · refine and_5 ?_ (fun o9 => hE)  -- k29
        exact ⟨rfl, rfl, rfl, S38⟩
    · skip
      replace hE := rb_t5 hE c41
      refine ⟨fun c42 => ?_, fun c42 => ?_⟩
      · skip
        replace hE := rb_t5 hE c42
        refine hj44 _ _ _ _ _ W39 ?_ ?_
        · exact paS_t S38 Ta0  -- t30
        · refine and_5 ?_ (fun o9 => hE)  -- k31
          exact ⟨rfl, rfl, rfl, S38⟩
      · skip
        replace hE := rb_f5 hE c42
        refine hj44 _ _ _ _ _ W39 ?_ ?_
        · exact paS_t S38 Ta0  -- t32
        · refine and_5 ?_ (fun o9 => hE)  -- k33
          exact ⟨rfl, rfl, rfl, S38⟩
  · skip
    replace hE := rb_t5 hE c34
    intro T43
    refine Co_column_q5 W T43  ?_ (fun r44 q46 => ?_)
    · exact ⟨S0.2.1.2.1, by decide, by decide⟩  -- p34
    obtain ⟨q46, z9⟩ := q46
    replace hE := rb_p5 hE (z9 a0 (by first | exact Ta0 | exact paS_t S0 Ta0 | assumption) (by first | rfl | assumption))
    intro W47
    intro M48
    intro T49
    refine Pa_expression_q5 W47 T49  ?_ (fun κ_50 q51 => ?_) (fun cls9 κ9 q9 => hx _ _ ?_)
    · exact ⟨hp.1.1, hp.1.2.1, hp.1.2.2, Or.inr hp.2⟩  -- p35
    rotate_left
    obtain ⟨q9, z9⟩ := q9
    · refine and_5 ?_ (fun o9 => rb_x5 hE z9)  -- x36
      exact paX5_tr S0.1 q9
    obtain ⟨q51, z9⟩ := q51
    replace hE := rb_i5 hE z9
    have S52 := (⟨S0.1.tr q51.1, q51.2⟩ : paS κ κ_50 a0)
    intro W53
    intro M54
    refine h _ ?_
    · refine and_5 ?_ (fun o9 => hE)  -- q37
      exact S52

theorem Pa_spread_q5 {C : zC} {n0 : Nat} {a0 : Nat} {a1 : Int32} {κ : zS} {Q : zS → Prop} {X : zXp} (W : zW C n0 κ) (Ta0 : zT κ a0 = 10)  (hp : paA κ a0) (h : ∀ (κ' : zS), ((paS κ κ' a0) ∧ f5_Pa_spread a1 (ab5 κ a0) = .inl (ab5 κ' a0, ())) → Q κ') (hx : ∀ (cls : String) (κ' : zS), ((paX5 κ cls κ' a0) ∧ f5_Pa_spread a1 (ab5 κ a0) = .inr (zI κ' paFaultCode a0, zI κ' paFaultPlace a0)) → X cls κ') : zRun C 12 mPa_spread [.ref a0, .int a1] κ (oV Q X) := by
  refine Pa_spread_run W Ta0 ?_
  replace W := W.lo (Nat.le_trans W.1.2.1 W.1.2.2) (Nat.le_refl (zn κ))
  unfold w_Pa_spread_0
  have S0 := paS_0 hp
  have hE : f5_Pa_spread a1 (ab5 κ a0) = f5_Pa_spread a1 (ab5 κ a0) := rfl
  intro T1
  refine Pa_openSign_q5 W T1  ?_ (fun κ_2 q3 => ?_) (fun cls9 κ9 q9 => hx _ _ ?_)
  · exact ⟨S0.2.1, S0.2.2.1, by decide⟩  -- p1
  rotate_left
  obtain ⟨q9, z9⟩ := q9
  · refine and_5 ?_ (fun o9 => rb_x5 hE z9)  -- x2
    exact paX5_tr S0.1 q9
  obtain ⟨q3, z9⟩ := q3
  replace hE := rb_i5 hE z9
  have S4 := paS_T Ta0 S0 W q3
  intro W5
  intro M6
  unfold w_Pa_spread_10
  refine ⟨fun n l0 l1 l2 l3 τ => n = (9 - l3.toInt).toNat ∧ ((a0 = l0 ∧ a1 = l1 ∧ paS κ τ a0 ∧ 0 ≤ l3.toInt ∧ l3.toInt ≤ 9) ∧ ∃ m5, n < m5 ∧ f5_Pa_spread a1 (ab5 κ a0) = f5_Pa_spread_10 m5 l1 l2 l3 (ab5 τ a0)), ⟨_, rfl, ?_⟩, ?_⟩
  · refine and_5 ?_ (fun o9 => ⟨fu5, by first | exact fb5 | (unfold fu5; omega) | decide, hE⟩)  -- j3
    exact ⟨rfl, rfl, S4, by decide, by decide⟩
  rintro n10 _ _ x10_2 x10_3 κ10 W10 T10_0 ⟨hn10, ⟨rfl, rfl, i10⟩, m10, hm10, hE⟩
  obtain ⟨m10, rfl⟩ : ∃ m9, m10 = m9 + 1 := ⟨m10 - 1, by omega⟩
  have hj72 : ∀ (l0 : Nat) (l1 : Int32) (l3 : Int32) (s0 : Int32) (τ : zS), zW C (zn κ) τ → zT τ l0 = 10 → ((a0 = l0 ∧ a1 = l1 ∧ paS κ τ a0 ∧ l3 = x10_3 ∧ l3.toInt ≤ 8 ∧ (s0 ≠ 0 → zI τ paKind a0 = 44)) ∧ f5_Pa_spread a1 (ab5 κ a0) = f5_Pa_spread_72 (f5_Pa_spread_10 m10) l1 l3 s0 (ab5 τ a0)) → w_Pa_spread_72 C (zn κ) Q X (fun (l0' : Nat) (l1' : Int32) (l2' : Int32) (l3' : Int32) (τ : zS) => ∃ k < n10, (fun (n : Nat) (l0 : Nat) (l1 : Int32) (l2 : Int32) (l3 : Int32) (τ : zS) => n = (9 - l3.toInt).toNat ∧ ((a0 = l0 ∧ a1 = l1 ∧ paS κ τ a0 ∧ 0 ≤ l3.toInt ∧ l3.toInt ≤ 9) ∧ ∃ m5, n < m5 ∧ f5_Pa_spread a1 (ab5 κ a0) = f5_Pa_spread_10 m5 l1 l2 l3 (ab5 τ a0))) k l0' l1' l2' l3' τ) l0 l1 l3 s0 τ := by
    clear hE
    rintro _ _ y72_3 y72_s0 τ72 W72 T72_0 ⟨⟨rfl, rfl, j72⟩, hE⟩
    unfold w_Pa_spread_72
    have e3 := j72.2.1
    have l3 := j72.2.2.1
    have l0 := i10.2.1
    have e1 : (y72_3 + 1).toInt = y72_3.toInt + 1 := by rw [add_i (by rw [t1i, e3]; omega) (by rw [t1i]; omega), t1i]
    refine ⟨fun c7 => ?_, fun c7 => ?_⟩
    · skip
      replace hE := rb_t5 hE c7
      intro x8 hx8
      replace hE := rb_p5 hE hx8
      refine lp_b5 ?_ (fun d9 => ⟨rfl, ?_⟩)
      · rw [hn10, hx8, e1, e3]; rw [e3] at l3; omega  -- d4
      · refine and_5 ?_ (fun o9 => ⟨m10, by omega, hE⟩)  -- i5
        exact ⟨rfl, rfl, j72.1, by rw [hx8, e1, e3]; omega, by rw [hx8, e1]; omega⟩
    · skip
      replace hE := rb_f5 hE c7
      intro T9
      refine Pa_take_q5 W72 T9  ?_ (fun κ_10 q11 => ?_)
      · exact ⟨j72.1.2.1, paK_t j72.1.2.2.1 (j72.2.2.2 c7) (by decide)⟩  -- p6
      obtain ⟨q11, z9⟩ := q11
      replace hE := rb_i5 hE z9
      have S12 := paS_T Ta0 j72.1 W72 q11
      intro W13
      intro M14
      intro x15 hx15
      replace hE := rb_p5 hE hx15
      refine lp_b5 ?_ (fun d9 => ⟨rfl, ?_⟩)
      · rw [hn10, hx15, e1, e3]; rw [e3] at l3; omega  -- d7
      · refine and_5 ?_ (fun o9 => ⟨m10, by omega, hE⟩)  -- i8
        exact ⟨rfl, rfl, S12, by rw [hx15, e1, e3]; omega, by rw [hx15, e1]; omega⟩
  have hj48 : ∀ (l0 : Nat) (l1 : Int32) (l3 : Int32) (τ : zS), zW C (zn κ) τ → zT τ l0 = 10 → ((a0 = l0 ∧ a1 = l1 ∧ paS κ τ a0 ∧ l3 = x10_3 ∧ l3.toInt ≤ 8 ∧ zI τ paKind a0 = 58) ∧ f5_Pa_spread a1 (ab5 κ a0) = f5_Pa_spread_48 (f5_Pa_spread_10 m10) l1 l3 (ab5 τ a0)) → w_Pa_spread_48 C (zn κ) Q X (fun (l0' : Nat) (l1' : Int32) (l2' : Int32) (l3' : Int32) (τ : zS) => ∃ k < n10, (fun (n : Nat) (l0 : Nat) (l1 : Int32) (l2 : Int32) (l3 : Int32) (τ : zS) => n = (9 - l3.toInt).toNat ∧ ((a0 = l0 ∧ a1 = l1 ∧ paS κ τ a0 ∧ 0 ≤ l3.toInt ∧ l3.toInt ≤ 9) ∧ ∃ m5, n < m5 ∧ f5_Pa_spread a1 (ab5 κ a0) = f5_Pa_spread_10 m5 l1 l2 l3 (ab5 τ a0))) k l0' l1' l2' l3' τ) l0 l1 l3 τ := by
    clear hE
    rintro _ _ y48_3 τ48 W48 T48_0 ⟨⟨rfl, rfl, j48⟩, hE⟩
    unfold w_Pa_spread_48
    intro T16
    refine Pa_take_q5 W48 T16  ?_ (fun κ_17 q18 => ?_)
    · exact ⟨j48.1.2.1, paK_t j48.1.2.2.1 j48.2.2.2 (by decide)⟩  -- p9
    obtain ⟨q18, z9⟩ := q18
    replace hE := rb_i5 hE z9
    have S19 := paS_T Ta0 j48.1 W48 q18
    intro W20
    intro M21
    intro T22
    refine Pa_expression_q5 W20 T22  ?_ (fun κ_23 q24 => ?_) (fun cls9 κ9 q9 => hx _ _ ?_)
    · exact ⟨S19.2.1, S19.2.2.1, S19.2.2.2, Or.inl rfl⟩  -- p10
    rotate_left
    obtain ⟨q9, z9⟩ := q9
    · refine and_5 ?_ (fun o9 => rb_x5 hE z9)  -- x11
      exact paX5_tr S19.1 q9
    obtain ⟨q24, z9⟩ := q24
    replace hE := rb_i5 hE z9
    have S25 := (⟨S19.1.tr q24.1, q24.2⟩ : paS κ κ_23 a0)
    intro W26
    intro M27
    refine ⟨fun c28 => ?_, fun c28 => ?_⟩
    · skip
      replace hE := rb_f5 hE c28
      refine hj72 _ _ _ _ _ W26 ?_ ?_
      · exact paS_t S25 Ta0  -- t12
      · refine and_5 ?_ (fun o9 => hE)  -- k13
        exact ⟨rfl, rfl, S25, j48.2.1, j48.2.2.1, fun z => absurd rfl z⟩
    · skip
      replace hE := rb_t5 hE c28
      refine hj72 _ _ _ _ _ W26 ?_ ?_
      · exact paS_t S25 Ta0  -- t14
      · refine and_5 ?_ (fun o9 => hE)  -- k15
        exact ⟨rfl, rfl, S25, j48.2.1, j48.2.2.1, fun _ => c28⟩
  refine ⟨fun c29 => ?_, fun c29 => ?_⟩
  · skip
    replace hE := rb_t5 hE c29
    intro T30
    refine Pa_closeSign_q5 W10 T30  ?_ (fun κ_31 q32 => ?_) (fun cls9 κ9 q9 => hx _ _ ?_)
    · exact ⟨i10.1.2.1, i10.1.2.2.1, by decide⟩  -- p16
    rotate_left
    obtain ⟨q9, z9⟩ := q9
    · refine and_5 ?_ (fun o9 => rb_x5 hE z9)  -- x17
      exact paX5_tr i10.1.1 q9
    obtain ⟨q32, z9⟩ := q32
    replace hE := rb_i5 hE z9
    have S33 := paS_T Ta0 i10.1 W10 q32
    intro W34
    intro M35
    refine h _ ?_
    · refine and_5 ?_ (fun o9 => hE)  -- q18
      exact S33
  · skip
    replace hE := rb_f5 hE c29
    refine ⟨fun c36 => ?_, fun c36 => ?_⟩
    · skip
      replace hE := rb_t5 hE c36
      intro T37
      refine Pa_closeSign_q5 W10 T37  ?_ (fun κ_38 q39 => ?_) (fun cls9 κ9 q9 => hx _ _ ?_)
      · exact ⟨i10.1.2.1, i10.1.2.2.1, by decide⟩  -- p19
      rotate_left
      obtain ⟨q9, z9⟩ := q9
      · refine and_5 ?_ (fun o9 => rb_x5 hE z9)  -- x20
        exact paX5_tr i10.1.1 q9
      obtain ⟨q39, z9⟩ := q39
      replace hE := rb_i5 hE z9
      have S40 := paS_T Ta0 i10.1 W10 q39
      intro W41
      intro M42
      refine h _ ?_
      · refine and_5 ?_ (fun o9 => hE)  -- q21
        exact S40
    · skip
      replace hE := rb_f5 hE c36
      intro T43
      refine Pa_expression_q5 W10 T43  ?_ (fun κ_44 q45 => ?_) (fun cls9 κ9 q9 => hx _ _ ?_)
      · exact ⟨i10.1.2.1, i10.1.2.2.1, i10.1.2.2.2, Or.inl rfl⟩  -- p22
      rotate_left
      obtain ⟨q9, z9⟩ := q9
      · refine and_5 ?_ (fun o9 => rb_x5 hE z9)  -- x23
        exact paX5_tr i10.1.1 q9
      obtain ⟨q45, z9⟩ := q45
      replace hE := rb_i5 hE z9
      have S46 := (⟨i10.1.1.tr q45.1, q45.2⟩ : paS κ κ_44 a0)
      intro W47
      intro M48
      intro T49
      refine Pa_expect_q5 W47 T49  ?_ (fun κ_50 q51 => ?_) (fun cls9 κ9 q9 => hx _ _ ?_)
      · exact S46.2.1  -- p24
      rotate_left
      obtain ⟨q9, z9⟩ := q9
      · refine and_5 ?_ (fun o9 => rb_x5 hE z9)  -- x25
        exact paX5_tr S46.1 q9
      obtain ⟨q51, z9⟩ := q51
      replace hE := rb_i5 hE z9
      have S52 := paS_e S46 q51
      intro W53
      intro M54
      refine ⟨fun c55 => ?_, fun c55 => ?_⟩
      · skip
        replace hE := rb_t5 hE c55
        refine hj48 _ _ _ _ W53 ?_ ?_
        · exact paS_t S52 Ta0  -- t26
        · refine and_5 ?_ (fun o9 => hE)  -- k27
          have e8 : (8 : Int32).toInt = 8 := rfl
          rw [lti, e8] at c36
          exact ⟨rfl, rfl, S52, rfl, by omega, by rw [← q51.1]; exact q51.2⟩
      · skip
        replace hE := rb_f5 hE c55
        intro T56
        refine Pa_refuse_q5 (by decide) W53 T56  ?_ (fun κ_57 q58 => False.elim q58) (fun cls9 κ9 q9 => hx _ _ ?_)
        · exact S52.2.1  -- p28
        obtain ⟨q9, z9⟩ := q9
        · refine and_5 ?_ (fun o9 => rb_r5 hE z9)  -- x29
          exact paX5_tr S52.1 q9

theorem Pa_statement_q5 {C : zC} {n0 : Nat} {a0 : Nat} {a1 : Int32} {κ : zS} {Q : zS → Prop} {X : zXp} (W : zW C n0 κ) (Ta0 : zT κ a0 = 10)  (hp : paA κ a0 ∧ zI κ paKind a0 ≠ 142) (h : ∀ (κ' : zS), ((paS κ κ' a0) ∧ f5_Pa_statement a1 (ab5 κ a0) = .inl (ab5 κ' a0, ())) → Q κ') (hx : ∀ (cls : String) (κ' : zS), ((paX5 κ cls κ' a0) ∧ f5_Pa_statement a1 (ab5 κ a0) = .inr (zI κ' paFaultCode a0, zI κ' paFaultPlace a0)) → X cls κ') : zRun C 13 mPa_statement [.ref a0, .int a1] κ (oV Q X) := by
  refine Pa_statement_run W Ta0 ?_
  replace W := W.lo (Nat.le_trans W.1.2.1 W.1.2.2) (Nat.le_refl (zn κ))
  unfold w_Pa_statement_0
  have S0 := paS_0 hp.1
  have hj268 : ∀ (l0 : Nat) (τ : zS), zW C (zn κ) τ → zT τ l0 = 10 → ((a0 = l0 ∧ paS κ τ a0) ∧ f5_Pa_statement a1 (ab5 κ a0) = f5_Pa_statement_268 (ab5 τ a0)) → w_Pa_statement_268 C (zn κ) Q X  l0 τ := by
    rintro _ τ268 W268 T268_0 ⟨⟨rfl, j268⟩, hE⟩
    unfold w_Pa_statement_268
    intro T1
    refine Pa_pass_q5 W268 T1  ?_ (fun κ_2 q3 => ?_) (fun cls9 κ9 q9 => hx _ _ ?_)
    · exact ⟨j268.2.1, j268.2.2.1, by decide⟩  -- p1
    rotate_left
    obtain ⟨q9, z9⟩ := q9
    · refine and_5 ?_ (fun o9 => rb_x5 hE z9)  -- x2
      exact paX5_tr j268.1 q9
    obtain ⟨q3, z9⟩ := q3
    replace hE := rb_i5 hE z9
    have S4 := paS_T Ta0 j268 W268 q3
    intro W5
    intro M6
    refine h _ ?_
    · refine and_5 ?_ (fun o9 => hE)  -- q3
      exact S4
  have hj233 : ∀ (l0 : Nat) (l1 : Int32) (τ : zS), zW C (zn κ) τ → zT τ l0 = 10 → ((a0 = l0 ∧ a1 = l1 ∧ paS κ τ a0 ∧ 2 ≤ psi τ a0) ∧ f5_Pa_statement a1 (ab5 κ a0) = f5_Pa_statement_233 l1 (ab5 τ a0)) → w_Pa_statement_233 C (zn κ) Q X  l0 l1 τ := by
    rintro _ _ τ233 W233 T233_0 ⟨⟨rfl, rfl, j233⟩, hE⟩
    unfold w_Pa_statement_233
    intro T7
    refine Co_column_q5 W233 T7  ?_ (fun r8 q10 => ?_)
    · exact ⟨j233.1.2.1.2.1, by decide, by decide⟩  -- p4
    obtain ⟨q10, z9⟩ := q10
    replace hE := rb_p5 hE (z9 a0 (by first | exact Ta0 | exact paS_t j233.1 Ta0 | assumption) (by first | rfl | assumption))
    intro W11
    intro M12
    refine ⟨fun c13 => ?_, fun c13 => ?_⟩
    · skip
      replace hE := rb_f5 hE c13
      intro T14
      refine Co_column_q5 W11 T14  ?_ (fun r15 q17 => ?_)
      · exact ⟨j233.1.2.1.2.1, by decide, by decide⟩  -- p5
      obtain ⟨q17, z9⟩ := q17
      replace hE := rb_p5 hE (z9 a0 (by first | exact Ta0 | exact paS_t j233.1 Ta0 | assumption) (by first | rfl | assumption))
      intro W18
      intro M19
      intro T20
      refine Pa_finish_q5 W18 T20  ?_ (fun κ_21 q22 => ?_) (fun cls9 κ9 q9 => hx _ _ ?_)
      · exact ⟨j233.1.2, j233.2⟩  -- p6
      rotate_left
      obtain ⟨q9, z9⟩ := q9
      · refine and_5 ?_ (fun o9 => rb_x5 hE z9)  -- x7
        exact paX5_tr j233.1.1 q9
      obtain ⟨q22, z9⟩ := q22
      replace hE := rb_i5 hE z9
      have S23 := (⟨j233.1.1.tr q22.1, q22.2⟩ : paS κ κ_21 a0)
      intro W24
      intro M25
      refine hj268 _ _ W24 ?_ ?_
      · exact paS_t S23 Ta0  -- t8
      · refine and_5 ?_ (fun o9 => hE)  -- k9
        exact ⟨rfl, S23⟩
    · skip
      replace hE := rb_t5 hE c13
      intro T26
      refine Pa_spread_q5 W11 T26  ?_ (fun κ_27 q28 => ?_) (fun cls9 κ9 q9 => hx _ _ ?_)
      · exact j233.1.2  -- p10
      rotate_left
      obtain ⟨q9, z9⟩ := q9
      · refine and_5 ?_ (fun o9 => rb_x5 hE z9)  -- x11
        exact paX5_tr j233.1.1 q9
      obtain ⟨q28, z9⟩ := q28
      replace hE := rb_i5 hE z9
      have S29 := (⟨j233.1.1.tr q28.1, q28.2⟩ : paS κ κ_27 a0)
      intro W30
      intro M31
      refine hj268 _ _ W30 ?_ ?_
      · exact paS_t S29 Ta0  -- t12
      · refine and_5 ?_ (fun o9 => hE)  -- k13
        exact ⟨rfl, S29⟩
  have hj223 : ∀ (l0 : Nat) (l1 : Int32) (τ : zS), zW C (zn κ) τ → zT τ l0 = 10 → ((a0 = l0 ∧ a1 = l1 ∧ paS κ τ a0 ∧ 2 ≤ psi τ a0) ∧ f5_Pa_statement a1 (ab5 κ a0) = f5_Pa_statement_223 l1 (ab5 τ a0)) → w_Pa_statement_223 C (zn κ) Q X  l0 l1 τ := by
    rintro _ _ τ223 W223 T223_0 ⟨⟨rfl, rfl, j223⟩, hE⟩
    unfold w_Pa_statement_223
    intro T32
    refine Co_setColumn_q5 W223 T32  ?_ (fun κ_33 q34 => ?_)
    · exact ⟨j223.1.2.1.2.1, by decide, by decide⟩  -- p14
    obtain ⟨q34, z9⟩ := q34
    replace hE := rb_i5 hE (z9 a0 (by first | exact Ta0 | exact paS_t j223.1 Ta0 | assumption) (by first | rfl | assumption))
    have S35 := paS_N j223.1 (paN_k W223 (paS_t j223.1 Ta0) j223.1.2.1 q34)
    intro W36
    intro M37
    refine hj233 _ _ _ W36 ?_ ?_
    · exact paS_t S35 Ta0  -- t15
    · refine and_5 ?_ (fun o9 => hE)  -- k16
      have P := psi_N (paN_k W223 (paS_t j223.1 Ta0) j223.1.2.1 q34)
      exact ⟨rfl, rfl, S35, by rw [P]; exact j223.2⟩
  have hj191 : ∀ (l0 : Nat) (l1 : Int32) (l3 : Int32) (s0 : Int32) (τ : zS), zW C (zn κ) τ → zT τ l0 = 10 → ((a0 = l0 ∧ a1 = l1 ∧ paS κ τ a0 ∧ 2 ≤ psi τ a0) ∧ f5_Pa_statement a1 (ab5 κ a0) = f5_Pa_statement_191 l1 l3 s0 (ab5 τ a0)) → w_Pa_statement_191 C (zn κ) Q X  l0 l1 l3 s0 τ := by
    rintro _ _ y191_3 y191_s0 τ191 W191 T191_0 ⟨⟨rfl, rfl, j191⟩, hE⟩
    unfold w_Pa_statement_191
    intro T38
    refine Co_setColumn_q5 W191 T38  ?_ (fun κ_39 q40 => ?_)
    · exact ⟨j191.1.2.1.2.1, by decide, by decide⟩  -- p17
    obtain ⟨q40, z9⟩ := q40
    replace hE := rb_i5 hE (z9 a0 (by first | exact Ta0 | exact paS_t j191.1 Ta0 | assumption) (by first | rfl | assumption))
    have S41 := paS_N j191.1 (paN_k W191 (paS_t j191.1 Ta0) j191.1.2.1 q40)
    intro W42
    intro M43
    have P := psi_N (paN_k W191 (paS_t j191.1 Ta0) j191.1.2.1 q40)
    refine ⟨fun c44 => ?_, fun c44 => ?_⟩
    · skip
      replace hE := rb_f5 hE c44
      refine hj223 _ _ _ W42 ?_ ?_
      · exact paS_t S41 Ta0  -- t18
      · refine and_5 ?_ (fun o9 => hE)  -- k19
        exact ⟨rfl, rfl, S41, by rw [P]; exact j191.2⟩
    · skip
      replace hE := rb_t5 hE c44
      refine ⟨fun c45 => ?_, fun c45 => ?_⟩
      · skip
        replace hE := rb_t5 hE c45
        refine hj233 _ _ _ W42 ?_ ?_
        · exact paS_t S41 Ta0  -- t20
        · refine and_5 ?_ (fun o9 => hE)  -- k21
          exact ⟨rfl, rfl, S41, by rw [P]; exact j191.2⟩
      · skip
        replace hE := rb_f5 hE c45
        refine ⟨fun c46 => ?_, fun c46 => ?_⟩
        · skip
          replace hE := rb_f5 hE c46
          refine hj233 _ _ _ W42 ?_ ?_
          · exact paS_t S41 Ta0  -- t22
          · refine and_5 ?_ (fun o9 => hE)  -- k23
            exact ⟨rfl, rfl, S41, by rw [P]; exact j191.2⟩
        · skip
          replace hE := rb_t5 hE c46
          refine hj223 _ _ _ W42 ?_ ?_
          · exact paS_t S41 Ta0  -- t24
          · refine and_5 ?_ (fun o9 => hE)  -- k25
            exact ⟨rfl, rfl, S41, by rw [P]; exact j191.2⟩
  have hj177 : ∀ (l0 : Nat) (l1 : Int32) (l2 : Int32) (s0 : Int32) (τ : zS), zW C (zn κ) τ → zT τ l0 = 10 → ((a0 = l0 ∧ a1 = l1 ∧ paS κ τ a0 ∧ 2 ≤ psi τ a0) ∧ f5_Pa_statement a1 (ab5 κ a0) = f5_Pa_statement_177 l1 l2 s0 (ab5 τ a0)) → w_Pa_statement_177 C (zn κ) Q X  l0 l1 l2 s0 τ := by
    rintro _ _ y177_2 y177_s0 τ177 W177 T177_0 ⟨⟨rfl, rfl, j177⟩, hE⟩
    unfold w_Pa_statement_177
    refine ⟨fun c47 => ?_, fun c47 => ?_⟩
    · skip
      replace hE := rb_t5 hE c47
      intro T48
      refine Pa_behindPlace_q5 W177 T48  ?_ (fun r49 κ_50 q51 => ?_) (fun cls9 κ9 q9 => hx _ _ ?_)
      · exact j177.1.2  -- p26
      rotate_left
      obtain ⟨q9, z9⟩ := q9
      · refine and_5 ?_ (fun o9 => rb_x5 hE z9)  -- x27
        exact paX5_tr j177.1.1 q9
      obtain ⟨q51, z9⟩ := q51
      replace hE := rb_i5 hE z9
      have S52 := (⟨j177.1.1.tr q51.1.1, q51.1.2⟩ : paS κ κ_50 a0)
      intro W53
      intro M54
      refine hj191 _ _ _ _ _ W53 ?_ ?_
      · exact paS_t S52 Ta0  -- t28
      · refine and_5 ?_ (fun o9 => hE)  -- k29
        exact ⟨rfl, rfl, S52, q51.2⟩
    · skip
      replace hE := rb_f5 hE c47
      refine hj191 _ _ _ _ _ W177 ?_ ?_
      · exact paS_t j177.1 Ta0  -- t30
      · refine and_5 ?_ (fun o9 => hE)  -- k31
        exact ⟨rfl, rfl, j177.1, j177.2⟩
  have hj151 : ∀ (l0 : Nat) (l1 : Int32) (l2 : Int32) (τ : zS), zW C (zn κ) τ → zT τ l0 = 10 → ((a0 = l0 ∧ a1 = l1 ∧ paS κ τ a0 ∧ 2 ≤ psi τ a0) ∧ f5_Pa_statement a1 (ab5 κ a0) = f5_Pa_statement_151 l1 l2 (ab5 τ a0)) → w_Pa_statement_151 C (zn κ) Q X  l0 l1 l2 τ := by
    rintro _ _ y151_2 τ151 W151 T151_0 ⟨⟨rfl, rfl, j151⟩, hE⟩
    unfold w_Pa_statement_151
    refine ⟨fun c55 => ?_, fun c55 => ?_⟩
    · skip
      replace hE := rb_f5 hE c55
      refine hj177 _ _ _ _ _ W151 ?_ ?_
      · exact paS_t j151.1 Ta0  -- t32
      · refine and_5 ?_ (fun o9 => hE)  -- k33
        exact ⟨rfl, rfl, j151.1, j151.2⟩
    · skip
      replace hE := rb_t5 hE c55
      intro T56
      refine Co_column_q5 W151 T56  ?_ (fun r57 q59 => ?_)
      · exact ⟨j151.1.2.1.2.1, by decide, by decide⟩  -- p34
      obtain ⟨q59, z9⟩ := q59
      replace hE := rb_p5 hE (z9 a0 (by first | exact Ta0 | exact paS_t j151.1 Ta0 | assumption) (by first | rfl | assumption))
      intro W60
      intro M61
      refine ⟨fun c62 => ?_, fun c62 => ?_⟩
      · skip
        replace hE := rb_f5 hE c62
        refine hj177 _ _ _ _ _ W60 ?_ ?_
        · exact paS_t j151.1 Ta0  -- t35
        · refine and_5 ?_ (fun o9 => hE)  -- k36
          exact ⟨rfl, rfl, j151.1, j151.2⟩
      · skip
        replace hE := rb_t5 hE c62
        refine hj177 _ _ _ _ _ W60 ?_ ?_
        · exact paS_t j151.1 Ta0  -- t37
        · refine and_5 ?_ (fun o9 => hE)  -- k38
          exact ⟨rfl, rfl, j151.1, j151.2⟩
  have hj121 : ∀ (l0 : Nat) (l1 : Int32) (l2 : Int32) (l3 : Int32) (s0 : Nat) (s1 : Int32) (s2 : Int32) (τ : zS), zW C (zn κ) τ → zT τ l0 = 10 → zT τ s0 = 10 → ((a0 = l0 ∧ a1 = l1 ∧ paS κ τ a0 ∧ 2 ≤ psi τ a0 ∧ s0 = a0) ∧ f5_Pa_statement a1 (ab5 κ a0) = f5_Pa_statement_121 l1 l2 l3 s1 s2 (ab5 τ a0)) → w_Pa_statement_121 C (zn κ) Q X  l0 l1 l2 l3 s0 s1 s2 τ := by
    rintro _ _ y121_2 y121_3 y121_s0 y121_s1 y121_s2 τ121 W121 T121_0 T121_1 ⟨⟨rfl, rfl, j121⟩, hE⟩
    unfold w_Pa_statement_121
    refine ⟨fun c63 => ?_, fun c63 => ?_⟩
    · skip
      replace hE := rb_t5 hE c63
      intro T64
      intro T65
      refine Ta_findName_q5 W121 T64 T65  ?_ (fun r66 q68 => ?_)
      · exact ⟨j121.1.2.1.1.1, j121.1.2.1.1.2.1⟩  -- p39
      obtain ⟨q68, z9⟩ := q68
      replace hE := rb_p5 hE z9
      intro W69
      intro M70
      intro T71
      refine Pa_setPlace_q5 W69 T71  ?_ (fun κ_72 q73 => ?_)
      · rw [j121.2.2]; exact j121.1.2.1  -- p40
      obtain ⟨q73, z9⟩ := q73
      rw [j121.2.2] at z9
      replace hE := rb_i5 hE z9
      rw [j121.2.2] at q73
      have S74 := paS_N j121.1 q73
      intro W75
      intro M76
      refine hj151 _ _ _ _ W75 ?_ ?_
      · exact paS_t S74 Ta0  -- t41
      · refine and_5 ?_ (fun o9 => hE)  -- k42
        exact ⟨rfl, rfl, S74, by rw [psi_N q73]; exact j121.2.1⟩
    · skip
      replace hE := rb_f5 hE c63
      intro T77
      refine Pa_setPlace_q5 W121 T77  ?_ (fun κ_78 q79 => ?_)
      · rw [j121.2.2]; exact j121.1.2.1  -- p43
      obtain ⟨q79, z9⟩ := q79
      rw [j121.2.2] at z9
      replace hE := rb_i5 hE z9
      rw [j121.2.2] at q79
      have S80 := paS_N j121.1 q79
      intro W81
      intro M82
      refine hj151 _ _ _ _ W81 ?_ ?_
      · exact paS_t S80 Ta0  -- t44
      · refine and_5 ?_ (fun o9 => hE)  -- k45
        exact ⟨rfl, rfl, S80, by rw [psi_N q79]; exact j121.2.1⟩
  have hj104 : ∀ (l0 : Nat) (l1 : Int32) (l2 : Int32) (τ : zS), zW C (zn κ) τ → zT τ l0 = 10 → ((a0 = l0 ∧ a1 = l1 ∧ paS κ τ a0 ∧ 2 ≤ psi τ a0) ∧ f5_Pa_statement a1 (ab5 κ a0) = f5_Pa_statement_104 l1 l2 (ab5 τ a0)) → w_Pa_statement_104 C (zn κ) Q X  l0 l1 l2 τ := by
    rintro _ _ y104_2 τ104 W104 T104_0 ⟨⟨rfl, rfl, j104⟩, hE⟩
    unfold w_Pa_statement_104
    intro T83
    refine Pa_findVariable_q5 W104 T83  ?_ (fun r84 q86 => ?_) (fun cls9 κ9 q9 => hx _ _ ?_)
    · exact j104.1.2.1  -- p46
    rotate_left
    obtain ⟨q9, z9⟩ := q9
    · refine and_5 ?_ (fun o9 => rb_x5 hE z9)  -- x47
      exact paX5_tr j104.1.1 q9
    obtain ⟨q86, z9⟩ := q86
    replace hE := rb_i5 hE z9
    intro W87
    intro M88
    refine ⟨fun c89 => ?_, fun c89 => ?_⟩
    · skip
      replace hE := rb_t5 hE c89
      refine hj121 _ _ _ _ _ _ _ _ W87 ?_ ?_ ?_
      · exact paS_t j104.1 Ta0  -- t48
      · exact paS_t j104.1 Ta0  -- t49
      · refine and_5 ?_ (fun o9 => hE)  -- k50
        exact ⟨rfl, rfl, j104.1, j104.2, rfl⟩
    · skip
      replace hE := rb_f5 hE c89
      refine hj121 _ _ _ _ _ _ _ _ W87 ?_ ?_ ?_
      · exact paS_t j104.1 Ta0  -- t51
      · exact paS_t j104.1 Ta0  -- t52
      · refine and_5 ?_ (fun o9 => hE)  -- k53
        exact ⟨rfl, rfl, j104.1, j104.2, rfl⟩
  have hE : f5_Pa_statement a1 (ab5 κ a0) = f5_Pa_statement a1 (ab5 κ a0) := rfl
  refine ⟨fun c90 => ?_, fun c90 => ?_⟩
  · skip
    replace hE := rb_f5 hE c90
    refine ⟨fun c91 => ?_, fun c91 => ?_⟩
    · skip
      replace hE := rb_t5 hE c91
      intro x92 hx92
      replace hE := rb_p5 hE hx92
      intro T93
      refine Pa_take_q5 W T93  ?_ (fun κ_94 q95 => ?_)
      · exact ⟨hp.1.1, paK_t hp.1.2.1 c91 (by decide)⟩  -- p54
      obtain ⟨q95, z9⟩ := q95
      replace hE := rb_i5 hE z9
      have S96 := paS_T Ta0 S0 W q95
      intro W97
      intro M98
      refine ⟨fun c99 => ?_, fun c99 => ?_⟩
      · skip
        replace hE := rb_f5 hE c99
        refine ⟨fun c100 => ?_, fun c100 => ?_⟩
        · skip
          replace hE := rb_t5 hE c100
          refine hj104 _ _ _ _ W97 ?_ ?_
          · exact paS_t S96 Ta0  -- t55
          · refine and_5 ?_ (fun o9 => hE)  -- k56
            exact ⟨rfl, rfl, S96, psi2 Ta0 S0 W q95⟩
        · skip
          replace hE := rb_f5 hE c100
          refine ⟨fun c101 => ?_, fun c101 => ?_⟩
          · skip
            replace hE := rb_f5 hE c101
            refine hj151 _ _ _ _ W97 ?_ ?_
            · exact paS_t S96 Ta0  -- t57
            · refine and_5 ?_ (fun o9 => hE)  -- k58
              exact ⟨rfl, rfl, S96, psi2 Ta0 S0 W q95⟩
          · skip
            replace hE := rb_t5 hE c101
            refine hj104 _ _ _ _ W97 ?_ ?_
            · exact paS_t S96 Ta0  -- t59
            · refine and_5 ?_ (fun o9 => hE)  -- k60
              exact ⟨rfl, rfl, S96, psi2 Ta0 S0 W q95⟩
      · skip
        replace hE := rb_t5 hE c99
        intro T102
        refine Pa_findArray_q5 W97 T102  ?_ (fun r103 q105 => ?_) (fun cls9 κ9 q9 => hx _ _ ?_)
        · exact S96.2.1  -- p61
        rotate_left
        obtain ⟨q9, z9⟩ := q9
        · refine and_5 ?_ (fun o9 => rb_x5 hE z9)  -- x62
          exact paX5_tr S96.1 q9
        obtain ⟨q105, z9⟩ := q105
        replace hE := rb_i5 hE z9
        intro W106
        intro M107
        intro T108
        refine Pa_setPlace_q5 W106 T108  ?_ (fun κ_109 q110 => ?_)
        · exact S96.2.1  -- p63
        obtain ⟨q110, z9⟩ := q110
        replace hE := rb_i5 hE z9
        have S111 := paS_N S96 q110
        intro W112
        intro M113
        intro T114
        refine Pa_openSign_q5 W112 T114  ?_ (fun κ_115 q116 => ?_) (fun cls9 κ9 q9 => hx _ _ ?_)
        · exact ⟨S111.2.1, S111.2.2.1, by decide⟩  -- p64
        rotate_left
        obtain ⟨q9, z9⟩ := q9
        · refine and_5 ?_ (fun o9 => rb_x5 hE z9)  -- x65
          exact paX5_tr S111.1 q9
        obtain ⟨q116, z9⟩ := q116
        replace hE := rb_i5 hE z9
        have S117 := paS_T Ta0 S111 W112 q116
        intro W118
        intro M119
        intro T120
        refine Pa_expression_q5 W118 T120  ?_ (fun κ_121 q122 => ?_) (fun cls9 κ9 q9 => hx _ _ ?_)
        · exact ⟨S117.2.1, S117.2.2.1, S117.2.2.2, Or.inl rfl⟩  -- p66
        rotate_left
        obtain ⟨q9, z9⟩ := q9
        · refine and_5 ?_ (fun o9 => rb_x5 hE z9)  -- x67
          exact paX5_tr S117.1 q9
        obtain ⟨q122, z9⟩ := q122
        replace hE := rb_i5 hE z9
        have S123 := (⟨S117.1.tr q122.1, q122.2⟩ : paS κ κ_121 a0)
        intro W124
        intro M125
        intro T126
        refine Pa_closeSign_q5 W124 T126  ?_ (fun κ_127 q128 => ?_) (fun cls9 κ9 q9 => hx _ _ ?_)
        · exact ⟨S123.2.1, S123.2.2.1, by decide⟩  -- p68
        rotate_left
        obtain ⟨q9, z9⟩ := q9
        · refine and_5 ?_ (fun o9 => rb_x5 hE z9)  -- x69
          exact paX5_tr S123.1 q9
        obtain ⟨q128, z9⟩ := q128
        replace hE := rb_i5 hE z9
        have S129 := paS_T Ta0 S123 W124 q128
        intro W130
        intro M131
        refine hj151 _ _ _ _ W130 ?_ ?_
        · exact paS_t S129 Ta0  -- t70
        · refine and_5 ?_ (fun o9 => hE)  -- k71
          exact ⟨rfl, rfl, S129, psi2 Ta0 S123 W124 q128⟩
    · skip
      replace hE := rb_f5 hE c91
      intro T132
      refine Pa_wordStatement_q5 W T132  ?_ (fun κ_133 q134 => ?_) (fun cls9 κ9 q9 => hx _ _ ?_)
      · exact hp  -- p72
      rotate_left
      obtain ⟨q9, z9⟩ := q9
      · refine and_5 ?_ (fun o9 => rb_x5 hE z9)  -- x73
        exact paX5_tr S0.1 q9
      obtain ⟨q134, z9⟩ := q134
      replace hE := rb_i5 hE z9
      intro W135
      intro M136
      refine h _ ?_
      · refine and_5 ?_ (fun o9 => hE)  -- q74
        exact q134
  · skip
    replace hE := rb_t5 hE c90
    intro T137
    refine Pa_localStatement_q5 W T137  ?_ (fun κ_138 q139 => ?_) (fun cls9 κ9 q9 => hx _ _ ?_)
    · exact ⟨hp.1, c90⟩  -- p75
    rotate_left
    obtain ⟨q9, z9⟩ := q9
    · refine and_5 ?_ (fun o9 => rb_x5 hE z9)  -- x76
      exact paX5_tr S0.1 q9
    obtain ⟨q139, z9⟩ := q139
    replace hE := rb_i5 hE z9
    intro W140
    intro M141
    refine h _ ?_
    · refine and_5 ?_ (fun o9 => hE)  -- q77
      exact q139
