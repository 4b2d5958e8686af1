set_option maxHeartbeats 1600000
/-! the parser's leaves -/
theorem Pa_refuse_q5o {C : zC} {n0 : Nat} {a0 : Nat} {a1 : Int32} {a2 : Int32} {κ : zS} {Q : zS → Prop} {X : zXp} (W : zW C n0 κ) (Ta0 : zT κ a0 = 10)  (hp : paI κ a0) (h : ∀ (κ' : zS), (False) → Q κ') (hx : ∀ (cls : String) (κ' : zS), ((paX κ cls κ' a0) ∧ rv5 a1 a2 (ab5 κ a0) = (zI κ' paFaultCode a0, zI κ' paFaultPlace a0)) → X cls κ') : zRun C 8 mPa_refuse [.ref a0, .int a1, .int a2] κ (oV Q X) := by
  refine Pa_refuse_run W Ta0 ?_
  replace W := W.lo (Nat.le_trans W.1.2.1 W.1.2.2) (Nat.le_refl (zn κ))
  unfold w_Pa_refuse_0
  have hj66 : ∀ (l0 : Nat) (s0 : Nat) (τ : zS), zW C (zn κ) τ → zT τ l0 = 10 → zT τ s0 = 10 → ((a0 = l0 ∧ paO κ τ a0 ∧ s0 = a0) ∧ rv5 a1 a2 (ab5 κ a0) = (zI τ paFaultCode a0, zI τ taLength (zR τ paTape a0))) → w_Pa_refuse_66 C (zn κ) Q X  l0 s0 τ := by
    rintro _ y66_s0 τ66 W66 T66_0 T66_1 ⟨⟨rfl, j66⟩, hE⟩
    unfold w_Pa_refuse_66
    intro κ_1 hκ_1
    intro W2
    intro κ_3 hκ_3
    refine hx _ _ ?_
    · refine and_5 ?_ (fun o9 => ?_)  -- x1
      · rw [j66.2] at hκ_1
        exact paX_o W Ta0 hp (j66.1.tr (paO_ui hκ_1 (by decide))) hκ_3
      · have q : κ_1 = ui τ66 paFaultPlace a0 (zI τ66 taLength (zR τ66 paTape a0)) := by rw [hκ_1, j66.2]
        rw [hκ_3, q, hE]
        exact Prod.ext rfl (if_pos ⟨rfl, rfl⟩).symm
  have hj35 : ∀ (l0 : Nat) (l3 : Int32) (s0 : Nat) (s1 : Int32) (τ : zS), zW C (zn κ) τ → zT τ l0 = 10 → zT τ s0 = 10 → ((κ = τ ∧ a0 = l0 ∧ s0 = a0) ∧ rv5 a1 a2 (ab5 κ a0) = (s1, pl5 l3 (ab5 κ a0))) → w_Pa_refuse_35 C (zn κ) Q X  l0 l3 s0 s1 τ := by
    rintro _ y35_3 y35_s0 y35_s1 _ W35 T35_0 T35_1 ⟨⟨rfl, rfl, j35⟩, hE⟩
    unfold w_Pa_refuse_35
    intro κ_4 hκ_4
    intro W5
    refine ⟨fun c6 => ?_, fun c6 => ?_⟩
    · skip
      refine hj66 _ _ _ W5 ?_ ?_ ?_
      · rw [j35] at hκ_4; exact (paO_ui hκ_4 (by decide)).1.t Ta0 (by decide)  -- t2
      · rw [j35] at hκ_4; exact (paO_ui hκ_4 (by decide)).1.t Ta0 (by decide)  -- t3
      · refine and_5 ?_ (fun o9 => ?_)  -- k4
        · rw [j35] at hκ_4; exact ⟨rfl, paO_ui hκ_4 (by decide), rfl⟩
        · rw [j35] at hκ_4
          have f1 : zI κ_4 paFaultCode a0 = y35_s1 := by rw [hκ_4]; exact if_pos ⟨rfl, rfl⟩
          have f2 : zI κ_4 taLength (zR κ_4 paTape a0) = zI κ taLength (zR κ paTape a0) := by rw [hκ_4]; rfl
          have q : pl5 y35_3 (ab5 κ a0) = zI κ taLength (zR κ paTape a0) := if_pos c6
          rw [f1, f2, hE, q]
    · skip
      refine ⟨fun c7 => ?_, fun c7 => ?_⟩
      · skip
        refine hj66 _ _ _ W5 ?_ ?_ ?_
        · rw [j35] at hκ_4; exact (paO_ui hκ_4 (by decide)).1.t Ta0 (by decide)  -- t5
        · rw [j35] at hκ_4; exact (paO_ui hκ_4 (by decide)).1.t Ta0 (by decide)  -- t6
        · refine and_5 ?_ (fun o9 => ?_)  -- k7
          · rw [j35] at hκ_4; exact ⟨rfl, paO_ui hκ_4 (by decide), rfl⟩
          · rw [j35] at hκ_4
            have f1 : zI κ_4 paFaultCode a0 = y35_s1 := by rw [hκ_4]; exact if_pos ⟨rfl, rfl⟩
            have f2 : zI κ_4 taLength (zR κ_4 paTape a0) = zI κ taLength (zR κ paTape a0) := by rw [hκ_4]; rfl
            have q : pl5 y35_3 (ab5 κ a0) = zI κ taLength (zR κ paTape a0) := (if_neg c6).trans (if_pos (by rw [hκ_4] at c7; exact c7))
            rw [f1, f2, hE, q]
      · skip
        refine ⟨?_, ?_⟩
        · rw [j35] at hκ_4
          have TT := hp.1.1.2
          have t1 : zI κ_4 taTotal (zR κ_4 paTape a0) = zI κ taTotal (zR κ paTape a0) := by rw [hκ_4]; rfl
          have r1 : zN κ_4 (zR κ_4 taPlaces (zR κ_4 paTape a0)) = zN κ (zR κ taPlaces (zR κ paTape a0)) := by rw [hκ_4]; rfl
          rw [lti, t0i] at c6
          rw [lei, t1] at c7
          rw [inb_iff, r1]
          omega
        intro κ_8 hκ_8
        intro W9
        intro κ_10 hκ_10
        refine hx _ _ ?_
        · refine and_5 ?_ (fun o9 => ?_)  -- x9
          · rw [j35] at hκ_4
            exact paX_o W Ta0 hp ((paO_ui hκ_4 (by decide)).tr (paO_ui hκ_8 (by decide))) hκ_10
          · rw [j35] at hκ_4
            have f1 : zI κ_10 paFaultCode a0 = y35_s1 := by
              rw [hκ_10, hκ_8]
              show zI κ_4 paFaultCode a0 = _
              rw [hκ_4]
              exact if_pos ⟨rfl, rfl⟩
            have f3 : zA κ_4 (zR κ_4 taPlaces (zR κ_4 paTape a0)) = zA κ (zR κ taPlaces (zR κ paTape a0)) := by rw [hκ_4]; rfl
            have f2 : zI κ_10 paFaultPlace a0 = zA κ (zR κ taPlaces (zR κ paTape a0)) y35_3.toNatClampNeg := by
              rw [← f3, hκ_10, hκ_8]
              exact if_pos ⟨rfl, rfl⟩
            have q : pl5 y35_3 (ab5 κ a0) = zA κ (zR κ taPlaces (zR κ paTape a0)) y35_3.toNatClampNeg := (if_neg c6).trans (if_neg (by rw [hκ_4] at c7; exact c7))
            rw [f1, f2, hE, q]
  have hj18 : ∀ (l0 : Nat) (l1 : Int32) (s0 : Int32) (τ : zS), zW C (zn κ) τ → zT τ l0 = 10 → ((κ = τ ∧ a0 = l0 ∧ a1 = l1 ∧ True) ∧ rv5 a1 a2 (ab5 κ a0) = (if zI κ paKind a0 = 143 then 1 else a1, pl5 s0 (ab5 κ a0))) → w_Pa_refuse_18 C (zn κ) Q X  l0 l1 s0 τ := by
    rintro _ _ y18_s0 _ W18 T18_0 ⟨⟨rfl, rfl, rfl, j18⟩, hE⟩
    unfold w_Pa_refuse_18
    refine ⟨fun c11 => ?_, fun c11 => ?_⟩
    · skip
      refine hj35 _ _ _ _ _ W18 ?_ ?_ ?_
      · exact Ta0  -- t10
      · exact Ta0  -- t11
      · refine and_5 ?_ (fun o9 => hE.trans (by rw [if_neg c11]))  -- k12
        exact ⟨rfl, rfl, rfl⟩
    · skip
      refine hj35 _ _ _ _ _ W18 ?_ ?_ ?_
      · exact Ta0  -- t13
      · exact Ta0  -- t14
      · refine and_5 ?_ (fun o9 => hE.trans (by rw [if_pos c11]))  -- k15
        exact ⟨rfl, rfl, rfl⟩
  refine ⟨fun c12 => ?_, fun c12 => ?_⟩
  · skip
    refine hj18 _ _ _ _ W ?_ ?_
    · exact Ta0  -- t16
    · refine and_5 ?_ (fun o9 => congrArg (fun z => (if zI κ paKind a0 = 143 then (1 : Int32) else a1, pl5 z (ab5 κ a0))) (if_neg c12))  -- k17
      exact ⟨rfl, rfl, rfl, trivial⟩
  · skip
    refine hj18 _ _ _ _ W ?_ ?_
    · exact Ta0  -- t18
    · refine and_5 ?_ (fun o9 => congrArg (fun z => (if zI κ paKind a0 = 143 then (1 : Int32) else a1, pl5 z (ab5 κ a0))) (if_pos c12))  -- k19
      exact ⟨rfl, rfl, rfl, trivial⟩

def f5_Pa_take  (e : E5) : R5 Unit := rdB5 (stI5 paAt (((e.1 paAt) + (1 : Int32))) e) (fun e1 _ => (if (e1.1 paAt) < (0 : Int32) then rdB5 (stI5 paKind ((142 : Int32)) e1) (fun e3 _ => .inl (e3, ())) else (if (e1.1 taTotal) ≤ (e1.1 paAt) then rdB5 (stI5 paKind ((142 : Int32)) e1) (fun e4 _ => .inl (e4, ())) else rdB5 (stI5 paKind ((e1.2.1 taKinds ((e1.1 paAt)).toNatClampNeg)) e1) (fun e5 _ => .inl (e5, ())))))

def f5_Pa_expect (a1 : Int32) (e : E5) : R5 Unit := (if (e.1 paKind) = a1 then .inl (e, ()) else .inr (rv5 ((2 : Int32)) ((e.1 paAt)) e))

def f5_Pa_pass (a1 : Int32) (e : E5) : R5 Unit := (if (e.1 paKind) = a1 then rdB5 (f5_Pa_take e) (fun e1 _ => .inl (e1, ())) else .inr (rv5 ((2 : Int32)) ((e.1 paAt)) e))

def f5_Pa_openSign_35  (e : E5) : R5 Unit := rdB5 (stI5 paOpen (((e.1 paOpen) + (1 : Int32))) e) (fun e1 _ => rdB5 (f5_Pa_take e1) (fun e2 _ => .inl (e2, ())))
def f5_Pa_openSign_17  (e : E5) : R5 Unit := (if (e.1 paOpen) < (40 : Int32) then (f5_Pa_openSign_35 e) else .inr (rv5 ((3 : Int32)) ((e.1 paAt)) e))
def f5_Pa_openSign (a1 : Int32) (e : E5) : R5 Unit := (if (e.1 paKind) = a1 then (f5_Pa_openSign_17 e) else .inr (rv5 ((2 : Int32)) ((e.1 paAt)) e))

def f5_Pa_closeSign_17  (e : E5) : R5 Unit := rdB5 (stI5 paOpen (((e.1 paOpen) - (1 : Int32))) e) (fun e1 _ => rdB5 (f5_Pa_take e1) (fun e2 _ => .inl (e2, ())))
def f5_Pa_closeSign (a1 : Int32) (e : E5) : R5 Unit := (if (e.1 paKind) = a1 then (f5_Pa_closeSign_17 e) else .inr (rv5 ((2 : Int32)) ((e.1 paAt)) e))

def f5_Pa_newName_143  (e : E5) : R5 Int32 := rdB5 (f5_Pa_take e) (fun e1 _ => .inl (e1, ((e1.1 paAt) - (1 : Int32))))
def f5_Pa_newName_128 (a1 a2 : Int32) (e : E5) : R5 Int32 := (if a1 < a2 then (f5_Pa_newName_143 e) else .inr (rv5 ((15 : Int32)) ((e.1 paAt)) e))
def f5_Pa_newName_113 (a1 a2 s0 : Int32) (e : E5) : R5 Int32 := (if s0 = (0 : Int32) then (f5_Pa_newName_128 (a1) (a2) e) else .inr (rv5 ((10 : Int32)) ((e.1 paAt)) e))
def f5_Pa_newName (a1 a2 : Int32) (e : E5) : R5 Int32 := rdB5 (f5_Pa_expect ((140 : Int32)) e) (fun e1 _ => pb5 (f5_Ta_findName (tq5 e1) (e1.2.1 paVarNames) (e1.2.2 paVarNames) (e1.1 coVars) (e1.1 paAt)) (fun r6 => (if r6 = (-1 : Int32) then pb5 (f5_Ta_findName (tq5 e1) (e1.2.1 paArrayNames) (e1.2.2 paArrayNames) (e1.1 coArrays) (e1.1 paAt)) (fun r11 => (if r11 = (-1 : Int32) then pb5 (f5_Ta_findName (tq5 e1) (e1.2.1 paFunctionNames) (e1.2.2 paFunctionNames) (e1.1 coFunctions) (e1.1 paAt)) (fun r16 => (if r16 = (-1 : Int32) then pb5 (f5_Ta_findName (tq5 e1) (e1.2.1 paOwnNames) (e1.2.2 paOwnNames) (e1.1 paOwns) (e1.1 paAt)) (fun r21 => (if r21 = (-1 : Int32) then (f5_Pa_newName_113 (a1) (a2) ((0 : Int32)) e1) else (f5_Pa_newName_113 (a1) (a2) ((1 : Int32)) e1))) else (f5_Pa_newName_113 (a1) (a2) ((1 : Int32)) e1))) else (f5_Pa_newName_113 (a1) (a2) ((1 : Int32)) e1))) else (f5_Pa_newName_113 (a1) (a2) ((1 : Int32)) e1))))

def f5_Pa_findArray (a1 : Int32) (e : E5) : R5 Int32 := pb5 (f5_Ta_findName (tq5 e) (e.2.1 paArrayNames) (e.2.2 paArrayNames) (e.1 coArrays) (a1)) (fun r2 => (if r2 = (-1 : Int32) then .inr (rv5 ((11 : Int32)) (a1) e) else .inl (e, r2)))

def f5_Pa_findVariable (a1 : Int32) (e : E5) : R5 Int32 := pb5 (f5_Ta_findName (tq5 e) (e.2.1 paOwnNames) (e.2.2 paOwnNames) (e.1 paOwns) (a1)) (fun r2 => (if r2 = (-1 : Int32) then pb5 (f5_Ta_findName (tq5 e) (e.2.1 paVarNames) (e.2.2 paVarNames) (e.1 coVars) (a1)) (fun r6 => (if r6 = (-1 : Int32) then .inr (rv5 ((11 : Int32)) (a1) e) else .inl (e, r2))) else .inl (e, r2)))

def f5_Pa_addOwn (a1 : Int32) (e : E5) : R5 Unit := (if (8 : Int32) ≤ (e.1 paOwns) then .inl (e, ()) else rdB5 (sa5 paOwnNames (((e.1 paOwns)).toNatClampNeg) (a1) e) (fun e1 _ => rdB5 (stI5 paOwns (((e1.1 paOwns) + (1 : Int32))) e1) (fun e3 _ => .inl (e3, ()))))

def f5_Pa_pushBlock (a1 a2 : Int32) (e : E5) : R5 Unit := (if (Int32.ofNat (e.2.2 paOwners)) ≤ (e.1 paBlocks) then .inl (e, ()) else rdB5 (sa5 paOwners (((e.1 paBlocks)).toNatClampNeg) (a1) e) (fun e1 _ => rdB5 (sa5 paLasts (((e1.1 paBlocks)).toNatClampNeg) ((-1 : Int32)) e1) (fun e3 _ => rdB5 (sa5 paElses (((e3.1 paBlocks)).toNatClampNeg) ((vp_nar .boolean a2)) e3) (fun e5 _ => rdB5 (stI5 paBlocks (((e5.1 paBlocks) + (1 : Int32))) e5) (fun e7 _ => .inl (e7, ()))))))

def f5_Pa_setPlace (a1 a2 a3 : Int32) (e : E5) : R5 Unit := rdB5 (f5_Co_setColumn (a1) ((1 : Int32)) (a2) e) (fun e1 _ => rdB5 (f5_Co_setColumn (a1) ((2 : Int32)) (a3) e1) (fun e5 _ => .inl (e5, ())))

/-- a throw whose fault's code isn't 0 -/
def paX5 (κ : zS) (cls : String) (κ' : zS) (p : Nat) : Prop := paX κ cls κ' p ∧ zI κ' paFaultCode p ≠ 0
theorem paX5_tr {κ τ κ' : zS} {cls : String} {p : Nat} (h : paF κ τ p) (g : paX5 τ cls κ' p) : paX5 κ cls κ' p := ⟨paX_tr h g.1, g.2⟩
theorem rv_n5 {f t : Int32} {e : E5} (h : f ≠ 0) : (rv5 f t e).1 ≠ 0 := by
  show (if e.1 paKind = 143 then (1 : Int32) else f) ≠ 0
  by_cases c : e.1 paKind = 143
  · rw [if_pos c]; decide
  · rw [if_neg c]; exact h
theorem Pa_refuse_q5 {C : zC} {n0 : Nat} {a0 : Nat} {a1 : Int32} {a2 : Int32} {κ : zS} {Q : zS → Prop} {X : zXp} (h0 : a1 ≠ 0) (W : zW C n0 κ) (Ta0 : zT κ a0 = 10)  (hp : paI κ a0) (h : ∀ (κ' : zS), (False) → Q κ') (hx : ∀ (cls : String) (κ' : zS), ((paX5 κ cls κ' a0) ∧ rv5 a1 a2 (ab5 κ a0) = (zI κ' paFaultCode a0, zI κ' paFaultPlace a0)) → X cls κ') : zRun C 8 mPa_refuse [.ref a0, .int a1, .int a2] κ (oV Q X) :=
  Pa_refuse_q5o W Ta0 hp h (fun cls κ' q => hx cls κ' ⟨⟨q.1, by
    have z : (rv5 a1 a2 (ab5 κ a0)).1 = zI κ' paFaultCode a0 := congrArg Prod.fst q.2
    rw [← z]
    exact rv_n5 h0⟩, q.2⟩)

theorem Pa_take_q5 {C : zC} {n0 : Nat} {a0 : Nat} {κ : zS} {Q : zS → Prop} (W : zW C n0 κ) (Ta0 : zT κ a0 = 10)  (hp : paI κ a0 ∧ -1 ≤ (zI κ paAt a0).toInt ∧ (zI κ paAt a0).toInt < (zI κ taTotal (zR κ paTape a0)).toInt) (h : ∀ (κ' : zS), ((paO κ κ' a0 ∧ paK κ' a0 ∧ (zI κ' paAt a0).toInt = (zI κ paAt a0).toInt + 1) ∧ f5_Pa_take (ab5 κ a0) = .inl (ab5 κ' a0, ())) → Q κ') : zRun C 0 mPa_take [.ref a0] κ (oV Q noX) := by
  refine Pa_take_run W Ta0 ?_
  replace W := W.lo (Nat.le_trans W.1.2.1 W.1.2.2) (Nat.le_refl (zn κ))
  unfold w_Pa_take_0
  obtain ⟨H, p0, p1⟩ := hp
  have TT := H.1.1.2
  have tb := H.1.2.2
  have hE : f5_Pa_take (ab5 κ a0) = f5_Pa_take (ab5 κ a0) := rfl
  intro κ_1 hκ_1
  replace hE := rb_i5 hE (ab_ui5 (p := a0) (f := paAt) hκ_1 (by decide) (by decide))
  intro W2
  have O1 : paO κ κ_1 a0 := paO_ui hκ_1 (by decide)
  have a1 : zI κ_1 paAt a0 = zI κ paAt a0 + 1 := by rw [hκ_1]; exact if_pos ⟨rfl, rfl⟩
  have e1 : (zI κ paAt a0 + 1).toInt = (zI κ paAt a0).toInt + 1 := by rw [add_i (by rw [t1i]; omega) (by rw [t1i]; omega), t1i]
  have t1 : zI κ_1 taTotal (zR κ_1 paTape a0) = zI κ taTotal (zR κ paTape a0) := by rw [hκ_1]; rfl
  refine ⟨fun c3 => ?_, fun c3 => ?_⟩
  · skip
    replace hE := rb_t5 hE c3
    intro κ_4 hκ_4
    replace hE := rb_i5 hE (ab_ui5 (p := a0) (f := paKind) hκ_4 (by decide) (by decide))
    intro W5
    refine h _ ?_
    · refine and_5 ?_ (fun o9 => hE)  -- q1
      exfalso
      rw [lti, t0i, a1, e1] at c3
      omega
  · skip
    replace hE := rb_f5 hE c3
    refine ⟨fun c6 => ?_, fun c6 => ?_⟩
    · skip
      replace hE := rb_t5 hE c6
      intro κ_7 hκ_7
      replace hE := rb_i5 hE (ab_ui5 (p := a0) (f := paKind) hκ_7 (by decide) (by decide))
      intro W8
      refine h _ ?_
      · refine and_5 ?_ (fun o9 => hE)  -- q2
        rw [lei, t1, a1, e1] at c6
        have ea : zI κ_7 paAt a0 = zI κ_1 paAt a0 := by rw [hκ_7]; rfl
        have et : zI κ_7 taTotal (zR κ_7 paTape a0) = zI κ_1 taTotal (zR κ_1 paTape a0) := by rw [hκ_7]; rfl
        have ek : zI κ_7 paKind a0 = 142 := by rw [hκ_7]; exact if_pos ⟨rfl, rfl⟩
        refine ⟨O1.tr (paO_ui hκ_7 (by decide)), ⟨?_, Or.inr ek⟩, by rw [ea, a1, e1]⟩
        rw [ea, et, a1, e1, t1]
        omega
    · skip
      replace hE := rb_f5 hE c6
      refine ⟨?_, ?_⟩
      · rw [lti, t0i, a1, e1] at c3
        rw [lei, t1, a1, e1] at c6
        have r1 : zN κ_1 (zR κ_1 taKinds (zR κ_1 paTape a0)) = zN κ (zR κ taKinds (zR κ paTape a0)) := by rw [hκ_1]; rfl
        rw [inb_iff, a1, e1, r1]
        omega
      intro κ_9 hκ_9
      replace hE := rb_i5 hE (ab_ui5 (p := a0) (f := paKind) hκ_9 (by decide) (by decide))
      intro W10
      refine h _ ?_
      · refine and_5 ?_ (fun o9 => hE)  -- q4
        rw [lei, t1, a1, e1] at c6
        have ea : zI κ_9 paAt a0 = zI κ_1 paAt a0 := by rw [hκ_9]; rfl
        have et : zI κ_9 taTotal (zR κ_9 paTape a0) = zI κ_1 taTotal (zR κ_1 paTape a0) := by rw [hκ_9]; rfl
        refine ⟨O1.tr (paO_ui hκ_9 (by decide)), ?_, by rw [ea, a1, e1]⟩
        unfold paK
        rw [ea, et, a1, e1, t1]
        exact ⟨⟨by omega, by omega⟩, Or.inl (by omega)⟩

theorem Pa_expect_q5 {C : zC} {n0 : Nat} {a0 : Nat} {a1 : Int32} {κ : zS} {Q : zS → Prop} {X : zXp} (W : zW C n0 κ) (Ta0 : zT κ a0 = 10)  (hp : paI κ a0) (h : ∀ (κ' : zS), ((κ = κ' ∧ zI κ paKind a0 = a1) ∧ f5_Pa_expect a1 (ab5 κ a0) = .inl (ab5 κ' a0, ())) → Q κ') (hx : ∀ (cls : String) (κ' : zS), ((paX5 κ cls κ' a0) ∧ f5_Pa_expect a1 (ab5 κ a0) = .inr (zI κ' paFaultCode a0, zI κ' paFaultPlace a0)) → X cls κ') : zRun C 9 mPa_expect [.ref a0, .int a1] κ (oV Q X) := by
  refine Pa_expect_run W Ta0 ?_
  replace W := W.lo (Nat.le_trans W.1.2.1 W.1.2.2) (Nat.le_refl (zn κ))
  unfold w_Pa_expect_0
  have hE : f5_Pa_expect a1 (ab5 κ a0) = f5_Pa_expect a1 (ab5 κ a0) := rfl
  refine ⟨fun c1 => ?_, fun c1 => ?_⟩
  · skip
    replace hE := rb_t5 hE c1
    refine h _ ?_
    · refine and_5 ?_ (fun o9 => hE)  -- q1
      exact ⟨rfl, c1⟩
  · skip
    replace hE := rb_f5 hE c1
    intro T2
    refine Pa_refuse_q5 (by decide) W T2  ?_ (fun κ_3 q4 => False.elim q4) (fun cls9 κ9 q9 => hx _ _ ?_)
    · exact hp  -- p2
    obtain ⟨q9, z9⟩ := q9
    · refine and_5 ?_ (fun o9 => rb_r5 hE z9)  -- x3
      exact q9

theorem Pa_pass_q5 {C : zC} {n0 : Nat} {a0 : Nat} {a1 : Int32} {κ : zS} {Q : zS → Prop} {X : zXp} (W : zW C n0 κ) (Ta0 : zT κ a0 = 10)  (hp : paI κ a0 ∧ paK κ a0 ∧ a1 ≠ 142) (h : ∀ (κ' : zS), ((paT κ κ' a0) ∧ f5_Pa_pass a1 (ab5 κ a0) = .inl (ab5 κ' a0, ())) → Q κ') (hx : ∀ (cls : String) (κ' : zS), ((paX5 κ cls κ' a0) ∧ f5_Pa_pass a1 (ab5 κ a0) = .inr (zI κ' paFaultCode a0, zI κ' paFaultPlace a0)) → X cls κ') : zRun C 9 mPa_pass [.ref a0, .int a1] κ (oV Q X) := by
  refine Pa_pass_run W Ta0 ?_
  replace W := W.lo (Nat.le_trans W.1.2.1 W.1.2.2) (Nat.le_refl (zn κ))
  unfold w_Pa_pass_0
  have hE : f5_Pa_pass a1 (ab5 κ a0) = f5_Pa_pass a1 (ab5 κ a0) := rfl
  refine ⟨fun c1 => ?_, fun c1 => ?_⟩
  · skip
    replace hE := rb_t5 hE c1
    intro T2
    refine Pa_take_q5 W T2  ?_ (fun κ_3 q4 => ?_)
    · exact ⟨hp.1, paK_t hp.2.1 c1 hp.2.2⟩  -- p1
    obtain ⟨q4, z9⟩ := q4
    replace hE := rb_i5 hE z9
    intro W5
    intro M6
    refine h _ ?_
    · refine and_5 ?_ (fun o9 => hE)  -- q2
      exact q4
  · skip
    replace hE := rb_f5 hE c1
    intro T7
    refine Pa_refuse_q5 (by decide) W T7  ?_ (fun κ_8 q9 => False.elim q9) (fun cls9 κ9 q9 => hx _ _ ?_)
    · exact hp.1  -- p3
    obtain ⟨q9, z9⟩ := q9
    · refine and_5 ?_ (fun o9 => rb_r5 hE z9)  -- x4
      exact q9

theorem Pa_openSign_q5 {C : zC} {n0 : Nat} {a0 : Nat} {a1 : Int32} {κ : zS} {Q : zS → Prop} {X : zXp} (W : zW C n0 κ) (Ta0 : zT κ a0 = 10)  (hp : paI κ a0 ∧ paK κ a0 ∧ a1 ≠ 142) (h : ∀ (κ' : zS), ((paT κ κ' a0) ∧ f5_Pa_openSign a1 (ab5 κ a0) = .inl (ab5 κ' a0, ())) → Q κ') (hx : ∀ (cls : String) (κ' : zS), ((paX5 κ cls κ' a0) ∧ f5_Pa_openSign a1 (ab5 κ a0) = .inr (zI κ' paFaultCode a0, zI κ' paFaultPlace a0)) → X cls κ') : zRun C 9 mPa_openSign [.ref a0, .int a1] κ (oV Q X) := by
  refine Pa_openSign_run W Ta0 ?_
  replace W := W.lo (Nat.le_trans W.1.2.1 W.1.2.2) (Nat.le_refl (zn κ))
  unfold w_Pa_openSign_0
  have hj35 : ∀ (l0 : Nat) (τ : zS), zW C (zn κ) τ → zT τ l0 = 10 → ((κ = τ ∧ a0 = l0 ∧ zI κ paKind a0 = a1) ∧ f5_Pa_openSign a1 (ab5 κ a0) = f5_Pa_openSign_35 (ab5 τ a0)) → w_Pa_openSign_35 C (zn κ) Q X  l0 τ := by
    rintro _ _ W35 T35_0 ⟨⟨rfl, rfl, j35⟩, hE⟩
    unfold w_Pa_openSign_35
    intro κ_1 hκ_1
    replace hE := rb_i5 hE (ab_ui5 (p := a0) (f := paOpen) hκ_1 (by decide) (by decide))
    intro W2
    intro T3
    refine Pa_take_q5 W2 T3  ?_ (fun κ_4 q5 => ?_)
    · exact pa_pre W35 Ta0 hp.1 hp.2.1 j35 hp.2.2 hκ_1  -- p1
    obtain ⟨q5, z9⟩ := q5
    replace hE := rb_i5 hE z9
    intro W6
    intro M7
    refine h _ ?_
    · refine and_5 ?_ (fun o9 => hE)  -- q2
      exact paT_o W35 Ta0 hκ_1 q5
  have hj17 : ∀ (l0 : Nat) (τ : zS), zW C (zn κ) τ → zT τ l0 = 10 → ((κ = τ ∧ a0 = l0 ∧ zI κ paKind a0 = a1) ∧ f5_Pa_openSign a1 (ab5 κ a0) = f5_Pa_openSign_17 (ab5 τ a0)) → w_Pa_openSign_17 C (zn κ) Q X  l0 τ := by
    rintro _ _ W17 T17_0 ⟨⟨rfl, rfl, j17⟩, hE⟩
    unfold w_Pa_openSign_17
    refine ⟨fun c8 => ?_, fun c8 => ?_⟩
    · skip
      replace hE := rb_t5 hE c8
      refine hj35 _ _ W17 ?_ ?_
      · exact Ta0  -- t3
      · refine and_5 ?_ (fun o9 => hE)  -- k4
        exact ⟨rfl, rfl, j17⟩
    · skip
      replace hE := rb_f5 hE c8
      intro T9
      refine Pa_refuse_q5 (by decide) W17 T9  ?_ (fun κ_10 q11 => False.elim q11) (fun cls9 κ9 q9 => hx _ _ ?_)
      · exact hp.1  -- p5
      obtain ⟨q9, z9⟩ := q9
      · refine and_5 ?_ (fun o9 => rb_r5 hE z9)  -- x6
        exact q9
  have hE : f5_Pa_openSign a1 (ab5 κ a0) = f5_Pa_openSign a1 (ab5 κ a0) := rfl
  refine ⟨fun c12 => ?_, fun c12 => ?_⟩
  · skip
    replace hE := rb_t5 hE c12
    refine hj17 _ _ W ?_ ?_
    · exact Ta0  -- t7
    · refine and_5 ?_ (fun o9 => hE)  -- k8
      exact ⟨rfl, rfl, c12⟩
  · skip
    replace hE := rb_f5 hE c12
    intro T13
    refine Pa_refuse_q5 (by decide) W T13  ?_ (fun κ_14 q15 => False.elim q15) (fun cls9 κ9 q9 => hx _ _ ?_)
    · exact hp.1  -- p9
    obtain ⟨q9, z9⟩ := q9
    · refine and_5 ?_ (fun o9 => rb_r5 hE z9)  -- x10
      exact q9

theorem Pa_closeSign_q5 {C : zC} {n0 : Nat} {a0 : Nat} {a1 : Int32} {κ : zS} {Q : zS → Prop} {X : zXp} (W : zW C n0 κ) (Ta0 : zT κ a0 = 10)  (hp : paI κ a0 ∧ paK κ a0 ∧ a1 ≠ 142) (h : ∀ (κ' : zS), ((paT κ κ' a0) ∧ f5_Pa_closeSign a1 (ab5 κ a0) = .inl (ab5 κ' a0, ())) → Q κ') (hx : ∀ (cls : String) (κ' : zS), ((paX5 κ cls κ' a0) ∧ f5_Pa_closeSign a1 (ab5 κ a0) = .inr (zI κ' paFaultCode a0, zI κ' paFaultPlace a0)) → X cls κ') : zRun C 9 mPa_closeSign [.ref a0, .int a1] κ (oV Q X) := by
  refine Pa_closeSign_run W Ta0 ?_
  replace W := W.lo (Nat.le_trans W.1.2.1 W.1.2.2) (Nat.le_refl (zn κ))
  unfold w_Pa_closeSign_0
  have hj17 : ∀ (l0 : Nat) (τ : zS), zW C (zn κ) τ → zT τ l0 = 10 → ((κ = τ ∧ a0 = l0 ∧ zI κ paKind a0 = a1) ∧ f5_Pa_closeSign a1 (ab5 κ a0) = f5_Pa_closeSign_17 (ab5 τ a0)) → w_Pa_closeSign_17 C (zn κ) Q X  l0 τ := by
    rintro _ _ W17 T17_0 ⟨⟨rfl, rfl, j17⟩, hE⟩
    unfold w_Pa_closeSign_17
    intro κ_1 hκ_1
    replace hE := rb_i5 hE (ab_ui5 (p := a0) (f := paOpen) hκ_1 (by decide) (by decide))
    intro W2
    intro T3
    refine Pa_take_q5 W2 T3  ?_ (fun κ_4 q5 => ?_)
    · exact pa_pre W17 Ta0 hp.1 hp.2.1 j17 hp.2.2 hκ_1  -- p1
    obtain ⟨q5, z9⟩ := q5
    replace hE := rb_i5 hE z9
    intro W6
    intro M7
    refine h _ ?_
    · refine and_5 ?_ (fun o9 => hE)  -- q2
      exact paT_o W17 Ta0 hκ_1 q5
  have hE : f5_Pa_closeSign a1 (ab5 κ a0) = f5_Pa_closeSign a1 (ab5 κ a0) := rfl
  refine ⟨fun c8 => ?_, fun c8 => ?_⟩
  · skip
    replace hE := rb_t5 hE c8
    refine hj17 _ _ W ?_ ?_
    · exact Ta0  -- t3
    · refine and_5 ?_ (fun o9 => hE)  -- k4
      exact ⟨rfl, rfl, c8⟩
  · skip
    replace hE := rb_f5 hE c8
    intro T9
    refine Pa_refuse_q5 (by decide) W T9  ?_ (fun κ_10 q11 => False.elim q11) (fun cls9 κ9 q9 => hx _ _ ?_)
    · exact hp.1  -- p5
    obtain ⟨q9, z9⟩ := q9
    · refine and_5 ?_ (fun o9 => rb_r5 hE z9)  -- x6
      exact q9

theorem Pa_newName_q5 {C : zC} {n0 : Nat} {a0 : Nat} {a1 : Int32} {a2 : Int32} {κ : zS} {Q : Int32 → zS → Prop} {X : zXp} (W : zW C n0 κ) (Ta0 : zT κ a0 = 10)  (hp : paI κ a0 ∧ paK κ a0) (h : ∀ (v : Int32) (κ' : zS), ((paT κ κ' a0 ∧ a1.toInt < a2.toInt) ∧ f5_Pa_newName a1 a2 (ab5 κ a0) = .inl (ab5 κ' a0, v)) → Q v κ') (hx : ∀ (cls : String) (κ' : zS), ((paX5 κ cls κ' a0) ∧ f5_Pa_newName a1 a2 (ab5 κ a0) = .inr (zI κ' paFaultCode a0, zI κ' paFaultPlace a0)) → X cls κ') : zRun C 10 mPa_newName [.ref a0, .int a1, .int a2] κ (oI Q X) := by
  refine Pa_newName_run W Ta0 ?_
  replace W := W.lo (Nat.le_trans W.1.2.1 W.1.2.2) (Nat.le_refl (zn κ))
  unfold w_Pa_newName_0
  have hj143 : ∀ (l0 : Nat) (τ : zS), zW C (zn κ) τ → zT τ l0 = 10 → ((κ = τ ∧ a0 = l0 ∧ zI κ paKind a0 = 140 ∧ a1.toInt < a2.toInt) ∧ f5_Pa_newName a1 a2 (ab5 κ a0) = f5_Pa_newName_143 (ab5 τ a0)) → w_Pa_newName_143 C (zn κ) Q X  l0 τ := by
    rintro _ _ W143 T143_0 ⟨⟨rfl, rfl, j143⟩, hE⟩
    unfold w_Pa_newName_143
    intro T1
    refine Pa_take_q5 W143 T1  ?_ (fun κ_2 q3 => ?_)
    · exact ⟨hp.1, paK_t hp.2 j143.1 (by decide)⟩  -- p1
    obtain ⟨q3, z9⟩ := q3
    replace hE := rb_i5 hE z9
    intro W4
    intro M5
    refine h _ _ ?_
    · refine and_5 ?_ (fun o9 => hE)  -- q2
      exact ⟨q3, j143.2⟩
  have hj128 : ∀ (l0 : Nat) (l1 : Int32) (l2 : Int32) (τ : zS), zW C (zn κ) τ → zT τ l0 = 10 → ((κ = τ ∧ a0 = l0 ∧ a1 = l1 ∧ a2 = l2 ∧ zI κ paKind a0 = 140) ∧ f5_Pa_newName a1 a2 (ab5 κ a0) = f5_Pa_newName_128 l1 l2 (ab5 τ a0)) → w_Pa_newName_128 C (zn κ) Q X  l0 l1 l2 τ := by
    rintro _ _ _ _ W128 T128_0 ⟨⟨rfl, rfl, rfl, rfl, j128⟩, hE⟩
    unfold w_Pa_newName_128
    refine ⟨fun c6 => ?_, fun c6 => ?_⟩
    · skip
      replace hE := rb_t5 hE c6
      refine hj143 _ _ W128 ?_ ?_
      · exact Ta0  -- t3
      · refine and_5 ?_ (fun o9 => hE)  -- k4
        exact ⟨rfl, rfl, j128, by rw [lti] at c6; exact c6⟩
    · skip
      replace hE := rb_f5 hE c6
      intro T7
      refine Pa_refuse_q5 (by decide) W128 T7  ?_ (fun κ_8 q9 => False.elim q9) (fun cls9 κ9 q9 => hx _ _ ?_)
      · exact hp.1  -- p5
      obtain ⟨q9, z9⟩ := q9
      · refine and_5 ?_ (fun o9 => rb_r5 hE z9)  -- x6
        exact q9
  have hj113 : ∀ (l0 : Nat) (l1 : Int32) (l2 : Int32) (s0 : Int32) (τ : zS), zW C (zn κ) τ → zT τ l0 = 10 → ((κ = τ ∧ a0 = l0 ∧ a1 = l1 ∧ a2 = l2 ∧ zI κ paKind a0 = 140) ∧ f5_Pa_newName a1 a2 (ab5 κ a0) = f5_Pa_newName_113 l1 l2 s0 (ab5 τ a0)) → w_Pa_newName_113 C (zn κ) Q X  l0 l1 l2 s0 τ := by
    rintro _ _ _ y113_s0 _ W113 T113_0 ⟨⟨rfl, rfl, rfl, rfl, j113⟩, hE⟩
    unfold w_Pa_newName_113
    refine ⟨fun c10 => ?_, fun c10 => ?_⟩
    · skip
      replace hE := rb_t5 hE c10
      refine hj128 _ _ _ _ W113 ?_ ?_
      · exact Ta0  -- t7
      · refine and_5 ?_ (fun o9 => hE)  -- k8
        exact ⟨rfl, rfl, rfl, rfl, j113⟩
    · skip
      replace hE := rb_f5 hE c10
      intro T11
      refine Pa_refuse_q5 (by decide) W113 T11  ?_ (fun κ_12 q13 => False.elim q13) (fun cls9 κ9 q9 => hx _ _ ?_)
      · exact hp.1  -- p9
      obtain ⟨q9, z9⟩ := q9
      · refine and_5 ?_ (fun o9 => rb_r5 hE z9)  -- x10
        exact q9
  have hE : f5_Pa_newName a1 a2 (ab5 κ a0) = f5_Pa_newName a1 a2 (ab5 κ a0) := rfl
  intro T14
  refine Pa_expect_q5 W T14  ?_ (fun κ_15 q16 => ?_) (fun cls9 κ9 q9 => hx _ _ ?_)
  · exact hp.1  -- p11
  rotate_left
  obtain ⟨q9, z9⟩ := q9
  · refine and_5 ?_ (fun o9 => rb_x5 hE z9)  -- x12
    exact q9
  obtain ⟨q16, z9⟩ := q16
  replace hE := rb_i5 hE z9
  obtain ⟨rfl, hk⟩ := q16
  intro W17
  intro M18
  intro T19
  intro T20
  refine Ta_findName_q5 W17 T19 T20  ?_ (fun r21 q23 => ?_)
  · exact ⟨hp.1.1.1, hp.1.1.2.1⟩  -- p13
  obtain ⟨q23, z9⟩ := q23
  replace hE := rb_p5 hE z9
  intro W24
  intro M25
  refine ⟨fun c26 => ?_, fun c26 => ?_⟩
  · skip
    replace hE := rb_f5 hE c26
    refine hj113 _ _ _ _ _ W24 ?_ ?_
    · exact Ta0  -- t14
    · refine and_5 ?_ (fun o9 => hE)  -- k15
      exact ⟨rfl, rfl, rfl, rfl, hk⟩
  · skip
    replace hE := rb_t5 hE c26
    intro T27
    intro T28
    refine Ta_findName_q5 W24 T27 T28  ?_ (fun r29 q31 => ?_)
    · exact ⟨hp.1.1.1, hp.1.1.2.1⟩  -- p16
    obtain ⟨q31, z9⟩ := q31
    replace hE := rb_p5 hE z9
    intro W32
    intro M33
    refine ⟨fun c34 => ?_, fun c34 => ?_⟩
    · skip
      replace hE := rb_f5 hE c34
      refine hj113 _ _ _ _ _ W32 ?_ ?_
      · exact Ta0  -- t17
      · refine and_5 ?_ (fun o9 => hE)  -- k18
        exact ⟨rfl, rfl, rfl, rfl, hk⟩
    · skip
      replace hE := rb_t5 hE c34
      intro T35
      intro T36
      refine Ta_findName_q5 W32 T35 T36  ?_ (fun r37 q39 => ?_)
      · exact ⟨hp.1.1.1, hp.1.1.2.1⟩  -- p19
      obtain ⟨q39, z9⟩ := q39
      replace hE := rb_p5 hE z9
      intro W40
      intro M41
      refine ⟨fun c42 => ?_, fun c42 => ?_⟩
      · skip
        replace hE := rb_f5 hE c42
        refine hj113 _ _ _ _ _ W40 ?_ ?_
        · exact Ta0  -- t20
        · refine and_5 ?_ (fun o9 => hE)  -- k21
          exact ⟨rfl, rfl, rfl, rfl, hk⟩
      · skip
        replace hE := rb_t5 hE c42
        intro T43
        intro T44
        refine Ta_findName_q5 W40 T43 T44  ?_ (fun r45 q47 => ?_)
        · exact ⟨hp.1.1.1, hp.1.1.2.1⟩  -- p22
        obtain ⟨q47, z9⟩ := q47
        replace hE := rb_p5 hE z9
        intro W48
        intro M49
        refine ⟨fun c50 => ?_, fun c50 => ?_⟩
        · skip
          replace hE := rb_t5 hE c50
          refine hj113 _ _ _ _ _ W48 ?_ ?_
          · exact Ta0  -- t23
          · refine and_5 ?_ (fun o9 => hE)  -- k24
            exact ⟨rfl, rfl, rfl, rfl, hk⟩
        · skip
          replace hE := rb_f5 hE c50
          refine hj113 _ _ _ _ _ W48 ?_ ?_
          · exact Ta0  -- t25
          · refine and_5 ?_ (fun o9 => hE)  -- k26
            exact ⟨rfl, rfl, rfl, rfl, hk⟩

theorem Pa_findArray_q5 {C : zC} {n0 : Nat} {a0 : Nat} {a1 : Int32} {κ : zS} {Q : Int32 → zS → Prop} {X : zXp} (W : zW C n0 κ) (Ta0 : zT κ a0 = 10)  (hp : paI κ a0) (h : ∀ (v : Int32), ((0 ≤ v.toInt ∧ v.toInt < 3) ∧ f5_Pa_findArray a1 (ab5 κ a0) = .inl (ab5 κ a0, v)) → Q v κ) (hx : ∀ (cls : String) (κ' : zS), ((paX5 κ cls κ' a0) ∧ f5_Pa_findArray a1 (ab5 κ a0) = .inr (zI κ' paFaultCode a0, zI κ' paFaultPlace a0)) → X cls κ') : zRun C 9 mPa_findArray [.ref a0, .int a1] κ (oI Q X) := by
  refine Pa_findArray_run W Ta0 ?_
  replace W := W.lo (Nat.le_trans W.1.2.1 W.1.2.2) (Nat.le_refl (zn κ))
  unfold w_Pa_findArray_0
  have hE : f5_Pa_findArray a1 (ab5 κ a0) = f5_Pa_findArray a1 (ab5 κ a0) := rfl
  intro T1
  intro T2
  refine Ta_findName_q5 W T1 T2  ?_ (fun r3 q5 => ?_)
  · exact ⟨hp.1.1, hp.1.2.1⟩  -- p1
  obtain ⟨q5, z9⟩ := q5
  replace hE := rb_p5 hE z9
  intro W6
  intro M7
  refine ⟨fun c8 => ?_, fun c8 => ?_⟩
  · skip
    replace hE := rb_f5 hE c8
    refine h _ ?_
    · refine and_5 ?_ (fun o9 => hE)  -- q2
      have L := hp.2.2.1.2.1
      have n1 : r3.toInt ≠ -1 := fun e => c8 (Int32.toInt_inj.mp (e.trans tmi.symm))
      obtain ⟨u1, u2, -⟩ := q5
      omega
  · skip
    replace hE := rb_t5 hE c8
    intro T9
    refine Pa_refuse_q5 (by decide) W6 T9  ?_ (fun κ_10 q11 => False.elim q11) (fun cls9 κ9 q9 => hx _ _ ?_)
    · exact hp  -- p3
    obtain ⟨q9, z9⟩ := q9
    · refine and_5 ?_ (fun o9 => rb_r5 hE z9)  -- x4
      exact q9

theorem Pa_findVariable_q5 {C : zC} {n0 : Nat} {a0 : Nat} {a1 : Int32} {κ : zS} {Q : Int32 → zS → Prop} {X : zXp} (W : zW C n0 κ) (Ta0 : zT κ a0 = 10)  (hp : paI κ a0) (h : ∀ (v : Int32), ((-1 ≤ v.toInt ∧ v.toInt < 8) ∧ f5_Pa_findVariable a1 (ab5 κ a0) = .inl (ab5 κ a0, v)) → Q v κ) (hx : ∀ (cls : String) (κ' : zS), ((paX5 κ cls κ' a0) ∧ f5_Pa_findVariable a1 (ab5 κ a0) = .inr (zI κ' paFaultCode a0, zI κ' paFaultPlace a0)) → X cls κ') : zRun C 9 mPa_findVariable [.ref a0, .int a1] κ (oI Q X) := by
  refine Pa_findVariable_run W Ta0 ?_
  replace W := W.lo (Nat.le_trans W.1.2.1 W.1.2.2) (Nat.le_refl (zn κ))
  unfold w_Pa_findVariable_0
  have hE : f5_Pa_findVariable a1 (ab5 κ a0) = f5_Pa_findVariable a1 (ab5 κ a0) := rfl
  intro T1
  intro T2
  refine Ta_findName_q5 W T1 T2  ?_ (fun r3 q5 => ?_)
  · exact ⟨hp.1.1, hp.1.2.1⟩  -- p1
  obtain ⟨q5, z9⟩ := q5
  replace hE := rb_p5 hE z9
  intro W6
  intro M7
  refine ⟨fun c8 => ?_, fun c8 => ?_⟩
  · skip
    replace hE := rb_f5 hE c8
    refine h _ ?_
    · refine and_5 ?_ (fun o9 => hE)  -- q2
      have L := hp.2.2.1.2.2.2.1
      obtain ⟨u1, u2, -⟩ := q5
      omega
  · skip
    replace hE := rb_t5 hE c8
    intro T9
    intro T10
    refine Ta_findName_q5 W6 T9 T10  ?_ (fun r11 q13 => ?_)
    · exact ⟨hp.1.1, hp.1.2.1⟩  -- p3
    obtain ⟨q13, z9⟩ := q13
    replace hE := rb_p5 hE z9
    intro W14
    intro M15
    refine ⟨fun c16 => ?_, fun c16 => ?_⟩
    · skip
      replace hE := rb_f5 hE c16
      refine h _ ?_
      · refine and_5 ?_ (fun o9 => hE)  -- q4
        have L := hp.2.2.1.2.2.2.1
        obtain ⟨u1, u2, -⟩ := q5
        omega
    · skip
      replace hE := rb_t5 hE c16
      intro T17
      refine Pa_refuse_q5 (by decide) W14 T17  ?_ (fun κ_18 q19 => False.elim q19) (fun cls9 κ9 q9 => hx _ _ ?_)
      · exact hp  -- p5
      obtain ⟨q9, z9⟩ := q9
      · refine and_5 ?_ (fun o9 => rb_r5 hE z9)  -- x6
        exact q9

theorem Pa_addOwn_q5 {C : zC} {n0 : Nat} {a0 : Nat} {a1 : Int32} {κ : zS} {Q : zS → Prop} (W : zW C n0 κ) (Ta0 : zT κ a0 = 10)  (hp : paI κ a0) (h : ∀ (κ' : zS), ((paN κ κ' a0) ∧ f5_Pa_addOwn a1 (ab5 κ a0) = .inl (ab5 κ' a0, ())) → Q κ') : zRun C 0 mPa_addOwn [.ref a0, .int a1] κ (oV Q noX) := by
  refine Pa_addOwn_run W Ta0 ?_
  replace W := W.lo (Nat.le_trans W.1.2.1 W.1.2.2) (Nat.le_refl (zn κ))
  unfold w_Pa_addOwn_0
  have L := hp.2.2.1
  have D := hp.2.2.2
  have e8 : (8 : Int32).toInt = 8 := rfl
  have hE : f5_Pa_addOwn a1 (ab5 κ a0) = f5_Pa_addOwn a1 (ab5 κ a0) := rfl
  refine ⟨fun c1 => ?_, fun c1 => ?_⟩
  · skip
    replace hE := rb_t5 hE c1
    refine h _ ?_
    · refine and_5 ?_ (fun o9 => hE)  -- q1
      exact paN.rf hp
  · skip
    replace hE := rb_f5 hE c1
    have c9 : (zI κ paOwns a0).toInt < 8 := by rw [lei, e8] at c1; omega
    refine ⟨?_, ?_⟩
    · have l4 := L.2.2.2.1
      have o := D.1
      rw [inb_iff]; omega
    intro κ_2 hκ_2
    replace hE := rb_i5 hE (ab_ua5 (p := a0) (f := paOwnNames) W (by first | exact Ta0 | exact paS_t S0 Ta0 | assumption) hκ_2 (by decide))
    intro W3
    intro κ_4 hκ_4
    replace hE := rb_i5 hE (ab_ui5 (p := a0) (f := paOwns) hκ_4 (by decide) (by decide))
    intro W5
    refine h _ ?_
    · refine and_5 ?_ (fun o9 => hE)  -- q3
      have f1 := pa_ua W Ta0 (show zr paOwnNames = some 20 by decide +kernel) (by decide) hκ_2
      have Z : zF (objF a0) κ κ_4 := f1.1.tr (by rw [hκ_4]; exact zF_ui rfl)
      have r : zR κ_4 = zR κ := by rw [hκ_4]; exact f1.2.1
      have n : zN κ_4 = zN κ := by rw [hκ_4]; exact f1.2.2.1
      have o : zI κ_4 paOwns a0 = zI κ paOwns a0 + 1 := by
        rw [hκ_4]
        refine (if_pos ⟨rfl, rfl⟩).trans ?_
        rw [f1.2.2.2.1]
      have ob := D.1
      have e1 : (zI κ paOwns a0 + 1).toInt = (zI κ paOwns a0).toInt + 1 := by rw [add_i (by rw [t1i]; omega) (by rw [t1i]; omega), t1i]
      have oth : ∀ f, f ≠ paOwns → zI κ_4 f a0 = zI κ f a0 := fun f hf => by
        rw [hκ_4]
        exact (if_neg (fun z => hf z.1)).trans (congrFun (congrFun f1.2.2.2.1 f) a0)
      refine paN_p W Ta0 hp Z r n (oth _ (by decide)) (oth _ (by decide)) ?_
      unfold paC
      rw [r, n, o, e1, oth paBlocks (by decide), oth paWaits (by decide)]
      exact ⟨⟨by omega, by omega⟩, D.2⟩

theorem Pa_pushBlock_q5 {C : zC} {n0 : Nat} {a0 : Nat} {a1 : Int32} {a2 : Int32} {κ : zS} {Q : zS → Prop} (W : zW C n0 κ) (Ta0 : zT κ a0 = 10)  (hp : paI κ a0) (h : ∀ (κ' : zS), ((paN κ κ' a0) ∧ f5_Pa_pushBlock a1 a2 (ab5 κ a0) = .inl (ab5 κ' a0, ())) → Q κ') : zRun C 0 mPa_pushBlock [.ref a0, .int a1, .int a2] κ (oV Q noX) := by
  refine Pa_pushBlock_run W Ta0 ?_
  replace W := W.lo (Nat.le_trans W.1.2.1 W.1.2.2) (Nat.le_refl (zn κ))
  unfold w_Pa_pushBlock_0
  have L := hp.2.2.1
  have D := hp.2.2.2
  have l5 := L.2.2.2.2.1
  have l6 := L.2.2.2.2.2.1
  have l7 := L.2.2.2.2.2.2
  have oN := W.n (ty_paOwners W Ta0)
  have b := D.2.1
  have hE : f5_Pa_pushBlock a1 a2 (ab5 κ a0) = f5_Pa_pushBlock a1 a2 (ab5 κ a0) := rfl
  refine ⟨fun c1 => ?_, fun c1 => ?_⟩
  · skip
    replace hE := rb_t5 hE c1
    refine h _ ?_
    · refine and_5 ?_ (fun o9 => hE)  -- q1
      exact paN.rf hp
  · skip
    replace hE := rb_f5 hE c1
    have c9 : (zI κ paBlocks a0).toInt < 41 := by rw [lei, ofn_i oN] at c1; omega
    refine ⟨?_, ?_⟩
    · rw [inb_iff]; omega  -- b2
    intro κ_2 hκ_2
    replace hE := rb_i5 hE (ab_ua5 (p := a0) (f := paOwners) W (by first | exact Ta0 | exact paS_t S0 Ta0 | assumption) hκ_2 (by decide))
    intro W3
    have f1 := pa_ua W Ta0 (show zr paOwners = some 20 by decide +kernel) (by decide) hκ_2
    refine ⟨?_, ?_⟩
    · rw [f1.2.1, f1.2.2.1, f1.2.2.2.1, inb_iff]; omega  -- b3
    intro κ_4 hκ_4
    replace hE := rb_i5 hE (ab_ua5 (p := a0) (f := paLasts) W3 (by first | exact Ta0 | exact paS_t S0 Ta0 | assumption | (rw [hκ_2, ua_t5]; first | exact Ta0 | exact paS_t S0 Ta0 | assumption)) hκ_4 (by decide))
    intro W5
    have f2 := pa_ua W3 f1.2.2.2.2 (show zr paLasts = some 20 by decide +kernel) (by decide) hκ_4
    refine ⟨?_, ?_⟩
    · rw [f2.2.1, f2.2.2.1, f2.2.2.2.1, f1.2.1, f1.2.2.1, f1.2.2.2.1, inb_iff]; omega  -- b4
    intro κ_6 hκ_6
    replace hE := rb_i5 hE (ab_ua5 (p := a0) (f := paElses) W5 (by first | exact Ta0 | exact paS_t S0 Ta0 | assumption | (rw [hκ_4, ua_t5, hκ_2, ua_t5]; first | exact Ta0 | exact paS_t S0 Ta0 | assumption)) hκ_6 (by decide))
    intro W7
    intro κ_8 hκ_8
    replace hE := rb_i5 hE (ab_ui5 (p := a0) (f := paBlocks) hκ_8 (by decide) (by decide))
    intro W9
    refine h _ ?_
    · refine and_5 ?_ (fun o9 => hE)  -- q5
      have f3 := pa_ua W5 f2.2.2.2.2 (show zr paElses = some 23 by decide +kernel) (by decide) hκ_6
      have Z : zF (objF a0) κ κ_8 := ((f1.1.tr f2.1).tr f3.1).tr (by rw [hκ_8]; exact zF_ui rfl)
      have r : zR κ_8 = zR κ := by rw [hκ_8]; exact f3.2.1.trans (f2.2.1.trans f1.2.1)
      have n : zN κ_8 = zN κ := by rw [hκ_8]; exact f3.2.2.1.trans (f2.2.2.1.trans f1.2.2.1)
      have i6 : zI κ_6 = zI κ := f3.2.2.2.1.trans (f2.2.2.2.1.trans f1.2.2.2.1)
      have o : zI κ_8 paBlocks a0 = zI κ paBlocks a0 + 1 := by
        rw [hκ_8]
        refine (if_pos ⟨rfl, rfl⟩).trans ?_
        rw [i6]
      have e1 : (zI κ paBlocks a0 + 1).toInt = (zI κ paBlocks a0).toInt + 1 := by rw [add_i (by rw [t1i]; omega) (by rw [t1i]; omega), t1i]
      have oth : ∀ f, f ≠ paBlocks → zI κ_8 f a0 = zI κ f a0 := fun f hf => by
        rw [hκ_8]
        exact (if_neg (fun z => hf z.1)).trans (congrFun (congrFun i6 f) a0)
      refine paN_p W Ta0 hp Z r n (oth _ (by decide)) (oth _ (by decide)) ?_
      unfold paC
      rw [r, n, o, e1, oth paOwns (by decide), oth paWaits (by decide)]
      exact ⟨D.1, ⟨by omega, by omega⟩, D.2.2⟩

theorem Pa_setPlace_q5 {C : zC} {n0 : Nat} {a0 : Nat} {a1 : Int32} {a2 : Int32} {a3 : Int32} {κ : zS} {Q : zS → Prop} (W : zW C n0 κ) (Ta0 : zT κ a0 = 10)  (hp : paI κ a0) (h : ∀ (κ' : zS), ((paN κ κ' a0) ∧ f5_Pa_setPlace a1 a2 a3 (ab5 κ a0) = .inl (ab5 κ' a0, ())) → Q κ') : zRun C 1 mPa_setPlace [.ref a0, .int a1, .int a2, .int a3] κ (oV Q noX) := by
  refine Pa_setPlace_run W Ta0 ?_
  replace W := W.lo (Nat.le_trans W.1.2.1 W.1.2.2) (Nat.le_refl (zn κ))
  unfold w_Pa_setPlace_0
  have hE : f5_Pa_setPlace a1 a2 a3 (ab5 κ a0) = f5_Pa_setPlace a1 a2 a3 (ab5 κ a0) := rfl
  intro T1
  refine Co_setColumn_q5 W T1  ?_ (fun κ_2 q3 => ?_)
  · exact ⟨hp.2.1, by decide, by decide⟩  -- p1
  obtain ⟨q3, z9⟩ := q3
  replace hE := rb_i5 hE (z9 a0 (by first | exact Ta0 | exact paS_t S0 Ta0 | assumption) (by first | rfl | assumption))
  intro W4
  intro M5
  intro T6
  refine Co_setColumn_q5 W4 T6  ?_ (fun κ_7 q8 => ?_)
  · have f := (paN_c W Ta0 hp (q3.1.mono (fun _ _ z => z.2)) q3.2.1 (by rw [q3.2.2.1])).1
    exact ⟨f.2.1.2.1, by decide, by decide⟩
  obtain ⟨q8, z9⟩ := q8
  replace hE := rb_i5 hE (z9 a0 (q3.1.t Ta0 (by decide)) rfl)
  intro W9
  intro M10
  refine h _ ?_
  · refine and_5 ?_ (fun o9 => hE)  -- q3
    have f := (paN_c W Ta0 hp (q3.1.mono (fun _ _ z => z.2)) q3.2.1 (by rw [q3.2.2.1])).1
    have g := (paN_c W4 (q3.1.t Ta0 (by decide)) f.2.1 (q8.1.mono (fun _ _ z => z.2)) q8.2.1 (by rw [q8.2.2.1])).1
    exact f.tr g
