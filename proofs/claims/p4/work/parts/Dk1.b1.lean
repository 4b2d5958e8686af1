set_option maxHeartbeats 1600000
/-! the tape's bytes, names and numbers as pure functions -/
theorem and_5 {a b : Prop} (x : a) (f : a → b) : a ∧ b := ⟨x, f x⟩
def f5_Ta_byteAt (U : U5) (a1 : Int32) : Int32 := (if a1 < (0 : Int32) then (-1 : Int32) else (if (U.2.1) ≤ a1 then (-1 : Int32) else (if (Int32.ofNat (U.2.2)) ≤ a1 then (-1 : Int32) else ((U.1 (a1).toNatClampNeg) &&& (255 : Int32)))))

def f5_Ta_isDigit (a0 : Int32) : Int32 := (if a0 < (48 : Int32) then (0 : Int32) else (if (57 : Int32) < a0 then (0 : Int32) else (1 : Int32)))

def f5_Ta_isLetter_24 (a0 : Int32) : Int32 := (if a0 = (95 : Int32) then (1 : Int32) else (0 : Int32))
def f5_Ta_isLetter_12 (a0 : Int32) : Int32 := (if a0 < (65 : Int32) then (f5_Ta_isLetter_24 (a0)) else (if a0 ≤ (90 : Int32) then (1 : Int32) else (f5_Ta_isLetter_24 (a0))))
def f5_Ta_isLetter (a0 : Int32) : Int32 := (if a0 < (97 : Int32) then (f5_Ta_isLetter_12 (a0)) else (if a0 ≤ (122 : Int32) then (1 : Int32) else (f5_Ta_isLetter_12 (a0))))

def f5_Ta_skipBlanks_4 (U : U5) : Nat → Int32 → Int32 → Int32
  | 0, _, _ => 0
  | m5 + 1, a2, a3 => (if (U.2.1) ≤ a3 then (U.2.1) else pb5 (f5_Ta_byteAt U (a3)) (fun r2 => (if r2 = (10 : Int32) then pb5 (a3 + (1 : Int32)) (fun v3_14 => (f5_Ta_skipBlanks_4 U m5 ((0 : Int32)) (v3_14))) else (if r2 = (35 : Int32) then pb5 (a3 + (1 : Int32)) (fun v3_12 => (f5_Ta_skipBlanks_4 U m5 ((1 : Int32)) (v3_12))) else (if a2 = (0 : Int32) then (if r2 = (9 : Int32) then pb5 (a3 + (1 : Int32)) (fun v3_6 => (f5_Ta_skipBlanks_4 U m5 (a2) (v3_6))) else (if r2 = (13 : Int32) then pb5 (a3 + (1 : Int32)) (fun v3_8 => (f5_Ta_skipBlanks_4 U m5 (a2) (v3_8))) else (if r2 = (32 : Int32) then pb5 (a3 + (1 : Int32)) (fun v3_10 => (f5_Ta_skipBlanks_4 U m5 (a2) (v3_10))) else a3))) else pb5 (a3 + (1 : Int32)) (fun v3_4 => (f5_Ta_skipBlanks_4 U m5 (a2) (v3_4))))))))
def f5_Ta_skipBlanks (U : U5) (a1 : Int32) : Int32 := (f5_Ta_skipBlanks_4 U fu5 ((0 : Int32)) (a1))

def f5_Ta_sizeAt_51 (U : U5) (a1 s0 : Int32) : Int32 := (if s0 = (0 : Int32) then (1 : Int32) else pb5 (f5_Ta_byteAt U ((a1 + (1 : Int32)))) (fun r2 => (if r2 = (61 : Int32) then (2 : Int32) else (1 : Int32))))
def f5_Ta_sizeAt_81 (U : U5) : Nat → Int32 → Int32 → Int32 → Int32
  | 0, _, _, _ => 0
  | m5 + 1, a1, a3, a4 => (if (U.2.1) ≤ a4 then (a4 - a1) else pb5 (f5_Ta_byteAt U (a4)) (fun r2 => pb5 (f5_Ta_isDigit (r2)) (fun r5 => (if r5 = (0 : Int32) then (if a3 = (0 : Int32) then (a4 - a1) else pb5 (f5_Ta_byteAt U (a4)) (fun r10 => pb5 (f5_Ta_isLetter (r10)) (fun r14 => (if r14 = (0 : Int32) then (a4 - a1) else pb5 (a4 + (1 : Int32)) (fun v4_16 => (f5_Ta_sizeAt_81 U m5 (a1) (a3) (v4_16))))))) else pb5 (a4 + (1 : Int32)) (fun v4_7 => (f5_Ta_sizeAt_81 U m5 (a1) (a3) (v4_7)))))))
def f5_Ta_sizeAt_76 (U : U5) (a1 a3 : Int32) : Int32 := pb5 ((a1 + (1 : Int32))) (fun v4_1 => (f5_Ta_sizeAt_81 U fu5 (a1) (a3) (v4_1)))
def f5_Ta_sizeAt (U : U5) (a1 : Int32) : Int32 := pb5 (f5_Ta_byteAt U (a1)) (fun r2 => pb5 (f5_Ta_isLetter (r2)) (fun r5 => (if r5 = (0 : Int32) then pb5 (f5_Ta_isDigit (r2)) (fun r9 => (if r9 = (0 : Int32) then (if r2 = (61 : Int32) then (f5_Ta_sizeAt_51 U (a1) ((1 : Int32))) else (if r2 = (33 : Int32) then (f5_Ta_sizeAt_51 U (a1) ((1 : Int32))) else (if r2 = (60 : Int32) then (f5_Ta_sizeAt_51 U (a1) ((1 : Int32))) else (if r2 = (62 : Int32) then (f5_Ta_sizeAt_51 U (a1) ((1 : Int32))) else (f5_Ta_sizeAt_51 U (a1) ((0 : Int32))))))) else (f5_Ta_sizeAt_76 U (a1) (r5)))) else (f5_Ta_sizeAt_76 U (a1) (r5)))))

def f5_Ta_numberAt_4 (T : T5) : Nat → Int32 → Int32 → Int32 → Int32
  | 0, _, _, _ => 0
  | m5 + 1, a1, a2, a3 => (if a1 < (0 : Int32) then a2 else (if (T.2.2.2.2.2.1) ≤ a1 then a2 else (if (T.2.2.2.1 (a1).toNatClampNeg) ≤ a3 then a2 else pb5 (f5_Ta_byteAt (ut5 T) (((T.2.2.1 (a1).toNatClampNeg) + a3))) (fun r2 => pb5 ((((a2 * (10 : Int32)) + r2) - (48 : Int32))) (fun v2_4 => pb5 (a3 + (1 : Int32)) (fun v3_5 => (f5_Ta_numberAt_4 T m5 (a1) (v2_4) (v3_5))))))))
def f5_Ta_numberAt (T : T5) (a1 : Int32) : Int32 := (f5_Ta_numberAt_4 T fu5 (a1) ((0 : Int32)) ((0 : Int32)))

def f5_Ta_findName_145 (T : T5) (B44 : Int32 → Int32 → Int32 → Int32 → Int32) (n1 : Nat → Int32) (l1 : Nat) (a2 a4 a5 a6 a9 : Int32) : Int32 := (if a4 ≤ (0 : Int32) then pb5 (a6 + (1 : Int32)) (fun v6_1 => (B44 (a2) (a4) (a5) (v6_1))) else (if a9 = a4 then a6 else pb5 (a6 + (1 : Int32)) (fun v6_2 => (B44 (a2) (a4) (a5) (v6_2)))))
def f5_Ta_findName_97 (T : T5) (B44 : Int32 → Int32 → Int32 → Int32 → Int32) (n1 : Nat → Int32) (l1 : Nat) : Nat → Int32 → Int32 → Int32 → Int32 → Int32 → Int32 → Int32 → Int32
  | 0, _, _, _, _, _, _, _ => 0
  | m5 + 1, a2, a4, a5, a6, a7, a8, a9 => (if a4 ≤ a9 then (f5_Ta_findName_145 T B44 n1 l1 (a2) (a4) (a5) (a6) (a9)) else (if (T.2.2.2.1 (a7).toNatClampNeg) = a4 then (if (T.1 ((a5 + a9)).toNatClampNeg) = (T.1 ((a8 + a9)).toNatClampNeg) then pb5 (a9 + (1 : Int32)) (fun v9_1 => (f5_Ta_findName_97 T B44 n1 l1 m5 (a2) (a4) (a5) (a6) (a7) (a8) (v9_1))) else (f5_Ta_findName_145 T B44 n1 l1 (a2) (a4) (a5) (a6) (a9))) else (f5_Ta_findName_145 T B44 n1 l1 (a2) (a4) (a5) (a6) (a9))))
def f5_Ta_findName_83 (T : T5) (B44 : Int32 → Int32 → Int32 → Int32 → Int32) (n1 : Nat → Int32) (l1 : Nat) (a2 a4 a5 a6 s0 : Int32) : Int32 := pb5 ((T.2.2.1 (s0).toNatClampNeg)) (fun v8_1 => (f5_Ta_findName_97 T B44 n1 l1 fu5 (a2) (a4) (a5) (a6) (s0) (v8_1) ((0 : Int32))))
def f5_Ta_findName_44 (T : T5) (n1 : Nat → Int32) (l1 : Nat) : Nat → Int32 → Int32 → Int32 → Int32 → Int32
  | 0, _, _, _, _ => 0
  | m5 + 1, a2, a4, a5, a6 => (if a2 ≤ a6 then (-1 : Int32) else (if (Int32.ofNat (l1)) ≤ a6 then (-1 : Int32) else (if (n1 (a6).toNatClampNeg) < (0 : Int32) then (f5_Ta_findName_83 T (f5_Ta_findName_44 T n1 l1 m5) n1 l1 (a2) (a4) (a5) (a6) ((0 : Int32))) else (if (T.2.2.2.2.2.1) ≤ (n1 (a6).toNatClampNeg) then (f5_Ta_findName_83 T (f5_Ta_findName_44 T n1 l1 m5) n1 l1 (a2) (a4) (a5) (a6) ((0 : Int32))) else (f5_Ta_findName_83 T (f5_Ta_findName_44 T n1 l1 m5) n1 l1 (a2) (a4) (a5) (a6) ((n1 (a6).toNatClampNeg)))))))
def f5_Ta_findName_39 (T : T5) (n1 : Nat → Int32) (l1 : Nat) (a2 a4 s0 : Int32) : Int32 := (f5_Ta_findName_44 T n1 l1 fu5 (a2) (a4) (s0) ((0 : Int32)))
def f5_Ta_findName_22 (T : T5) (n1 : Nat → Int32) (l1 : Nat) (a2 a3 s0 : Int32) : Int32 := (if s0 ≤ (0 : Int32) then (f5_Ta_findName_39 T n1 l1 (a2) (s0) ((0 : Int32))) else (f5_Ta_findName_39 T n1 l1 (a2) (s0) ((T.2.2.1 (a3).toNatClampNeg))))
def f5_Ta_findName (T : T5) (n1 : Nat → Int32) (l1 : Nat) (a2 a3 : Int32) : Int32 := (if a3 < (0 : Int32) then (f5_Ta_findName_22 T n1 l1 (a2) (a3) ((0 : Int32))) else (if (T.2.2.2.2.2.1) ≤ a3 then (f5_Ta_findName_22 T n1 l1 (a2) (a3) ((0 : Int32))) else (f5_Ta_findName_22 T n1 l1 (a2) (a3) ((T.2.2.2.1 (a3).toNatClampNeg)))))

def f5_Pa_rankOf (a0 : Int32) : Int32 := (if a0 < (100 : Int32) then (if a0 < (17 : Int32) then (if a0 < (15 : Int32) then (if a0 < (9 : Int32) then (if a0 = (8 : Int32) then (2 : Int32) else (if a0 = (7 : Int32) then (1 : Int32) else (6 : Int32))) else (3 : Int32)) else (4 : Int32)) else (5 : Int32)) else (0 : Int32))

def f5_Pa_binary (a0 : Int32) : Int32 := (if (a0).toInt = 37 then (19 : Int32) else if (a0).toInt = 38 then (8 : Int32) else if (a0).toInt = 42 then (17 : Int32) else if (a0).toInt = 43 then (15 : Int32) else if (a0).toInt = 45 then (16 : Int32) else if (a0).toInt = 47 then (18 : Int32) else if (a0).toInt = 60 then (11 : Int32) else if (a0).toInt = 62 then (13 : Int32) else if (a0).toInt = 124 then (7 : Int32) else if (a0).toInt = 128 then (9 : Int32) else if (a0).toInt = 129 then (10 : Int32) else if (a0).toInt = 130 then (12 : Int32) else if (a0).toInt = 131 then (14 : Int32) else (-1 : Int32))

theorem Ta_byteAt_q5 {C : zC} {n0 : Nat} {a0 : Nat} {a1 : Int32} {κ : zS} {Q : Int32 → zS → Prop} (W : zW C n0 κ) (Ta0 : zT κ a0 = 13)  (hp : taI κ a0) (h : ∀ (v : Int32), ((v = -1 ∨ (0 ≤ a1.toInt ∧ a1.toInt < (zI κ taLength a0).toInt)) ∧ v = f5_Ta_byteAt (up5 κ a0) a1) → Q v κ) : zRun C 0 mTa_byteAt [.ref a0, .int a1] κ (oI Q noX) := by
  refine Ta_byteAt_run W Ta0 ?_
  replace W := W.lo (Nat.le_trans W.1.2.1 W.1.2.2) (Nat.le_refl (zn κ))
  unfold w_Ta_byteAt_0
  obtain ⟨⟨h0, h1, h2, h3⟩, -⟩ := hp
  have bN := W.n (ty_taBytes W Ta0)
  have hE : f5_Ta_byteAt (up5 κ a0) a1 = f5_Ta_byteAt (up5 κ a0) a1 := rfl
  refine ⟨fun c1 => ?_, fun c1 => ?_⟩
  · skip
    replace hE := rb_t5 hE c1
    refine h _ ?_
    · refine and_5 ?_ (fun o9 => hE.symm)  -- q1
      exact Or.inl rfl
  · skip
    replace hE := rb_f5 hE c1
    refine ⟨fun c2 => ?_, fun c2 => ?_⟩
    · skip
      replace hE := rb_t5 hE c2
      refine h _ ?_
      · refine and_5 ?_ (fun o9 => hE.symm)  -- q2
        exact Or.inl rfl
    · skip
      replace hE := rb_f5 hE c2
      refine ⟨fun c3 => ?_, fun c3 => ?_⟩
      · skip
        replace hE := rb_t5 hE c3
        refine h _ ?_
        · refine and_5 ?_ (fun o9 => hE.symm)  -- q3
          exact Or.inl rfl
      · skip
        replace hE := rb_f5 hE c3
        refine ⟨?_, ?_⟩
        · rw [lti, t0i] at c1
          rw [lei, ofn_i bN] at c3
          rw [inb_iff]; omega
        refine h _ ?_
        · refine and_5 ?_ (fun o9 => hE.symm)  -- q5
          right
          rw [lti, t0i] at c1
          rw [lei] at c2
          omega

theorem Ta_isDigit_q5 {C : zC} {n0 : Nat} {a0 : Int32} {κ : zS} {Q : Int32 → zS → Prop} (W : zW C n0 κ)   (h : ∀ (v : Int32), ((nb v) ∧ v = f5_Ta_isDigit a0) → Q v κ) : zRun C 0 mTa_isDigit [.int a0] κ (oI Q noX) := by
  refine Ta_isDigit_run W  ?_
  replace W := W.lo (Nat.le_trans W.1.2.1 W.1.2.2) (Nat.le_refl (zn κ))
  unfold w_Ta_isDigit_0
  have hE : f5_Ta_isDigit a0 = f5_Ta_isDigit a0 := rfl
  refine ⟨fun c1 => ?_, fun c1 => ?_⟩
  · skip
    replace hE := rb_t5 hE c1
    refine h _ ?_
    · refine and_5 ?_ (fun o9 => hE.symm)  -- q1
      exact nb_0
  · skip
    replace hE := rb_f5 hE c1
    refine ⟨fun c2 => ?_, fun c2 => ?_⟩
    · skip
      replace hE := rb_t5 hE c2
      refine h _ ?_
      · refine and_5 ?_ (fun o9 => hE.symm)  -- q2
        exact nb_0
    · skip
      replace hE := rb_f5 hE c2
      refine h _ ?_
      · refine and_5 ?_ (fun o9 => hE.symm)  -- q3
        exact nb_1

theorem Ta_isLetter_q5 {C : zC} {n0 : Nat} {a0 : Int32} {κ : zS} {Q : Int32 → zS → Prop} (W : zW C n0 κ)   (h : ∀ (v : Int32), ((nb v) ∧ v = f5_Ta_isLetter a0) → Q v κ) : zRun C 0 mTa_isLetter [.int a0] κ (oI Q noX) := by
  refine Ta_isLetter_run W  ?_
  replace W := W.lo (Nat.le_trans W.1.2.1 W.1.2.2) (Nat.le_refl (zn κ))
  unfold w_Ta_isLetter_0
  have hE : f5_Ta_isLetter a0 = f5_Ta_isLetter a0 := rfl
  refine ⟨fun c1 => ?_, fun c1 => ?_⟩
  · skip
    replace hE := rb_t5 hE c1
    unfold w_Ta_isLetter_12
    refine ⟨fun c2 => ?_, fun c2 => ?_⟩
    · skip
      replace hE := rb_t5 hE c2
      unfold w_Ta_isLetter_24
      refine ⟨fun c3 => ?_, fun c3 => ?_⟩
      · skip
        replace hE := rb_f5 hE c3
        refine h _ ?_
        · refine and_5 ?_ (fun o9 => hE.symm)  -- q1
          first | exact nb_0 | exact nb_1
      · skip
        replace hE := rb_t5 hE c3
        refine h _ ?_
        · refine and_5 ?_ (fun o9 => hE.symm)  -- q2
          first | exact nb_0 | exact nb_1
    · skip
      replace hE := rb_f5 hE c2
      refine ⟨fun c4 => ?_, fun c4 => ?_⟩
      · skip
        replace hE := rb_t5 hE c4
        refine h _ ?_
        · refine and_5 ?_ (fun o9 => hE.symm)  -- q3
          first | exact nb_0 | exact nb_1
      · skip
        replace hE := rb_f5 hE c4
        unfold w_Ta_isLetter_24
        refine ⟨fun c5 => ?_, fun c5 => ?_⟩
        · skip
          replace hE := rb_f5 hE c5
          refine h _ ?_
          · refine and_5 ?_ (fun o9 => hE.symm)  -- q4
            first | exact nb_0 | exact nb_1
        · skip
          replace hE := rb_t5 hE c5
          refine h _ ?_
          · refine and_5 ?_ (fun o9 => hE.symm)  -- q5
            first | exact nb_0 | exact nb_1
  · skip
    replace hE := rb_f5 hE c1
    refine ⟨fun c6 => ?_, fun c6 => ?_⟩
    · skip
      replace hE := rb_t5 hE c6
      refine h _ ?_
      · refine and_5 ?_ (fun o9 => hE.symm)  -- q6
        first | exact nb_0 | exact nb_1
    · skip
      replace hE := rb_f5 hE c6
      unfold w_Ta_isLetter_12
      refine ⟨fun c7 => ?_, fun c7 => ?_⟩
      · skip
        replace hE := rb_t5 hE c7
        unfold w_Ta_isLetter_24
        refine ⟨fun c8 => ?_, fun c8 => ?_⟩
        · skip
          replace hE := rb_f5 hE c8
          refine h _ ?_
          · refine and_5 ?_ (fun o9 => hE.symm)  -- q7
            first | exact nb_0 | exact nb_1
        · skip
          replace hE := rb_t5 hE c8
          refine h _ ?_
          · refine and_5 ?_ (fun o9 => hE.symm)  -- q8
            first | exact nb_0 | exact nb_1
      · skip
        replace hE := rb_f5 hE c7
        refine ⟨fun c9 => ?_, fun c9 => ?_⟩
        · skip
          replace hE := rb_t5 hE c9
          refine h _ ?_
          · refine and_5 ?_ (fun o9 => hE.symm)  -- q9
            first | exact nb_0 | exact nb_1
        · skip
          replace hE := rb_f5 hE c9
          unfold w_Ta_isLetter_24
          refine ⟨fun c10 => ?_, fun c10 => ?_⟩
          · skip
            replace hE := rb_f5 hE c10
            refine h _ ?_
            · refine and_5 ?_ (fun o9 => hE.symm)  -- q10
              first | exact nb_0 | exact nb_1
          · skip
            replace hE := rb_t5 hE c10
            refine h _ ?_
            · refine and_5 ?_ (fun o9 => hE.symm)  -- q11
              first | exact nb_0 | exact nb_1

theorem Ta_skipBlanks_q5 {C : zC} {n0 : Nat} {a0 : Nat} {a1 : Int32} {κ : zS} {Q : Int32 → zS → Prop} (W : zW C n0 κ) (Ta0 : zT κ a0 = 13)  (hp : taI κ a0 ∧ 0 ≤ a1.toInt ∧ a1.toInt ≤ (zI κ taLength a0).toInt) (h : ∀ (v : Int32), ((a1.toInt ≤ v.toInt ∧ v.toInt ≤ (zI κ taLength a0).toInt) ∧ v = f5_Ta_skipBlanks (up5 κ a0) a1) → Q v κ) : zRun C 1 mTa_skipBlanks [.ref a0, .int a1] κ (oI Q noX) := by
  refine Ta_skipBlanks_run W Ta0 ?_
  replace W := W.lo (Nat.le_trans W.1.2.1 W.1.2.2) (Nat.le_refl (zn κ))
  unfold w_Ta_skipBlanks_0
  obtain ⟨H, p0, p1⟩ := hp
  have hE : f5_Ta_skipBlanks (up5 κ a0) a1 = f5_Ta_skipBlanks (up5 κ a0) a1 := rfl
  unfold w_Ta_skipBlanks_4
  refine ⟨fun n l0 l2 l3 τ => n = ((zI κ taLength a0).toInt - l3.toInt).toNat ∧ ((κ = τ ∧ a0 = l0 ∧ a1.toInt ≤ l3.toInt ∧ l3.toInt ≤ (zI κ taLength a0).toInt) ∧ ∃ m5, n < m5 ∧ f5_Ta_skipBlanks (up5 κ a0) a1 = f5_Ta_skipBlanks_4 (up5 κ a0) m5 l2 l3), ⟨_, rfl, ?_⟩, ?_⟩
  · refine and_5 ?_ (fun o9 => ⟨fu5, by first | exact fb5 | (unfold fu5; omega) | decide, hE⟩)  -- j1
    exact ⟨rfl, rfl, Int.le_refl _, p1⟩
  rintro n4 _ x4_2 x4_3 _ W4 T4_0 ⟨hn4, ⟨rfl, rfl, i4⟩, m4, hm4, hE⟩
  obtain ⟨m4, rfl⟩ : ∃ m9, m4 = m9 + 1 := ⟨m4 - 1, by omega⟩
  obtain ⟨m0, m1⟩ := i4
  refine ⟨fun c1 => ?_, fun c1 => ?_⟩
  · skip
    replace hE := rb_t5 hE c1
    refine h _ ?_
    · refine and_5 ?_ (fun o9 => hE.symm)  -- q2
      exact ⟨by rw [lei] at c1; omega, Int.le_refl _⟩
  · skip
    replace hE := rb_f5 hE c1
    intro T2
    have d9 : x4_3.toInt < (zI κ taLength a0).toInt := by rw [lei] at c1; omega
    have e1 := inc_i (x := x4_3) (y := zI κ taLength a0) (by omega) d9
    refine Ta_byteAt_q5 W4 T2  ?_ (fun r3 q5 => ?_)
    · exact H  -- p3
    obtain ⟨q5, z9⟩ := q5
    replace hE := rb_p5 hE z9
    intro W6
    intro M7
    refine ⟨fun c8 => ?_, fun c8 => ?_⟩
    · skip
      replace hE := rb_f5 hE c8
      refine ⟨fun c9 => ?_, fun c9 => ?_⟩
      · skip
        replace hE := rb_f5 hE c9
        refine ⟨fun c10 => ?_, fun c10 => ?_⟩
        · skip
          replace hE := rb_f5 hE c10
          intro x11 hx11
          replace hE := rb_p5 hE hx11
          refine lp_b5 ?_ (fun d9 => ⟨rfl, ?_⟩)
          · rw [hn4, hx11, e1]; omega  -- d4
          · refine and_5 ?_ (fun o9 => ⟨m4, by omega, hE⟩)  -- i5
            exact ⟨rfl, rfl, by rw [hx11, e1]; omega, by rw [hx11, e1]; omega⟩
        · skip
          replace hE := rb_t5 hE c10
          refine ⟨fun c12 => ?_, fun c12 => ?_⟩
          · skip
            replace hE := rb_t5 hE c12
            intro x13 hx13
            replace hE := rb_p5 hE hx13
            refine lp_b5 ?_ (fun d9 => ⟨rfl, ?_⟩)
            · rw [hn4, hx13, e1]; omega  -- d6
            · refine and_5 ?_ (fun o9 => ⟨m4, by omega, hE⟩)  -- i7
              exact ⟨rfl, rfl, by rw [hx13, e1]; omega, by rw [hx13, e1]; omega⟩
          · skip
            replace hE := rb_f5 hE c12
            refine ⟨fun c14 => ?_, fun c14 => ?_⟩
            · skip
              replace hE := rb_t5 hE c14
              intro x15 hx15
              replace hE := rb_p5 hE hx15
              refine lp_b5 ?_ (fun d9 => ⟨rfl, ?_⟩)
              · rw [hn4, hx15, e1]; omega  -- d8
              · refine and_5 ?_ (fun o9 => ⟨m4, by omega, hE⟩)  -- i9
                exact ⟨rfl, rfl, by rw [hx15, e1]; omega, by rw [hx15, e1]; omega⟩
            · skip
              replace hE := rb_f5 hE c14
              refine ⟨fun c16 => ?_, fun c16 => ?_⟩
              · skip
                replace hE := rb_t5 hE c16
                intro x17 hx17
                replace hE := rb_p5 hE hx17
                refine lp_b5 ?_ (fun d9 => ⟨rfl, ?_⟩)
                · rw [hn4, hx17, e1]; omega  -- d10
                · refine and_5 ?_ (fun o9 => ⟨m4, by omega, hE⟩)  -- i11
                  exact ⟨rfl, rfl, by rw [hx17, e1]; omega, by rw [hx17, e1]; omega⟩
              · skip
                replace hE := rb_f5 hE c16
                refine h _ ?_
                · refine and_5 ?_ (fun o9 => hE.symm)  -- q12
                  exact ⟨m0, m1⟩
      · skip
        replace hE := rb_t5 hE c9
        intro x18 hx18
        replace hE := rb_p5 hE hx18
        refine lp_b5 ?_ (fun d9 => ⟨rfl, ?_⟩)
        · rw [hn4, hx18, e1]; omega  -- d13
        · refine and_5 ?_ (fun o9 => ⟨m4, by omega, hE⟩)  -- i14
          exact ⟨rfl, rfl, by rw [hx18, e1]; omega, by rw [hx18, e1]; omega⟩
    · skip
      replace hE := rb_t5 hE c8
      intro x19 hx19
      replace hE := rb_p5 hE hx19
      refine lp_b5 ?_ (fun d9 => ⟨rfl, ?_⟩)
      · rw [hn4, hx19, e1]; omega  -- d15
      · refine and_5 ?_ (fun o9 => ⟨m4, by omega, hE⟩)  -- i16
        exact ⟨rfl, rfl, by rw [hx19, e1]; omega, by rw [hx19, e1]; omega⟩

theorem Ta_sizeAt_q5 {C : zC} {n0 : Nat} {a0 : Nat} {a1 : Int32} {κ : zS} {Q : Int32 → zS → Prop} (W : zW C n0 κ) (Ta0 : zT κ a0 = 13)  (hp : taI κ a0 ∧ 0 ≤ a1.toInt ∧ a1.toInt < (zI κ taLength a0).toInt) (h : ∀ (v : Int32), ((1 ≤ v.toInt ∧ a1.toInt + v.toInt ≤ (zI κ taLength a0).toInt) ∧ v = f5_Ta_sizeAt (up5 κ a0) a1) → Q v κ) : zRun C 1 mTa_sizeAt [.ref a0, .int a1] κ (oI Q noX) := by
  refine Ta_sizeAt_run W Ta0 ?_
  replace W := W.lo (Nat.le_trans W.1.2.1 W.1.2.2) (Nat.le_refl (zn κ))
  unfold w_Ta_sizeAt_0
  obtain ⟨H, p0, p1⟩ := hp
  have B := H.1
  have e0 := inc_i (x := a1) (y := zI κ taLength a0) p0 p1
  have hj76 : ∀ (l0 : Nat) (l1 : Int32) (l3 : Int32) (τ : zS), zW C (zn κ) τ → zT τ l0 = 13 → ((κ = τ ∧ a0 = l0 ∧ a1 = l1 ∧ True) ∧ f5_Ta_sizeAt (up5 κ a0) a1 = f5_Ta_sizeAt_76 (up5 κ a0) l1 l3) → w_Ta_sizeAt_76 C (zn κ) Q  l0 l1 l3 τ := by
    rintro _ _ y76_3 _ W76 T76_0 ⟨⟨rfl, rfl, rfl, j76⟩, hE⟩
    unfold w_Ta_sizeAt_76
    intro x1 hx1
    replace hE := rb_p5 hE hx1
    unfold w_Ta_sizeAt_81
    refine ⟨fun n l0 l1 l3 l4 τ => n = ((zI κ taLength a0).toInt - l4.toInt).toNat ∧ ((κ = τ ∧ a0 = l0 ∧ a1 = l1 ∧ a1.toInt < l4.toInt ∧ l4.toInt ≤ (zI κ taLength a0).toInt) ∧ ∃ m5, n < m5 ∧ f5_Ta_sizeAt (up5 κ a0) a1 = f5_Ta_sizeAt_81 (up5 κ a0) m5 l1 l3 l4), ⟨_, rfl, ?_⟩, ?_⟩
    · refine and_5 ?_ (fun o9 => ⟨fu5, by first | exact fb5 | (unfold fu5; omega) | decide, hE⟩)  -- j1
      exact ⟨rfl, rfl, rfl, by rw [hx1, e0]; omega, by rw [hx1, e0]; omega⟩
    rintro n81 _ _ x81_3 x81_4 _ W81 T81_0 ⟨hn81, ⟨rfl, rfl, rfl, i81⟩, m81, hm81, hE⟩
    obtain ⟨m81, rfl⟩ : ∃ m9, m81 = m9 + 1 := ⟨m81 - 1, by omega⟩
    obtain ⟨m0, m1⟩ := i81
    have es : (x81_4 - a1).toInt = x81_4.toInt - a1.toInt := sub_i (by omega) (by omega)
    refine ⟨fun c2 => ?_, fun c2 => ?_⟩
    · skip
      replace hE := rb_t5 hE c2
      refine h _ ?_
      · refine and_5 ?_ (fun o9 => hE.symm)  -- q2
        rw [es]; omega
    · skip
      replace hE := rb_f5 hE c2
      intro T3
      refine Ta_byteAt_q5 W81 T3  ?_ (fun r4 q6 => ?_)
      · exact H  -- p3
      obtain ⟨q6, z9⟩ := q6
      replace hE := rb_p5 hE z9
      intro W7
      intro M8
      refine Ta_isDigit_q5 W7   (fun r9 q11 => ?_)
      obtain ⟨q11, z9⟩ := q11
      replace hE := rb_p5 hE z9
      intro W12
      intro M13
      refine ⟨fun c14 => ?_, fun c14 => ?_⟩
      · skip
        replace hE := rb_f5 hE c14
        intro x15 hx15
        replace hE := rb_p5 hE hx15
        refine lp_b5 ?_ (fun d9 => ⟨rfl, ?_⟩)
        · rw [lei] at c2
          have e1 := inc_i (x := x81_4) (y := zI κ taLength a0) (by omega) (by omega)
          rw [hn81, hx15, e1]; omega
        · refine and_5 ?_ (fun o9 => ⟨m81, by omega, hE⟩)  -- i5
          rw [lei] at c2
          have e1 := inc_i (x := x81_4) (y := zI κ taLength a0) (by omega) (by omega)
          exact ⟨rfl, rfl, rfl, by rw [hx15, e1]; omega, by rw [hx15, e1]; omega⟩
      · skip
        replace hE := rb_t5 hE c14
        refine ⟨fun c16 => ?_, fun c16 => ?_⟩
        · skip
          replace hE := rb_t5 hE c16
          refine h _ ?_
          · refine and_5 ?_ (fun o9 => hE.symm)  -- q6
            rw [es]; omega
        · skip
          replace hE := rb_f5 hE c16
          intro T17
          refine Ta_byteAt_q5 W12 T17  ?_ (fun r18 q20 => ?_)
          · exact H  -- p7
          obtain ⟨q20, z9⟩ := q20
          replace hE := rb_p5 hE z9
          intro W21
          intro M22
          refine Ta_isLetter_q5 W21   (fun r23 q25 => ?_)
          obtain ⟨q25, z9⟩ := q25
          replace hE := rb_p5 hE z9
          intro W26
          intro M27
          refine ⟨fun c28 => ?_, fun c28 => ?_⟩
          · skip
            replace hE := rb_t5 hE c28
            refine h _ ?_
            · refine and_5 ?_ (fun o9 => hE.symm)  -- q8
              rw [es]; omega
          · skip
            replace hE := rb_f5 hE c28
            intro x29 hx29
            replace hE := rb_p5 hE hx29
            refine lp_b5 ?_ (fun d9 => ⟨rfl, ?_⟩)
            · rw [lei] at c2
              have e1 := inc_i (x := x81_4) (y := zI κ taLength a0) (by omega) (by omega)
              rw [hn81, hx29, e1]; omega
            · refine and_5 ?_ (fun o9 => ⟨m81, by omega, hE⟩)  -- i10
              rw [lei] at c2
              have e1 := inc_i (x := x81_4) (y := zI κ taLength a0) (by omega) (by omega)
              exact ⟨rfl, rfl, rfl, by rw [hx29, e1]; omega, by rw [hx29, e1]; omega⟩
  have hj51 : ∀ (l0 : Nat) (l1 : Int32) (s0 : Int32) (τ : zS), zW C (zn κ) τ → zT τ l0 = 13 → ((κ = τ ∧ a0 = l0 ∧ a1 = l1 ∧ True) ∧ f5_Ta_sizeAt (up5 κ a0) a1 = f5_Ta_sizeAt_51 (up5 κ a0) l1 s0) → w_Ta_sizeAt_51 C (zn κ) Q  l0 l1 s0 τ := by
    rintro _ _ y51_s0 _ W51 T51_0 ⟨⟨rfl, rfl, rfl, j51⟩, hE⟩
    unfold w_Ta_sizeAt_51
    refine ⟨fun c30 => ?_, fun c30 => ?_⟩
    · skip
      replace hE := rb_t5 hE c30
      refine h _ ?_
      · refine and_5 ?_ (fun o9 => hE.symm)  -- q11
        rw [t1i]; omega
    · skip
      replace hE := rb_f5 hE c30
      intro T31
      refine Ta_byteAt_q5 W51 T31  ?_ (fun r32 q34 => ?_)
      · exact H  -- p12
      obtain ⟨q34, z9⟩ := q34
      replace hE := rb_p5 hE z9
      intro W35
      intro M36
      refine ⟨fun c37 => ?_, fun c37 => ?_⟩
      · skip
        replace hE := rb_f5 hE c37
        refine h _ ?_
        · refine and_5 ?_ (fun o9 => hE.symm)  -- q13
          rw [t1i]; omega
      · skip
        replace hE := rb_t5 hE c37
        refine h _ ?_
        · refine and_5 ?_ (fun o9 => hE.symm)  -- q14
          rcases q34 with z | z
          · rw [c37] at z; exact absurd z (by decide)
          · rw [e0] at z
            rw [t2i]; omega
  have hE : f5_Ta_sizeAt (up5 κ a0) a1 = f5_Ta_sizeAt (up5 κ a0) a1 := rfl
  intro T38
  refine Ta_byteAt_q5 W T38  ?_ (fun r39 q41 => ?_)
  · exact H  -- p15
  obtain ⟨q41, z9⟩ := q41
  replace hE := rb_p5 hE z9
  intro W42
  intro M43
  refine Ta_isLetter_q5 W42   (fun r44 q46 => ?_)
  obtain ⟨q46, z9⟩ := q46
  replace hE := rb_p5 hE z9
  intro W47
  intro M48
  refine ⟨fun c49 => ?_, fun c49 => ?_⟩
  · skip
    replace hE := rb_f5 hE c49
    refine hj76 _ _ _ _ W47 ?_ ?_
    · exact Ta0  -- t16
    · refine and_5 ?_ (fun o9 => hE)  -- k17
      exact ⟨rfl, rfl, rfl, trivial⟩
  · skip
    replace hE := rb_t5 hE c49
    refine Ta_isDigit_q5 W47   (fun r50 q52 => ?_)
    obtain ⟨q52, z9⟩ := q52
    replace hE := rb_p5 hE z9
    intro W53
    intro M54
    refine ⟨fun c55 => ?_, fun c55 => ?_⟩
    · skip
      replace hE := rb_f5 hE c55
      refine hj76 _ _ _ _ W53 ?_ ?_
      · exact Ta0  -- t18
      · refine and_5 ?_ (fun o9 => hE)  -- k19
        exact ⟨rfl, rfl, rfl, trivial⟩
    · skip
      replace hE := rb_t5 hE c55
      refine ⟨fun c56 => ?_, fun c56 => ?_⟩
      · skip
        replace hE := rb_t5 hE c56
        refine hj51 _ _ _ _ W53 ?_ ?_
        · exact Ta0  -- t20
        · refine and_5 ?_ (fun o9 => hE)  -- k21
          exact ⟨rfl, rfl, rfl, trivial⟩
      · skip
        replace hE := rb_f5 hE c56
        refine ⟨fun c57 => ?_, fun c57 => ?_⟩
        · skip
          replace hE := rb_t5 hE c57
          refine hj51 _ _ _ _ W53 ?_ ?_
          · exact Ta0  -- t22
          · refine and_5 ?_ (fun o9 => hE)  -- k23
            exact ⟨rfl, rfl, rfl, trivial⟩
        · skip
          replace hE := rb_f5 hE c57
          refine ⟨fun c58 => ?_, fun c58 => ?_⟩
          · skip
            replace hE := rb_t5 hE c58
            refine hj51 _ _ _ _ W53 ?_ ?_
            · exact Ta0  -- t24
            · refine and_5 ?_ (fun o9 => hE)  -- k25
              exact ⟨rfl, rfl, rfl, trivial⟩
          · skip
            replace hE := rb_f5 hE c58
            refine ⟨fun c59 => ?_, fun c59 => ?_⟩
            · skip
              replace hE := rb_f5 hE c59
              refine hj51 _ _ _ _ W53 ?_ ?_
              · exact Ta0  -- t26
              · refine and_5 ?_ (fun o9 => hE)  -- k27
                exact ⟨rfl, rfl, rfl, trivial⟩
            · skip
              replace hE := rb_t5 hE c59
              refine hj51 _ _ _ _ W53 ?_ ?_
              · exact Ta0  -- t28
              · refine and_5 ?_ (fun o9 => hE)  -- k29
                exact ⟨rfl, rfl, rfl, trivial⟩

theorem Ta_numberAt_q5 {C : zC} {n0 : Nat} {a0 : Nat} {a1 : Int32} {κ : zS} {Q : Int32 → zS → Prop} (W : zW C n0 κ) (Ta0 : zT κ a0 = 13)  (hp : taI κ a0) (h : ∀ (v : Int32), ((True) ∧ v = f5_Ta_numberAt (tpT5 κ a0) a1) → Q v κ) : zRun C 1 mTa_numberAt [.ref a0, .int a1] κ (oI Q noX) := by
  refine Ta_numberAt_run W Ta0 ?_
  replace W := W.lo (Nat.le_trans W.1.2.1 W.1.2.2) (Nat.le_refl (zn κ))
  unfold w_Ta_numberAt_0
  have B := hp.2
  have hE : f5_Ta_numberAt (tpT5 κ a0) a1 = f5_Ta_numberAt (tpT5 κ a0) a1 := rfl
  unfold w_Ta_numberAt_4
  refine ⟨fun n l0 l1 l2 l3 τ => n = ((zA κ (zR κ taLengths a0) a1.toNatClampNeg).toInt - l3.toInt).toNat ∧ ((κ = τ ∧ a0 = l0 ∧ a1 = l1 ∧ 0 ≤ l3.toInt) ∧ ∃ m5, n < m5 ∧ f5_Ta_numberAt (tpT5 κ a0) a1 = f5_Ta_numberAt_4 (tpT5 κ a0) m5 l1 l2 l3), ⟨_, rfl, ?_⟩, ?_⟩
  · refine and_5 ?_ (fun o9 => ⟨fu5, by have := (zA κ (zR κ taLengths a0) a1.toNatClampNeg).toInt_lt; unfold fu5; omega, hE⟩)  -- j1
    exact ⟨rfl, rfl, rfl, by decide⟩
  rintro n4 _ _ x4_2 x4_3 _ W4 T4_0 ⟨hn4, ⟨rfl, rfl, rfl, i4⟩, m4, hm4, hE⟩
  obtain ⟨m4, rfl⟩ : ∃ m9, m4 = m9 + 1 := ⟨m4 - 1, by omega⟩
  refine ⟨fun c1 => ?_, fun c1 => ?_⟩
  · skip
    replace hE := rb_t5 hE c1
    refine h _ ?_
    · refine and_5 ?_ (fun o9 => hE.symm)  -- q2
      trivial
  · skip
    replace hE := rb_f5 hE c1
    refine ⟨fun c2 => ?_, fun c2 => ?_⟩
    · skip
      replace hE := rb_t5 hE c2
      refine h _ ?_
      · refine and_5 ?_ (fun o9 => hE.symm)  -- q3
        trivial
    · skip
      replace hE := rb_f5 hE c2
      refine ⟨?_, ?_⟩
      · rw [lti, t0i] at c1
        rw [lei] at c2
        rw [inb_iff]; omega
      refine ⟨fun c3 => ?_, fun c3 => ?_⟩
      · skip
        replace hE := rb_t5 hE c3
        refine h _ ?_
        · refine and_5 ?_ (fun o9 => hE.symm)  -- q5
          trivial
      · skip
        replace hE := rb_f5 hE c3
        refine ⟨?_, ?_⟩
        · rw [lti, t0i] at c1
          rw [lei] at c2
          rw [inb_iff]; omega
        intro T4
        refine Ta_byteAt_q5 W4 T4  ?_ (fun r5 q7 => ?_)
        · exact hp  -- p7
        obtain ⟨q7, z9⟩ := q7
        replace hE := rb_p5 hE z9
        intro W8
        intro M9
        intro x10 hx10
        replace hE := rb_p5 hE hx10
        intro x11 hx11
        replace hE := rb_p5 hE hx11
        refine lp_b5 ?_ (fun d9 => ⟨rfl, ?_⟩)
        · rw [lei] at c3
          have e1 := inc_i (x := x4_3) i4 (Int.not_le.mp c3)
          rw [hn4, hx11, e1]; omega
        · refine and_5 ?_ (fun o9 => ⟨m4, by omega, hE⟩)  -- i9
          rw [lei] at c3
          have e1 := inc_i (x := x4_3) i4 (Int.not_le.mp c3)
          exact ⟨rfl, rfl, rfl, by rw [hx11, e1]; omega⟩

theorem Ta_findName_q5 {C : zC} {n0 : Nat} {a0 : Nat} {a1 : Nat} {a2 : Int32} {a3 : Int32} {κ : zS} {Q : Int32 → zS → Prop} (W : zW C n0 κ) (Ta0 : zT κ a0 = 13) (Ta1 : zT κ a1 = 20)  (hp : taI κ a0 ∧ tokI κ a0) (h : ∀ (v : Int32), ((-1 ≤ v.toInt ∧ v.toInt < zN κ a1 ∧ (v.toInt < a2.toInt ∨ v = -1)) ∧ v = f5_Ta_findName (tpT5 κ a0) (zA κ a1) (zN κ a1) a2 a3) → Q v κ) : zRun C 0 mTa_findName [.ref a0, .ref a1, .int a2, .int a3] κ (oI Q noX) := by
  refine Ta_findName_run W Ta0 Ta1 ?_
  replace W := W.lo (Nat.le_trans W.1.2.1 W.1.2.2) (Nat.le_refl (zn κ))
  unfold w_Ta_findName_0
  obtain ⟨H, K⟩ := hp
  have nN := W.n Ta1
  have B := H.1
  have B2 := H.2
  have hj39 : ∀ (l0 : Nat) (l1 : Nat) (l2 : Int32) (l4 : Int32) (s0 : Int32) (τ : zS), zW C (zn κ) τ → zT τ l0 = 13 → zT τ l1 = 20 → ((κ = τ ∧ a0 = l0 ∧ a1 = l1 ∧ a2 = l2 ∧ (0 < l4.toInt → 0 ≤ s0.toInt ∧ s0.toInt + l4.toInt ≤ (zN κ (zR κ taBytes a0)))) ∧ f5_Ta_findName (tpT5 κ a0) (zA κ a1) (zN κ a1) a2 a3 = f5_Ta_findName_39 (tpT5 κ a0) (zA κ a1) (zN κ a1) l2 l4 s0) → w_Ta_findName_39 C (zn κ) Q  l0 l1 l2 l4 s0 τ := by
    rintro _ _ _ y39_4 y39_s0 _ W39 T39_0 T39_1 ⟨⟨rfl, rfl, rfl, rfl, j39⟩, hE⟩
    unfold w_Ta_findName_39
    unfold w_Ta_findName_44
    refine ⟨fun n l0 l1 l2 l4 l5 l6 τ => n = ((zN κ a1 : Int) - l6.toInt).toNat ∧ ((κ = τ ∧ a0 = l0 ∧ a1 = l1 ∧ a2 = l2 ∧ 0 ≤ l6.toInt ∧ (0 < l4.toInt → 0 ≤ l5.toInt ∧ l5.toInt + l4.toInt ≤ (zN κ (zR κ taBytes a0)))) ∧ ∃ m5, n < m5 ∧ f5_Ta_findName (tpT5 κ a0) (zA κ a1) (zN κ a1) a2 a3 = f5_Ta_findName_44 (tpT5 κ a0) (zA κ a1) (zN κ a1) m5 l2 l4 l5 l6), ⟨_, rfl, ?_⟩, ?_⟩
    · refine and_5 ?_ (fun o9 => ⟨fu5, by unfold fu5; omega, hE⟩)  -- j1
      exact ⟨rfl, rfl, rfl, rfl, by decide, j39⟩
    rintro n44 _ _ _ x44_4 x44_5 x44_6 _ W44 T44_0 T44_1 ⟨hn44, ⟨rfl, rfl, rfl, rfl, i44⟩, m44, hm44, hE⟩
    obtain ⟨m44, rfl⟩ : ∃ m9, m44 = m9 + 1 := ⟨m44 - 1, by omega⟩
    obtain ⟨m0, m1⟩ := i44
    have hj145 : ∀ (l0 : Nat) (l1 : Nat) (l2 : Int32) (l4 : Int32) (l5 : Int32) (l6 : Int32) (l9 : Int32) (τ : zS), zW C (zn κ) τ → zT τ l0 = 13 → zT τ l1 = 20 → ((κ = τ ∧ a0 = l0 ∧ a1 = l1 ∧ a2 = l2 ∧ (l6 = x44_6 ∧ 0 ≤ l6.toInt ∧ l6.toInt < zN κ a1 ∧ l6.toInt < a2.toInt) ∧ (0 < l4.toInt → 0 ≤ l5.toInt ∧ l5.toInt + l4.toInt ≤ (zN κ (zR κ taBytes a0)))) ∧ f5_Ta_findName (tpT5 κ a0) (zA κ a1) (zN κ a1) a2 a3 = f5_Ta_findName_145 (tpT5 κ a0) (f5_Ta_findName_44 (tpT5 κ a0) (zA κ a1) (zN κ a1) m44) (zA κ a1) (zN κ a1) l2 l4 l5 l6 l9) → w_Ta_findName_145 C (zn κ) Q (fun (l0' : Nat) (l1' : Nat) (l2' : Int32) (l4' : Int32) (l5' : Int32) (l6' : Int32) (τ : zS) => ∃ k < n44, (fun (n : Nat) (l0 : Nat) (l1 : Nat) (l2 : Int32) (l4 : Int32) (l5 : Int32) (l6 : Int32) (τ : zS) => n = ((zN κ a1 : Int) - l6.toInt).toNat ∧ ((κ = τ ∧ a0 = l0 ∧ a1 = l1 ∧ a2 = l2 ∧ 0 ≤ l6.toInt ∧ (0 < l4.toInt → 0 ≤ l5.toInt ∧ l5.toInt + l4.toInt ≤ (zN κ (zR κ taBytes a0)))) ∧ ∃ m5, n < m5 ∧ f5_Ta_findName (tpT5 κ a0) (zA κ a1) (zN κ a1) a2 a3 = f5_Ta_findName_44 (tpT5 κ a0) (zA κ a1) (zN κ a1) m5 l2 l4 l5 l6)) k l0' l1' l2' l4' l5' l6' τ) l0 l1 l2 l4 l5 l6 l9 τ := by
      clear hE
      rintro _ _ _ y145_4 y145_5 y145_6 y145_9 _ W145 T145_0 T145_1 ⟨⟨rfl, rfl, rfl, rfl, j145⟩, hE⟩
      unfold w_Ta_findName_145
      obtain ⟨⟨u0, u1, u2, u3⟩, us⟩ := j145
      have e1 := inc_i (x := y145_6) (y := a2) u1 u3
      refine ⟨fun c1 => ?_, fun c1 => ?_⟩
      · skip
        replace hE := rb_t5 hE c1
        intro x2 hx2
        replace hE := rb_p5 hE hx2
        refine lp_b5 ?_ (fun d9 => ⟨rfl, ?_⟩)
        · rw [hn44, hx2, e1, ← u0]; omega  -- d2
        · refine and_5 ?_ (fun o9 => ⟨m44, by omega, hE⟩)  -- i3
          exact ⟨rfl, rfl, rfl, rfl, by rw [hx2, e1]; omega, us⟩
      · skip
        replace hE := rb_f5 hE c1
        refine ⟨fun c3 => ?_, fun c3 => ?_⟩
        · skip
          replace hE := rb_f5 hE c3
          intro x4 hx4
          replace hE := rb_p5 hE hx4
          refine lp_b5 ?_ (fun d9 => ⟨rfl, ?_⟩)
          · rw [hn44, hx4, e1, ← u0]; omega  -- d4
          · refine and_5 ?_ (fun o9 => ⟨m44, by omega, hE⟩)  -- i5
            exact ⟨rfl, rfl, rfl, rfl, by rw [hx4, e1]; omega, us⟩
        · skip
          replace hE := rb_t5 hE c3
          refine h _ ?_
          · refine and_5 ?_ (fun o9 => hE.symm)  -- q6
            exact ⟨by omega, u2, Or.inl u3⟩
    have hj83 : ∀ (l0 : Nat) (l1 : Nat) (l2 : Int32) (l4 : Int32) (l5 : Int32) (l6 : Int32) (s0 : Int32) (τ : zS), zW C (zn κ) τ → zT τ l0 = 13 → zT τ l1 = 20 → ((κ = τ ∧ a0 = l0 ∧ a1 = l1 ∧ a2 = l2 ∧ (0 ≤ s0.toInt ∧ s0.toInt < (zN κ (zR κ taKinds a0))) ∧ (l6 = x44_6 ∧ 0 ≤ l6.toInt ∧ l6.toInt < zN κ a1 ∧ l6.toInt < a2.toInt) ∧ (0 < l4.toInt → 0 ≤ l5.toInt ∧ l5.toInt + l4.toInt ≤ (zN κ (zR κ taBytes a0)))) ∧ f5_Ta_findName (tpT5 κ a0) (zA κ a1) (zN κ a1) a2 a3 = f5_Ta_findName_83 (tpT5 κ a0) (f5_Ta_findName_44 (tpT5 κ a0) (zA κ a1) (zN κ a1) m44) (zA κ a1) (zN κ a1) l2 l4 l5 l6 s0) → w_Ta_findName_83 C (zn κ) Q (fun (l0' : Nat) (l1' : Nat) (l2' : Int32) (l4' : Int32) (l5' : Int32) (l6' : Int32) (τ : zS) => ∃ k < n44, (fun (n : Nat) (l0 : Nat) (l1 : Nat) (l2 : Int32) (l4 : Int32) (l5 : Int32) (l6 : Int32) (τ : zS) => n = ((zN κ a1 : Int) - l6.toInt).toNat ∧ ((κ = τ ∧ a0 = l0 ∧ a1 = l1 ∧ a2 = l2 ∧ 0 ≤ l6.toInt ∧ (0 < l4.toInt → 0 ≤ l5.toInt ∧ l5.toInt + l4.toInt ≤ (zN κ (zR κ taBytes a0)))) ∧ ∃ m5, n < m5 ∧ f5_Ta_findName (tpT5 κ a0) (zA κ a1) (zN κ a1) a2 a3 = f5_Ta_findName_44 (tpT5 κ a0) (zA κ a1) (zN κ a1) m5 l2 l4 l5 l6)) k l0' l1' l2' l4' l5' l6' τ) l0 l1 l2 l4 l5 l6 s0 τ := by
      clear hE
      rintro _ _ _ y83_4 y83_5 y83_6 y83_s0 _ W83 T83_0 T83_1 ⟨⟨rfl, rfl, rfl, rfl, j83⟩, hE⟩
      unfold w_Ta_findName_83
      obtain ⟨⟨w0, w1⟩, wu, ws⟩ := j83
      refine ⟨?_, ?_⟩
      · rw [inb_iff]; omega  -- b7
      intro x5 hx5
      replace hE := rb_p5 hE hx5
      unfold w_Ta_findName_97
      refine ⟨fun n l0 l1 l2 l4 l5 l6 l7 l8 l9 τ => n = (l4.toInt - l9.toInt).toNat ∧ ((κ = τ ∧ a0 = l0 ∧ a1 = l1 ∧ a2 = l2 ∧ 0 ≤ l9.toInt ∧ (0 ≤ l7.toInt ∧ l7.toInt < (zN κ (zR κ taKinds a0)) ∧ l8.toInt = (zA κ (zR κ taPlaces a0) l7.toNatClampNeg).toInt) ∧ (l6 = x44_6 ∧ 0 ≤ l6.toInt ∧ l6.toInt < zN κ a1 ∧ l6.toInt < a2.toInt) ∧ (0 < l4.toInt → 0 ≤ l5.toInt ∧ l5.toInt + l4.toInt ≤ (zN κ (zR κ taBytes a0)))) ∧ ∃ m5, n < m5 ∧ f5_Ta_findName (tpT5 κ a0) (zA κ a1) (zN κ a1) a2 a3 = f5_Ta_findName_97 (tpT5 κ a0) (f5_Ta_findName_44 (tpT5 κ a0) (zA κ a1) (zN κ a1) m44) (zA κ a1) (zN κ a1) m5 l2 l4 l5 l6 l7 l8 l9), ⟨_, rfl, ?_⟩, ?_⟩
      · refine and_5 ?_ (fun o9 => ⟨fu5, by first | exact fb5 | (unfold fu5; omega) | decide, hE⟩)  -- j8
        exact ⟨rfl, rfl, rfl, rfl, by decide, ⟨w0, w1, by rw [hx5]⟩, wu, ws⟩
      rintro n97 _ _ _ x97_4 x97_5 x97_6 x97_7 x97_8 x97_9 _ W97 T97_0 T97_1 ⟨hn97, ⟨rfl, rfl, rfl, rfl, i97⟩, m97, hm97, hE⟩
      obtain ⟨m97, rfl⟩ : ∃ m9, m97 = m9 + 1 := ⟨m97 - 1, by omega⟩
      obtain ⟨o0, ⟨o1, o2, o3⟩, ou, os⟩ := i97
      refine ⟨fun c6 => ?_, fun c6 => ?_⟩
      · skip
        replace hE := rb_t5 hE c6
        refine hj145 _ _ _ _ _ _ _ _ W97 ?_ ?_ ?_
        · first | exact Ta0 | exact Ta1  -- t9
        · first | exact Ta0 | exact Ta1  -- t10
        · refine and_5 ?_ (fun o9 => hE)  -- k11
          exact ⟨rfl, rfl, rfl, rfl, ou, os⟩
      · skip
        replace hE := rb_f5 hE c6
        refine ⟨?_, ?_⟩
        · rw [inb_iff]; omega  -- b12
        refine ⟨fun c7 => ?_, fun c7 => ?_⟩
        · skip
          replace hE := rb_f5 hE c7
          refine hj145 _ _ _ _ _ _ _ _ W97 ?_ ?_ ?_
          · first | exact Ta0 | exact Ta1  -- t13
          · first | exact Ta0 | exact Ta1  -- t14
          · refine and_5 ?_ (fun o9 => hE)  -- k15
            exact ⟨rfl, rfl, rfl, rfl, ou, os⟩
        · skip
          replace hE := rb_t5 hE c7
          have d6 : x97_9.toInt < x97_4.toInt := by rw [lei] at c6; omega
          have k7 := cnk o1
          have g := K x97_7.toNatClampNeg (by omega)
          have e7 : (zA κ (zR κ taLengths a0) x97_7.toNatClampNeg).toInt = x97_4.toInt := congrArg Int32.toInt c7
          have s9 := os (by omega)
          refine ⟨?_, ?_⟩
          · have e : (x97_5 + x97_9).toInt = x97_5.toInt + x97_9.toInt := add_i (by omega) (by omega)
            rw [inb_iff, e]; omega
          refine ⟨?_, ?_⟩
          · have e : (x97_8 + x97_9).toInt = x97_8.toInt + x97_9.toInt := add_i (by omega) (by omega)
            rw [inb_iff, e]; omega
          refine ⟨fun c8 => ?_, fun c8 => ?_⟩
          · skip
            replace hE := rb_f5 hE c8
            refine hj145 _ _ _ _ _ _ _ _ W97 ?_ ?_ ?_
            · first | exact Ta0 | exact Ta1  -- t18
            · first | exact Ta0 | exact Ta1  -- t19
            · refine and_5 ?_ (fun o9 => hE)  -- k20
              exact ⟨rfl, rfl, rfl, rfl, ou, os⟩
          · skip
            replace hE := rb_t5 hE c8
            intro x9 hx9
            replace hE := rb_p5 hE hx9
            refine lp_b5 ?_ (fun d9 => ⟨rfl, ?_⟩)
            · have e1 := inc_i (x := x97_9) (y := x97_4) o0 d6
              rw [hn97, hx9, e1]; omega
            · refine and_5 ?_ (fun o9 => ⟨m97, by omega, hE⟩)  -- i22
              have e1 := inc_i (x := x97_9) (y := x97_4) o0 d6
              exact ⟨rfl, rfl, rfl, rfl, by rw [hx9, e1]; omega, ⟨o1, o2, o3⟩, ou, os⟩
    refine ⟨fun c10 => ?_, fun c10 => ?_⟩
    · skip
      replace hE := rb_t5 hE c10
      refine h _ ?_
      · refine and_5 ?_ (fun o9 => hE.symm)  -- q23
        exact ⟨by decide, by rw [tmi]; omega, Or.inr rfl⟩
    · skip
      replace hE := rb_f5 hE c10
      refine ⟨fun c11 => ?_, fun c11 => ?_⟩
      · skip
        replace hE := rb_t5 hE c11
        refine h _ ?_
        · refine and_5 ?_ (fun o9 => hE.symm)  -- q24
          exact ⟨by decide, by rw [tmi]; omega, Or.inr rfl⟩
      · skip
        replace hE := rb_f5 hE c11
        have d10 : x44_6.toInt < a2.toInt := by rw [lei] at c10; omega
        have d11 : x44_6.toInt < zN κ a1 := by rw [lei, ofn_i nN] at c11; omega
        refine ⟨?_, ?_⟩
        · rw [inb_iff]; omega  -- b25
        refine ⟨fun c12 => ?_, fun c12 => ?_⟩
        · skip
          replace hE := rb_t5 hE c12
          refine hj83 _ _ _ _ _ _ _ _ W44 ?_ ?_ ?_
          · first | exact Ta0 | exact Ta1  -- t26
          · first | exact Ta0 | exact Ta1  -- t27
          · refine and_5 ?_ (fun o9 => hE)  -- k28
            exact ⟨rfl, rfl, rfl, rfl, ⟨by decide, by rw [t0i]; omega⟩, ⟨rfl, m0, d11, d10⟩, m1⟩
        · skip
          replace hE := rb_f5 hE c12
          refine ⟨?_, ?_⟩
          · rw [inb_iff]; omega  -- b29
          refine ⟨fun c13 => ?_, fun c13 => ?_⟩
          · skip
            replace hE := rb_t5 hE c13
            refine hj83 _ _ _ _ _ _ _ _ W44 ?_ ?_ ?_
            · first | exact Ta0 | exact Ta1  -- t30
            · first | exact Ta0 | exact Ta1  -- t31
            · refine and_5 ?_ (fun o9 => hE)  -- k32
              exact ⟨rfl, rfl, rfl, rfl, ⟨by decide, by rw [t0i]; omega⟩, ⟨rfl, m0, d11, d10⟩, m1⟩
          · skip
            replace hE := rb_f5 hE c13
            refine ⟨?_, ?_⟩
            · rw [inb_iff]; omega  -- b33
            refine hj83 _ _ _ _ _ _ _ _ W44 ?_ ?_ ?_
            · first | exact Ta0 | exact Ta1  -- t34
            · first | exact Ta0 | exact Ta1  -- t35
            · refine and_5 ?_ (fun o9 => hE)  -- k36
              rw [lti, t0i] at c12
              rw [lei] at c13
              exact ⟨rfl, rfl, rfl, rfl, ⟨by omega, by omega⟩, ⟨rfl, m0, d11, d10⟩, m1⟩
  have hj22 : ∀ (l0 : Nat) (l1 : Nat) (l2 : Int32) (l3 : Int32) (s0 : Int32) (τ : zS), zW C (zn κ) τ → zT τ l0 = 13 → zT τ l1 = 20 → ((κ = τ ∧ a0 = l0 ∧ a1 = l1 ∧ a2 = l2 ∧ a3 = l3 ∧ (0 < s0.toInt → 0 ≤ a3.toInt ∧ a3.toInt < (zI κ taTotal a0).toInt ∧ s0.toInt = (zA κ (zR κ taLengths a0) a3.toNatClampNeg).toInt)) ∧ f5_Ta_findName (tpT5 κ a0) (zA κ a1) (zN κ a1) a2 a3 = f5_Ta_findName_22 (tpT5 κ a0) (zA κ a1) (zN κ a1) l2 l3 s0) → w_Ta_findName_22 C (zn κ) Q  l0 l1 l2 l3 s0 τ := by
    rintro _ _ _ _ y22_s0 _ W22 T22_0 T22_1 ⟨⟨rfl, rfl, rfl, rfl, rfl, j22⟩, hE⟩
    unfold w_Ta_findName_22
    refine ⟨fun c14 => ?_, fun c14 => ?_⟩
    · skip
      replace hE := rb_t5 hE c14
      refine hj39 _ _ _ _ _ _ W22 ?_ ?_ ?_
      · first | exact Ta0 | exact Ta1  -- t37
      · first | exact Ta0 | exact Ta1  -- t38
      · refine and_5 ?_ (fun o9 => hE)  -- k39
        rw [lei, t0i] at c14
        exact ⟨rfl, rfl, rfl, rfl, fun z => by omega⟩
    · skip
      replace hE := rb_f5 hE c14
      have j9 := fun z => j22 z
      refine ⟨?_, ?_⟩
      · rw [lei, t0i] at c14
        have z := j22 (by omega)
        rw [inb_iff]; omega
      refine hj39 _ _ _ _ _ _ W22 ?_ ?_ ?_
      · first | exact Ta0 | exact Ta1  -- t41
      · first | exact Ta0 | exact Ta1  -- t42
      · refine and_5 ?_ (fun o9 => hE)  -- k43
        rw [lei, t0i] at c14
        have z := j22 (by omega)
        have k3 := cnk z.1
        have g := K a3.toNatClampNeg (by omega)
        exact ⟨rfl, rfl, rfl, rfl, fun _ => ⟨g.1, by omega⟩⟩
  have hE : f5_Ta_findName (tpT5 κ a0) (zA κ a1) (zN κ a1) a2 a3 = f5_Ta_findName (tpT5 κ a0) (zA κ a1) (zN κ a1) a2 a3 := rfl
  refine ⟨fun c15 => ?_, fun c15 => ?_⟩
  · skip
    replace hE := rb_t5 hE c15
    refine hj22 _ _ _ _ _ _ W ?_ ?_ ?_
    · first | exact Ta0 | exact Ta1  -- t44
    · first | exact Ta0 | exact Ta1  -- t45
    · refine and_5 ?_ (fun o9 => hE)  -- k46
      exact ⟨rfl, rfl, rfl, rfl, rfl, fun z => absurd z (by decide)⟩
  · skip
    replace hE := rb_f5 hE c15
    refine ⟨fun c16 => ?_, fun c16 => ?_⟩
    · skip
      replace hE := rb_t5 hE c16
      refine hj22 _ _ _ _ _ _ W ?_ ?_ ?_
      · first | exact Ta0 | exact Ta1  -- t47
      · first | exact Ta0 | exact Ta1  -- t48
      · refine and_5 ?_ (fun o9 => hE)  -- k49
        exact ⟨rfl, rfl, rfl, rfl, rfl, fun z => absurd z (by decide)⟩
    · skip
      replace hE := rb_f5 hE c16
      refine ⟨?_, ?_⟩
      · rw [lti, t0i] at c15
        rw [lei] at c16
        rw [inb_iff]; omega
      refine hj22 _ _ _ _ _ _ W ?_ ?_ ?_
      · first | exact Ta0 | exact Ta1  -- t51
      · first | exact Ta0 | exact Ta1  -- t52
      · refine and_5 ?_ (fun o9 => hE)  -- k53
        rw [lti, t0i] at c15
        rw [lei] at c16
        exact ⟨rfl, rfl, rfl, rfl, rfl, fun _ => ⟨by omega, by omega, rfl⟩⟩

theorem Pa_rankOf_q5 {C : zC} {n0 : Nat} {a0 : Int32} {κ : zS} {Q : Int32 → zS → Prop} (W : zW C n0 κ)   (h : ∀ (v : Int32), ((True) ∧ v = f5_Pa_rankOf a0) → Q v κ) : zRun C 0 mPa_rankOf [.int a0] κ (oI Q noX) := by
  refine Pa_rankOf_run W  ?_
  replace W := W.lo (Nat.le_trans W.1.2.1 W.1.2.2) (Nat.le_refl (zn κ))
  unfold w_Pa_rankOf_0
  have hE : f5_Pa_rankOf a0 = f5_Pa_rankOf a0 := rfl
  refine ⟨fun c1 => ?_, fun c1 => ?_⟩
  · skip
    replace hE := rb_t5 hE c1
    refine ⟨fun c2 => ?_, fun c2 => ?_⟩
    · skip
      replace hE := rb_t5 hE c2
      refine ⟨fun c3 => ?_, fun c3 => ?_⟩
      · skip
        replace hE := rb_t5 hE c3
        refine ⟨fun c4 => ?_, fun c4 => ?_⟩
        · skip
          replace hE := rb_t5 hE c4
          refine ⟨fun c5 => ?_, fun c5 => ?_⟩
          · skip
            replace hE := rb_f5 hE c5
            refine ⟨fun c6 => ?_, fun c6 => ?_⟩
            · skip
              replace hE := rb_f5 hE c6
              refine h _ ?_
              · refine and_5 ?_ (fun o9 => hE.symm)  -- q1
                trivial
            · skip
              replace hE := rb_t5 hE c6
              refine h _ ?_
              · refine and_5 ?_ (fun o9 => hE.symm)  -- q2
                trivial
          · skip
            replace hE := rb_t5 hE c5
            refine h _ ?_
            · refine and_5 ?_ (fun o9 => hE.symm)  -- q3
              trivial
        · skip
          replace hE := rb_f5 hE c4
          refine h _ ?_
          · refine and_5 ?_ (fun o9 => hE.symm)  -- q4
            trivial
      · skip
        replace hE := rb_f5 hE c3
        refine h _ ?_
        · refine and_5 ?_ (fun o9 => hE.symm)  -- q5
          trivial
    · skip
      replace hE := rb_f5 hE c2
      refine h _ ?_
      · refine and_5 ?_ (fun o9 => hE.symm)  -- q6
        trivial
  · skip
    replace hE := rb_f5 hE c1
    refine h _ ?_
    · refine and_5 ?_ (fun o9 => hE.symm)  -- q7
      trivial

theorem Pa_binary_q5 {C : zC} {n0 : Nat} {a0 : Int32} {κ : zS} {Q : Int32 → zS → Prop} (W : zW C n0 κ)   (h : ∀ (v : Int32), ((v = -1 ∨ a0 ≠ 142) ∧ v = f5_Pa_binary a0) → Q v κ) : zRun C 0 mPa_binary [.int a0] κ (oI Q noX) := by
  refine Pa_binary_run W  ?_
  replace W := W.lo (Nat.le_trans W.1.2.1 W.1.2.2) (Nat.le_refl (zn κ))
  unfold w_Pa_binary_0
  have hE : f5_Pa_binary a0 = f5_Pa_binary a0 := rfl
  refine ⟨fun c1 => ?_, fun c1 => ?_, fun c1 => ?_, fun c1 => ?_, fun c1 => ?_, fun c1 => ?_, fun c1 => ?_, fun c1 => ?_, fun c1 => ?_, fun c1 => ?_, fun c1 => ?_, fun c1 => ?_, fun c1 => ?_, fun c1 => ?_⟩
  · skip
    replace hE := (rb_f5 (rb_f5 (rb_f5 (rb_f5 (rb_f5 (rb_f5 (rb_f5 (rb_f5 (rb_f5 (rb_f5 (rb_f5 (rb_f5 (rb_f5 hE c1.1) c1.2.1) c1.2.2.1) c1.2.2.2.1) c1.2.2.2.2.1) c1.2.2.2.2.2.1) c1.2.2.2.2.2.2.1) c1.2.2.2.2.2.2.2.1) c1.2.2.2.2.2.2.2.2.1) c1.2.2.2.2.2.2.2.2.2.1) c1.2.2.2.2.2.2.2.2.2.2.1) c1.2.2.2.2.2.2.2.2.2.2.2.1) c1.2.2.2.2.2.2.2.2.2.2.2.2)
    refine h _ ?_
    · refine and_5 ?_ (fun o9 => hE.symm)  -- q1
      exact Or.inl rfl
  · skip
    replace hE := rb_t5 hE c1
    refine h _ ?_
    · refine and_5 ?_ (fun o9 => hE.symm)  -- q2
      exact Or.inr (fun e => by rw [e] at c1; exact absurd c1 (by decide))
  · skip
    replace hE := rb_t5 (rb_f5 hE (by rw [c1]; decide)) c1
    refine h _ ?_
    · refine and_5 ?_ (fun o9 => hE.symm)  -- q3
      exact Or.inr (fun e => by rw [e] at c1; exact absurd c1 (by decide))
  · skip
    replace hE := rb_t5 (rb_f5 (rb_f5 hE (by rw [c1]; decide)) (by rw [c1]; decide)) c1
    refine h _ ?_
    · refine and_5 ?_ (fun o9 => hE.symm)  -- q4
      exact Or.inr (fun e => by rw [e] at c1; exact absurd c1 (by decide))
  · skip
    replace hE := rb_t5 (rb_f5 (rb_f5 (rb_f5 hE (by rw [c1]; decide)) (by rw [c1]; decide)) (by rw [c1]; decide)) c1
    refine h _ ?_
    · refine and_5 ?_ (fun o9 => hE.symm)  -- q5
      exact Or.inr (fun e => by rw [e] at c1; exact absurd c1 (by decide))
  · skip
    replace hE := rb_t5 (rb_f5 (rb_f5 (rb_f5 (rb_f5 hE (by rw [c1]; decide)) (by rw [c1]; decide)) (by rw [c1]; decide)) (by rw [c1]; decide)) c1
    refine h _ ?_
    · refine and_5 ?_ (fun o9 => hE.symm)  -- q6
      exact Or.inr (fun e => by rw [e] at c1; exact absurd c1 (by decide))
  · skip
    replace hE := rb_t5 (rb_f5 (rb_f5 (rb_f5 (rb_f5 (rb_f5 hE (by rw [c1]; decide)) (by rw [c1]; decide)) (by rw [c1]; decide)) (by rw [c1]; decide)) (by rw [c1]; decide)) c1
    refine h _ ?_
    · refine and_5 ?_ (fun o9 => hE.symm)  -- q7
      exact Or.inr (fun e => by rw [e] at c1; exact absurd c1 (by decide))
  · skip
    replace hE := rb_t5 (rb_f5 (rb_f5 (rb_f5 (rb_f5 (rb_f5 (rb_f5 hE (by rw [c1]; decide)) (by rw [c1]; decide)) (by rw [c1]; decide)) (by rw [c1]; decide)) (by rw [c1]; decide)) (by rw [c1]; decide)) c1
    refine h _ ?_
    · refine and_5 ?_ (fun o9 => hE.symm)  -- q8
      exact Or.inr (fun e => by rw [e] at c1; exact absurd c1 (by decide))
  · skip
    replace hE := rb_t5 (rb_f5 (rb_f5 (rb_f5 (rb_f5 (rb_f5 (rb_f5 (rb_f5 hE (by rw [c1]; decide)) (by rw [c1]; decide)) (by rw [c1]; decide)) (by rw [c1]; decide)) (by rw [c1]; decide)) (by rw [c1]; decide)) (by rw [c1]; decide)) c1
    refine h _ ?_
    · refine and_5 ?_ (fun o9 => hE.symm)  -- q9
      exact Or.inr (fun e => by rw [e] at c1; exact absurd c1 (by decide))
  · skip
    replace hE := rb_t5 (rb_f5 (rb_f5 (rb_f5 (rb_f5 (rb_f5 (rb_f5 (rb_f5 (rb_f5 hE (by rw [c1]; decide)) (by rw [c1]; decide)) (by rw [c1]; decide)) (by rw [c1]; decide)) (by rw [c1]; decide)) (by rw [c1]; decide)) (by rw [c1]; decide)) (by rw [c1]; decide)) c1
    refine h _ ?_
    · refine and_5 ?_ (fun o9 => hE.symm)  -- q10
      exact Or.inr (fun e => by rw [e] at c1; exact absurd c1 (by decide))
  · skip
    replace hE := rb_t5 (rb_f5 (rb_f5 (rb_f5 (rb_f5 (rb_f5 (rb_f5 (rb_f5 (rb_f5 (rb_f5 hE (by rw [c1]; decide)) (by rw [c1]; decide)) (by rw [c1]; decide)) (by rw [c1]; decide)) (by rw [c1]; decide)) (by rw [c1]; decide)) (by rw [c1]; decide)) (by rw [c1]; decide)) (by rw [c1]; decide)) c1
    refine h _ ?_
    · refine and_5 ?_ (fun o9 => hE.symm)  -- q11
      exact Or.inr (fun e => by rw [e] at c1; exact absurd c1 (by decide))
  · skip
    replace hE := rb_t5 (rb_f5 (rb_f5 (rb_f5 (rb_f5 (rb_f5 (rb_f5 (rb_f5 (rb_f5 (rb_f5 (rb_f5 hE (by rw [c1]; decide)) (by rw [c1]; decide)) (by rw [c1]; decide)) (by rw [c1]; decide)) (by rw [c1]; decide)) (by rw [c1]; decide)) (by rw [c1]; decide)) (by rw [c1]; decide)) (by rw [c1]; decide)) (by rw [c1]; decide)) c1
    refine h _ ?_
    · refine and_5 ?_ (fun o9 => hE.symm)  -- q12
      exact Or.inr (fun e => by rw [e] at c1; exact absurd c1 (by decide))
  · skip
    replace hE := rb_t5 (rb_f5 (rb_f5 (rb_f5 (rb_f5 (rb_f5 (rb_f5 (rb_f5 (rb_f5 (rb_f5 (rb_f5 (rb_f5 hE (by rw [c1]; decide)) (by rw [c1]; decide)) (by rw [c1]; decide)) (by rw [c1]; decide)) (by rw [c1]; decide)) (by rw [c1]; decide)) (by rw [c1]; decide)) (by rw [c1]; decide)) (by rw [c1]; decide)) (by rw [c1]; decide)) (by rw [c1]; decide)) c1
    refine h _ ?_
    · refine and_5 ?_ (fun o9 => hE.symm)  -- q13
      exact Or.inr (fun e => by rw [e] at c1; exact absurd c1 (by decide))
  · skip
    replace hE := rb_t5 (rb_f5 (rb_f5 (rb_f5 (rb_f5 (rb_f5 (rb_f5 (rb_f5 (rb_f5 (rb_f5 (rb_f5 (rb_f5 (rb_f5 hE (by rw [c1]; decide)) (by rw [c1]; decide)) (by rw [c1]; decide)) (by rw [c1]; decide)) (by rw [c1]; decide)) (by rw [c1]; decide)) (by rw [c1]; decide)) (by rw [c1]; decide)) (by rw [c1]; decide)) (by rw [c1]; decide)) (by rw [c1]; decide)) (by rw [c1]; decide)) c1
    refine h _ ?_
    · refine and_5 ?_ (fun o9 => hE.symm)  -- q14
      exact Or.inr (fun e => by rw [e] at c1; exact absurd c1 (by decide))
