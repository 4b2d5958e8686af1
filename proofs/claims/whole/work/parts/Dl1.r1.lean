section
set_option maxHeartbeats 1600000
/-! the reference: tokens -/
def g5_word (a0 : Int32) (a1 : Int32) (a2 : Int32) (a3 : Int32) (a4 : Int32) (a5 : Int32) (a6 : Int32) (σ : rS) : Int64 := ((((((((a0).toInt64 <<< (((56 : Int32)).toInt64 &&& 63)) ||| ((a1).toInt64 <<< (((48 : Int32)).toInt64 &&& 63))) ||| ((a2).toInt64 <<< (((40 : Int32)).toInt64 &&& 63))) ||| ((a3).toInt64 <<< (((32 : Int32)).toInt64 &&& 63))) ||| ((a4).toInt64 <<< (((24 : Int32)).toInt64 &&& 63))) ||| ((a5).toInt64 <<< (((16 : Int32)).toInt64 &&& 63))) ||| ((a6).toInt64 <<< (((8 : Int32)).toInt64 &&& 63)))

def g5_shortWord (a0 : Int64) (σ : rS) : Int32 := pb5 (g5_word ((118 : Int32)) ((97 : Int32)) ((114 : Int32)) ((0 : Int32)) ((0 : Int32)) ((0 : Int32)) ((0 : Int32)) σ) (fun r2 => (if (lg_cmp a0 r2) = 0 then (1 : Int32) else pb5 (g5_word ((97 : Int32)) ((114 : Int32)) ((114 : Int32)) ((0 : Int32)) ((0 : Int32)) ((0 : Int32)) ((0 : Int32)) σ) (fun r4 => (if (lg_cmp a0 r4) = 0 then (2 : Int32) else pb5 (g5_word ((102 : Int32)) ((117 : Int32)) ((110 : Int32)) ((99 : Int32)) ((0 : Int32)) ((0 : Int32)) ((0 : Int32)) σ) (fun r6 => (if (lg_cmp a0 r6) = 0 then (3 : Int32) else pb5 (g5_word ((105 : Int32)) ((102 : Int32)) ((0 : Int32)) ((0 : Int32)) ((0 : Int32)) ((0 : Int32)) ((0 : Int32)) σ) (fun r8 => (if (lg_cmp a0 r8) = 0 then (5 : Int32) else pb5 (g5_word ((101 : Int32)) ((108 : Int32)) ((115 : Int32)) ((101 : Int32)) ((0 : Int32)) ((0 : Int32)) ((0 : Int32)) σ) (fun r10 => (if (lg_cmp a0 r10) = 0 then (6 : Int32) else pb5 (g5_word ((103 : Int32)) ((97 : Int32)) ((105 : Int32)) ((110 : Int32)) ((0 : Int32)) ((0 : Int32)) ((0 : Int32)) σ) (fun r12 => (if (lg_cmp a0 r12) = 0 then (10 : Int32) else pb5 (g5_word ((112 : Int32)) ((105 : Int32)) ((99 : Int32)) ((107 : Int32)) ((0 : Int32)) ((0 : Int32)) ((0 : Int32)) σ) (fun r14 => (if (lg_cmp a0 r14) = 0 then (11 : Int32) else pb5 (g5_word ((102 : Int32)) ((108 : Int32)) ((105 : Int32)) ((112 : Int32)) ((0 : Int32)) ((0 : Int32)) ((0 : Int32)) σ) (fun r16 => (if (lg_cmp a0 r16) = 0 then (12 : Int32) else (0 : Int32)))))))))))))))))

def g5_wordOf (a0 : Int64) (σ : rS) : Int32 := pb5 (g5_shortWord (a0) σ) (fun r2 => (if r2 ≤ 0 then pb5 (g5_word ((108 : Int32)) ((111 : Int32)) ((99 : Int32)) ((97 : Int32)) ((108 : Int32)) ((0 : Int32)) ((0 : Int32)) σ) (fun r4 => (if (lg_cmp a0 r4) = 0 then (4 : Int32) else pb5 (g5_word ((119 : Int32)) ((104 : Int32)) ((105 : Int32)) ((108 : Int32)) ((101 : Int32)) ((0 : Int32)) ((0 : Int32)) σ) (fun r6 => (if (lg_cmp a0 r6) = 0 then (7 : Int32) else pb5 (g5_word ((114 : Int32)) ((101 : Int32)) ((116 : Int32)) ((117 : Int32)) ((114 : Int32)) ((110 : Int32)) ((0 : Int32)) σ) (fun r8 => (if (lg_cmp a0 r8) = 0 then (8 : Int32) else pb5 (g5_word ((111 : Int32)) ((98 : Int32)) ((115 : Int32)) ((101 : Int32)) ((114 : Int32)) ((118 : Int32)) ((101 : Int32)) σ) (fun r10 => (if (lg_cmp a0 r10) = 0 then (9 : Int32) else pb5 (g5_word ((99 : Int32)) ((104 : Int32)) ((111 : Int32)) ((111 : Int32)) ((115 : Int32)) ((101 : Int32)) ((0 : Int32)) σ) (fun r12 => (if (lg_cmp a0 r12) = 0 then (13 : Int32) else (0 : Int32))))))))))) else r2))

def g5_takeName_125 (B2 : Int32 → Int32 → Int32 → rS → rS × Int32) (a1 : Int32) (a2 : Int32) (a3 : Int32) (s1 : Int32) (s2 : Int32) (σ : rS) : rS × Int32 := pb5 (riU σ 9 (s1).toNatClampNeg s2) (fun σ1 => pb5 (a3 + (1 : Int32)) (fun v3_2 => (B2 (a1) (a2) (v3_2) (σ1))))
def g5_takeName_119 (B2 : Int32 → Int32 → Int32 → rS → rS × Int32) (a1 : Int32) (a2 : Int32) (a3 : Int32) (s1 : Int32) (σ : rS) : rS × Int32 := (g5_takeName_125 B2 (a1) (a2) (a3) (s1) ((σ.2.2.1 9 (a1).toNatClampNeg)) (σ))
def g5_takeName_72 (B2 : Int32 → Int32 → Int32 → rS → rS × Int32) (a1 : Int32) (a2 : Int32) (a3 : Int32) (a4 : Int32) (s1 : Int32) (s2 : Int64) (σ : rS) : rS × Int32 := pb5 (rlU σ 8 (s1).toNatClampNeg s2) (fun σ1 => (if a4 < (8 : Int32) then (g5_takeName_119 B2 (a1) (a2) (a3) (a1) (σ1)) else (if (12 : Int32) ≤ a4 then (g5_takeName_119 B2 (a1) (a2) (a3) (a1) (σ1)) else pb5 (g5_byteAt (a3) σ1) (fun r3 => (g5_takeName_125 B2 (a1) (a2) (a3) (a1) (((σ1.2.2.1 9 (a1).toNatClampNeg) ||| (r3 <<< (((24 : Int32) - ((8 : Int32) * (a4 - (8 : Int32)))) &&& 31)))) (σ1))))))
def g5_takeName_24 (B2 : Int32 → Int32 → Int32 → rS → rS × Int32) (a1 : Int32) (a2 : Int32) (a3 : Int32) (σ : rS) : rS × Int32 := pb5 ((a3 - a2)) (fun v4_1 => (if (8 : Int32) ≤ v4_1 then (g5_takeName_72 B2 (a1) (a2) (a3) (v4_1) (a1) ((σ.2.2.2 8 (a1).toNatClampNeg)) (σ)) else pb5 (g5_byteAt (a3) σ) (fun r3 => (g5_takeName_72 B2 (a1) (a2) (a3) (v4_1) (a1) (((σ.2.2.2 8 (a1).toNatClampNeg) ||| ((r3).toInt64 <<< ((((56 : Int32) - ((8 : Int32) * v4_1))).toInt64 &&& 63)))) (σ)))))
def g5_takeName_159 (a1 : Int32) (a2 : Int32) (a3 : Int32) (s1 : Int32) (s2 : Int32) (σ : rS) : rS × Int32 := pb5 (riU σ 7 (s1).toNatClampNeg s2) (fun σ1 => (if (a3 - a2) ≤ (12 : Int32) then (if (σ1.2.2.1 7 (a1).toNatClampNeg) ≤ 0 then pb5 (riU σ1 5 (a1).toNatClampNeg (vp_nar .byte ((1 : Int32)).toInt8.toInt32)) (fun σ2 => (σ2, a3)) else pb5 (riU σ1 5 (a1).toNatClampNeg (vp_nar .byte ((6 : Int32)).toInt8.toInt32)) (fun σ3 => (σ3, a3))) else pb5 (riU σ1 5 (a1).toNatClampNeg (vp_nar .byte ((4 : Int32)).toInt8.toInt32)) (fun σ4 => (σ4, a3))))
def g5_takeName_2  : Nat → Int32 → Int32 → Int32 → rS → rS × Int32
  | 0, _, _, _, σ => (σ, 0)
  | m5 + 1, a1, a2, a3, σ => pb5 (g5_byteAt (a3) σ) (fun r2 => pb5 (g5_isLetter (r2) σ) (fun r4 => (if r4 = 0 then pb5 (g5_byteAt (a3) σ) (fun r6 => pb5 (g5_isDigit (r6) σ) (fun r8 => (if r8 = 0 then (if (σ.2.2.1 9 (a1).toNatClampNeg) = 0 then pb5 (g5_wordOf ((σ.2.2.2 8 (a1).toNatClampNeg)) σ) (fun r10 => (g5_takeName_159 (a1) (a2) (a3) (a1) (r10) (σ))) else (g5_takeName_159 (a1) (a2) (a3) (a1) ((0 : Int32)) (σ))) else (g5_takeName_24 (g5_takeName_2 m5) (a1) (a2) (a3) (σ))))) else (g5_takeName_24 (g5_takeName_2 m5) (a1) (a2) (a3) (σ)))))
def g5_takeName (a1 : Int32) (a2 : Int32) (σ : rS) : rS × Int32 := (g5_takeName_2 fu5 (a1) (a2) (a2) (σ))

def g5_take_122 (B68 : Int32 → Int32 → Int32 → rS → rS × Int32) (a1 : Int32) (a2 : Int32) (a4 : Int32) (s1 : Int32) (s2 : Int32) (σ : rS) : rS × Int32 := pb5 (riU σ 7 (s1).toNatClampNeg s2) (fun σ1 => pb5 (a4 + (1 : Int32)) (fun v4_2 => (B68 (a1) (a2) (v4_2) (σ1))))
def g5_take_68  : Nat → Int32 → Int32 → Int32 → rS → rS × Int32
  | 0, _, _, _, σ => (σ, 0)
  | m5 + 1, a1, a2, a4, σ => pb5 (g5_byteAt (a4) σ) (fun r2 => pb5 (g5_isDigit (r2) σ) (fun r4 => (if r4 = 0 then (if (a4 - a1) ≤ (9 : Int32) then pb5 (riU σ 5 (a2).toNatClampNeg (vp_nar .byte ((2 : Int32)).toInt8.toInt32)) (fun σ5 => (σ5, a4)) else pb5 (riU σ 5 (a2).toNatClampNeg (vp_nar .byte ((4 : Int32)).toInt8.toInt32)) (fun σ6 => (σ6, a4))) else (if (9 : Int32) ≤ (a4 - a1) then (g5_take_122 (g5_take_68 m5) (a1) (a2) (a4) (a2) ((σ.2.2.1 7 (a2).toNatClampNeg)) (σ)) else pb5 (g5_byteAt (a4) σ) (fun r8 => (g5_take_122 (g5_take_68 m5) (a1) (a2) (a4) (a2) (((((10 : Int32) * (σ.2.2.1 7 (a2).toNatClampNeg)) + r8) - (48 : Int32))) (σ)))))))
def g5_take_268 (a1 : Int32) (a4 : Int32) (s1 : Int32) (s2 : Int32) (σ : rS) : rS × Int32 := pb5 (riU σ 7 (s1).toNatClampNeg s2) (fun σ1 => (if a4 = 0 then (σ1, (a1 + (1 : Int32))) else (σ1, (a1 + (2 : Int32)))))
def g5_take_213 (a1 : Int32) (a2 : Int32) (a3 : Int32) (a4 : Int32) (s1 : Int32) (s2 : Int32) (σ : rS) : rS × Int32 := pb5 (riU σ 5 (s1).toNatClampNeg (vp_nar .byte (s2).toInt8.toInt32)) (fun σ1 => (if a4 = 0 then (g5_take_268 (a1) (a4) (a2) (a3) (σ1)) else (if a3 = (61 : Int32) then (g5_take_268 (a1) (a4) (a2) ((256 : Int32)) (σ1)) else (if a3 = (33 : Int32) then (g5_take_268 (a1) (a4) (a2) ((257 : Int32)) (σ1)) else (if a3 = (60 : Int32) then (g5_take_268 (a1) (a4) (a2) ((258 : Int32)) (σ1)) else (g5_take_268 (a1) (a4) (a2) ((259 : Int32)) (σ1)))))))
def g5_take_194 (a1 : Int32) (a2 : Int32) (a3 : Int32) (s0 : Int32) (σ : rS) : rS × Int32 := pb5 (g5_isSign (a3) σ) (fun r2 => (if r2 = 0 then (g5_take_213 (a1) (a2) (a3) (s0) (a2) ((4 : Int32)) (σ)) else (g5_take_213 (a1) (a2) (a3) (s0) (a2) ((3 : Int32)) (σ))))
def g5_take (a1 : Int32) (σ : rS) : rS × Int32 := pb5 (((σ.1 3) + (σ.1 4))) (fun v2_1 => pb5 (riU σ 6 (v2_1).toNatClampNeg a1) (fun σ2 => pb5 (riU σ2 7 (v2_1).toNatClampNeg (0 : Int32)) (fun σ3 => pb5 (rlU σ3 8 (v2_1).toNatClampNeg (0 : Int64)) (fun σ4 => pb5 (riU σ4 9 (v2_1).toNatClampNeg (0 : Int32)) (fun σ5 => pb5 (g5_byteAt (a1) σ5) (fun r7 => pb5 (g5_isLetter (r7) σ5) (fun r9 => (if r9 = 0 then pb5 (g5_isDigit (r7) σ5) (fun r11 => (if r11 = 0 then pb5 (g5_byteAt ((a1 + (1 : Int32))) σ5) (fun r13 => (if r13 = (61 : Int32) then (if r7 = (61 : Int32) then (g5_take_194 (a1) (v2_1) (r7) ((1 : Int32)) (σ5)) else (if r7 = (33 : Int32) then (g5_take_194 (a1) (v2_1) (r7) ((1 : Int32)) (σ5)) else (if r7 = (60 : Int32) then (g5_take_194 (a1) (v2_1) (r7) ((1 : Int32)) (σ5)) else (if r7 = (62 : Int32) then (g5_take_194 (a1) (v2_1) (r7) ((1 : Int32)) (σ5)) else (g5_take_194 (a1) (v2_1) (r7) ((0 : Int32)) (σ5)))))) else (g5_take_194 (a1) (v2_1) (r7) ((0 : Int32)) (σ5)))) else (g5_take_68 fu5 (a1) (v2_1) (a1) (σ5)))) else pm5 (g5_takeName (v2_1) (a1) σ5) (fun σ14 r15 => (σ14, r15))))))))))

def g5_cutTape_58 (B13 : Int32 → Int32 → rS → rS) (a1 : Int32) (s0 : Int32) (σ : rS) : rS := pb5 (siU σ 4 ((σ.1 4) + (1 : Int32))) (fun σ1 => (B13 (a1) (s0) (σ1)))
def g5_cutTape_72  (σ : rS) : rS := pb5 (riU σ 5 (((σ.1 3) + (σ.1 4))).toNatClampNeg (vp_nar .byte (5 : Int32))) (fun σ1 => pb5 (riU σ1 6 (((σ1.1 3) + (σ1.1 4))).toNatClampNeg (σ1.1 2)) (fun σ2 => pb5 (riU σ2 7 (((σ2.1 3) + (σ2.1 4))).toNatClampNeg (0 : Int32)) (fun σ3 => σ3)))
def g5_cutTape_13  : Nat → Int32 → Int32 → rS → rS
  | 0, _, _, σ => σ
  | m5 + 1, a1, a2, σ => (if (σ.1 2) ≤ a1 then (g5_cutTape_72 (σ)) else (if a2 = 0 then pm5 (g5_take (a1) σ) (fun σ1 r2 => pb5 (g5_skip (r2) σ1) (fun r4 => (if (σ1.2.2.1 5 (((σ1.1 3) + (σ1.1 4))).toNatClampNeg) = (4 : Int32) then (g5_cutTape_58 (g5_cutTape_13 m5) (r4) ((1 : Int32)) (σ1)) else (g5_cutTape_58 (g5_cutTape_13 m5) (r4) ((0 : Int32)) (σ1))))) else (g5_cutTape_72 (σ))))
def g5_cutTape  (σ : rS) : rS := pb5 (siU σ 4 (0 : Int32)) (fun σ1 => pb5 (g5_skip ((0 : Int32)) σ1) (fun r3 => (g5_cutTape_13 fu5 (r3) ((0 : Int32)) (σ1))))

theorem word_g5 {C : rCx} (hC : cOK C)  {σ : rS} {a0 : Int32} {a1 : Int32} {a2 : Int32} {a3 : Int32} {a4 : Int32} {a5 : Int32} {a6 : Int32} {Q : Int64 → rS → Prop} (h : ∀ (v : Int64), ((True) ∧ v = g5_word a0 a1 a2 a3 a4 a5 a6 σ) → Q v σ) : cJ C 0 m_word [.int a0, .int a1, .int a2, .int a3, .int a4, .int a5, .int a6] σ Q := by
  refine m_word_run hC ?_
  unfold w_word_0
  have hE : g5_word a0 a1 a2 a3 a4 a5 a6 σ = g5_word a0 a1 a2 a3 a4 a5 a6 σ := rfl
  refine h _ ?_
  · refine and_5 ?_ (fun o9 => hE.symm)  -- q1
    clear h hE; trivial

theorem shortWord_g5 {C : rCx} (hC : cOK C)  {σ : rS} {a0 : Int64} {Q : Int32 → rS → Prop} (h : ∀ (v : Int32), ((True) ∧ v = g5_shortWord a0 σ) → Q v σ) : cI C 1 m_shortWord [.long a0] σ Q := by
  refine m_shortWord_run hC ?_
  unfold w_shortWord_0
  have hE : g5_shortWord a0 σ = g5_shortWord a0 σ := rfl
  refine word_g5 hC  (fun r1 q3 => ?_)
  obtain ⟨q3, z9⟩ := q3
  replace hE := rb_p5 hE z9
  clear z9
  refine ⟨fun c4 => ?_, fun c4 => ?_⟩
  · skip
    replace hE := rb_f5 hE c4
    refine word_g5 hC  (fun r5 q7 => ?_)
    obtain ⟨q7, z9⟩ := q7
    replace hE := rb_p5 hE z9
    clear z9
    refine ⟨fun c8 => ?_, fun c8 => ?_⟩
    · skip
      replace hE := rb_f5 hE c8
      refine word_g5 hC  (fun r9 q11 => ?_)
      obtain ⟨q11, z9⟩ := q11
      replace hE := rb_p5 hE z9
      clear z9
      refine ⟨fun c12 => ?_, fun c12 => ?_⟩
      · skip
        replace hE := rb_f5 hE c12
        refine word_g5 hC  (fun r13 q15 => ?_)
        obtain ⟨q15, z9⟩ := q15
        replace hE := rb_p5 hE z9
        clear z9
        refine ⟨fun c16 => ?_, fun c16 => ?_⟩
        · skip
          replace hE := rb_f5 hE c16
          refine word_g5 hC  (fun r17 q19 => ?_)
          obtain ⟨q19, z9⟩ := q19
          replace hE := rb_p5 hE z9
          clear z9
          refine ⟨fun c20 => ?_, fun c20 => ?_⟩
          · skip
            replace hE := rb_f5 hE c20
            refine word_g5 hC  (fun r21 q23 => ?_)
            obtain ⟨q23, z9⟩ := q23
            replace hE := rb_p5 hE z9
            clear z9
            refine ⟨fun c24 => ?_, fun c24 => ?_⟩
            · skip
              replace hE := rb_f5 hE c24
              refine word_g5 hC  (fun r25 q27 => ?_)
              obtain ⟨q27, z9⟩ := q27
              replace hE := rb_p5 hE z9
              clear z9
              refine ⟨fun c28 => ?_, fun c28 => ?_⟩
              · skip
                replace hE := rb_f5 hE c28
                refine word_g5 hC  (fun r29 q31 => ?_)
                obtain ⟨q31, z9⟩ := q31
                replace hE := rb_p5 hE z9
                clear z9
                refine ⟨fun c32 => ?_, fun c32 => ?_⟩
                · skip
                  replace hE := rb_f5 hE c32
                  refine h _ ?_
                  · refine and_5 ?_ (fun o9 => hE.symm)  -- q1
                    clear h hE; trivial
                · skip
                  replace hE := rb_t5 hE c32
                  refine h _ ?_
                  · refine and_5 ?_ (fun o9 => hE.symm)  -- q2
                    clear h hE; trivial
              · skip
                replace hE := rb_t5 hE c28
                refine h _ ?_
                · refine and_5 ?_ (fun o9 => hE.symm)  -- q3
                  clear h hE; trivial
            · skip
              replace hE := rb_t5 hE c24
              refine h _ ?_
              · refine and_5 ?_ (fun o9 => hE.symm)  -- q4
                clear h hE; trivial
          · skip
            replace hE := rb_t5 hE c20
            refine h _ ?_
            · refine and_5 ?_ (fun o9 => hE.symm)  -- q5
              clear h hE; trivial
        · skip
          replace hE := rb_t5 hE c16
          refine h _ ?_
          · refine and_5 ?_ (fun o9 => hE.symm)  -- q6
            clear h hE; trivial
      · skip
        replace hE := rb_t5 hE c12
        refine h _ ?_
        · refine and_5 ?_ (fun o9 => hE.symm)  -- q7
          clear h hE; trivial
    · skip
      replace hE := rb_t5 hE c8
      refine h _ ?_
      · refine and_5 ?_ (fun o9 => hE.symm)  -- q8
        clear h hE; trivial
  · skip
    replace hE := rb_t5 hE c4
    refine h _ ?_
    · refine and_5 ?_ (fun o9 => hE.symm)  -- q9
      clear h hE; trivial

theorem wordOf_g5 {C : rCx} (hC : cOK C)  {σ : rS} {a0 : Int64} {Q : Int32 → rS → Prop} (h : ∀ (v : Int32), ((True) ∧ v = g5_wordOf a0 σ) → Q v σ) : cI C 2 m_wordOf [.long a0] σ Q := by
  refine m_wordOf_run hC ?_
  unfold w_wordOf_0
  have hE : g5_wordOf a0 σ = g5_wordOf a0 σ := rfl
  refine shortWord_g5 hC  (fun r1 q3 => ?_)
  obtain ⟨q3, z9⟩ := q3
  replace hE := rb_p5 hE z9
  clear z9
  refine ⟨fun c4 => ?_, fun c4 => ?_⟩
  · skip
    replace hE := rb_t5 hE c4
    refine word_g5 hC  (fun r5 q7 => ?_)
    obtain ⟨q7, z9⟩ := q7
    replace hE := rb_p5 hE z9
    clear z9
    refine ⟨fun c8 => ?_, fun c8 => ?_⟩
    · skip
      replace hE := rb_f5 hE c8
      refine word_g5 hC  (fun r9 q11 => ?_)
      obtain ⟨q11, z9⟩ := q11
      replace hE := rb_p5 hE z9
      clear z9
      refine ⟨fun c12 => ?_, fun c12 => ?_⟩
      · skip
        replace hE := rb_f5 hE c12
        refine word_g5 hC  (fun r13 q15 => ?_)
        obtain ⟨q15, z9⟩ := q15
        replace hE := rb_p5 hE z9
        clear z9
        refine ⟨fun c16 => ?_, fun c16 => ?_⟩
        · skip
          replace hE := rb_f5 hE c16
          refine word_g5 hC  (fun r17 q19 => ?_)
          obtain ⟨q19, z9⟩ := q19
          replace hE := rb_p5 hE z9
          clear z9
          refine ⟨fun c20 => ?_, fun c20 => ?_⟩
          · skip
            replace hE := rb_f5 hE c20
            refine word_g5 hC  (fun r21 q23 => ?_)
            obtain ⟨q23, z9⟩ := q23
            replace hE := rb_p5 hE z9
            clear z9
            refine ⟨fun c24 => ?_, fun c24 => ?_⟩
            · skip
              replace hE := rb_f5 hE c24
              refine h _ ?_
              · refine and_5 ?_ (fun o9 => hE.symm)  -- q1
                clear h hE; trivial
            · skip
              replace hE := rb_t5 hE c24
              refine h _ ?_
              · refine and_5 ?_ (fun o9 => hE.symm)  -- q2
                clear h hE; trivial
          · skip
            replace hE := rb_t5 hE c20
            refine h _ ?_
            · refine and_5 ?_ (fun o9 => hE.symm)  -- q3
              clear h hE; trivial
        · skip
          replace hE := rb_t5 hE c16
          refine h _ ?_
          · refine and_5 ?_ (fun o9 => hE.symm)  -- q4
            clear h hE; trivial
      · skip
        replace hE := rb_t5 hE c12
        refine h _ ?_
        · refine and_5 ?_ (fun o9 => hE.symm)  -- q5
          clear h hE; trivial
    · skip
      replace hE := rb_t5 hE c8
      refine h _ ?_
      · refine and_5 ?_ (fun o9 => hE.symm)  -- q6
        clear h hE; trivial
  · skip
    replace hE := rb_f5 hE c4
    refine h _ ?_
    · refine and_5 ?_ (fun o9 => hE.symm)  -- q7
      clear h hE; trivial

theorem takeName_g5 {C : rCx} (hC : cOK C)  {σ : rS} {a1 : Int32} {a2 : Int32} {Q : Int32 → rS → Prop} (hp : 0 ≤ a1 ∧ a1 < 131074 ∧ 0 ≤ a2 ∧ a2 ≤ σ.1 2 ∧ σ.1 2 ≤ 65536 ∧ lett (bAt (σ.1 2) (σ.2.2.1 1) a2)) (h : ∀ (v : Int32) (σ' : rS), ((((∀ k,  σ'.1 k = σ.1 k) ∧ (∀ k,  σ'.2.1 k = σ.2.1 k) ∧ (∀ k, k ≠ 5 → k ≠ 7 → k ≠ 9 → σ'.2.2.1 k = σ.2.2.1 k) ∧ (∀ k j, k ≠ 5 → k ≠ 7 → k ≠ 9 → σ'.2.2.1 k j = σ.2.2.1 k j) ∧ (∀ k j, k ≠ 8 → σ'.2.2.2 k j = σ.2.2.2 k j)) ∧ onlyAt a1 σ σ' ∧ a2 < v ∧ v ≤ σ.1 2) ∧ g5_takeName a1 a2 σ = (σ', v)) → Q v σ') : cI C 3 m_takeName [.ref (co C), .int a1, .int a2] σ Q := by
  refine m_takeName_run hC ?_
  unfold w_takeName_0
  have hj159 : ∀ (l1 : Int32) (l2 : Int32) (l3 : Int32) (s1 : Int32) (s2 : Int32) (τ : rS), ((l1 = a1 ∧ l2 = a2 ∧ ((∀ k,  τ.1 k = σ.1 k) ∧ (∀ k,  τ.2.1 k = σ.2.1 k) ∧ (∀ k, k ≠ 9 → τ.2.2.1 k = σ.2.2.1 k) ∧ (∀ k j, k ≠ 9 → τ.2.2.1 k j = σ.2.2.1 k j) ∧ (∀ k j, k ≠ 8 → τ.2.2.2 k j = σ.2.2.2 k j)) ∧ onlyAt a1 σ τ ∧ a2 < l3 ∧ l3 ≤ σ.1 2 ∧ s1 = a1) ∧ g5_takeName a1 a2 σ = g5_takeName_159 l1 l2 l3 s1 s2 τ) → w_takeName_159 C Q  l1 l2 l3 s1 s2 τ := by
    rintro y159_1 y159_2 y159_3 y159_s1 y159_s2 τ159 ⟨j159, hE⟩
    unfold w_takeName_159
    refine ⟨ib_131074.mpr ?_, ?_⟩
    · clear h hE; grind (splits := 24) [si1, si2, ri1, ri2, ri3, ri34, ri5, rl1, rl2, rl3, rl3a, rl4, rl45, onlyAt, nb]  -- b1
    intro σ_1 hσ_1
    replace hE := rb_p5 hE hσ_1
    refine ⟨fun c2 => ?_, fun c2 => ?_⟩
    · skip
      replace hE := rb_t5 hE c2
      refine ⟨ib_131074.mpr ?_, ?_⟩
      · clear h hE; grind (splits := 24) [si1, si2, ri1, ri2, ri3, ri34, ri5, rl1, rl2, rl3, rl3a, rl4, rl45, onlyAt, nb]  -- b2
      refine ⟨fun c3 => ?_, fun c3 => ?_⟩
      · skip
        replace hE := rb_t5 hE c3
        refine ⟨ib_131074.mpr ?_, ?_⟩
        · clear h hE; grind (splits := 24) [si1, si2, ri1, ri2, ri3, ri34, ri5, rl1, rl2, rl3, rl3a, rl4, rl45, onlyAt, nb]  -- b3
        intro σ_4 hσ_4
        replace hE := rb_p5 hE hσ_4
        refine h _ _ ?_
        · refine and_5 ?_ (fun o9 => hE)  -- q4
          clear h hE; grind (splits := 24) [si1, si2, ri1, ri2, ri3, ri34, ri5, rl1, rl2, rl3, rl3a, rl4, rl45, onlyAt, nb]
      · skip
        replace hE := rb_f5 hE c3
        refine ⟨ib_131074.mpr ?_, ?_⟩
        · clear h hE; grind (splits := 24) [si1, si2, ri1, ri2, ri3, ri34, ri5, rl1, rl2, rl3, rl3a, rl4, rl45, onlyAt, nb]  -- b5
        intro σ_5 hσ_5
        replace hE := rb_p5 hE hσ_5
        refine h _ _ ?_
        · refine and_5 ?_ (fun o9 => hE)  -- q6
          clear h hE; grind (splits := 24) [si1, si2, ri1, ri2, ri3, ri34, ri5, rl1, rl2, rl3, rl3a, rl4, rl45, onlyAt, nb]
    · skip
      replace hE := rb_f5 hE c2
      refine ⟨ib_131074.mpr ?_, ?_⟩
      · clear h hE; grind (splits := 24) [si1, si2, ri1, ri2, ri3, ri34, ri5, rl1, rl2, rl3, rl3a, rl4, rl45, onlyAt, nb]  -- b7
      intro σ_6 hσ_6
      replace hE := rb_p5 hE hσ_6
      refine h _ _ ?_
      · refine and_5 ?_ (fun o9 => hE)  -- q8
        clear h hE; grind (splits := 24) [si1, si2, ri1, ri2, ri3, ri34, ri5, rl1, rl2, rl3, rl3a, rl4, rl45, onlyAt, nb]
  have hE : g5_takeName a1 a2 σ = g5_takeName a1 a2 σ := rfl
  unfold w_takeName_2
  refine ⟨fun n l1 l2 l3 τ => n = (σ.1 2 - l3).toNatClampNeg ∧ ((l1 = a1 ∧ l2 = a2 ∧ ((∀ k,  τ.1 k = σ.1 k) ∧ (∀ k,  τ.2.1 k = σ.2.1 k) ∧ (∀ k, k ≠ 9 → τ.2.2.1 k = σ.2.2.1 k) ∧ (∀ k j, k ≠ 9 → τ.2.2.1 k j = σ.2.2.1 k j) ∧ (∀ k j, k ≠ 8 → τ.2.2.2 k j = σ.2.2.2 k j)) ∧ onlyAt a1 σ τ ∧ a2 ≤ l3 ∧ l3 ≤ σ.1 2 ∧ (a2 = l3 → lett (bAt (σ.1 2) (σ.2.2.1 1) l3))) ∧ ∃ m5, n < m5 ∧ g5_takeName a1 a2 σ = g5_takeName_2 m5 l1 l2 l3 τ), ⟨_, rfl, ?_⟩, ?_⟩
  · refine and_5 ?_ (fun o9 => ⟨fu5, cnb5, hE⟩)  -- j9
    clear h hE; grind (splits := 24) [si1, si2, ri1, ri2, ri3, ri34, ri5, rl1, rl2, rl3, rl3a, rl4, rl45, onlyAt, nb]
  rintro n2 x2_1 x2_2 x2_3 σ2 ⟨hn2, i2, m2, hm2, hE⟩
  obtain ⟨m2, rfl⟩ : ∃ m9, m2 = m9 + 1 := ⟨m2 - 1, by clear h hE; omega⟩
  have hj125 : ∀ (l1 : Int32) (l2 : Int32) (l3 : Int32) (s1 : Int32) (s2 : Int32) (τ : rS), ((l1 = a1 ∧ l2 = a2 ∧ ((∀ k,  τ.1 k = σ.1 k) ∧ (∀ k,  τ.2.1 k = σ.2.1 k) ∧ (∀ k, k ≠ 9 → τ.2.2.1 k = σ.2.2.1 k) ∧ (∀ k j, k ≠ 9 → τ.2.2.1 k j = σ.2.2.1 k j) ∧ (∀ k j, k ≠ 8 → τ.2.2.2 k j = σ.2.2.2 k j)) ∧ onlyAt a1 σ τ ∧ l3 = x2_3 ∧ s1 = a1 ∧ l3 < σ.1 2) ∧ g5_takeName a1 a2 σ = g5_takeName_125 (g5_takeName_2 m2) l1 l2 l3 s1 s2 τ) → w_takeName_125 C Q (fun l1' l2' l3' τ => ∃ k < n2, (fun n l1 l2 l3 τ => n = (σ.1 2 - l3).toNatClampNeg ∧ ((l1 = a1 ∧ l2 = a2 ∧ ((∀ k,  τ.1 k = σ.1 k) ∧ (∀ k,  τ.2.1 k = σ.2.1 k) ∧ (∀ k, k ≠ 9 → τ.2.2.1 k = σ.2.2.1 k) ∧ (∀ k j, k ≠ 9 → τ.2.2.1 k j = σ.2.2.1 k j) ∧ (∀ k j, k ≠ 8 → τ.2.2.2 k j = σ.2.2.2 k j)) ∧ onlyAt a1 σ τ ∧ a2 ≤ l3 ∧ l3 ≤ σ.1 2 ∧ (a2 = l3 → lett (bAt (σ.1 2) (σ.2.2.1 1) l3))) ∧ ∃ m5, n < m5 ∧ g5_takeName a1 a2 σ = g5_takeName_2 m5 l1 l2 l3 τ)) k l1' l2' l3' τ) l1 l2 l3 s1 s2 τ := by
    clear hE
    rintro y125_1 y125_2 y125_3 y125_s1 y125_s2 τ125 ⟨j125, hE⟩
    unfold w_takeName_125
    refine ⟨ib_131074.mpr ?_, ?_⟩
    · clear h hE; grind (splits := 24) [si1, si2, ri1, ri2, ri3, ri34, ri5, rl1, rl2, rl3, rl3a, rl4, rl45, onlyAt, nb]  -- b10
    intro σ_7 hσ_7
    replace hE := rb_p5 hE hσ_7
    intro x8 hx8
    replace hE := rb_p5 hE hx8
    refine lp_b5 (cn_lt2 hn2 ?_ ?_) (fun d9 => ⟨rfl, ?_⟩)
    · clear h hE; grind (splits := 24) [si1, si2, ri1, ri2, ri3, ri34, ri5, rl1, rl2, rl3, rl3a, rl4, rl45, onlyAt, nb]  -- d11
    · clear h hE; grind (splits := 24) [si1, si2, ri1, ri2, ri3, ri34, ri5, rl1, rl2, rl3, rl3a, rl4, rl45, onlyAt, nb]  -- d12
    · refine and_5 ?_ (fun o9 => ⟨m2, Nat.lt_of_lt_of_le d9 (Nat.le_of_lt_succ hm2), hE⟩)  -- i13
      clear h hE d9 hm2; grind (splits := 24) [si1, si2, ri1, ri2, ri3, ri34, ri5, rl1, rl2, rl3, rl3a, rl4, rl45, onlyAt, nb]
  have hj119 : ∀ (l1 : Int32) (l2 : Int32) (l3 : Int32) (s1 : Int32) (τ : rS), ((l1 = a1 ∧ l2 = a2 ∧ ((∀ k,  τ.1 k = σ.1 k) ∧ (∀ k,  τ.2.1 k = σ.2.1 k) ∧ (∀ k, k ≠ 9 → τ.2.2.1 k = σ.2.2.1 k) ∧ (∀ k j, k ≠ 9 → τ.2.2.1 k j = σ.2.2.1 k j) ∧ (∀ k j, k ≠ 8 → τ.2.2.2 k j = σ.2.2.2 k j)) ∧ onlyAt a1 σ τ ∧ l3 = x2_3 ∧ s1 = a1 ∧ l3 < σ.1 2) ∧ g5_takeName a1 a2 σ = g5_takeName_119 (g5_takeName_2 m2) l1 l2 l3 s1 τ) → w_takeName_119 C Q (fun l1' l2' l3' τ => ∃ k < n2, (fun n l1 l2 l3 τ => n = (σ.1 2 - l3).toNatClampNeg ∧ ((l1 = a1 ∧ l2 = a2 ∧ ((∀ k,  τ.1 k = σ.1 k) ∧ (∀ k,  τ.2.1 k = σ.2.1 k) ∧ (∀ k, k ≠ 9 → τ.2.2.1 k = σ.2.2.1 k) ∧ (∀ k j, k ≠ 9 → τ.2.2.1 k j = σ.2.2.1 k j) ∧ (∀ k j, k ≠ 8 → τ.2.2.2 k j = σ.2.2.2 k j)) ∧ onlyAt a1 σ τ ∧ a2 ≤ l3 ∧ l3 ≤ σ.1 2 ∧ (a2 = l3 → lett (bAt (σ.1 2) (σ.2.2.1 1) l3))) ∧ ∃ m5, n < m5 ∧ g5_takeName a1 a2 σ = g5_takeName_2 m5 l1 l2 l3 τ)) k l1' l2' l3' τ) l1 l2 l3 s1 τ := by
    clear hE
    rintro y119_1 y119_2 y119_3 y119_s1 τ119 ⟨j119, hE⟩
    unfold w_takeName_119
    refine ⟨ib_131074.mpr ?_, ?_⟩
    · clear h hE; grind (splits := 24) [si1, si2, ri1, ri2, ri3, ri34, ri5, rl1, rl2, rl3, rl3a, rl4, rl45, onlyAt, nb]  -- b14
    refine hj125 _ _ _ _ _ _ ?_
    · refine and_5 ?_ (fun o9 => hE)  -- k15
      clear h hE; grind (splits := 24) [si1, si2, ri1, ri2, ri3, ri34, ri5, rl1, rl2, rl3, rl3a, rl4, rl45, onlyAt, nb]
  have hj72 : ∀ (l1 : Int32) (l2 : Int32) (l3 : Int32) (l4 : Int32) (s1 : Int32) (s2 : Int64) (τ : rS), ((l1 = a1 ∧ l2 = a2 ∧ ((∀ k,  τ.1 k = σ.1 k) ∧ (∀ k,  τ.2.1 k = σ.2.1 k) ∧ (∀ k, k ≠ 9 → τ.2.2.1 k = σ.2.2.1 k) ∧ (∀ k j, k ≠ 9 → τ.2.2.1 k j = σ.2.2.1 k j) ∧ (∀ k j, k ≠ 8 → τ.2.2.2 k j = σ.2.2.2 k j)) ∧ onlyAt a1 σ τ ∧ l3 = x2_3 ∧ s1 = a1 ∧ l3 < σ.1 2) ∧ g5_takeName a1 a2 σ = g5_takeName_72 (g5_takeName_2 m2) l1 l2 l3 l4 s1 s2 τ) → w_takeName_72 C Q (fun l1' l2' l3' τ => ∃ k < n2, (fun n l1 l2 l3 τ => n = (σ.1 2 - l3).toNatClampNeg ∧ ((l1 = a1 ∧ l2 = a2 ∧ ((∀ k,  τ.1 k = σ.1 k) ∧ (∀ k,  τ.2.1 k = σ.2.1 k) ∧ (∀ k, k ≠ 9 → τ.2.2.1 k = σ.2.2.1 k) ∧ (∀ k j, k ≠ 9 → τ.2.2.1 k j = σ.2.2.1 k j) ∧ (∀ k j, k ≠ 8 → τ.2.2.2 k j = σ.2.2.2 k j)) ∧ onlyAt a1 σ τ ∧ a2 ≤ l3 ∧ l3 ≤ σ.1 2 ∧ (a2 = l3 → lett (bAt (σ.1 2) (σ.2.2.1 1) l3))) ∧ ∃ m5, n < m5 ∧ g5_takeName a1 a2 σ = g5_takeName_2 m5 l1 l2 l3 τ)) k l1' l2' l3' τ) l1 l2 l3 l4 s1 s2 τ := by
    clear hE
    rintro y72_1 y72_2 y72_3 y72_4 y72_s1 y72_s2 τ72 ⟨j72, hE⟩
    unfold w_takeName_72
    refine ⟨ib_131074.mpr ?_, ?_⟩
    · clear h hE; grind (splits := 24) [si1, si2, ri1, ri2, ri3, ri34, ri5, rl1, rl2, rl3, rl3a, rl4, rl45, onlyAt, nb]  -- b16
    intro σ_9 hσ_9
    replace hE := rb_p5 hE hσ_9
    refine ⟨fun c10 => ?_, fun c10 => ?_⟩
    · skip
      replace hE := rb_t5 hE c10
      refine hj119 _ _ _ _ _ ?_
      · refine and_5 ?_ (fun o9 => hE)  -- k17
        clear h hE; grind (splits := 24) [si1, si2, ri1, ri2, ri3, ri34, ri5, rl1, rl2, rl3, rl3a, rl4, rl45, onlyAt, nb]
    · skip
      replace hE := rb_f5 hE c10
      refine ⟨fun c11 => ?_, fun c11 => ?_⟩
      · skip
        replace hE := rb_t5 hE c11
        refine hj119 _ _ _ _ _ ?_
        · refine and_5 ?_ (fun o9 => hE)  -- k18
          clear h hE; grind (splits := 24) [si1, si2, ri1, ri2, ri3, ri34, ri5, rl1, rl2, rl3, rl3a, rl4, rl45, onlyAt, nb]
      · skip
        replace hE := rb_f5 hE c11
        refine ⟨ib_131074.mpr ?_, ?_⟩
        · clear h hE; grind (splits := 24) [si1, si2, ri1, ri2, ri3, ri34, ri5, rl1, rl2, rl3, rl3a, rl4, rl45, onlyAt, nb]  -- b19
        refine byteAt_g5 hC  ?_ (fun r12 q14 => ?_)
        · clear h hE; grind (splits := 24) [si1, si2, ri1, ri2, ri3, ri34, ri5, rl1, rl2, rl3, rl3a, rl4, rl45, onlyAt, nb]  -- p20
        obtain ⟨q14, z9⟩ := q14
        replace hE := rb_p5 hE z9
        clear z9
        refine hj125 _ _ _ _ _ _ ?_
        · refine and_5 ?_ (fun o9 => hE)  -- k21
          clear h hE; grind (splits := 24) [si1, si2, ri1, ri2, ri3, ri34, ri5, rl1, rl2, rl3, rl3a, rl4, rl45, onlyAt, nb]
  have hj24 : ∀ (l1 : Int32) (l2 : Int32) (l3 : Int32) (τ : rS), ((l1 = a1 ∧ l2 = a2 ∧ ((∀ k,  τ.1 k = σ.1 k) ∧ (∀ k,  τ.2.1 k = σ.2.1 k) ∧ (∀ k, k ≠ 9 → τ.2.2.1 k = σ.2.2.1 k) ∧ (∀ k j, k ≠ 9 → τ.2.2.1 k j = σ.2.2.1 k j) ∧ (∀ k j, k ≠ 8 → τ.2.2.2 k j = σ.2.2.2 k j)) ∧ onlyAt a1 σ τ ∧ l3 = x2_3 ∧ l3 < σ.1 2) ∧ g5_takeName a1 a2 σ = g5_takeName_24 (g5_takeName_2 m2) l1 l2 l3 τ) → w_takeName_24 C Q (fun l1' l2' l3' τ => ∃ k < n2, (fun n l1 l2 l3 τ => n = (σ.1 2 - l3).toNatClampNeg ∧ ((l1 = a1 ∧ l2 = a2 ∧ ((∀ k,  τ.1 k = σ.1 k) ∧ (∀ k,  τ.2.1 k = σ.2.1 k) ∧ (∀ k, k ≠ 9 → τ.2.2.1 k = σ.2.2.1 k) ∧ (∀ k j, k ≠ 9 → τ.2.2.1 k j = σ.2.2.1 k j) ∧ (∀ k j, k ≠ 8 → τ.2.2.2 k j = σ.2.2.2 k j)) ∧ onlyAt a1 σ τ ∧ a2 ≤ l3 ∧ l3 ≤ σ.1 2 ∧ (a2 = l3 → lett (bAt (σ.1 2) (σ.2.2.1 1) l3))) ∧ ∃ m5, n < m5 ∧ g5_takeName a1 a2 σ = g5_takeName_2 m5 l1 l2 l3 τ)) k l1' l2' l3' τ) l1 l2 l3 τ := by
    clear hE
    rintro y24_1 y24_2 y24_3 τ24 ⟨j24, hE⟩
    unfold w_takeName_24
    intro x15 hx15
    replace hE := rb_p5 hE hx15
    refine ⟨fun c16 => ?_, fun c16 => ?_⟩
    · skip
      replace hE := rb_t5 hE c16
      refine ⟨ib_131074.mpr ?_, ?_⟩
      · clear h hE; grind (splits := 24) [si1, si2, ri1, ri2, ri3, ri34, ri5, rl1, rl2, rl3, rl3a, rl4, rl45, onlyAt, nb]  -- b22
      refine hj72 _ _ _ _ _ _ _ ?_
      · refine and_5 ?_ (fun o9 => hE)  -- k23
        clear h hE; grind (splits := 24) [si1, si2, ri1, ri2, ri3, ri34, ri5, rl1, rl2, rl3, rl3a, rl4, rl45, onlyAt, nb]
    · skip
      replace hE := rb_f5 hE c16
      refine ⟨ib_131074.mpr ?_, ?_⟩
      · clear h hE; grind (splits := 24) [si1, si2, ri1, ri2, ri3, ri34, ri5, rl1, rl2, rl3, rl3a, rl4, rl45, onlyAt, nb]  -- b24
      refine byteAt_g5 hC  ?_ (fun r17 q19 => ?_)
      · clear h hE; grind (splits := 24) [si1, si2, ri1, ri2, ri3, ri34, ri5, rl1, rl2, rl3, rl3a, rl4, rl45, onlyAt, nb]  -- p25
      obtain ⟨q19, z9⟩ := q19
      replace hE := rb_p5 hE z9
      clear z9
      refine hj72 _ _ _ _ _ _ _ ?_
      · refine and_5 ?_ (fun o9 => hE)  -- k26
        clear h hE; grind (splits := 24) [si1, si2, ri1, ri2, ri3, ri34, ri5, rl1, rl2, rl3, rl3a, rl4, rl45, onlyAt, nb]
  refine byteAt_g5 hC  ?_ (fun r20 q22 => ?_)
  · clear h hE; grind (splits := 24) [si1, si2, ri1, ri2, ri3, ri34, ri5, rl1, rl2, rl3, rl3a, rl4, rl45, onlyAt, nb]  -- p27
  obtain ⟨q22, z9⟩ := q22
  replace hE := rb_p5 hE z9
  clear z9
  refine isLetter_g5 hC  (fun r23 q25 => ?_)
  obtain ⟨q25, z9⟩ := q25
  replace hE := rb_p5 hE z9
  clear z9
  refine ⟨fun c26 => ?_, fun c26 => ?_⟩
  · skip
    replace hE := rb_f5 hE c26
    refine hj24 _ _ _ _ ?_
    · refine and_5 ?_ (fun o9 => hE)  -- k28
      clear h hE; grind (splits := 24) [ri1, ri2, ri3, ri5, rl1, rl2, rl3, rl3a, nb, lett]
  · skip
    replace hE := rb_t5 hE c26
    refine byteAt_g5 hC  ?_ (fun r27 q29 => ?_)
    · clear h hE; grind (splits := 24) [si1, si2, ri1, ri2, ri3, ri34, ri5, rl1, rl2, rl3, rl3a, rl4, rl45, onlyAt, nb]  -- p29
    obtain ⟨q29, z9⟩ := q29
    replace hE := rb_p5 hE z9
    clear z9
    refine isDigit_g5 hC  (fun r30 q32 => ?_)
    obtain ⟨q32, z9⟩ := q32
    replace hE := rb_p5 hE z9
    clear z9
    refine ⟨fun c33 => ?_, fun c33 => ?_⟩
    · skip
      replace hE := rb_t5 hE c33
      refine ⟨ib_131074.mpr ?_, ?_⟩
      · clear h hE; grind (splits := 24) [si1, si2, ri1, ri2, ri3, ri34, ri5, rl1, rl2, rl3, rl3a, rl4, rl45, onlyAt, nb]  -- b30
      refine ⟨fun c34 => ?_, fun c34 => ?_⟩
      · skip
        replace hE := rb_f5 hE c34
        refine hj159 _ _ _ _ _ _ ?_
        · refine and_5 ?_ (fun o9 => hE)  -- k31
          clear h hE; grind (splits := 24) [si1, si2, ri1, ri2, ri3, ri34, ri5, rl1, rl2, rl3, rl3a, rl4, rl45, onlyAt, nb]
      · skip
        replace hE := rb_t5 hE c34
        refine ⟨ib_131074.mpr ?_, ?_⟩
        · clear h hE; grind (splits := 24) [si1, si2, ri1, ri2, ri3, ri34, ri5, rl1, rl2, rl3, rl3a, rl4, rl45, onlyAt, nb]  -- b32
        refine wordOf_g5 hC  (fun r35 q37 => ?_)
        obtain ⟨q37, z9⟩ := q37
        replace hE := rb_p5 hE z9
        clear z9
        refine hj159 _ _ _ _ _ _ ?_
        · refine and_5 ?_ (fun o9 => hE)  -- k33
          clear h hE; grind (splits := 24) [si1, si2, ri1, ri2, ri3, ri34, ri5, rl1, rl2, rl3, rl3a, rl4, rl45, onlyAt, nb]
    · skip
      replace hE := rb_f5 hE c33
      refine hj24 _ _ _ _ ?_
      · refine and_5 ?_ (fun o9 => hE)  -- k34
        clear h hE; grind (splits := 24) [si1, si2, ri1, ri2, ri3, ri34, ri5, rl1, rl2, rl3, rl3a, rl4, rl45, onlyAt, nb]

theorem take_g5 {C : rCx} (hC : cOK C)  {σ : rS} {a1 : Int32} {Q : Int32 → rS → Prop} (hp : 0 ≤ a1 ∧ a1 < σ.1 2 ∧ σ.1 2 ≤ 65536 ∧ 0 ≤ σ.1 3 + σ.1 4 ∧ σ.1 3 + σ.1 4 < 131074) (h : ∀ (v : Int32) (σ' : rS), ((((∀ k,  σ'.1 k = σ.1 k) ∧ (∀ k,  σ'.2.1 k = σ.2.1 k) ∧ (∀ k, k ≠ 5 → k ≠ 6 → k ≠ 7 → k ≠ 9 → σ'.2.2.1 k = σ.2.2.1 k) ∧ (∀ k j, k ≠ 5 → k ≠ 6 → k ≠ 7 → k ≠ 9 → σ'.2.2.1 k j = σ.2.2.1 k j) ∧ (∀ k j, k ≠ 8 → σ'.2.2.2 k j = σ.2.2.2 k j)) ∧ onlyAt (σ.1 3 + σ.1 4) σ σ' ∧ a1 < v ∧ v ≤ σ.1 2) ∧ g5_take a1 σ = (σ', v)) → Q v σ') : cI C 4 m_take [.ref (co C), .int a1] σ Q := by
  refine m_take_run hC ?_
  unfold w_take_0
  have hj268 : ∀ (l1 : Int32) (l4 : Int32) (s1 : Int32) (s2 : Int32) (τ : rS), ((l1 = a1 ∧ ((∀ k,  τ.1 k = σ.1 k) ∧ (∀ k,  τ.2.1 k = σ.2.1 k) ∧ (∀ k, k ≠ 5 → k ≠ 6 → k ≠ 7 → k ≠ 9 → τ.2.2.1 k = σ.2.2.1 k) ∧ (∀ k j, k ≠ 5 → k ≠ 6 → k ≠ 7 → k ≠ 9 → τ.2.2.1 k j = σ.2.2.1 k j) ∧ (∀ k j, k ≠ 8 → τ.2.2.2 k j = σ.2.2.2 k j)) ∧ s1 = σ.1 3 + σ.1 4 ∧ onlyAt s1 σ τ ∧ (l4 ≠ 0 → a1 + 1 < σ.1 2)) ∧ g5_take a1 σ = g5_take_268 l1 l4 s1 s2 τ) → w_take_268 C Q  l1 l4 s1 s2 τ := by
    rintro y268_1 y268_4 y268_s1 y268_s2 τ268 ⟨j268, hE⟩
    unfold w_take_268
    refine ⟨ib_131074.mpr ?_, ?_⟩
    · clear h hE; grind (splits := 24) [si1, si2, ri1, ri2, ri3, ri34, ri5, rl1, rl2, rl3, rl3a, rl4, rl45, onlyAt, nb]  -- b1
    intro σ_1 hσ_1
    replace hE := rb_p5 hE hσ_1
    refine ⟨fun c2 => ?_, fun c2 => ?_⟩
    · skip
      replace hE := rb_t5 hE c2
      refine h _ _ ?_
      · refine and_5 ?_ (fun o9 => hE)  -- q2
        clear h hE; grind (splits := 24) [si1, si2, ri1, ri2, ri3, ri34, ri5, rl1, rl2, rl3, rl3a, rl4, rl45, onlyAt, nb]
    · skip
      replace hE := rb_f5 hE c2
      refine h _ _ ?_
      · refine and_5 ?_ (fun o9 => hE)  -- q3
        clear h hE; have k5 := j268.2.2.2.2 c2
        have k6 : a1 + 2 ≤ σ.1 2 := by clear j268; grind
        grind (splits := 24) [si1, si2, ri1, ri2, ri3, ri34, ri5, rl1, rl2, rl3, rl3a, rl4, rl45, onlyAt, nb]
  have hj213 : ∀ (l1 : Int32) (l2 : Int32) (l3 : Int32) (l4 : Int32) (s1 : Int32) (s2 : Int32) (τ : rS), ((l1 = a1 ∧ ((∀ k,  τ.1 k = σ.1 k) ∧ (∀ k,  τ.2.1 k = σ.2.1 k) ∧ (∀ k, k ≠ 5 → k ≠ 6 → k ≠ 7 → k ≠ 9 → τ.2.2.1 k = σ.2.2.1 k) ∧ (∀ k j, k ≠ 5 → k ≠ 6 → k ≠ 7 → k ≠ 9 → τ.2.2.1 k j = σ.2.2.1 k j) ∧ (∀ k j, k ≠ 8 → τ.2.2.2 k j = σ.2.2.2 k j)) ∧ l2 = σ.1 3 + σ.1 4 ∧ s1 = l2 ∧ onlyAt s1 σ τ ∧ (l4 ≠ 0 → a1 + 1 < σ.1 2)) ∧ g5_take a1 σ = g5_take_213 l1 l2 l3 l4 s1 s2 τ) → w_take_213 C Q  l1 l2 l3 l4 s1 s2 τ := by
    rintro y213_1 y213_2 y213_3 y213_4 y213_s1 y213_s2 τ213 ⟨j213, hE⟩
    unfold w_take_213
    refine ⟨ib_131074.mpr ?_, ?_⟩
    · clear h hE; grind (splits := 24) [si1, si2, ri1, ri2, ri3, ri34, ri5, rl1, rl2, rl3, rl3a, rl4, rl45, onlyAt, nb]  -- b4
    intro σ_3 hσ_3
    replace hE := rb_p5 hE hσ_3
    refine ⟨fun c4 => ?_, fun c4 => ?_⟩
    · skip
      replace hE := rb_f5 hE c4
      refine ⟨fun c5 => ?_, fun c5 => ?_⟩
      · skip
        replace hE := rb_f5 hE c5
        refine ⟨fun c6 => ?_, fun c6 => ?_⟩
        · skip
          replace hE := rb_f5 hE c6
          refine ⟨fun c7 => ?_, fun c7 => ?_⟩
          · skip
            replace hE := rb_f5 hE c7
            refine hj268 _ _ _ _ _ ?_
            · refine and_5 ?_ (fun o9 => hE)  -- k5
              clear h hE; grind (splits := 24) [si1, si2, ri1, ri2, ri3, ri34, ri5, rl1, rl2, rl3, rl3a, rl4, rl45, onlyAt, nb]
          · skip
            replace hE := rb_t5 hE c7
            refine hj268 _ _ _ _ _ ?_
            · refine and_5 ?_ (fun o9 => hE)  -- k6
              clear h hE; grind (splits := 24) [si1, si2, ri1, ri2, ri3, ri34, ri5, rl1, rl2, rl3, rl3a, rl4, rl45, onlyAt, nb]
        · skip
          replace hE := rb_t5 hE c6
          refine hj268 _ _ _ _ _ ?_
          · refine and_5 ?_ (fun o9 => hE)  -- k7
            clear h hE; grind (splits := 24) [si1, si2, ri1, ri2, ri3, ri34, ri5, rl1, rl2, rl3, rl3a, rl4, rl45, onlyAt, nb]
      · skip
        replace hE := rb_t5 hE c5
        refine hj268 _ _ _ _ _ ?_
        · refine and_5 ?_ (fun o9 => hE)  -- k8
          clear h hE; grind (splits := 24) [si1, si2, ri1, ri2, ri3, ri34, ri5, rl1, rl2, rl3, rl3a, rl4, rl45, onlyAt, nb]
    · skip
      replace hE := rb_t5 hE c4
      refine hj268 _ _ _ _ _ ?_
      · refine and_5 ?_ (fun o9 => hE)  -- k9
        clear h hE; grind (splits := 24) [si1, si2, ri1, ri2, ri3, ri34, ri5, rl1, rl2, rl3, rl3a, rl4, rl45, onlyAt, nb]
  have hj194 : ∀ (l1 : Int32) (l2 : Int32) (l3 : Int32) (s0 : Int32) (τ : rS), ((l1 = a1 ∧ ((∀ k,  τ.1 k = σ.1 k) ∧ (∀ k,  τ.2.1 k = σ.2.1 k) ∧ (∀ k, k ≠ 5 → k ≠ 6 → k ≠ 7 → k ≠ 9 → τ.2.2.1 k = σ.2.2.1 k) ∧ (∀ k j, k ≠ 5 → k ≠ 6 → k ≠ 7 → k ≠ 9 → τ.2.2.1 k j = σ.2.2.1 k j) ∧ (∀ k j, k ≠ 8 → τ.2.2.2 k j = σ.2.2.2 k j)) ∧ l2 = σ.1 3 + σ.1 4 ∧ onlyAt l2 σ τ ∧ (s0 ≠ 0 → a1 + 1 < σ.1 2)) ∧ g5_take a1 σ = g5_take_194 l1 l2 l3 s0 τ) → w_take_194 C Q  l1 l2 l3 s0 τ := by
    rintro y194_1 y194_2 y194_3 y194_s0 τ194 ⟨j194, hE⟩
    unfold w_take_194
    refine isSign_g5 hC  (fun r8 q10 => ?_)
    obtain ⟨q10, z9⟩ := q10
    replace hE := rb_p5 hE z9
    clear z9
    refine ⟨fun c11 => ?_, fun c11 => ?_⟩
    · skip
      replace hE := rb_t5 hE c11
      refine hj213 _ _ _ _ _ _ _ ?_
      · refine and_5 ?_ (fun o9 => hE)  -- k10
        clear h hE; grind (splits := 24) [si1, si2, ri1, ri2, ri3, ri34, ri5, rl1, rl2, rl3, rl3a, rl4, rl45, onlyAt, nb]
    · skip
      replace hE := rb_f5 hE c11
      refine hj213 _ _ _ _ _ _ _ ?_
      · refine and_5 ?_ (fun o9 => hE)  -- k11
        clear h hE; grind (splits := 24) [si1, si2, ri1, ri2, ri3, ri34, ri5, rl1, rl2, rl3, rl3a, rl4, rl45, onlyAt, nb]
  have hE : g5_take a1 σ = g5_take a1 σ := rfl
  intro x12 hx12
  replace hE := rb_p5 hE hx12
  refine ⟨ib_131074.mpr ?_, ?_⟩
  · clear h hE; grind (splits := 24) [si1, si2, ri1, ri2, ri3, ri34, ri5, rl1, rl2, rl3, rl3a, rl4, rl45, onlyAt, nb]  -- b12
  intro σ_13 hσ_13
  replace hE := rb_p5 hE hσ_13
  refine ⟨ib_131074.mpr ?_, ?_⟩
  · clear h hE; grind (splits := 24) [si1, si2, ri1, ri2, ri3, ri34, ri5, rl1, rl2, rl3, rl3a, rl4, rl45, onlyAt, nb]  -- b13
  intro σ_14 hσ_14
  replace hE := rb_p5 hE hσ_14
  refine ⟨ib_131074.mpr ?_, ?_⟩
  · clear h hE; grind (splits := 24) [si1, si2, ri1, ri2, ri3, ri34, ri5, rl1, rl2, rl3, rl3a, rl4, rl45, onlyAt, nb]  -- b14
  intro σ_15 hσ_15
  replace hE := rb_p5 hE hσ_15
  refine ⟨ib_131074.mpr ?_, ?_⟩
  · clear h hE; grind (splits := 24) [si1, si2, ri1, ri2, ri3, ri34, ri5, rl1, rl2, rl3, rl3a, rl4, rl45, onlyAt, nb]  -- b15
  intro σ_16 hσ_16
  replace hE := rb_p5 hE hσ_16
  refine byteAt_g5 hC  ?_ (fun r17 q19 => ?_)
  · clear h hE; grind (splits := 24) [si1, si2, ri1, ri2, ri3, ri34, ri5, rl1, rl2, rl3, rl3a, rl4, rl45, onlyAt, nb]  -- p16
  obtain ⟨q19, z9⟩ := q19
  replace hE := rb_p5 hE z9
  clear z9
  refine isLetter_g5 hC  (fun r20 q22 => ?_)
  obtain ⟨q22, z9⟩ := q22
  replace hE := rb_p5 hE z9
  clear z9
  refine ⟨fun c23 => ?_, fun c23 => ?_⟩
  · skip
    replace hE := rb_t5 hE c23
    refine isDigit_g5 hC  (fun r24 q26 => ?_)
    obtain ⟨q26, z9⟩ := q26
    replace hE := rb_p5 hE z9
    clear z9
    refine ⟨fun c27 => ?_, fun c27 => ?_⟩
    · skip
      replace hE := rb_t5 hE c27
      refine byteAt_g5 hC  ?_ (fun r28 q30 => ?_)
      · clear h hE; grind (splits := 24) [si1, si2, ri1, ri2, ri3, ri34, ri5, rl1, rl2, rl3, rl3a, rl4, rl45, onlyAt, nb]  -- p17
      obtain ⟨q30, z9⟩ := q30
      replace hE := rb_p5 hE z9
      clear z9
      refine ⟨fun c31 => ?_, fun c31 => ?_⟩
      · skip
        replace hE := rb_f5 hE c31
        refine hj194 _ _ _ _ _ ?_
        · refine and_5 ?_ (fun o9 => hE)  -- k18
          clear h hE; grind (splits := 24) [si1, si2, ri1, ri2, ri3, ri34, ri5, rl1, rl2, rl3, rl3a, rl4, rl45, onlyAt, nb]
      · skip
        replace hE := rb_t5 hE c31
        refine ⟨fun c32 => ?_, fun c32 => ?_⟩
        · skip
          replace hE := rb_t5 hE c32
          refine hj194 _ _ _ _ _ ?_
          · refine and_5 ?_ (fun o9 => hE)  -- k19
            clear h hE; grind (splits := 24) [si1, si2, ri1, ri2, ri3, ri34, ri5, rl1, rl2, rl3, rl3a, rl4, rl45, onlyAt, nb]
        · skip
          replace hE := rb_f5 hE c32
          refine ⟨fun c33 => ?_, fun c33 => ?_⟩
          · skip
            replace hE := rb_t5 hE c33
            refine hj194 _ _ _ _ _ ?_
            · refine and_5 ?_ (fun o9 => hE)  -- k20
              clear h hE; grind (splits := 24) [si1, si2, ri1, ri2, ri3, ri34, ri5, rl1, rl2, rl3, rl3a, rl4, rl45, onlyAt, nb]
          · skip
            replace hE := rb_f5 hE c33
            refine ⟨fun c34 => ?_, fun c34 => ?_⟩
            · skip
              replace hE := rb_t5 hE c34
              refine hj194 _ _ _ _ _ ?_
              · refine and_5 ?_ (fun o9 => hE)  -- k21
                clear h hE; grind (splits := 24) [si1, si2, ri1, ri2, ri3, ri34, ri5, rl1, rl2, rl3, rl3a, rl4, rl45, onlyAt, nb]
            · skip
              replace hE := rb_f5 hE c34
              refine ⟨fun c35 => ?_, fun c35 => ?_⟩
              · skip
                replace hE := rb_f5 hE c35
                refine hj194 _ _ _ _ _ ?_
                · refine and_5 ?_ (fun o9 => hE)  -- k22
                  clear h hE; grind (splits := 24) [si1, si2, ri1, ri2, ri3, ri34, ri5, rl1, rl2, rl3, rl3a, rl4, rl45, onlyAt, nb]
              · skip
                replace hE := rb_t5 hE c35
                refine hj194 _ _ _ _ _ ?_
                · refine and_5 ?_ (fun o9 => hE)  -- k23
                  clear h hE; grind (splits := 24) [si1, si2, ri1, ri2, ri3, ri34, ri5, rl1, rl2, rl3, rl3a, rl4, rl45, onlyAt, nb]
    · skip
      replace hE := rb_f5 hE c27
      unfold w_take_68
      refine ⟨fun n l1 l2 l4 τ => n = (σ.1 2 - l4).toNatClampNeg ∧ ((l1 = a1 ∧ ((∀ k,  τ.1 k = σ.1 k) ∧ (∀ k,  τ.2.1 k = σ.2.1 k) ∧ (∀ k, k ≠ 5 → k ≠ 6 → k ≠ 7 → k ≠ 9 → τ.2.2.1 k = σ.2.2.1 k) ∧ (∀ k j, k ≠ 5 → k ≠ 6 → k ≠ 7 → k ≠ 9 → τ.2.2.1 k j = σ.2.2.1 k j) ∧ (∀ k j, k ≠ 8 → τ.2.2.2 k j = σ.2.2.2 k j)) ∧ l2 = σ.1 3 + σ.1 4 ∧ onlyAt l2 σ τ ∧ a1 ≤ l4 ∧ l4 ≤ σ.1 2 ∧ (a1 = l4 → 48 ≤ bAt (σ.1 2) (σ.2.2.1 1) l4 ∧ bAt (σ.1 2) (σ.2.2.1 1) l4 ≤ 57)) ∧ ∃ m5, n < m5 ∧ g5_take a1 σ = g5_take_68 m5 l1 l2 l4 τ), ⟨_, rfl, ?_⟩, ?_⟩
      · refine and_5 ?_ (fun o9 => ⟨fu5, cnb5, hE⟩)  -- j24
        clear h hE; grind (splits := 24) [si1, si2, ri1, ri2, ri3, ri34, ri5, rl1, rl2, rl3, rl3a, rl4, rl45, onlyAt, nb]
      rintro n68 x68_1 x68_2 x68_4 σ68 ⟨hn68, i68, m68, hm68, hE⟩
      obtain ⟨m68, rfl⟩ : ∃ m9, m68 = m9 + 1 := ⟨m68 - 1, by clear h hE; omega⟩
      have hj122 : ∀ (l1 : Int32) (l2 : Int32) (l4 : Int32) (s1 : Int32) (s2 : Int32) (τ : rS), ((l1 = a1 ∧ ((∀ k,  τ.1 k = σ.1 k) ∧ (∀ k,  τ.2.1 k = σ.2.1 k) ∧ (∀ k, k ≠ 5 → k ≠ 6 → k ≠ 7 → k ≠ 9 → τ.2.2.1 k = σ.2.2.1 k) ∧ (∀ k j, k ≠ 5 → k ≠ 6 → k ≠ 7 → k ≠ 9 → τ.2.2.1 k j = σ.2.2.1 k j) ∧ (∀ k j, k ≠ 8 → τ.2.2.2 k j = σ.2.2.2 k j)) ∧ l2 = σ.1 3 + σ.1 4 ∧ onlyAt l2 σ τ ∧ l4 = x68_4 ∧ l4 < σ.1 2 ∧ s1 = l2) ∧ g5_take a1 σ = g5_take_122 (g5_take_68 m68) l1 l2 l4 s1 s2 τ) → w_take_122 C Q (fun l1' l2' l4' τ => ∃ k < n68, (fun n l1 l2 l4 τ => n = (σ.1 2 - l4).toNatClampNeg ∧ ((l1 = a1 ∧ ((∀ k,  τ.1 k = σ.1 k) ∧ (∀ k,  τ.2.1 k = σ.2.1 k) ∧ (∀ k, k ≠ 5 → k ≠ 6 → k ≠ 7 → k ≠ 9 → τ.2.2.1 k = σ.2.2.1 k) ∧ (∀ k j, k ≠ 5 → k ≠ 6 → k ≠ 7 → k ≠ 9 → τ.2.2.1 k j = σ.2.2.1 k j) ∧ (∀ k j, k ≠ 8 → τ.2.2.2 k j = σ.2.2.2 k j)) ∧ l2 = σ.1 3 + σ.1 4 ∧ onlyAt l2 σ τ ∧ a1 ≤ l4 ∧ l4 ≤ σ.1 2 ∧ (a1 = l4 → 48 ≤ bAt (σ.1 2) (σ.2.2.1 1) l4 ∧ bAt (σ.1 2) (σ.2.2.1 1) l4 ≤ 57)) ∧ ∃ m5, n < m5 ∧ g5_take a1 σ = g5_take_68 m5 l1 l2 l4 τ)) k l1' l2' l4' τ) l1 l2 l4 s1 s2 τ := by
        clear hE
        rintro y122_1 y122_2 y122_4 y122_s1 y122_s2 τ122 ⟨j122, hE⟩
        unfold w_take_122
        refine ⟨ib_131074.mpr ?_, ?_⟩
        · clear h hE; grind (splits := 24) [si1, si2, ri1, ri2, ri3, ri34, ri5, rl1, rl2, rl3, rl3a, rl4, rl45, onlyAt, nb]  -- b25
        intro σ_36 hσ_36
        replace hE := rb_p5 hE hσ_36
        intro x37 hx37
        replace hE := rb_p5 hE hx37
        refine lp_b5 (cn_lt2 hn68 ?_ ?_) (fun d9 => ⟨rfl, ?_⟩)
        · clear h hE; grind (splits := 24) [si1, si2, ri1, ri2, ri3, ri34, ri5, rl1, rl2, rl3, rl3a, rl4, rl45, onlyAt, nb]  -- d26
        · clear h hE; grind (splits := 24) [si1, si2, ri1, ri2, ri3, ri34, ri5, rl1, rl2, rl3, rl3a, rl4, rl45, onlyAt, nb]  -- d27
        · refine and_5 ?_ (fun o9 => ⟨m68, Nat.lt_of_lt_of_le d9 (Nat.le_of_lt_succ hm68), hE⟩)  -- i28
          clear h hE d9 hm68; grind (splits := 24) [si1, si2, ri1, ri2, ri3, ri34, ri5, rl1, rl2, rl3, rl3a, rl4, rl45, onlyAt, nb]
      refine byteAt_g5 hC  ?_ (fun r38 q40 => ?_)
      · clear h hE; grind (splits := 24) [si1, si2, ri1, ri2, ri3, ri34, ri5, rl1, rl2, rl3, rl3a, rl4, rl45, onlyAt, nb]  -- p29
      obtain ⟨q40, z9⟩ := q40
      replace hE := rb_p5 hE z9
      clear z9
      refine isDigit_g5 hC  (fun r41 q43 => ?_)
      obtain ⟨q43, z9⟩ := q43
      replace hE := rb_p5 hE z9
      clear z9
      refine ⟨fun c44 => ?_, fun c44 => ?_⟩
      · skip
        replace hE := rb_t5 hE c44
        refine ⟨fun c45 => ?_, fun c45 => ?_⟩
        · skip
          replace hE := rb_t5 hE c45
          refine ⟨ib_131074.mpr ?_, ?_⟩
          · clear h hE; grind (splits := 24) [si1, si2, ri1, ri2, ri3, ri34, ri5, rl1, rl2, rl3, rl3a, rl4, rl45, onlyAt, nb]  -- b30
          intro σ_46 hσ_46
          replace hE := rb_p5 hE hσ_46
          refine h _ _ ?_
          · refine and_5 ?_ (fun o9 => hE)  -- q31
            clear h hE; grind (splits := 24) [si1, si2, ri1, ri2, ri3, ri34, ri5, rl1, rl2, rl3, rl3a, rl4, rl45, onlyAt, nb]
        · skip
          replace hE := rb_f5 hE c45
          refine ⟨ib_131074.mpr ?_, ?_⟩
          · clear h hE; grind (splits := 24) [si1, si2, ri1, ri2, ri3, ri34, ri5, rl1, rl2, rl3, rl3a, rl4, rl45, onlyAt, nb]  -- b32
          intro σ_47 hσ_47
          replace hE := rb_p5 hE hσ_47
          refine h _ _ ?_
          · refine and_5 ?_ (fun o9 => hE)  -- q33
            clear h hE; grind (splits := 24) [si1, si2, ri1, ri2, ri3, ri34, ri5, rl1, rl2, rl3, rl3a, rl4, rl45, onlyAt, nb]
      · skip
        replace hE := rb_f5 hE c44
        refine ⟨fun c48 => ?_, fun c48 => ?_⟩
        · skip
          replace hE := rb_t5 hE c48
          refine ⟨ib_131074.mpr ?_, ?_⟩
          · clear h hE; grind (splits := 24) [si1, si2, ri1, ri2, ri3, ri34, ri5, rl1, rl2, rl3, rl3a, rl4, rl45, onlyAt, nb]  -- b34
          refine hj122 _ _ _ _ _ _ ?_
          · refine and_5 ?_ (fun o9 => hE)  -- k35
            clear h hE; grind (splits := 24) [si1, si2, ri1, ri2, ri3, ri34, ri5, rl1, rl2, rl3, rl3a, rl4, rl45, onlyAt, nb]
        · skip
          replace hE := rb_f5 hE c48
          refine ⟨ib_131074.mpr ?_, ?_⟩
          · clear h hE; grind (splits := 24) [si1, si2, ri1, ri2, ri3, ri34, ri5, rl1, rl2, rl3, rl3a, rl4, rl45, onlyAt, nb]  -- b36
          refine byteAt_g5 hC  ?_ (fun r49 q51 => ?_)
          · clear h hE; grind (splits := 24) [si1, si2, ri1, ri2, ri3, ri34, ri5, rl1, rl2, rl3, rl3a, rl4, rl45, onlyAt, nb]  -- p37
          obtain ⟨q51, z9⟩ := q51
          replace hE := rb_p5 hE z9
          clear z9
          refine hj122 _ _ _ _ _ _ ?_
          · refine and_5 ?_ (fun o9 => hE)  -- k38
            clear h hE; grind (splits := 24) [si1, si2, ri1, ri2, ri3, ri34, ri5, rl1, rl2, rl3, rl3a, rl4, rl45, onlyAt, nb]
  · skip
    replace hE := rb_f5 hE c23
    refine takeName_g5 hC  ?_ (fun r52 σ_53 q54 => ?_)
    · clear h hE; grind (splits := 24) [si1, si2, ri1, ri2, ri3, ri34, ri5, rl1, rl2, rl3, rl3a, rl4, rl45, onlyAt, nb]  -- p39
    obtain ⟨q54, z9⟩ := q54
    replace hE := rb_m5 hE z9
    clear z9
    refine h _ _ ?_
    · refine and_5 ?_ (fun o9 => hE)  -- q40
      clear h hE; grind (splits := 24) [si1, si2, ri1, ri2, ri3, ri34, ri5, rl1, rl2, rl3, rl3a, rl4, rl45, onlyAt, nb]

theorem cutTape_g5 {C : rCx} (hC : cOK C)  {σ : rS}  {Q : rS → Prop} (hp : (σ.1 3 = 0 ∨ σ.1 3 = 65537) ∧ 0 ≤ σ.1 2 ∧ σ.1 2 ≤ 65536) (h : ∀ (σ' : rS), ((((∀ k, k ≠ 4 → σ'.1 k = σ.1 k) ∧ (∀ k,  σ'.2.1 k = σ.2.1 k) ∧ (∀ k, k ≠ 5 → k ≠ 6 → k ≠ 7 → k ≠ 9 → σ'.2.2.1 k = σ.2.2.1 k) ∧ (∀ k j, k ≠ 5 → k ≠ 6 → k ≠ 7 → k ≠ 9 → σ'.2.2.1 k j = σ.2.2.1 k j) ∧ (∀ k j, k ≠ 8 → σ'.2.2.2 k j = σ.2.2.2 k j)) ∧ outB (σ.1 3) σ σ' ∧ 0 ≤ σ'.1 4 ∧ σ'.1 4 ≤ 65536 ∧ rd σ' 5 (σ.1 3 + σ'.1 4) = 5) ∧ g5_cutTape σ = σ') → Q σ') : cV C 5 m_cutTape [.ref (co C)] σ Q := by
  refine m_cutTape_run hC ?_
  unfold w_cutTape_0
  have hj72 : ∀  (τ : rS), ((((∀ k, k ≠ 4 → τ.1 k = σ.1 k) ∧ (∀ k,  τ.2.1 k = σ.2.1 k) ∧ (∀ k, k ≠ 5 → k ≠ 6 → k ≠ 7 → k ≠ 9 → τ.2.2.1 k = σ.2.2.1 k) ∧ (∀ k j, k ≠ 5 → k ≠ 6 → k ≠ 7 → k ≠ 9 → τ.2.2.1 k j = σ.2.2.1 k j) ∧ (∀ k j, k ≠ 8 → τ.2.2.2 k j = σ.2.2.2 k j)) ∧ outB (σ.1 3) σ τ ∧ 0 ≤ τ.1 4 ∧ τ.1 4 ≤ 65536) ∧ g5_cutTape σ = g5_cutTape_72 τ) → w_cutTape_72 C Q   τ := by
    rintro  τ72 ⟨j72, hE⟩
    unfold w_cutTape_72
    refine ⟨ib_131074.mpr ?_, ?_⟩
    · clear h hE; grind (splits := 24) [si1, si2, ri1, ri2, ri3, ri34, ri5, ob_ri, ob_si2, ob_only, ob_refl, vb5]  -- b1
    intro σ_1 hσ_1
    replace hE := rb_p5 hE hσ_1
    refine ⟨ib_131074.mpr ?_, ?_⟩
    · clear h hE; grind (splits := 24) [si1, si2, ri1, ri2, ri3, ri34, ri5, ob_ri, ob_si2, ob_only, ob_refl, vb5]  -- b2
    intro σ_2 hσ_2
    replace hE := rb_p5 hE hσ_2
    refine ⟨ib_131074.mpr ?_, ?_⟩
    · clear h hE; grind (splits := 24) [si1, si2, ri1, ri2, ri3, ri34, ri5, ob_ri, ob_si2, ob_only, ob_refl, vb5]  -- b3
    intro σ_3 hσ_3
    replace hE := rb_p5 hE hσ_3
    refine h _ ?_
    · refine and_5 ?_ (fun o9 => hE)  -- q4
      clear h hE; grind (splits := 24) [si1, si2, ri1, ri2, ri3, ri34, ri5, ob_ri, ob_si2, ob_only, ob_refl, vb5]
  have hE : g5_cutTape σ = g5_cutTape σ := rfl
  intro σ_4 hσ_4
  replace hE := rb_p5 hE hσ_4
  refine skip_g5 hC  ?_ (fun r5 q7 => ?_)
  · clear h hE; grind (splits := 24) [si1, si2, ri1, ri2, ri3, ri34, ri5, ob_ri, ob_si2, ob_only, ob_refl, vb5]  -- p5
  obtain ⟨q7, z9⟩ := q7
  replace hE := rb_p5 hE z9
  clear z9
  unfold w_cutTape_13
  refine ⟨fun n l1 l2 τ => n = (σ.1 2 - l1).toNatClampNeg ∧ ((((∀ k, k ≠ 4 → τ.1 k = σ.1 k) ∧ (∀ k,  τ.2.1 k = σ.2.1 k) ∧ (∀ k, k ≠ 5 → k ≠ 6 → k ≠ 7 → k ≠ 9 → τ.2.2.1 k = σ.2.2.1 k) ∧ (∀ k j, k ≠ 5 → k ≠ 6 → k ≠ 7 → k ≠ 9 → τ.2.2.1 k j = σ.2.2.1 k j) ∧ (∀ k j, k ≠ 8 → τ.2.2.2 k j = σ.2.2.2 k j)) ∧ outB (σ.1 3) σ τ ∧ 0 ≤ τ.1 4 ∧ τ.1 4 ≤ l1 ∧ l1 ≤ σ.1 2) ∧ ∃ m5, n < m5 ∧ g5_cutTape σ = g5_cutTape_13 m5 l1 l2 τ), ⟨_, rfl, ?_⟩, ?_⟩
  · refine and_5 ?_ (fun o9 => ⟨fu5, cnb5, hE⟩)  -- j6
    clear h hE; grind (splits := 24) [si1, si2, ri1, ri2, ri3, ri34, ri5, ob_ri, ob_si2, ob_only, ob_refl, vb5]
  rintro n13 x13_1 x13_2 σ13 ⟨hn13, i13, m13, hm13, hE⟩
  obtain ⟨m13, rfl⟩ : ∃ m9, m13 = m9 + 1 := ⟨m13 - 1, by clear h hE; omega⟩
  refine ⟨fun c8 => ?_, fun c8 => ?_⟩
  · skip
    replace hE := rb_t5 hE c8
    refine hj72 _ ?_
    · refine and_5 ?_ (fun o9 => hE)  -- k7
      clear h hE; grind (splits := 24) [si1, si2, ri1, ri2, ri3, ri34, ri5, ob_ri, ob_si2, ob_only, ob_refl, vb5]
  · skip
    replace hE := rb_f5 hE c8
    refine ⟨fun c9 => ?_, fun c9 => ?_⟩
    · skip
      replace hE := rb_f5 hE c9
      refine hj72 _ ?_
      · refine and_5 ?_ (fun o9 => hE)  -- k8
        clear h hE; grind (splits := 24) [si1, si2, ri1, ri2, ri3, ri34, ri5, ob_ri, ob_si2, ob_only, ob_refl, vb5]
    · skip
      replace hE := rb_t5 hE c9
      refine take_g5 hC  ?_ (fun r10 σ_11 q12 => ?_)
      · clear h hE; grind (splits := 24) [si1, si2, ri1, ri2, ri3, ri34, ri5, ob_ri, ob_si2, ob_only, ob_refl, vb5]  -- p9
      obtain ⟨q12, z9⟩ := q12
      replace hE := rb_m5 hE z9
      clear z9
      refine skip_g5 hC  ?_ (fun r13 q15 => ?_)
      · clear h hE; grind (splits := 24) [si1, si2, ri1, ri2, ri3, ri34, ri5, ob_ri, ob_si2, ob_only, ob_refl, vb5]  -- p10
      obtain ⟨q15, z9⟩ := q15
      replace hE := rb_p5 hE z9
      clear z9
      refine ⟨ib_131074.mpr ?_, ?_⟩
      · clear h hE; grind (splits := 24) [si1, si2, ri1, ri2, ri3, ri34, ri5, ob_ri, ob_si2, ob_only, ob_refl, vb5]  -- b11
      refine ⟨fun c16 => ?_, fun c16 => ?_⟩
      · skip
        replace hE := rb_f5 hE c16
        unfold w_cutTape_58
        intro σ_17 hσ_17
        replace hE := rb_p5 hE hσ_17
        refine lp_b5 (cn_lt2 hn13 ?_ ?_) (fun d9 => ⟨rfl, ?_⟩)
        · clear h hE; grind (splits := 24) [si1, si2, ri1, ri2, ri3, ri34, ri5, ob_ri, ob_si2, ob_only, ob_refl, vb5]  -- d12
        · clear h hE; grind (splits := 24) [si1, si2, ri1, ri2, ri3, ri34, ri5, ob_ri, ob_si2, ob_only, ob_refl, vb5]  -- d13
        · refine and_5 ?_ (fun o9 => ⟨m13, Nat.lt_of_lt_of_le d9 (Nat.le_of_lt_succ hm13), hE⟩)  -- i14
          clear h hE d9 hm13; grind (splits := 24) [si1, si2, ri1, ri2, ri3, ri34, ri5, ob_ri, ob_si2, ob_only, ob_refl, vb5]
      · skip
        replace hE := rb_t5 hE c16
        unfold w_cutTape_58
        intro σ_18 hσ_18
        replace hE := rb_p5 hE hσ_18
        refine lp_b5 (cn_lt2 hn13 ?_ ?_) (fun d9 => ⟨rfl, ?_⟩)
        · clear h hE; grind (splits := 24) [si1, si2, ri1, ri2, ri3, ri34, ri5, ob_ri, ob_si2, ob_only, ob_refl, vb5]  -- d15
        · clear h hE; grind (splits := 24) [si1, si2, ri1, ri2, ri3, ri34, ri5, ob_ri, ob_si2, ob_only, ob_refl, vb5]  -- d16
        · refine and_5 ?_ (fun o9 => ⟨m13, Nat.lt_of_lt_of_le d9 (Nat.le_of_lt_succ hm13), hE⟩)  -- i17
          clear h hE d9 hm13; grind (splits := 24) [si1, si2, ri1, ri2, ri3, ri34, ri5, ob_ri, ob_si2, ob_only, ob_refl, vb5]

end
section
set_option maxHeartbeats 1600000
/-! the reference: expressions -/
def g5_rank (a0 : Int32) (σ : rS) : Int32 := (if a0 = (124 : Int32) then (1 : Int32) else (if a0 = (38 : Int32) then (2 : Int32) else (if a0 = (256 : Int32) then (3 : Int32) else (if a0 = (257 : Int32) then (3 : Int32) else (if a0 = (60 : Int32) then (3 : Int32) else (if a0 = (62 : Int32) then (3 : Int32) else (if a0 = (258 : Int32) then (3 : Int32) else (if a0 = (259 : Int32) then (3 : Int32) else (if a0 = (43 : Int32) then (4 : Int32) else (if a0 = (45 : Int32) then (4 : Int32) else (if a0 = (42 : Int32) then (5 : Int32) else (if a0 = (47 : Int32) then (5 : Int32) else (if a0 = (37 : Int32) then (5 : Int32) else (0 : Int32))))))))))))))

def g5_truth (a0 : Int32) (σ : rS) : Int32 := (if a0 = 0 then (0 : Int32) else (1 : Int32))

def g5_compared (a0 : Int32) (a1 : Int32) (a2 : Int32) (σ : rS) : Int32 := (if a0 = (256 : Int32) then (if a1 = a2 then pb5 (g5_truth ((1 : Int32)) σ) (fun r24 => r24) else pb5 (g5_truth ((0 : Int32)) σ) (fun r22 => r22)) else (if a0 = (257 : Int32) then (if a1 = a2 then pb5 (g5_truth ((0 : Int32)) σ) (fun r18 => r18) else pb5 (g5_truth ((1 : Int32)) σ) (fun r20 => r20)) else (if a0 = (60 : Int32) then (if a2 ≤ a1 then pb5 (g5_truth ((0 : Int32)) σ) (fun r14 => r14) else pb5 (g5_truth ((1 : Int32)) σ) (fun r16 => r16)) else (if a0 = (62 : Int32) then (if a1 ≤ a2 then pb5 (g5_truth ((0 : Int32)) σ) (fun r10 => r10) else pb5 (g5_truth ((1 : Int32)) σ) (fun r12 => r12)) else (if a0 = (258 : Int32) then (if a2 < a1 then pb5 (g5_truth ((0 : Int32)) σ) (fun r6 => r6) else pb5 (g5_truth ((1 : Int32)) σ) (fun r8 => r8)) else (if a1 < a2 then pb5 (g5_truth ((0 : Int32)) σ) (fun r2 => r2) else pb5 (g5_truth ((1 : Int32)) σ) (fun r4 => r4)))))))

def g5_top  (σ : rS) : Int32 := (if (σ.1 48) ≤ 0 then (0 : Int32) else (σ.2.2.1 50 (((σ.1 48) - (1 : Int32))).toNatClampNeg))

def g5_hold (a1 : Int32) (a2 : Int32) (σ : rS) : rS := pb5 (riU σ 50 ((σ.1 48)).toNatClampNeg a1) (fun σ1 => pb5 (riU σ1 51 ((σ1.1 48)).toNatClampNeg a2) (fun σ2 => pb5 (siU σ2 48 ((σ2.1 48) + (1 : Int32))) (fun σ3 => σ3)))

def g5_goesOn  (σ : rS) : Int32 := pb5 (g5_isRight σ) (fun r2 => (if r2 = 0 then (0 : Int32) else (if (σ.1 47) = 0 then (1 : Int32) else (0 : Int32))))

def g5_apply_202 (s0 : Int32) (σ : rS) : rS := pb5 (riU σ 52 (((σ.1 49) - (1 : Int32))).toNatClampNeg s0) (fun σ1 => σ1)
def g5_apply_84 (a1 : Int32) (a2 : Int32) (a3 : Int32) (σ : rS) : rS := pb5 (g5_rank (a1) σ) (fun r2 => (if r2 = (3 : Int32) then pb5 (g5_compared (a1) (a2) (a3) σ) (fun r16 => (g5_apply_202 (r16) (σ))) else (if a1 = (124 : Int32) then (if a2 = 0 then (if a3 = 0 then pb5 (g5_truth ((0 : Int32)) σ) (fun r12 => (g5_apply_202 (r12) (σ))) else pb5 (g5_truth ((1 : Int32)) σ) (fun r14 => (g5_apply_202 (r14) (σ)))) else pb5 (g5_truth ((1 : Int32)) σ) (fun r10 => (g5_apply_202 (r10) (σ)))) else (if a1 = (38 : Int32) then (if a2 = 0 then pb5 (g5_truth ((0 : Int32)) σ) (fun r4 => (g5_apply_202 (r4) (σ))) else (if a3 = 0 then pb5 (g5_truth ((0 : Int32)) σ) (fun r6 => (g5_apply_202 (r6) (σ))) else pb5 (g5_truth ((1 : Int32)) σ) (fun r8 => (g5_apply_202 (r8) (σ))))) else (if a1 = (43 : Int32) then (g5_apply_202 ((a2 + a3)) (σ)) else (if a1 = (45 : Int32) then (g5_apply_202 ((a2 - a3)) (σ)) else (if a1 = (42 : Int32) then (g5_apply_202 ((a2 * a3)) (σ)) else (if a1 = (47 : Int32) then (g5_apply_202 ((a2 / a3)) (σ)) else (g5_apply_202 ((a2 - a2 / a3 * a3)) (σ))))))))))
def g5_apply_74 (a1 : Int32) (a2 : Int32) (a3 : Int32) (σ : rS) : rS := (if a3 = 0 then pb5 (siU σ 47 (2 : Int32)) (fun σ1 => σ1) else (g5_apply_84 (a1) (a2) (a3) (σ)))
def g5_apply  (σ : rS) : rS := pb5 ((σ.2.2.1 50 (((σ.1 48) - (1 : Int32))).toNatClampNeg)) (fun v1_1 => pb5 (siU σ 48 ((σ.1 48) - (1 : Int32))) (fun σ2 => pb5 (siU σ2 49 ((σ2.1 49) - (1 : Int32))) (fun σ3 => pb5 ((σ3.2.2.1 52 (((σ3.1 49) - (1 : Int32))).toNatClampNeg)) (fun v2_4 => pb5 ((σ3.2.2.1 52 ((σ3.1 49)).toNatClampNeg)) (fun v3_5 => (if (σ3.1 46) = 0 then σ3 else (if v1_1 = (47 : Int32) then (g5_apply_74 (v1_1) (v2_4) (v3_5) (σ3)) else (if v1_1 = (37 : Int32) then (g5_apply_74 (v1_1) (v2_4) (v3_5) (σ3)) else (g5_apply_84 (v1_1) (v2_4) (v3_5) (σ3))))))))))

def g5_settle_0  : Nat → Int32 → rS → rS
  | 0, _, σ => σ
  | m5 + 1, a1, σ => pb5 (g5_goesOn σ) (fun r2 => (if r2 = 0 then σ else pb5 (g5_top σ) (fun r4 => pb5 (g5_rank (r4) σ) (fun r6 => (if r6 < a1 then σ else pb5 (g5_top σ) (fun r8 => pb5 (g5_rank (r8) σ) (fun r10 => (if r10 ≤ 0 then σ else pb5 (g5_apply σ) (fun σ11 => (g5_settle_0 m5 (a1) (σ11)))))))))))
def g5_settle (a1 : Int32) (σ : rS) : rS := g5_settle_0 fu5 a1 σ

def g5_turn_69 (B0 : rS → rS) (s1 : Int32) (s2 : Int32) (σ : rS) : rS := pb5 (riU σ 52 (s1).toNatClampNeg s2) (fun σ1 => pb5 (siU σ1 48 ((σ1.1 48) - (1 : Int32))) (fun σ2 => (B0 (σ2))))
def g5_turn_20 (B0 : rS → rS) (σ : rS) : rS := pb5 ((σ.2.2.1 52 (((σ.1 49) - (1 : Int32))).toNatClampNeg)) (fun v1_1 => pb5 (g5_top σ) (fun r3 => (if r3 = (1000 : Int32) then (if v1_1 = 0 then pb5 (g5_truth ((1 : Int32)) σ) (fun r7 => (g5_turn_69 B0 (((σ.1 49) - (1 : Int32))) (r7) (σ))) else pb5 (g5_truth ((0 : Int32)) σ) (fun r5 => (g5_turn_69 B0 (((σ.1 49) - (1 : Int32))) (r5) (σ)))) else (g5_turn_69 B0 (((σ.1 49) - (1 : Int32))) ((-v1_1)) (σ)))))
def g5_turn_0  : Nat → rS → rS
  | 0, σ => σ
  | m5 + 1, σ => pb5 (g5_top σ) (fun r2 => (if r2 = (1000 : Int32) then (g5_turn_20 (g5_turn_0 m5) (σ)) else pb5 (g5_top σ) (fun r4 => (if r4 = (1001 : Int32) then (g5_turn_20 (g5_turn_0 m5) (σ)) else σ))))
def g5_turn  (σ : rS) : rS := g5_turn_0 fu5 σ

def g5_push (a1 : Int32) (σ : rS) : rS := pb5 (riU σ 52 ((σ.1 49)).toNatClampNeg a1) (fun σ1 => pb5 (siU σ1 49 ((σ1.1 49) + (1 : Int32))) (fun σ2 => pb5 (g5_turn σ2) (fun σ3 => σ3)))

def g5_valueOf (a1 : Int32) (σ : rS) : Int32 := (if (100 : Int32) ≤ a1 then (σ.2.2.1 60 (((((8 : Int32) * ((σ.1 58) - (1 : Int32))) + a1) - (100 : Int32))).toNatClampNeg) else (σ.2.2.1 57 (a1).toNatClampNeg))

def g5_cellOf (a1 : Int32) (a2 : Int32) (σ : rS) : Int32 := pb5 ((a1 - (200 : Int32))) (fun v3_1 => (if a2 < 0 then (-1 : Int32) else (if a2 < (σ.2.2.1 23 (v3_1).toNatClampNeg) then (((σ.1 15) + (σ.2.2.1 24 (v3_1).toNatClampNeg)) + a2) else (-1 : Int32))))

def g5_look_28 (a1 : Int32) (a2 : Int32) (σ : rS) : rS := pb5 (riU σ 39 (a1).toNatClampNeg a2) (fun σ1 => σ1)
def g5_look (a1 : Int32) (a2 : Int32) (σ : rS) : rS := (if a2 = (-1 : Int32) then (if (σ.1 11) = 0 then pb5 (siU σ 11 (11 : Int32)) (fun σ1 => pb5 (siU σ1 12 (σ1.2.2.1 6 (a1).toNatClampNeg)) (fun σ2 => (g5_look_28 (a1) (a2) (σ2)))) else (g5_look_28 (a1) (a2) (σ))) else (g5_look_28 (a1) (a2) (σ)))

def g5_named_79 (a1 : Int32) (a2 : Int32) (σ : rS) : rS × Int32 := pb5 (g5_isRight σ) (fun r2 => (if r2 = 0 then (σ, (0 : Int32)) else (if a2 = 0 then (if (σ.1 46) = 0 then pb5 (g5_push ((0 : Int32)) σ) (fun σ7 => (σ7, (1 : Int32))) else pb5 (g5_valueOf ((σ.2.2.1 39 (a1).toNatClampNeg)) σ) (fun r4 => pb5 (g5_push (r4) σ) (fun σ5 => (σ5, (1 : Int32))))) else pb5 (g5_open ((91 : Int32)) σ) (fun σ9 => pb5 (g5_hold ((91 : Int32)) ((σ9.2.2.1 39 (a1).toNatClampNeg)) σ9) (fun σ11 => (σ11, (0 : Int32)))))))
def g5_named_34 (a1 : Int32) (σ : rS) : rS × Int32 := pb5 (g5_isRight σ) (fun r2 => (if r2 = 0 then (σ, (0 : Int32)) else pb5 (g5_isAt ((91 : Int32)) σ) (fun r4 => (if (σ.1 46) = 0 then (if r4 = 0 then pb5 (g5_variableOf (a1) σ) (fun r6 => pb5 (g5_look (a1) (r6) σ) (fun σ7 => (g5_named_79 (a1) (r4) (σ7)))) else pb5 (g5_arrayOf (a1) σ) (fun r10 => pb5 (g5_look (a1) (r10) σ) (fun σ11 => (g5_named_79 (a1) (r4) (σ11))))) else (g5_named_79 (a1) (r4) (σ))))))
def g5_named  (σ : rS) : rS × Int32 := pb5 ((σ.1 10)) (fun v1_1 => pb5 (g5_go σ) (fun σ2 => pb5 (g5_isRight σ2) (fun r5 => (if r5 = 0 then (g5_named_34 (v1_1) (σ2)) else pb5 (g5_isAt ((40 : Int32)) σ2) (fun r7 => (if r7 = 0 then (g5_named_34 (v1_1) (σ2)) else pb5 (g5_flaw ((2 : Int32)) ((σ2.1 10)) σ2) (fun σ8 => (g5_named_34 (v1_1) (σ8)))))))))

def g5_operand_37 (s1 : Int32) (σ : rS) : rS × Int32 := pb5 (g5_hold (s1) ((0 : Int32)) σ) (fun σ1 => pb5 (g5_go σ1) (fun σ3 => (σ3, (0 : Int32))))
def g5_operand_18  (σ : rS) : rS × Int32 := pb5 (g5_isAt ((33 : Int32)) σ) (fun r2 => (if r2 = 0 then (g5_operand_37 ((1001 : Int32)) (σ)) else (g5_operand_37 ((1000 : Int32)) (σ))))
def g5_operand  (σ : rS) : rS × Int32 := pb5 (g5_isAt ((33 : Int32)) σ) (fun r2 => (if r2 = 0 then pb5 (g5_isAt ((45 : Int32)) σ) (fun r4 => (if r4 = 0 then pb5 (g5_isAt ((40 : Int32)) σ) (fun r6 => (if r6 = 0 then (if (σ.2.2.1 5 ((σ.1 10)).toNatClampNeg) = (2 : Int32) then pb5 ((σ.2.2.1 7 ((σ.1 10)).toNatClampNeg)) (fun v1_11 => pb5 (g5_go σ) (fun σ12 => pb5 (g5_push (v1_11) σ12) (fun σ14 => (σ14, (1 : Int32))))) else (if (σ.2.2.1 5 ((σ.1 10)).toNatClampNeg) = (1 : Int32) then pm5 (g5_named σ) (fun σ7 r8 => (σ7, r8)) else pb5 (g5_flaw ((2 : Int32)) ((σ.1 10)) σ) (fun σ9 => (σ9, (0 : Int32))))) else pb5 (g5_open ((40 : Int32)) σ) (fun σ16 => pb5 (g5_hold ((40 : Int32)) ((0 : Int32)) σ16) (fun σ18 => (σ18, (0 : Int32)))))) else (g5_operand_18 (σ)))) else (g5_operand_18 (σ))))

def g5_behind_73  (σ : rS) : rS × Int32 := pb5 (g5_hold ((σ.2.2.1 7 ((σ.1 10)).toNatClampNeg)) ((0 : Int32)) σ) (fun σ1 => pb5 (g5_go σ1) (fun σ3 => (σ3, (0 : Int32))))
def g5_behind_245  (σ : rS) : rS × Int32 := pb5 (g5_goesOn σ) (fun r2 => (if r2 = 0 then (σ, (1 : Int32)) else pb5 (g5_turn σ) (fun σ3 => (σ3, (1 : Int32)))))
def g5_behind_216 (a3 : Int32) (s1 : Int32) (σ : rS) : rS × Int32 := pb5 (siU σ 47 s1) (fun σ1 => (if a3 = (-1 : Int32) then pb5 (riU σ1 52 (((σ1.1 49) - (1 : Int32))).toNatClampNeg (0 : Int32)) (fun σ3 => (g5_behind_245 (σ3))) else pb5 (riU σ1 52 (((σ1.1 49) - (1 : Int32))).toNatClampNeg (σ1.2.2.1 57 (a3).toNatClampNeg)) (fun σ2 => (g5_behind_245 (σ2)))))
def g5_behind_93  (σ : rS) : rS × Int32 := pb5 (g5_settle ((1 : Int32)) σ) (fun σ1 => pb5 (g5_goesOn σ1) (fun r4 => (if r4 = 0 then (σ1, (2 : Int32)) else (if (σ1.1 48) = 0 then (σ1, (2 : Int32)) else pb5 (g5_top σ1) (fun r6 => (if r6 = (40 : Int32) then pb5 (g5_close ((41 : Int32)) σ1) (fun σ15 => pb5 (siU σ15 48 ((σ15.1 48) - (1 : Int32))) (fun σ17 => pb5 (g5_turn σ17) (fun σ18 => (σ18, (1 : Int32))))) else pb5 (g5_close ((93 : Int32)) σ1) (fun σ7 => pb5 ((σ7.2.2.1 51 (((σ7.1 48) - (1 : Int32))).toNatClampNeg)) (fun v2_9 => pb5 (siU σ7 48 ((σ7.1 48) - (1 : Int32))) (fun σ10 => pb5 (g5_goesOn σ10) (fun r12 => (if r12 = 0 then (g5_behind_245 (σ10)) else (if (σ10.1 46) = (1 : Int32) then pb5 (g5_cellOf (v2_9) ((σ10.2.2.1 52 (((σ10.1 49) - (1 : Int32))).toNatClampNeg)) σ10) (fun r14 => (if r14 = (-1 : Int32) then (g5_behind_216 (r14) ((1 : Int32)) (σ10)) else (g5_behind_216 (r14) ((0 : Int32)) (σ10)))) else (g5_behind_245 (σ10))))))))))))))
def g5_behind_50 (a1 : Int32) (s1 : Int32) (σ : rS) : rS × Int32 := pb5 (g5_settle (s1) σ) (fun σ1 => (if a1 ≤ 0 then (g5_behind_93 (σ1)) else (if a1 = (3 : Int32) then pb5 (g5_top σ1) (fun r4 => pb5 (g5_rank (r4) σ1) (fun r6 => (if r6 = (3 : Int32) then (g5_behind_93 (σ1)) else (g5_behind_73 (σ1))))) else (g5_behind_73 (σ1)))))
def g5_behind_29 (s0 : Int32) (σ : rS) : rS × Int32 := (if s0 = (3 : Int32) then (g5_behind_50 (s0) ((4 : Int32)) (σ)) else (if s0 ≤ 0 then (g5_behind_50 (s0) ((6 : Int32)) (σ)) else (g5_behind_50 (s0) (s0) (σ))))
def g5_behind  (σ : rS) : rS × Int32 := (if (σ.2.2.1 5 ((σ.1 10)).toNatClampNeg) = (3 : Int32) then pb5 (g5_rank ((σ.2.2.1 7 ((σ.1 10)).toNatClampNeg)) σ) (fun r2 => (g5_behind_29 (r2) (σ))) else (g5_behind_29 ((0 : Int32)) (σ)))

def g5_expression_51  (σ : rS) : rS × Int32 := (σ, (σ.2.2.1 52 ((0 : Int32)).toNatClampNeg))
def g5_expression_12  : Nat → Int32 → rS → rS × Int32
  | 0, _, σ => (σ, 0)
  | m5 + 1, a1, σ => pb5 (g5_goesOn σ) (fun r2 => (if r2 = 0 then (g5_expression_51 (σ)) else (if (2 : Int32) ≤ a1 then (g5_expression_51 (σ)) else (if a1 = 0 then pm5 (g5_operand σ) (fun σ5 r6 => (if r6 = 0 then (g5_expression_12 m5 ((0 : Int32)) (σ5)) else (g5_expression_12 m5 ((1 : Int32)) (σ5)))) else pm5 (g5_behind σ) (fun σ3 r4 => (g5_expression_12 m5 (r4) (σ3)))))))
def g5_expression  (σ : rS) : rS × Int32 := pb5 (siU σ 48 (0 : Int32)) (fun σ1 => pb5 (siU σ1 49 (0 : Int32)) (fun σ2 => (g5_expression_12 fu5 ((0 : Int32)) (σ2))))

theorem rank_g5 {C : rCx} (hC : cOK C)  {σ : rS} {a0 : Int32} {Q : Int32 → rS → Prop} (h : ∀ (v : Int32), ((v = rk a0) ∧ v = g5_rank a0 σ) → Q v σ) : cI C 0 m_rank [.int a0] σ Q := by
  refine m_rank_run hC ?_
  unfold w_rank_0
  have hE : g5_rank a0 σ = g5_rank a0 σ := rfl
  refine ⟨fun c1 => ?_, fun c1 => ?_⟩
  · skip
    replace hE := rb_f5 hE c1
    refine ⟨fun c2 => ?_, fun c2 => ?_⟩
    · skip
      replace hE := rb_f5 hE c2
      refine ⟨fun c3 => ?_, fun c3 => ?_⟩
      · skip
        replace hE := rb_t5 hE c3
        refine h _ ?_
        · refine and_5 ?_ (fun o9 => hE.symm)  -- q1
          clear h hE; grind (splits := 24) [rk]
      · skip
        replace hE := rb_f5 hE c3
        refine ⟨fun c4 => ?_, fun c4 => ?_⟩
        · skip
          replace hE := rb_t5 hE c4
          refine h _ ?_
          · refine and_5 ?_ (fun o9 => hE.symm)  -- q2
            clear h hE; grind (splits := 24) [rk]
        · skip
          replace hE := rb_f5 hE c4
          refine ⟨fun c5 => ?_, fun c5 => ?_⟩
          · skip
            replace hE := rb_t5 hE c5
            refine h _ ?_
            · refine and_5 ?_ (fun o9 => hE.symm)  -- q3
              clear h hE; grind (splits := 24) [rk]
          · skip
            replace hE := rb_f5 hE c5
            refine ⟨fun c6 => ?_, fun c6 => ?_⟩
            · skip
              replace hE := rb_t5 hE c6
              refine h _ ?_
              · refine and_5 ?_ (fun o9 => hE.symm)  -- q4
                clear h hE; grind (splits := 24) [rk]
            · skip
              replace hE := rb_f5 hE c6
              refine ⟨fun c7 => ?_, fun c7 => ?_⟩
              · skip
                replace hE := rb_t5 hE c7
                refine h _ ?_
                · refine and_5 ?_ (fun o9 => hE.symm)  -- q5
                  clear h hE; grind (splits := 24) [rk]
              · skip
                replace hE := rb_f5 hE c7
                refine ⟨fun c8 => ?_, fun c8 => ?_⟩
                · skip
                  replace hE := rb_f5 hE c8
                  refine ⟨fun c9 => ?_, fun c9 => ?_⟩
                  · skip
                    replace hE := rb_t5 hE c9
                    refine h _ ?_
                    · refine and_5 ?_ (fun o9 => hE.symm)  -- q6
                      clear h hE; grind (splits := 24) [rk]
                  · skip
                    replace hE := rb_f5 hE c9
                    refine ⟨fun c10 => ?_, fun c10 => ?_⟩
                    · skip
                      replace hE := rb_f5 hE c10
                      refine ⟨fun c11 => ?_, fun c11 => ?_⟩
                      · skip
                        replace hE := rb_t5 hE c11
                        refine h _ ?_
                        · refine and_5 ?_ (fun o9 => hE.symm)  -- q7
                          clear h hE; grind (splits := 24) [rk]
                      · skip
                        replace hE := rb_f5 hE c11
                        refine ⟨fun c12 => ?_, fun c12 => ?_⟩
                        · skip
                          replace hE := rb_t5 hE c12
                          refine h _ ?_
                          · refine and_5 ?_ (fun o9 => hE.symm)  -- q8
                            clear h hE; grind (splits := 24) [rk]
                        · skip
                          replace hE := rb_f5 hE c12
                          refine ⟨fun c13 => ?_, fun c13 => ?_⟩
                          · skip
                            replace hE := rb_f5 hE c13
                            refine h _ ?_
                            · refine and_5 ?_ (fun o9 => hE.symm)  -- q9
                              clear h hE; grind (splits := 24) [rk]
                          · skip
                            replace hE := rb_t5 hE c13
                            refine h _ ?_
                            · refine and_5 ?_ (fun o9 => hE.symm)  -- q10
                              clear h hE; grind (splits := 24) [rk]
                    · skip
                      replace hE := rb_t5 hE c10
                      refine h _ ?_
                      · refine and_5 ?_ (fun o9 => hE.symm)  -- q11
                        clear h hE; grind (splits := 24) [rk]
                · skip
                  replace hE := rb_t5 hE c8
                  refine h _ ?_
                  · refine and_5 ?_ (fun o9 => hE.symm)  -- q12
                    clear h hE; grind (splits := 24) [rk]
    · skip
      replace hE := rb_t5 hE c2
      refine h _ ?_
      · refine and_5 ?_ (fun o9 => hE.symm)  -- q13
        clear h hE; grind (splits := 24) [rk]
  · skip
    replace hE := rb_t5 hE c1
    refine h _ ?_
    · refine and_5 ?_ (fun o9 => hE.symm)  -- q14
      clear h hE; grind (splits := 24) [rk]

theorem truth_g5 {C : rCx} (hC : cOK C)  {σ : rS} {a0 : Int32} {Q : Int32 → rS → Prop} (h : ∀ (v : Int32), ((nb v) ∧ v = g5_truth a0 σ) → Q v σ) : cI C 0 m_truth [.int a0] σ Q := by
  refine m_truth_run hC ?_
  unfold w_truth_0
  have hE : g5_truth a0 σ = g5_truth a0 σ := rfl
  refine ⟨fun c1 => ?_, fun c1 => ?_⟩
  · skip
    replace hE := rb_t5 hE c1
    refine h _ ?_
    · refine and_5 ?_ (fun o9 => hE.symm)  -- q1
      clear h hE; grind (splits := 24) [nb]
  · skip
    replace hE := rb_f5 hE c1
    refine h _ ?_
    · refine and_5 ?_ (fun o9 => hE.symm)  -- q2
      clear h hE; grind (splits := 24) [nb]

theorem compared_g5 {C : rCx} (hC : cOK C)  {σ : rS} {a0 : Int32} {a1 : Int32} {a2 : Int32} {Q : Int32 → rS → Prop} (h : ∀ (v : Int32), ((True) ∧ v = g5_compared a0 a1 a2 σ) → Q v σ) : cI C 1 m_compared [.int a0, .int a1, .int a2] σ Q := by
  refine m_compared_run hC ?_
  unfold w_compared_0
  have hE : g5_compared a0 a1 a2 σ = g5_compared a0 a1 a2 σ := rfl
  refine ⟨fun c1 => ?_, fun c1 => ?_⟩
  · skip
    replace hE := rb_f5 hE c1
    refine ⟨fun c2 => ?_, fun c2 => ?_⟩
    · skip
      replace hE := rb_f5 hE c2
      refine ⟨fun c3 => ?_, fun c3 => ?_⟩
      · skip
        replace hE := rb_f5 hE c3
        refine ⟨fun c4 => ?_, fun c4 => ?_⟩
        · skip
          replace hE := rb_f5 hE c4
          refine ⟨fun c5 => ?_, fun c5 => ?_⟩
          · skip
            replace hE := rb_f5 hE c5
            refine ⟨fun c6 => ?_, fun c6 => ?_⟩
            · skip
              replace hE := rb_t5 hE c6
              refine truth_g5 hC  (fun r7 q9 => ?_)
              obtain ⟨q9, z9⟩ := q9
              replace hE := rb_p5 hE z9
              clear z9
              refine h _ ?_
              · refine and_5 ?_ (fun o9 => hE.symm)  -- q1
                clear h hE; trivial
            · skip
              replace hE := rb_f5 hE c6
              refine truth_g5 hC  (fun r10 q12 => ?_)
              obtain ⟨q12, z9⟩ := q12
              replace hE := rb_p5 hE z9
              clear z9
              refine h _ ?_
              · refine and_5 ?_ (fun o9 => hE.symm)  -- q2
                clear h hE; trivial
          · skip
            replace hE := rb_t5 hE c5
            refine ⟨fun c13 => ?_, fun c13 => ?_⟩
            · skip
              replace hE := rb_t5 hE c13
              refine truth_g5 hC  (fun r14 q16 => ?_)
              obtain ⟨q16, z9⟩ := q16
              replace hE := rb_p5 hE z9
              clear z9
              refine h _ ?_
              · refine and_5 ?_ (fun o9 => hE.symm)  -- q3
                clear h hE; trivial
            · skip
              replace hE := rb_f5 hE c13
              refine truth_g5 hC  (fun r17 q19 => ?_)
              obtain ⟨q19, z9⟩ := q19
              replace hE := rb_p5 hE z9
              clear z9
              refine h _ ?_
              · refine and_5 ?_ (fun o9 => hE.symm)  -- q4
                clear h hE; trivial
        · skip
          replace hE := rb_t5 hE c4
          refine ⟨fun c20 => ?_, fun c20 => ?_⟩
          · skip
            replace hE := rb_t5 hE c20
            refine truth_g5 hC  (fun r21 q23 => ?_)
            obtain ⟨q23, z9⟩ := q23
            replace hE := rb_p5 hE z9
            clear z9
            refine h _ ?_
            · refine and_5 ?_ (fun o9 => hE.symm)  -- q5
              clear h hE; trivial
          · skip
            replace hE := rb_f5 hE c20
            refine truth_g5 hC  (fun r24 q26 => ?_)
            obtain ⟨q26, z9⟩ := q26
            replace hE := rb_p5 hE z9
            clear z9
            refine h _ ?_
            · refine and_5 ?_ (fun o9 => hE.symm)  -- q6
              clear h hE; trivial
      · skip
        replace hE := rb_t5 hE c3
        refine ⟨fun c27 => ?_, fun c27 => ?_⟩
        · skip
          replace hE := rb_t5 hE c27
          refine truth_g5 hC  (fun r28 q30 => ?_)
          obtain ⟨q30, z9⟩ := q30
          replace hE := rb_p5 hE z9
          clear z9
          refine h _ ?_
          · refine and_5 ?_ (fun o9 => hE.symm)  -- q7
            clear h hE; trivial
        · skip
          replace hE := rb_f5 hE c27
          refine truth_g5 hC  (fun r31 q33 => ?_)
          obtain ⟨q33, z9⟩ := q33
          replace hE := rb_p5 hE z9
          clear z9
          refine h _ ?_
          · refine and_5 ?_ (fun o9 => hE.symm)  -- q8
            clear h hE; trivial
    · skip
      replace hE := rb_t5 hE c2
      refine ⟨fun c34 => ?_, fun c34 => ?_⟩
      · skip
        replace hE := rb_t5 hE c34
        refine truth_g5 hC  (fun r35 q37 => ?_)
        obtain ⟨q37, z9⟩ := q37
        replace hE := rb_p5 hE z9
        clear z9
        refine h _ ?_
        · refine and_5 ?_ (fun o9 => hE.symm)  -- q9
          clear h hE; trivial
      · skip
        replace hE := rb_f5 hE c34
        refine truth_g5 hC  (fun r38 q40 => ?_)
        obtain ⟨q40, z9⟩ := q40
        replace hE := rb_p5 hE z9
        clear z9
        refine h _ ?_
        · refine and_5 ?_ (fun o9 => hE.symm)  -- q10
          clear h hE; trivial
  · skip
    replace hE := rb_t5 hE c1
    refine ⟨fun c41 => ?_, fun c41 => ?_⟩
    · skip
      replace hE := rb_f5 hE c41
      refine truth_g5 hC  (fun r42 q44 => ?_)
      obtain ⟨q44, z9⟩ := q44
      replace hE := rb_p5 hE z9
      clear z9
      refine h _ ?_
      · refine and_5 ?_ (fun o9 => hE.symm)  -- q11
        clear h hE; trivial
    · skip
      replace hE := rb_t5 hE c41
      refine truth_g5 hC  (fun r45 q47 => ?_)
      obtain ⟨q47, z9⟩ := q47
      replace hE := rb_p5 hE z9
      clear z9
      refine h _ ?_
      · refine and_5 ?_ (fun o9 => hE.symm)  -- q12
        clear h hE; trivial

theorem top_g5 {C : rCx} (hC : cOK C)  {σ : rS}  {Q : Int32 → rS → Prop} (hp : σ.1 48 ≤ 66000) (h : ∀ (v : Int32), ((v = tp (eW σ)) ∧ v = g5_top σ) → Q v σ) : cI C 0 m_top [.ref (co C)] σ Q := by
  refine m_top_run hC ?_
  unfold w_top_0
  have hE : g5_top σ = g5_top σ := rfl
  refine ⟨fun c1 => ?_, fun c1 => ?_⟩
  · skip
    replace hE := rb_t5 hE c1
    refine h _ ?_
    · refine and_5 ?_ (fun o9 => hE.symm)  -- q1
      clear h hE; simp only [eW, eLst_nil (by assumption : σ.1 48 ≤ 0), tp]
  · skip
    replace hE := rb_f5 hE c1
    refine ⟨ib_66000.mpr ?_, ?_⟩
    · clear h hE; grind (splits := 24) [si1, si2, ri1, ri2, ri3, ri34, ri5]  -- b2
    refine h _ ?_
    · refine and_5 ?_ (fun o9 => hE.symm)  -- q3
      clear h hE; simp only [eW, eLst_cons (n := σ.1 48) (by grind) (by grind), tp]

theorem hold_g5 {C : rCx} (hC : cOK C)  {σ : rS} {a1 : Int32} {a2 : Int32} {Q : rS → Prop} (hp : 0 ≤ σ.1 48 ∧ σ.1 48 < 66000) (h : ∀ (σ' : rS), ((((∀ k, k ≠ 48 → σ'.1 k = σ.1 k) ∧ (∀ k,  σ'.2.1 k = σ.2.1 k) ∧ (∀ k, k ≠ 50 → k ≠ 51 → σ'.2.2.1 k = σ.2.2.1 k) ∧ (∀ k j, k ≠ 50 → k ≠ 51 → σ'.2.2.1 k j = σ.2.2.1 k j) ∧ (∀ k j,  σ'.2.2.2 k j = σ.2.2.2 k j)) ∧ eW σ' = (a1, a2) :: eW σ ∧ σ'.1 48 = σ.1 48 + 1) ∧ g5_hold a1 a2 σ = σ') → Q σ') : cV C 0 m_hold [.ref (co C), .int a1, .int a2] σ Q := by
  refine m_hold_run hC ?_
  unfold w_hold_0
  have hE : g5_hold a1 a2 σ = g5_hold a1 a2 σ := rfl
  refine ⟨ib_66000.mpr ?_, ?_⟩
  · clear h hE; grind (splits := 24) [si1, si2, ri1, ri2, ri3, ri34, ri5]  -- b1
  intro σ_1 hσ_1
  replace hE := rb_p5 hE hσ_1
  refine ⟨ib_66000.mpr ?_, ?_⟩
  · clear h hE; grind (splits := 24) [si1, si2, ri1, ri2, ri3, ri34, ri5]  -- b2
  intro σ_2 hσ_2
  replace hE := rb_p5 hE hσ_2
  intro σ_3 hσ_3
  replace hE := rb_p5 hE hσ_3
  refine h _ ?_
  · refine and_5 ?_ (fun o9 => hE)  -- q3
    clear h hE; have e1 : σ_3.2.2.1 50 = upd (σ.2.2.1 50) (σ.1 48).toNatClampNeg a1 := by rw [hσ_3, si2, hσ_2, ri3 (by decide), hσ_1, ri_row]
    have e2 : σ_3.2.2.1 51 = upd (σ.2.2.1 51) (σ.1 48).toNatClampNeg a2 := by rw [hσ_3, si2, hσ_2, ri_row, hσ_1, ri1, ri3 (by decide)]
    have e3 : σ_3.1 48 = σ.1 48 + 1 := by rw [hσ_3, si1, if_pos rfl, hσ_2, ri1, hσ_1, ri1]
    refine ⟨by grind [si1, si2, ri1, ri2, ri3, ri34, ri5], ?_, e3⟩
    show eLst (σ_3.1 48).toNatClampNeg (σ_3.2.2.1 50) (σ_3.2.2.1 51) = _
    rw [e1, e2, e3]
    exact eLst_push hp.1 (by grind)

theorem goesOn_g5 {C : rCx} (hC : cOK C)  {σ : rS}  {Q : Int32 → rS → Prop} (h : ∀ (v : Int32), ((nb v ∧ (v ≠ 0 ↔ σ.1 11 = 0 ∧ σ.1 47 = 0)) ∧ v = g5_goesOn σ) → Q v σ) : cI C 1 m_goesOn [.ref (co C)] σ Q := by
  refine m_goesOn_run hC ?_
  unfold w_goesOn_0
  have hE : g5_goesOn σ = g5_goesOn σ := rfl
  refine isRight_g5 hC  (fun r1 q3 => ?_)
  obtain ⟨q3, z9⟩ := q3
  replace hE := rb_p5 hE z9
  clear z9
  refine ⟨fun c4 => ?_, fun c4 => ?_⟩
  · skip
    replace hE := rb_t5 hE c4
    refine h _ ?_
    · refine and_5 ?_ (fun o9 => hE.symm)  -- q1
      clear h hE; grind (splits := 24) [nb]
  · skip
    replace hE := rb_f5 hE c4
    refine ⟨fun c5 => ?_, fun c5 => ?_⟩
    · skip
      replace hE := rb_f5 hE c5
      refine h _ ?_
      · refine and_5 ?_ (fun o9 => hE.symm)  -- q2
        clear h hE; grind (splits := 24) [nb]
    · skip
      replace hE := rb_t5 hE c5
      refine h _ ?_
      · refine and_5 ?_ (fun o9 => hE.symm)  -- q3
        clear h hE; grind (splits := 24) [nb]

theorem apply_g5 {C : rCx} (hC : cOK C)  {σ : rS}  {Q : rS → Prop} (hp : 0 < σ.1 48 ∧ σ.1 48 ≤ 66000 ∧ 2 ≤ σ.1 49 ∧ σ.1 49 ≤ 66000 ∧ 0 < rk (rd σ 50 (σ.1 48 - 1))) (h : ∀ (σ' : rS), ((((∀ k, k ≠ 47 → k ≠ 48 → k ≠ 49 → σ'.1 k = σ.1 k) ∧ (∀ k,  σ'.2.1 k = σ.2.1 k) ∧ (∀ k, k ≠ 52 → σ'.2.2.1 k = σ.2.2.1 k) ∧ (∀ k j, k ≠ 52 → σ'.2.2.1 k j = σ.2.2.1 k j) ∧ (∀ k j,  σ'.2.2.2 k j = σ.2.2.2 k j)) ∧ σ'.1 48 = σ.1 48 - 1 ∧ σ'.1 49 = σ.1 49 - 1 ∧ (σ.1 46 = 0 → σ'.1 47 = σ.1 47) ∧ (0 ≤ σ.1 47 → 0 ≤ σ'.1 47)) ∧ g5_apply σ = σ') → Q σ') : cV C 2 m_apply [.ref (co C)] σ Q := by
  refine m_apply_run hC ?_
  unfold w_apply_0
  have hj202 : ∀ (s0 : Int32) (τ : rS), ((((∀ k, k ≠ 48 → k ≠ 49 → τ.1 k = σ.1 k) ∧ (∀ k,  τ.2.1 k = σ.2.1 k) ∧ (∀ k, k ≠ 52 → τ.2.2.1 k = σ.2.2.1 k) ∧ (∀ k j, k ≠ 52 → τ.2.2.1 k j = σ.2.2.1 k j) ∧ (∀ k j,  τ.2.2.2 k j = σ.2.2.2 k j)) ∧ τ.1 48 = σ.1 48 - 1 ∧ τ.1 49 = σ.1 49 - 1) ∧ g5_apply σ = g5_apply_202 s0 τ) → w_apply_202 C Q  s0 τ := by
    rintro y202_s0 τ202 ⟨j202, hE⟩
    unfold w_apply_202
    refine ⟨ib_66000.mpr ?_, ?_⟩
    · clear h hE; grind (splits := 24) [si1, si2, ri1, ri2, ri3, ri34, ri5, rk]  -- b1
    intro σ_1 hσ_1
    replace hE := rb_p5 hE hσ_1
    refine h _ ?_
    · refine and_5 ?_ (fun o9 => hE)  -- q2
      clear h hE; grind (splits := 24) [si1, si2, ri1, ri2, ri3, ri34, ri5, rk]
  have hj84 : ∀ (l1 : Int32) (l2 : Int32) (l3 : Int32) (τ : rS), ((((∀ k, k ≠ 48 → k ≠ 49 → τ.1 k = σ.1 k) ∧ (∀ k,  τ.2.1 k = σ.2.1 k) ∧ (∀ k, k ≠ 52 → τ.2.2.1 k = σ.2.2.1 k) ∧ (∀ k j, k ≠ 52 → τ.2.2.1 k j = σ.2.2.1 k j) ∧ (∀ k j,  τ.2.2.2 k j = σ.2.2.2 k j)) ∧ τ.1 48 = σ.1 48 - 1 ∧ τ.1 49 = σ.1 49 - 1 ∧ σ.1 46 ≠ 0 ∧ ((l1 = 47 ∨ l1 = 37) → l3 ≠ 0) ∧ 0 < rk l1) ∧ g5_apply σ = g5_apply_84 l1 l2 l3 τ) → w_apply_84 C Q  l1 l2 l3 τ := by
    rintro y84_1 y84_2 y84_3 τ84 ⟨j84, hE⟩
    unfold w_apply_84
    refine rank_g5 hC  (fun r2 q4 => ?_)
    obtain ⟨q4, z9⟩ := q4
    replace hE := rb_p5 hE z9
    clear z9
    refine ⟨fun c5 => ?_, fun c5 => ?_⟩
    · skip
      replace hE := rb_f5 hE c5
      refine ⟨fun c6 => ?_, fun c6 => ?_⟩
      · skip
        replace hE := rb_f5 hE c6
        refine ⟨fun c7 => ?_, fun c7 => ?_⟩
        · skip
          replace hE := rb_f5 hE c7
          refine ⟨fun c8 => ?_, fun c8 => ?_⟩
          · skip
            replace hE := rb_f5 hE c8
            refine ⟨fun c9 => ?_, fun c9 => ?_⟩
            · skip
              replace hE := rb_f5 hE c9
              refine ⟨fun c10 => ?_, fun c10 => ?_⟩
              · skip
                replace hE := rb_f5 hE c10
                refine ⟨fun c11 => ?_, fun c11 => ?_⟩
                · skip
                  replace hE := rb_f5 hE c11
                  refine ⟨?_, ?_⟩
                  · clear h hE; grind (splits := 24) [si1, si2, ri1, ri2, ri3, ri34, ri5, rk]  -- b3
                  refine hj202 _ _ ?_
                  · refine and_5 ?_ (fun o9 => hE)  -- k4
                    clear h hE; grind (splits := 24) [si1, si2, ri1, ri2, ri3, ri34, ri5, rk]
                · skip
                  replace hE := rb_t5 hE c11
                  refine ⟨?_, ?_⟩
                  · clear h hE; grind (splits := 24) [si1, si2, ri1, ri2, ri3, ri34, ri5, rk]  -- b5
                  refine hj202 _ _ ?_
                  · refine and_5 ?_ (fun o9 => hE)  -- k6
                    clear h hE; grind (splits := 24) [si1, si2, ri1, ri2, ri3, ri34, ri5, rk]
              · skip
                replace hE := rb_t5 hE c10
                refine hj202 _ _ ?_
                · refine and_5 ?_ (fun o9 => hE)  -- k7
                  clear h hE; grind (splits := 24) [si1, si2, ri1, ri2, ri3, ri34, ri5, rk]
            · skip
              replace hE := rb_t5 hE c9
              refine hj202 _ _ ?_
              · refine and_5 ?_ (fun o9 => hE)  -- k8
                clear h hE; grind (splits := 24) [si1, si2, ri1, ri2, ri3, ri34, ri5, rk]
          · skip
            replace hE := rb_t5 hE c8
            refine hj202 _ _ ?_
            · refine and_5 ?_ (fun o9 => hE)  -- k9
              clear h hE; grind (splits := 24) [si1, si2, ri1, ri2, ri3, ri34, ri5, rk]
        · skip
          replace hE := rb_t5 hE c7
          refine ⟨fun c12 => ?_, fun c12 => ?_⟩
          · skip
            replace hE := rb_t5 hE c12
            refine truth_g5 hC  (fun r13 q15 => ?_)
            obtain ⟨q15, z9⟩ := q15
            replace hE := rb_p5 hE z9
            clear z9
            refine hj202 _ _ ?_
            · refine and_5 ?_ (fun o9 => hE)  -- k10
              clear h hE; grind (splits := 24) [si1, si2, ri1, ri2, ri3, ri34, ri5, rk]
          · skip
            replace hE := rb_f5 hE c12
            refine ⟨fun c16 => ?_, fun c16 => ?_⟩
            · skip
              replace hE := rb_t5 hE c16
              refine truth_g5 hC  (fun r17 q19 => ?_)
              obtain ⟨q19, z9⟩ := q19
              replace hE := rb_p5 hE z9
              clear z9
              refine hj202 _ _ ?_
              · refine and_5 ?_ (fun o9 => hE)  -- k11
                clear h hE; grind (splits := 24) [si1, si2, ri1, ri2, ri3, ri34, ri5, rk]
            · skip
              replace hE := rb_f5 hE c16
              refine truth_g5 hC  (fun r20 q22 => ?_)
              obtain ⟨q22, z9⟩ := q22
              replace hE := rb_p5 hE z9
              clear z9
              refine hj202 _ _ ?_
              · refine and_5 ?_ (fun o9 => hE)  -- k12
                clear h hE; grind (splits := 24) [si1, si2, ri1, ri2, ri3, ri34, ri5, rk]
      · skip
        replace hE := rb_t5 hE c6
        refine ⟨fun c23 => ?_, fun c23 => ?_⟩
        · skip
          replace hE := rb_f5 hE c23
          refine truth_g5 hC  (fun r24 q26 => ?_)
          obtain ⟨q26, z9⟩ := q26
          replace hE := rb_p5 hE z9
          clear z9
          refine hj202 _ _ ?_
          · refine and_5 ?_ (fun o9 => hE)  -- k13
            clear h hE; grind (splits := 24) [si1, si2, ri1, ri2, ri3, ri34, ri5, rk]
        · skip
          replace hE := rb_t5 hE c23
          refine ⟨fun c27 => ?_, fun c27 => ?_⟩
          · skip
            replace hE := rb_t5 hE c27
            refine truth_g5 hC  (fun r28 q30 => ?_)
            obtain ⟨q30, z9⟩ := q30
            replace hE := rb_p5 hE z9
            clear z9
            refine hj202 _ _ ?_
            · refine and_5 ?_ (fun o9 => hE)  -- k14
              clear h hE; grind (splits := 24) [si1, si2, ri1, ri2, ri3, ri34, ri5, rk]
          · skip
            replace hE := rb_f5 hE c27
            refine truth_g5 hC  (fun r31 q33 => ?_)
            obtain ⟨q33, z9⟩ := q33
            replace hE := rb_p5 hE z9
            clear z9
            refine hj202 _ _ ?_
            · refine and_5 ?_ (fun o9 => hE)  -- k15
              clear h hE; grind (splits := 24) [si1, si2, ri1, ri2, ri3, ri34, ri5, rk]
    · skip
      replace hE := rb_t5 hE c5
      refine compared_g5 hC  (fun r34 q36 => ?_)
      obtain ⟨q36, z9⟩ := q36
      replace hE := rb_p5 hE z9
      clear z9
      refine hj202 _ _ ?_
      · refine and_5 ?_ (fun o9 => hE)  -- k16
        clear h hE; grind (splits := 24) [si1, si2, ri1, ri2, ri3, ri34, ri5, rk]
  have hj74 : ∀ (l1 : Int32) (l2 : Int32) (l3 : Int32) (τ : rS), ((((∀ k, k ≠ 48 → k ≠ 49 → τ.1 k = σ.1 k) ∧ (∀ k,  τ.2.1 k = σ.2.1 k) ∧ (∀ k, k ≠ 52 → τ.2.2.1 k = σ.2.2.1 k) ∧ (∀ k j, k ≠ 52 → τ.2.2.1 k j = σ.2.2.1 k j) ∧ (∀ k j,  τ.2.2.2 k j = σ.2.2.2 k j)) ∧ τ.1 48 = σ.1 48 - 1 ∧ τ.1 49 = σ.1 49 - 1 ∧ σ.1 46 ≠ 0 ∧ 0 < rk l1) ∧ g5_apply σ = g5_apply_74 l1 l2 l3 τ) → w_apply_74 C Q  l1 l2 l3 τ := by
    rintro y74_1 y74_2 y74_3 τ74 ⟨j74, hE⟩
    unfold w_apply_74
    refine ⟨fun c37 => ?_, fun c37 => ?_⟩
    · skip
      replace hE := rb_f5 hE c37
      refine hj84 _ _ _ _ ?_
      · refine and_5 ?_ (fun o9 => hE)  -- k17
        clear h hE; grind (splits := 24) [si1, si2, ri1, ri2, ri3, ri34, ri5, rk]
    · skip
      replace hE := rb_t5 hE c37
      intro σ_38 hσ_38
      replace hE := rb_p5 hE hσ_38
      refine h _ ?_
      · refine and_5 ?_ (fun o9 => hE)  -- q18
        clear h hE; grind (splits := 24) [si1, si2, ri1, ri2, ri3, ri34, ri5, rk]
  have hE : g5_apply σ = g5_apply σ := rfl
  refine ⟨ib_66000.mpr ?_, ?_⟩
  · clear h hE; grind (splits := 24) [si1, si2, ri1, ri2, ri3, ri34, ri5, rk]  -- b19
  intro x39 hx39
  replace hE := rb_p5 hE hx39
  intro σ_40 hσ_40
  replace hE := rb_p5 hE hσ_40
  intro σ_41 hσ_41
  replace hE := rb_p5 hE hσ_41
  refine ⟨ib_66000.mpr ?_, ?_⟩
  · clear h hE; grind (splits := 24) [si1, si2, ri1, ri2, ri3, ri34, ri5, rk]  -- b20
  intro x42 hx42
  replace hE := rb_p5 hE hx42
  refine ⟨ib_66000.mpr ?_, ?_⟩
  · clear h hE; grind (splits := 24) [si1, si2, ri1, ri2, ri3, ri34, ri5, rk]  -- b21
  intro x43 hx43
  replace hE := rb_p5 hE hx43
  refine ⟨fun c44 => ?_, fun c44 => ?_⟩
  · skip
    replace hE := rb_f5 hE c44
    refine ⟨fun c45 => ?_, fun c45 => ?_⟩
    · skip
      replace hE := rb_t5 hE c45
      refine hj74 _ _ _ _ ?_
      · refine and_5 ?_ (fun o9 => hE)  -- k22
        clear h hE; grind (splits := 24) [si1, si2, ri1, ri2, ri3, ri34, ri5, rk]
    · skip
      replace hE := rb_f5 hE c45
      refine ⟨fun c46 => ?_, fun c46 => ?_⟩
      · skip
        replace hE := rb_f5 hE c46
        refine hj84 _ _ _ _ ?_
        · refine and_5 ?_ (fun o9 => hE)  -- k23
          clear h hE; grind (splits := 24) [si1, si2, ri1, ri2, ri3, ri34, ri5, rk]
      · skip
        replace hE := rb_t5 hE c46
        refine hj74 _ _ _ _ ?_
        · refine and_5 ?_ (fun o9 => hE)  -- k24
          clear h hE; grind (splits := 24) [si1, si2, ri1, ri2, ri3, ri34, ri5, rk]
  · skip
    replace hE := rb_t5 hE c44
    refine h _ ?_
    · refine and_5 ?_ (fun o9 => hE)  -- q25
      clear h hE; grind (splits := 24) [si1, si2, ri1, ri2, ri3, ri34, ri5, rk]

theorem settle_g5 {C : rCx} (hC : cOK C) (R : Int32) {σ : rS} {a1 : Int32} {Q : rS → Prop} (hp : 1 ≤ a1 ∧ eI (σ.1 48) (σ.1 49) (eW σ) 1 R) (h : ∀ (σ' : rS), ((((∀ k, k ≠ 47 → k ≠ 48 → k ≠ 49 → σ'.1 k = σ.1 k) ∧ (∀ k,  σ'.2.1 k = σ.2.1 k) ∧ (∀ k, k ≠ 52 → σ'.2.2.1 k = σ.2.2.1 k) ∧ (∀ k j, k ≠ 52 → σ'.2.2.1 k j = σ.2.2.1 k j) ∧ (∀ k j,  σ'.2.2.2 k j = σ.2.2.2 k j)) ∧ eI (σ'.1 48) (σ'.1 49) (eW σ') 1 R ∧ ((σ.1 46 = 0 → σ'.1 47 = σ.1 47) ∧ (0 ≤ σ.1 47 → 0 ≤ σ'.1 47)) ∧ (σ.1 11 = 0 → σ'.1 47 = 0 → eW σ' = popW a1 (eW σ)) ∧ (σ.1 47 ≠ 0 → σ' = σ) ∧ (σ.1 11 ≠ 0 → σ' = σ)) ∧ g5_settle a1 σ = σ') → Q σ') : cV C 3 m_settle [.ref (co C), .int a1] σ Q := by
  refine m_settle_run hC ?_
  unfold w_settle_0
  refine ⟨fun n l1 τ => n = (τ.1 48).toNatClampNeg ∧ ((l1 = a1 ∧ ((∀ k, k ≠ 47 → k ≠ 48 → k ≠ 49 → τ.1 k = σ.1 k) ∧ (∀ k,  τ.2.1 k = σ.2.1 k) ∧ (∀ k, k ≠ 52 → τ.2.2.1 k = σ.2.2.1 k) ∧ (∀ k j, k ≠ 52 → τ.2.2.1 k j = σ.2.2.1 k j) ∧ (∀ k j,  τ.2.2.2 k j = σ.2.2.2 k j)) ∧ eI (τ.1 48) (τ.1 49) (eW τ) 1 R ∧ ((σ.1 46 = 0 → τ.1 47 = σ.1 47) ∧ (0 ≤ σ.1 47 → 0 ≤ τ.1 47)) ∧ popW a1 (eW τ) = popW a1 (eW σ) ∧ (σ.1 47 ≠ 0 → τ = σ) ∧ (σ.1 11 ≠ 0 → τ = σ)) ∧ ∃ m5, n < m5 ∧ g5_settle a1 σ = g5_settle_0 m5 l1 τ), ⟨_, rfl, ?_⟩, ?_⟩
  · refine and_5 ?_ (fun o9 => ⟨fu5, cnb5, rfl⟩)  -- j1
    clear h; grind (splits := 24) [eI, eI_pop, pop_stop]
  rintro n0 x0_1 σ0 ⟨hn0, i0, m0, hm0, hE⟩
  obtain ⟨m0, rfl⟩ : ∃ m9, m0 = m9 + 1 := ⟨m0 - 1, by clear h hE; omega⟩
  refine goesOn_g5 hC  (fun r1 q3 => ?_)
  obtain ⟨q3, z9⟩ := q3
  replace hE := rb_p5 hE z9
  clear z9
  refine ⟨fun c4 => ?_, fun c4 => ?_⟩
  · skip
    replace hE := rb_t5 hE c4
    refine h _ ?_
    · refine and_5 ?_ (fun o9 => hE)  -- q2
      clear h hE; grind (splits := 24) [eI, eI_pop, pop_stop]
  · skip
    replace hE := rb_f5 hE c4
    refine top_g5 hC  ?_ (fun r5 q7 => ?_)
    · clear h hE; grind (splits := 24) [eI, eI_pop, pop_stop]  -- p3
    obtain ⟨q7, z9⟩ := q7
    replace hE := rb_p5 hE z9
    clear z9
    refine rank_g5 hC  (fun r8 q10 => ?_)
    obtain ⟨q10, z9⟩ := q10
    replace hE := rb_p5 hE z9
    clear z9
    refine ⟨fun c11 => ?_, fun c11 => ?_⟩
    · skip
      replace hE := rb_t5 hE c11
      refine h _ ?_
      · refine and_5 ?_ (fun o9 => hE)  -- q4
        clear h hE; grind (splits := 24) [eI, eI_pop, pop_stop]
    · skip
      replace hE := rb_f5 hE c11
      refine top_g5 hC  ?_ (fun r12 q14 => ?_)
      · clear h hE; grind (splits := 24) [eI, eI_pop, pop_stop]  -- p5
      obtain ⟨q14, z9⟩ := q14
      replace hE := rb_p5 hE z9
      clear z9
      refine rank_g5 hC  (fun r15 q17 => ?_)
      obtain ⟨q17, z9⟩ := q17
      replace hE := rb_p5 hE z9
      clear z9
      refine ⟨fun c18 => ?_, fun c18 => ?_⟩
      · skip
        replace hE := rb_t5 hE c18
        refine h _ ?_
        · refine and_5 ?_ (fun o9 => hE)  -- q6
          clear h hE; grind (splits := 24) [eI, eI_pop, pop_stop]
      · skip
        replace hE := rb_f5 hE c18
        refine apply_g5 hC  ?_ (fun σ_19 q20 => ?_)
        · clear h hE; have k := eI_pop (n := σ0.1 48) (v := σ0.1 49) (w := σ0.2.2.1 50) (r := σ0.2.2.1 51) (R := R) (by grind) (by grind)
          grind [eI]
        obtain ⟨q20, z9⟩ := q20
        replace hE := rb_p5 hE z9.symm
        clear z9
        refine lp_b5 (cn_lt2 hn0 ?_ ?_) (fun d9 => ⟨rfl, ?_⟩)
        · clear h hE; have k := eI_pop (n := σ0.1 48) (v := σ0.1 49) (w := σ0.2.2.1 50) (r := σ0.2.2.1 51) (R := R) (by grind) (by grind)
          grind [eI]
        · clear h hE; grind (splits := 24) [eI, eI_pop, pop_stop]  -- d9
        · refine and_5 ?_ (fun o9 => ⟨m0, Nat.lt_of_lt_of_le d9 (Nat.le_of_lt_succ hm0), hE⟩)  -- i10
          clear h hE d9 hm0; have k := eI_pop (n := σ0.1 48) (v := σ0.1 49) (w := σ0.2.2.1 50) (r := σ0.2.2.1 51) (R := R) (by grind) (by grind)
          grind

theorem turn_g5 {C : rCx} (hC : cOK C)  {σ : rS}  {Q : rS → Prop} (hp : 0 ≤ σ.1 48 ∧ σ.1 48 ≤ 66000 ∧ 1 ≤ σ.1 49 ∧ σ.1 49 ≤ 66000) (h : ∀ (σ' : rS), ((((∀ k, k ≠ 48 → σ'.1 k = σ.1 k) ∧ (∀ k,  σ'.2.1 k = σ.2.1 k) ∧ (∀ k, k ≠ 52 → σ'.2.2.1 k = σ.2.2.1 k) ∧ (∀ k j, k ≠ 52 → σ'.2.2.1 k j = σ.2.2.1 k j) ∧ (∀ k j,  σ'.2.2.2 k j = σ.2.2.2 k j)) ∧ eW σ' = turnW (eW σ) ∧ 0 ≤ σ'.1 48 ∧ σ'.1 48 ≤ σ.1 48) ∧ g5_turn σ = σ') → Q σ') : cV C 1 m_turn [.ref (co C)] σ Q := by
  refine m_turn_run hC ?_
  unfold w_turn_0
  refine ⟨fun n  τ => n = (τ.1 48).toNatClampNeg ∧ ((((∀ k, k ≠ 48 → τ.1 k = σ.1 k) ∧ (∀ k,  τ.2.1 k = σ.2.1 k) ∧ (∀ k, k ≠ 52 → τ.2.2.1 k = σ.2.2.1 k) ∧ (∀ k j, k ≠ 52 → τ.2.2.1 k j = σ.2.2.1 k j) ∧ (∀ k j,  τ.2.2.2 k j = σ.2.2.2 k j)) ∧ turnW (eW τ) = turnW (eW σ) ∧ 0 ≤ τ.1 48 ∧ τ.1 48 ≤ σ.1 48) ∧ ∃ m5, n < m5 ∧ g5_turn σ = g5_turn_0 m5 τ), ⟨_, rfl, ?_⟩, ?_⟩
  · refine and_5 ?_ (fun o9 => ⟨fu5, cnb5, rfl⟩)  -- j1
    clear h; grind (splits := 24) [si1, si2, ri1, ri2, ri3, ri34, ri5, turn_pop, turn_stop, isU]
  rintro n0  σ0 ⟨hn0, i0, m0, hm0, hE⟩
  obtain ⟨m0, rfl⟩ : ∃ m9, m0 = m9 + 1 := ⟨m0 - 1, by clear h hE; omega⟩
  have hj69 : ∀ (s1 : Int32) (s2 : Int32) (τ : rS), ((τ = σ0 ∧ isU (tp (eW τ)) ∧ s1 = τ.1 49 - 1) ∧ g5_turn σ = g5_turn_69 (g5_turn_0 m0) s1 s2 τ) → w_turn_69 C Q (fun  τ => ∃ k < n0, (fun n  τ => n = (τ.1 48).toNatClampNeg ∧ ((((∀ k, k ≠ 48 → τ.1 k = σ.1 k) ∧ (∀ k,  τ.2.1 k = σ.2.1 k) ∧ (∀ k, k ≠ 52 → τ.2.2.1 k = σ.2.2.1 k) ∧ (∀ k j, k ≠ 52 → τ.2.2.1 k j = σ.2.2.1 k j) ∧ (∀ k j,  τ.2.2.2 k j = σ.2.2.2 k j)) ∧ turnW (eW τ) = turnW (eW σ) ∧ 0 ≤ τ.1 48 ∧ τ.1 48 ≤ σ.1 48) ∧ ∃ m5, n < m5 ∧ g5_turn σ = g5_turn_0 m5 τ)) k  τ) s1 s2 τ := by
    clear hE
    rintro y69_s1 y69_s2 τ69 ⟨j69, hE⟩
    unfold w_turn_69
    refine ⟨ib_66000.mpr ?_, ?_⟩
    · clear h hE; grind (splits := 24) [si1, si2, ri1, ri2, ri3, ri34, ri5, turn_pop, turn_stop, isU]  -- b2
    intro σ_1 hσ_1
    replace hE := rb_p5 hE hσ_1
    intro σ_2 hσ_2
    replace hE := rb_p5 hE hσ_2
    refine lp_b5 (cn_lt2 hn0 ?_ ?_) (fun d9 => ⟨rfl, ?_⟩)
    · clear h hE; have k := turn_pop (n := τ69.1 48) (w := τ69.2.2.1 50) (r := τ69.2.2.1 51) (by grind) (by grind)
      grind [si1, ri1]
    · clear h hE; grind (splits := 24) [si1, si2, ri1, ri2, ri3, ri34, ri5, turn_pop, turn_stop, isU]  -- d4
    · refine and_5 ?_ (fun o9 => ⟨m0, Nat.lt_of_lt_of_le d9 (Nat.le_of_lt_succ hm0), hE⟩)  -- i5
      clear h hE d9 hm0; have k := turn_pop (n := τ69.1 48) (w := τ69.2.2.1 50) (r := τ69.2.2.1 51) (by grind) (by grind)
      grind [si1, si2, ri1, ri2, ri3, ri34, ri5]
  have hj20 : ∀  (τ : rS), ((τ = σ0 ∧ isU (tp (eW τ))) ∧ g5_turn σ = g5_turn_20 (g5_turn_0 m0) τ) → w_turn_20 C Q (fun  τ => ∃ k < n0, (fun n  τ => n = (τ.1 48).toNatClampNeg ∧ ((((∀ k, k ≠ 48 → τ.1 k = σ.1 k) ∧ (∀ k,  τ.2.1 k = σ.2.1 k) ∧ (∀ k, k ≠ 52 → τ.2.2.1 k = σ.2.2.1 k) ∧ (∀ k j, k ≠ 52 → τ.2.2.1 k j = σ.2.2.1 k j) ∧ (∀ k j,  τ.2.2.2 k j = σ.2.2.2 k j)) ∧ turnW (eW τ) = turnW (eW σ) ∧ 0 ≤ τ.1 48 ∧ τ.1 48 ≤ σ.1 48) ∧ ∃ m5, n < m5 ∧ g5_turn σ = g5_turn_0 m5 τ)) k  τ)  τ := by
    clear hE
    rintro  τ20 ⟨j20, hE⟩
    unfold w_turn_20
    refine ⟨ib_66000.mpr ?_, ?_⟩
    · clear h hE; grind (splits := 24) [si1, si2, ri1, ri2, ri3, ri34, ri5, turn_pop, turn_stop, isU]  -- b6
    intro x3 hx3
    replace hE := rb_p5 hE hx3
    refine top_g5 hC  ?_ (fun r4 q6 => ?_)
    · clear h hE; grind (splits := 24) [si1, si2, ri1, ri2, ri3, ri34, ri5, turn_pop, turn_stop, isU]  -- p7
    obtain ⟨q6, z9⟩ := q6
    replace hE := rb_p5 hE z9
    clear z9
    refine ⟨fun c7 => ?_, fun c7 => ?_⟩
    · skip
      replace hE := rb_f5 hE c7
      refine hj69 _ _ _ ?_
      · refine and_5 ?_ (fun o9 => hE)  -- k8
        clear h hE; grind (splits := 24) [si1, si2, ri1, ri2, ri3, ri34, ri5, turn_pop, turn_stop, isU]
    · skip
      replace hE := rb_t5 hE c7
      refine ⟨fun c8 => ?_, fun c8 => ?_⟩
      · skip
        replace hE := rb_f5 hE c8
        refine truth_g5 hC  (fun r9 q11 => ?_)
        obtain ⟨q11, z9⟩ := q11
        replace hE := rb_p5 hE z9
        clear z9
        refine hj69 _ _ _ ?_
        · refine and_5 ?_ (fun o9 => hE)  -- k9
          clear h hE; grind (splits := 24) [si1, si2, ri1, ri2, ri3, ri34, ri5, turn_pop, turn_stop, isU]
      · skip
        replace hE := rb_t5 hE c8
        refine truth_g5 hC  (fun r12 q14 => ?_)
        obtain ⟨q14, z9⟩ := q14
        replace hE := rb_p5 hE z9
        clear z9
        refine hj69 _ _ _ ?_
        · refine and_5 ?_ (fun o9 => hE)  -- k10
          clear h hE; grind (splits := 24) [si1, si2, ri1, ri2, ri3, ri34, ri5, turn_pop, turn_stop, isU]
  refine top_g5 hC  ?_ (fun r15 q17 => ?_)
  · clear h hE; grind (splits := 24) [si1, si2, ri1, ri2, ri3, ri34, ri5, turn_pop, turn_stop, isU]  -- p11
  obtain ⟨q17, z9⟩ := q17
  replace hE := rb_p5 hE z9
  clear z9
  refine ⟨fun c18 => ?_, fun c18 => ?_⟩
  · skip
    replace hE := rb_t5 hE c18
    refine hj20 _ ?_
    · refine and_5 ?_ (fun o9 => hE)  -- k12
      clear h hE; grind (splits := 24) [si1, si2, ri1, ri2, ri3, ri34, ri5, turn_pop, turn_stop, isU]
  · skip
    replace hE := rb_f5 hE c18
    refine top_g5 hC  ?_ (fun r19 q21 => ?_)
    · clear h hE; grind (splits := 24) [si1, si2, ri1, ri2, ri3, ri34, ri5, turn_pop, turn_stop, isU]  -- p13
    obtain ⟨q21, z9⟩ := q21
    replace hE := rb_p5 hE z9
    clear z9
    refine ⟨fun c22 => ?_, fun c22 => ?_⟩
    · skip
      replace hE := rb_f5 hE c22
      refine h _ ?_
      · refine and_5 ?_ (fun o9 => hE)  -- q14
        clear h hE; grind (splits := 24) [si1, si2, ri1, ri2, ri3, ri34, ri5, turn_pop, turn_stop, isU]
    · skip
      replace hE := rb_t5 hE c22
      refine hj20 _ ?_
      · refine and_5 ?_ (fun o9 => hE)  -- k15
        clear h hE; grind (splits := 24) [si1, si2, ri1, ri2, ri3, ri34, ri5, turn_pop, turn_stop, isU]

theorem push_g5 {C : rCx} (hC : cOK C)  {σ : rS} {a1 : Int32} {Q : rS → Prop} (hp : 0 ≤ σ.1 48 ∧ σ.1 48 ≤ 66000 ∧ 0 ≤ σ.1 49 ∧ σ.1 49 < 66000) (h : ∀ (σ' : rS), ((((∀ k, k ≠ 48 → k ≠ 49 → σ'.1 k = σ.1 k) ∧ (∀ k,  σ'.2.1 k = σ.2.1 k) ∧ (∀ k, k ≠ 52 → σ'.2.2.1 k = σ.2.2.1 k) ∧ (∀ k j, k ≠ 52 → σ'.2.2.1 k j = σ.2.2.1 k j) ∧ (∀ k j,  σ'.2.2.2 k j = σ.2.2.2 k j)) ∧ eW σ' = turnW (eW σ) ∧ 0 ≤ σ'.1 48 ∧ σ'.1 48 ≤ σ.1 48 ∧ σ'.1 49 = σ.1 49 + 1) ∧ g5_push a1 σ = σ') → Q σ') : cV C 2 m_push [.ref (co C), .int a1] σ Q := by
  refine m_push_run hC ?_
  unfold w_push_0
  have hE : g5_push a1 σ = g5_push a1 σ := rfl
  refine ⟨ib_66000.mpr ?_, ?_⟩
  · clear h hE; grind (splits := 24) [si1, si2, ri1, ri2, ri3, ri34, ri5]  -- b1
  intro σ_1 hσ_1
  replace hE := rb_p5 hE hσ_1
  intro σ_2 hσ_2
  replace hE := rb_p5 hE hσ_2
  refine turn_g5 hC  ?_ (fun σ_3 q4 => ?_)
  · clear h hE; grind (splits := 24) [si1, si2, ri1, ri2, ri3, ri34, ri5]  -- p2
  obtain ⟨q4, z9⟩ := q4
  replace hE := rb_p5 hE z9.symm
  clear z9
  refine h _ ?_
  · refine and_5 ?_ (fun o9 => hE)  -- q3
    clear h hE; grind (splits := 24) [si1, si2, ri1, ri2, ri3, ri34, ri5]

theorem valueOf_g5 {C : rCx} (hC : cOK C)  {σ : rS} {a1 : Int32} {Q : Int32 → rS → Prop} (hp : validV a1 ∧ 1 ≤ σ.1 58 ∧ σ.1 58 ≤ 12) (h : ∀ (v : Int32), ((True) ∧ v = g5_valueOf a1 σ) → Q v σ) : cI C 0 m_valueOf [.ref (co C), .int a1] σ Q := by
  refine m_valueOf_run hC ?_
  unfold w_valueOf_0
  have hE : g5_valueOf a1 σ = g5_valueOf a1 σ := rfl
  refine ⟨fun c1 => ?_, fun c1 => ?_⟩
  · skip
    replace hE := rb_t5 hE c1
    refine ⟨ib_96.mpr ?_, ?_⟩
    · clear h hE; grind (splits := 24) [validV]  -- b1
    refine h _ ?_
    · refine and_5 ?_ (fun o9 => hE.symm)  -- q2
      clear h hE; grind (splits := 24) [validV]
  · skip
    replace hE := rb_f5 hE c1
    refine ⟨ib_34.mpr ?_, ?_⟩
    · clear h hE; grind (splits := 24) [validV]  -- b3
    refine h _ ?_
    · refine and_5 ?_ (fun o9 => hE.symm)  -- q4
      clear h hE; grind (splits := 24) [validV]

theorem cellOf_g5 {C : rCx} (hC : cOK C)  {σ : rS} {a1 : Int32} {a2 : Int32} {Q : Int32 → rS → Prop} (hp : validC a1 ∧ tA σ ∧ tF σ) (h : ∀ (v : Int32), ((v = -1 ∨ (0 ≤ v ∧ v < 34)) ∧ v = g5_cellOf a1 a2 σ) → Q v σ) : cI C 0 m_cellOf [.ref (co C), .int a1, .int a2] σ Q := by
  refine m_cellOf_run hC ?_
  unfold w_cellOf_0
  have hE : g5_cellOf a1 a2 σ = g5_cellOf a1 a2 σ := rfl
  intro x1 hx1
  replace hE := rb_p5 hE hx1
  refine ⟨fun c2 => ?_, fun c2 => ?_⟩
  · skip
    replace hE := rb_t5 hE c2
    refine h _ ?_
    · refine and_5 ?_ (fun o9 => hE.symm)  -- q1
      clear h hE; grind (splits := 24) [validC, tyA, tyF, eB]
  · skip
    replace hE := rb_f5 hE c2
    refine ⟨ib_3.mpr ?_, ?_⟩
    · clear h hE; grind (splits := 24) [validC, tyA, tyF, eB]  -- b2
    refine ⟨fun c3 => ?_, fun c3 => ?_⟩
    · skip
      replace hE := rb_t5 hE c3
      refine ⟨ib_3.mpr ?_, ?_⟩
      · clear h hE; grind (splits := 24) [validC, tyA, tyF, eB]  -- b3
      refine h _ ?_
      · refine and_5 ?_ (fun o9 => hE.symm)  -- q4
        clear h hE; grind (splits := 24) [validC, tyA, tyF, eB]
    · skip
      replace hE := rb_f5 hE c3
      refine h _ ?_
      · refine and_5 ?_ (fun o9 => hE.symm)  -- q5
        clear h hE; grind (splits := 24) [validC, tyA, tyF, eB]

theorem look_g5 {C : rCx} (hC : cOK C)  {σ : rS} {a1 : Int32} {a2 : Int32} {Q : rS → Prop} (hp : 0 ≤ a1 ∧ a1 < 131074) (h : ∀ (σ' : rS), ((((∀ k, k ≠ 11 → k ≠ 12 → σ'.1 k = σ.1 k) ∧ (∀ k,  σ'.2.1 k = σ.2.1 k) ∧ (∀ k, k ≠ 39 → σ'.2.2.1 k = σ.2.2.1 k) ∧ (∀ k j, k ≠ 39 → σ'.2.2.1 k j = σ.2.2.1 k j) ∧ (∀ k j,  σ'.2.2.2 k j = σ.2.2.2 k j)) ∧ (∀ j, j ≠ a1.toNatClampNeg → σ'.2.2.1 39 j = σ.2.2.1 39 j) ∧ rd σ' 39 a1 = a2 ∧ (σ'.1 11 = 0 → σ.1 11 = 0 ∧ a2 ≠ -1) ∧ (0 ≤ σ.1 11 → 0 ≤ σ'.1 11)) ∧ g5_look a1 a2 σ = σ') → Q σ') : cV C 0 m_look [.ref (co C), .int a1, .int a2] σ Q := by
  refine m_look_run hC ?_
  unfold w_look_0
  have hE : g5_look a1 a2 σ = g5_look a1 a2 σ := rfl
  refine ⟨fun c1 => ?_, fun c1 => ?_⟩
  · skip
    replace hE := rb_f5 hE c1
    unfold w_look_28
    refine ⟨ib_131074.mpr ?_, ?_⟩
    · clear h hE; grind (splits := 24) [si1, si2, ri1, ri2, ri3, ri34, ri5]  -- b1
    intro σ_2 hσ_2
    replace hE := rb_p5 hE hσ_2
    refine h _ ?_
    · refine and_5 ?_ (fun o9 => hE)  -- q2
      clear h hE; grind (splits := 24) [si1, si2, ri1, ri2, ri3, ri34, ri5]
  · skip
    replace hE := rb_t5 hE c1
    refine ⟨fun c3 => ?_, fun c3 => ?_⟩
    · skip
      replace hE := rb_f5 hE c3
      unfold w_look_28
      refine ⟨ib_131074.mpr ?_, ?_⟩
      · clear h hE; grind (splits := 24) [si1, si2, ri1, ri2, ri3, ri34, ri5]  -- b3
      intro σ_4 hσ_4
      replace hE := rb_p5 hE hσ_4
      refine h _ ?_
      · refine and_5 ?_ (fun o9 => hE)  -- q4
        clear h hE; grind (splits := 24) [si1, si2, ri1, ri2, ri3, ri34, ri5]
    · skip
      replace hE := rb_t5 hE c3
      intro σ_5 hσ_5
      replace hE := rb_p5 hE hσ_5
      refine ⟨ib_131074.mpr ?_, ?_⟩
      · clear h hE; grind (splits := 24) [si1, si2, ri1, ri2, ri3, ri34, ri5]  -- b5
      intro σ_6 hσ_6
      replace hE := rb_p5 hE hσ_6
      unfold w_look_28
      refine ⟨ib_131074.mpr ?_, ?_⟩
      · clear h hE; grind (splits := 24) [si1, si2, ri1, ri2, ri3, ri34, ri5]  -- b6
      intro σ_7 hσ_7
      replace hE := rb_p5 hE hσ_7
      refine h _ ?_
      · refine and_5 ?_ (fun o9 => hE)  -- q7
        clear h hE; grind (splits := 24) [si1, si2, ri1, ri2, ri3, ri34, ri5]

end
