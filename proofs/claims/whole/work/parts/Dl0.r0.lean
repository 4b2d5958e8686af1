set_option maxHeartbeats 1600000
/-! the reference's reading as a pure program: marks, tokens, faults -/
def pm5 {α β : Type} (m : rS × α) (k : rS → α → β) : β := k m.1 m.2
theorem rb_m5 {α β : Type} {m : rS × α} {k : rS → α → β} {r : β} {σ : rS} {v : α} (H : r = pm5 m k) (z : m = (σ, v)) : r = k σ v := by subst z; exact H
theorem cnb5 {x : Int32} : x.toNatClampNeg < fu5 := by
  have := x.toInt_lt
  unfold fu5
  by_cases h : 0 ≤ x.toInt
  · have := cnk h
    omega
  · have e : x.toNatClampNeg = 0 := by
      show x.toInt.toNat = 0
      omega
    omega
theorem eMs_5 {a b c d e : Int32} : eMs a b c d e < fu5 := by
  have h := cnb5 (x := e - d)
  have h2 := (e - d).toInt_lt
  have h3 : (e - d).toNatClampNeg < 2147483648 := by
    by_cases z : 0 ≤ (e - d).toInt
    · have := cnk z
      omega
    · have q : (e - d).toNatClampNeg = 0 := by
        show (e - d).toInt.toNat = 0
        omega
      omega
  unfold eMs fu5
  split
  · split <;> omega
  · omega
def g5_within (a0 : Int32) (a1 : Int32) (a2 : Int32) (σ : rS) : Int32 := (if a0 < a1 then (0 : Int32) else (if a2 < a0 then (0 : Int32) else (1 : Int32)))

def g5_byteAt (a1 : Int32) (σ : rS) : Int32 := (if (σ.1 2) ≤ a1 then (-1 : Int32) else ((σ.2.2.1 1 (a1).toNatClampNeg) &&& (255 : Int32)))

def g5_isLetter_24 (a0 : Int32) (σ : rS) : Int32 := (if a0 = (95 : Int32) then (1 : Int32) else (0 : Int32))
def g5_isLetter_12 (a0 : Int32) (σ : rS) : Int32 := (if a0 < (65 : Int32) then (g5_isLetter_24 (a0) (σ)) else (if a0 ≤ (90 : Int32) then (1 : Int32) else (g5_isLetter_24 (a0) (σ))))
def g5_isLetter (a0 : Int32) (σ : rS) : Int32 := (if a0 < (97 : Int32) then (g5_isLetter_12 (a0) (σ)) else (if a0 ≤ (122 : Int32) then (1 : Int32) else (g5_isLetter_12 (a0) (σ))))

def g5_isDigit (a0 : Int32) (σ : rS) : Int32 := (if a0 < (48 : Int32) then (0 : Int32) else (if (57 : Int32) < a0 then (0 : Int32) else (1 : Int32)))

def g5_isBlank (a0 : Int32) (σ : rS) : Int32 := (if a0 = (9 : Int32) then (1 : Int32) else (if a0 = (10 : Int32) then (1 : Int32) else (if a0 = (13 : Int32) then (1 : Int32) else (if a0 = (32 : Int32) then (1 : Int32) else (0 : Int32)))))

def g5_isSign (a0 : Int32) (σ : rS) : Int32 := (if a0 = (40 : Int32) then (1 : Int32) else (if a0 = (41 : Int32) then (1 : Int32) else (if a0 = (123 : Int32) then (1 : Int32) else (if a0 = (125 : Int32) then (1 : Int32) else (if a0 = (91 : Int32) then (1 : Int32) else (if a0 = (93 : Int32) then (1 : Int32) else (if a0 = (59 : Int32) then (1 : Int32) else (if a0 = (44 : Int32) then (1 : Int32) else (if a0 = (58 : Int32) then (1 : Int32) else (if a0 = (126 : Int32) then (1 : Int32) else (if a0 = (61 : Int32) then (1 : Int32) else (if a0 = (60 : Int32) then (1 : Int32) else (if a0 = (62 : Int32) then (1 : Int32) else (if a0 = (43 : Int32) then (1 : Int32) else (if a0 = (45 : Int32) then (1 : Int32) else (if a0 = (42 : Int32) then (1 : Int32) else (if a0 = (47 : Int32) then (1 : Int32) else (if a0 = (37 : Int32) then (1 : Int32) else (if a0 = (38 : Int32) then (1 : Int32) else (if a0 = (124 : Int32) then (1 : Int32) else (if a0 = (33 : Int32) then (1 : Int32) else (0 : Int32))))))))))))))))))))))

def g5_skip_33 (B2 : Int32 → rS → Int32) : Nat → Int32 → rS → Int32
  | 0, _, σ => 0
  | m5 + 1, a2, σ => (if (σ.1 2) ≤ a2 then (B2 (a2) (σ)) else pb5 (g5_byteAt (a2) σ) (fun r2 => (if r2 = (10 : Int32) then (B2 (a2) (σ)) else pb5 (a2 + (1 : Int32)) (fun v2_3 => (g5_skip_33 B2 m5 (v2_3) (σ))))))
def g5_skip_23 (B2 : Int32 → rS → Int32) (a2 : Int32) (σ : rS) : Int32 := pb5 (g5_byteAt (a2) σ) (fun r2 => (if r2 = (35 : Int32) then (g5_skip_33 B2 fu5 (a2) (σ)) else pb5 (a2 + (1 : Int32)) (fun v2_3 => (B2 (v2_3) (σ)))))
def g5_skip_2  : Nat → Int32 → rS → Int32
  | 0, _, σ => 0
  | m5 + 1, a2, σ => pb5 (g5_byteAt (a2) σ) (fun r2 => pb5 (g5_isBlank (r2) σ) (fun r4 => (if r4 = 0 then pb5 (g5_byteAt (a2) σ) (fun r6 => (if r6 = (35 : Int32) then (g5_skip_23 (g5_skip_2 m5) (a2) (σ)) else a2)) else (g5_skip_23 (g5_skip_2 m5) (a2) (σ)))))
def g5_skip (a1 : Int32) (σ : rS) : Int32 := (g5_skip_2 fu5 (a1) (σ))

def g5_isRight  (σ : rS) : Int32 := (if (σ.1 11) = 0 then (1 : Int32) else (0 : Int32))

def g5_flaw_23 (a2 : Int32) (s1 : Int32) (σ : rS) : rS := pb5 (siU σ 11 s1) (fun σ1 => pb5 (siU σ1 12 (σ1.2.2.1 6 (a2).toNatClampNeg)) (fun σ2 => σ2))
def g5_flaw (a1 : Int32) (a2 : Int32) (σ : rS) : rS := (if (σ.1 11) = 0 then (if (σ.2.2.1 5 (a2).toNatClampNeg) = (4 : Int32) then (g5_flaw_23 (a2) ((1 : Int32)) (σ)) else (g5_flaw_23 (a2) (a1) (σ))) else σ)

def g5_readNext  (σ : rS) : rS := (if (σ.2.2.1 5 ((σ.1 10)).toNatClampNeg) = (4 : Int32) then pb5 (g5_flaw ((1 : Int32)) ((σ.1 10)) σ) (fun σ1 => σ1) else σ)

def g5_go  (σ : rS) : rS := (if (σ.1 11) = 0 then pb5 (siU σ 10 ((σ.1 10) + (1 : Int32))) (fun σ1 => pb5 (g5_readNext σ1) (fun σ2 => σ2)) else σ)

def g5_isAt (a1 : Int32) (σ : rS) : Int32 := (if (σ.2.2.1 5 ((σ.1 10)).toNatClampNeg) = (3 : Int32) then (if (σ.2.2.1 7 ((σ.1 10)).toNatClampNeg) = a1 then (1 : Int32) else (0 : Int32)) else (0 : Int32))

def g5_isNext (a1 : Int32) (σ : rS) : Int32 := (if (σ.2.2.1 5 (((σ.1 10) + (1 : Int32))).toNatClampNeg) = (3 : Int32) then (if (σ.2.2.1 7 (((σ.1 10) + (1 : Int32))).toNatClampNeg) = a1 then (1 : Int32) else (0 : Int32)) else (0 : Int32))

def g5_isWord (a1 : Int32) (σ : rS) : Int32 := (if (σ.2.2.1 5 ((σ.1 10)).toNatClampNeg) = (6 : Int32) then (if (σ.2.2.1 7 ((σ.1 10)).toNatClampNeg) = a1 then (1 : Int32) else (0 : Int32)) else (0 : Int32))

def g5_isSame (a1 : Int32) (a2 : Int32) (σ : rS) : Int32 := (if (lg_cmp (σ.2.2.2 8 (a1).toNatClampNeg) (σ.2.2.2 8 (a2).toNatClampNeg)) = 0 then (if (σ.2.2.1 9 (a1).toNatClampNeg) = (σ.2.2.1 9 (a2).toNatClampNeg) then (1 : Int32) else (0 : Int32)) else (0 : Int32))

def g5_sign (a1 : Int32) (σ : rS) : rS := pb5 (g5_isAt (a1) σ) (fun r2 => (if r2 = 0 then pb5 (g5_flaw ((2 : Int32)) ((σ.1 10)) σ) (fun σ3 => σ3) else pb5 (g5_go σ) (fun σ5 => σ5)))

def g5_open_55 (s1 : Int32) (s2 : Int32) (σ : rS) : rS := pb5 (siU σ 13 (s1 + s2)) (fun σ1 => pb5 (g5_go σ1) (fun σ2 => σ2))
def g5_open_38  (σ : rS) : rS := pb5 (g5_isRight σ) (fun r2 => (if r2 = 0 then (g5_open_55 ((σ.1 13)) ((0 : Int32)) (σ)) else (g5_open_55 ((σ.1 13)) ((1 : Int32)) (σ))))
def g5_open (a1 : Int32) (σ : rS) : rS := pb5 (g5_isAt (a1) σ) (fun r2 => (if r2 = 0 then pb5 (g5_flaw ((2 : Int32)) ((σ.1 10)) σ) (fun σ5 => (g5_open_38 (σ5))) else (if (σ.1 13) = (40 : Int32) then pb5 (g5_flaw ((3 : Int32)) ((σ.1 10)) σ) (fun σ3 => (g5_open_38 (σ3))) else (g5_open_38 (σ)))))

def g5_close_18 (a1 : Int32) (s1 : Int32) (s2 : Int32) (σ : rS) : rS := pb5 (siU σ 13 (s1 - s2)) (fun σ1 => pb5 (g5_sign (a1) σ1) (fun σ2 => σ2))
def g5_close (a1 : Int32) (σ : rS) : rS := pb5 (g5_isAt (a1) σ) (fun r2 => (if r2 = 0 then (g5_close_18 (a1) ((σ.1 13)) ((0 : Int32)) (σ)) else (g5_close_18 (a1) ((σ.1 13)) ((1 : Int32)) (σ))))

def g5_due (a1 : Int32) (σ : rS) : rS × Int32 := (if (σ.2.2.1 5 ((σ.1 10)).toNatClampNeg) = a1 then (σ, (σ.1 10)) else pb5 (g5_flaw ((2 : Int32)) ((σ.1 10)) σ) (fun σ1 => (σ1, (σ1.1 10))))

def g5_isTold_35 (B4 : Int32 → Int32 → Int32 → rS → Int32) (a1 : Int32) (a3 : Int32) (s0 : Int32) (σ : rS) : Int32 := pb5 (a3 + (1 : Int32)) (fun v3_1 => (B4 (a1) (s0) (v3_1) (σ)))
def g5_isTold_75 (B44 : Int32 → Int32 → Int32 → rS → Int32) (a1 : Int32) (a3 : Int32) (s0 : Int32) (σ : rS) : Int32 := pb5 (a3 + (1 : Int32)) (fun v3_1 => (B44 (a1) (s0) (v3_1) (σ)))
def g5_isTold_115 (B84 : Int32 → Int32 → Int32 → rS → Int32) (a1 : Int32) (a3 : Int32) (s0 : Int32) (σ : rS) : Int32 := pb5 (a3 + (1 : Int32)) (fun v3_1 => (B84 (a1) (s0) (v3_1) (σ)))
def g5_isTold_84  : Nat → Int32 → Int32 → Int32 → rS → Int32
  | 0, _, _, _, σ => 0
  | m5 + 1, a1, a2, a3, σ => (if (σ.1 18) ≤ a3 then a2 else (if a2 = 0 then pb5 (g5_isSame ((σ.2.2.1 25 (a3).toNatClampNeg)) (a1) σ) (fun r2 => (if r2 = 0 then (g5_isTold_115 (g5_isTold_84 m5) (a1) (a3) ((0 : Int32)) (σ)) else (g5_isTold_115 (g5_isTold_84 m5) (a1) (a3) ((1 : Int32)) (σ)))) else (g5_isTold_115 (g5_isTold_84 m5) (a1) (a3) ((1 : Int32)) (σ))))
def g5_isTold_44  : Nat → Int32 → Int32 → Int32 → rS → Int32
  | 0, _, _, _, σ => 0
  | m5 + 1, a1, a2, a3, σ => (if (σ.1 16) ≤ a3 then (g5_isTold_84 fu5 (a1) (a2) ((0 : Int32)) (σ)) else (if a2 = 0 then pb5 (g5_isSame ((σ.2.2.1 22 (a3).toNatClampNeg)) (a1) σ) (fun r2 => (if r2 = 0 then (g5_isTold_75 (g5_isTold_44 m5) (a1) (a3) ((0 : Int32)) (σ)) else (g5_isTold_75 (g5_isTold_44 m5) (a1) (a3) ((1 : Int32)) (σ)))) else (g5_isTold_75 (g5_isTold_44 m5) (a1) (a3) ((1 : Int32)) (σ))))
def g5_isTold_4  : Nat → Int32 → Int32 → Int32 → rS → Int32
  | 0, _, _, _, σ => 0
  | m5 + 1, a1, a2, a3, σ => (if (σ.1 15) ≤ a3 then (g5_isTold_44 fu5 (a1) (a2) ((0 : Int32)) (σ)) else (if a2 = 0 then pb5 (g5_isSame ((σ.2.2.1 20 (a3).toNatClampNeg)) (a1) σ) (fun r2 => (if r2 = 0 then (g5_isTold_35 (g5_isTold_4 m5) (a1) (a3) ((0 : Int32)) (σ)) else (g5_isTold_35 (g5_isTold_4 m5) (a1) (a3) ((1 : Int32)) (σ)))) else (g5_isTold_35 (g5_isTold_4 m5) (a1) (a3) ((1 : Int32)) (σ))))
def g5_isTold (a1 : Int32) (σ : rS) : Int32 := (g5_isTold_4 fu5 (a1) ((0 : Int32)) ((0 : Int32)) (σ))

def g5_variableOf_50  : Nat → Int32 → Int32 → rS → Int32
  | 0, _, _, σ => 0
  | m5 + 1, a1, a2, σ => (if (σ.1 15) ≤ a2 then (-1 : Int32) else pb5 (g5_isSame ((σ.2.2.1 20 (a2).toNatClampNeg)) (a1) σ) (fun r2 => (if r2 = 0 then pb5 (a2 + (1 : Int32)) (fun v2_3 => (g5_variableOf_50 m5 (a1) (v2_3) (σ))) else a2)))
def g5_variableOf_2  : Nat → Int32 → Int32 → rS → Int32
  | 0, _, _, σ => 0
  | m5 + 1, a1, a2, σ => (if (σ.2.2.1 27 ((σ.1 41)).toNatClampNeg) ≤ a2 then (g5_variableOf_50 fu5 (a1) ((0 : Int32)) (σ)) else pb5 (g5_isSame ((σ.2.2.1 28 ((((8 : Int32) * (σ.1 41)) + a2)).toNatClampNeg)) (a1) σ) (fun r2 => (if r2 = 0 then pb5 (a2 + (1 : Int32)) (fun v2_3 => (g5_variableOf_2 m5 (a1) (v2_3) (σ))) else ((100 : Int32) + a2))))
def g5_variableOf (a1 : Int32) (σ : rS) : Int32 := (g5_variableOf_2 fu5 (a1) ((0 : Int32)) (σ))

def g5_arrayOf_2  : Nat → Int32 → Int32 → rS → Int32
  | 0, _, _, σ => 0
  | m5 + 1, a1, a2, σ => (if (σ.1 16) ≤ a2 then (-1 : Int32) else pb5 (g5_isSame ((σ.2.2.1 22 (a2).toNatClampNeg)) (a1) σ) (fun r2 => (if r2 = 0 then pb5 (a2 + (1 : Int32)) (fun v2_3 => (g5_arrayOf_2 m5 (a1) (v2_3) (σ))) else ((200 : Int32) + a2))))
def g5_arrayOf (a1 : Int32) (σ : rS) : Int32 := (g5_arrayOf_2 fu5 (a1) ((0 : Int32)) (σ))

def g5_functionOf_2  : Nat → Int32 → Int32 → rS → Int32
  | 0, _, _, σ => 0
  | m5 + 1, a1, a2, σ => (if (σ.1 18) ≤ a2 then (-1 : Int32) else pb5 (g5_isSame ((σ.2.2.1 25 (a2).toNatClampNeg)) (a1) σ) (fun r2 => (if r2 = 0 then pb5 (a2 + (1 : Int32)) (fun v2_3 => (g5_functionOf_2 m5 (a1) (v2_3) (σ))) else a2)))
def g5_functionOf (a1 : Int32) (σ : rS) : Int32 := (g5_functionOf_2 fu5 (a1) ((0 : Int32)) (σ))

def g5_fresh_70 (B18 : Int32 → Int32 → Int32 → Int32 → Int32 → Int32 → rS → rS × Int32) (a1 : Int32) (a2 : Int32) (a3 : Int32) (a4 : Int32) (a6 : Int32) (s0 : Int32) (σ : rS) : rS × Int32 := pb5 (a6 + (1 : Int32)) (fun v6_1 => (B18 (a1) (a2) (a3) (a4) (s0) (v6_1) (σ)))
def g5_fresh_98 (a2 : Int32) (a3 : Int32) (a4 : Int32) (σ : rS) : rS × Int32 := pb5 (g5_isRight σ) (fun r2 => (if r2 = 0 then pb5 (g5_go σ) (fun σ3 => (σ3, a4)) else (if a2 < a3 then pb5 (g5_go σ) (fun σ5 => (σ5, a4)) else pb5 (g5_flaw ((15 : Int32)) (a4) σ) (fun σ7 => pb5 (g5_go σ7) (fun σ9 => (σ9, a4))))))
def g5_fresh_78 (a2 : Int32) (a3 : Int32) (a4 : Int32) (a5 : Int32) (σ : rS) : rS × Int32 := pb5 (g5_isRight σ) (fun r2 => (if r2 = 0 then (g5_fresh_98 (a2) (a3) (a4) (σ)) else (if a5 = 0 then (g5_fresh_98 (a2) (a3) (a4) (σ)) else pb5 (g5_flaw ((10 : Int32)) (a4) σ) (fun σ3 => (g5_fresh_98 (a2) (a3) (a4) (σ3))))))
def g5_fresh_18  : Nat → Int32 → Int32 → Int32 → Int32 → Int32 → Int32 → rS → rS × Int32
  | 0, _, _, _, _, _, _, σ => (σ, 0)
  | m5 + 1, a1, a2, a3, a4, a5, a6, σ => (if a1 = 0 then (g5_fresh_78 (a2) (a3) (a4) (a5) (σ)) else (if (σ.2.2.1 27 ((σ.1 41)).toNatClampNeg) ≤ a6 then (g5_fresh_78 (a2) (a3) (a4) (a5) (σ)) else (if a5 = 0 then pb5 (g5_isSame ((σ.2.2.1 28 ((((8 : Int32) * (σ.1 41)) + a6)).toNatClampNeg)) (a4) σ) (fun r2 => (if r2 = 0 then (g5_fresh_70 (g5_fresh_18 m5) (a1) (a2) (a3) (a4) (a6) ((0 : Int32)) (σ)) else (g5_fresh_70 (g5_fresh_18 m5) (a1) (a2) (a3) (a4) (a6) ((1 : Int32)) (σ)))) else (g5_fresh_70 (g5_fresh_18 m5) (a1) (a2) (a3) (a4) (a6) ((1 : Int32)) (σ)))))
def g5_fresh (a1 : Int32) (a2 : Int32) (a3 : Int32) (σ : rS) : rS × Int32 := pm5 (g5_due ((1 : Int32)) σ) (fun σ1 r2 => pb5 (g5_isTold (r2) σ1) (fun r4 => (g5_fresh_18 fu5 (a1) (a2) (a3) (r2) (r4) ((0 : Int32)) (σ1))))

theorem within_g5 {C : rCx} (hC : cOK C)  {σ : rS} {a0 : Int32} {a1 : Int32} {a2 : Int32} {Q : Int32 → rS → Prop} (h : ∀ (v : Int32), ((nb v ∧ (v ≠ 0 ↔ a1 ≤ a0 ∧ a0 ≤ a2)) ∧ v = g5_within a0 a1 a2 σ) → Q v σ) : cI C 0 m_within [.int a0, .int a1, .int a2] σ Q := by
  refine m_within_run hC ?_
  unfold w_within_0
  have hE : g5_within a0 a1 a2 σ = g5_within a0 a1 a2 σ := rfl
  refine ⟨fun c1 => ?_, fun c1 => ?_⟩
  · skip
    replace hE := rb_t5 hE c1
    refine h _ ?_
    · refine and_5 ?_ (fun o9 => hE.symm)  -- q1
      clear h hE; grind [nb]
  · skip
    replace hE := rb_f5 hE c1
    refine ⟨fun c2 => ?_, fun c2 => ?_⟩
    · skip
      replace hE := rb_t5 hE c2
      refine h _ ?_
      · refine and_5 ?_ (fun o9 => hE.symm)  -- q2
        clear h hE; grind [nb]
    · skip
      replace hE := rb_f5 hE c2
      refine h _ ?_
      · refine and_5 ?_ (fun o9 => hE.symm)  -- q3
        clear h hE; grind [nb]

theorem byteAt_g5 {C : rCx} (hC : cOK C)  {σ : rS} {a1 : Int32} {Q : Int32 → rS → Prop} (hp : 0 ≤ a1 ∧ σ.1 2 ≤ 65536) (h : ∀ (v : Int32), ((v = bAt (σ.1 2) (σ.2.2.1 1) a1 ∧ (v ≠ -1 → a1 < σ.1 2)) ∧ v = g5_byteAt a1 σ) → Q v σ) : cI C 0 m_byteAt [.ref (co C), .int a1] σ Q := by
  refine m_byteAt_run hC ?_
  unfold w_byteAt_0
  have hE : g5_byteAt a1 σ = g5_byteAt a1 σ := rfl
  refine ⟨fun c1 => ?_, fun c1 => ?_⟩
  · skip
    replace hE := rb_t5 hE c1
    refine h _ ?_
    · refine and_5 ?_ (fun o9 => hE.symm)  -- q1
      clear h hE; grind [bAt]
  · skip
    replace hE := rb_f5 hE c1
    refine ⟨ib_65536.mpr ?_, ?_⟩
    · clear h hE; grind [bAt]  -- b2
    refine h _ ?_
    · refine and_5 ?_ (fun o9 => hE.symm)  -- q3
      clear h hE; grind [bAt]

theorem isLetter_g5 {C : rCx} (hC : cOK C)  {σ : rS} {a0 : Int32} {Q : Int32 → rS → Prop} (h : ∀ (v : Int32), ((nb v ∧ (v ≠ 0 ↔ lett a0)) ∧ v = g5_isLetter a0 σ) → Q v σ) : cI C 0 m_isLetter [.int a0] σ Q := by
  refine m_isLetter_run hC ?_
  unfold w_isLetter_0
  have hE : g5_isLetter a0 σ = g5_isLetter a0 σ := rfl
  refine ⟨fun c1 => ?_, fun c1 => ?_⟩
  · skip
    replace hE := rb_t5 hE c1
    unfold w_isLetter_12
    refine ⟨fun c2 => ?_, fun c2 => ?_⟩
    · skip
      replace hE := rb_t5 hE c2
      unfold w_isLetter_24
      refine ⟨fun c3 => ?_, fun c3 => ?_⟩
      · skip
        replace hE := rb_f5 hE c3
        refine h _ ?_
        · refine and_5 ?_ (fun o9 => hE.symm)  -- q1
          clear h hE; grind [nb, lett]
      · skip
        replace hE := rb_t5 hE c3
        refine h _ ?_
        · refine and_5 ?_ (fun o9 => hE.symm)  -- q2
          clear h hE; grind [nb, lett]
    · skip
      replace hE := rb_f5 hE c2
      refine ⟨fun c4 => ?_, fun c4 => ?_⟩
      · skip
        replace hE := rb_t5 hE c4
        refine h _ ?_
        · refine and_5 ?_ (fun o9 => hE.symm)  -- q3
          clear h hE; grind [nb, lett]
      · skip
        replace hE := rb_f5 hE c4
        unfold w_isLetter_24
        refine ⟨fun c5 => ?_, fun c5 => ?_⟩
        · skip
          replace hE := rb_f5 hE c5
          refine h _ ?_
          · refine and_5 ?_ (fun o9 => hE.symm)  -- q4
            clear h hE; grind [nb, lett]
        · skip
          replace hE := rb_t5 hE c5
          refine h _ ?_
          · refine and_5 ?_ (fun o9 => hE.symm)  -- q5
            clear h hE; grind [nb, lett]
  · skip
    replace hE := rb_f5 hE c1
    refine ⟨fun c6 => ?_, fun c6 => ?_⟩
    · skip
      replace hE := rb_t5 hE c6
      refine h _ ?_
      · refine and_5 ?_ (fun o9 => hE.symm)  -- q6
        clear h hE; grind [nb, lett]
    · skip
      replace hE := rb_f5 hE c6
      unfold w_isLetter_12
      refine ⟨fun c7 => ?_, fun c7 => ?_⟩
      · skip
        replace hE := rb_t5 hE c7
        unfold w_isLetter_24
        refine ⟨fun c8 => ?_, fun c8 => ?_⟩
        · skip
          replace hE := rb_f5 hE c8
          refine h _ ?_
          · refine and_5 ?_ (fun o9 => hE.symm)  -- q7
            clear h hE; grind [nb, lett]
        · skip
          replace hE := rb_t5 hE c8
          refine h _ ?_
          · refine and_5 ?_ (fun o9 => hE.symm)  -- q8
            clear h hE; grind [nb, lett]
      · skip
        replace hE := rb_f5 hE c7
        refine ⟨fun c9 => ?_, fun c9 => ?_⟩
        · skip
          replace hE := rb_t5 hE c9
          refine h _ ?_
          · refine and_5 ?_ (fun o9 => hE.symm)  -- q9
            clear h hE; grind [nb, lett]
        · skip
          replace hE := rb_f5 hE c9
          unfold w_isLetter_24
          refine ⟨fun c10 => ?_, fun c10 => ?_⟩
          · skip
            replace hE := rb_f5 hE c10
            refine h _ ?_
            · refine and_5 ?_ (fun o9 => hE.symm)  -- q10
              clear h hE; grind [nb, lett]
          · skip
            replace hE := rb_t5 hE c10
            refine h _ ?_
            · refine and_5 ?_ (fun o9 => hE.symm)  -- q11
              clear h hE; grind [nb, lett]

theorem isDigit_g5 {C : rCx} (hC : cOK C)  {σ : rS} {a0 : Int32} {Q : Int32 → rS → Prop} (h : ∀ (v : Int32), ((nb v ∧ (v ≠ 0 ↔ 48 ≤ a0 ∧ a0 ≤ 57)) ∧ v = g5_isDigit a0 σ) → Q v σ) : cI C 0 m_isDigit [.int a0] σ Q := by
  refine m_isDigit_run hC ?_
  unfold w_isDigit_0
  have hE : g5_isDigit a0 σ = g5_isDigit a0 σ := rfl
  refine ⟨fun c1 => ?_, fun c1 => ?_⟩
  · skip
    replace hE := rb_t5 hE c1
    refine h _ ?_
    · refine and_5 ?_ (fun o9 => hE.symm)  -- q1
      clear h hE; grind [nb]
  · skip
    replace hE := rb_f5 hE c1
    refine ⟨fun c2 => ?_, fun c2 => ?_⟩
    · skip
      replace hE := rb_t5 hE c2
      refine h _ ?_
      · refine and_5 ?_ (fun o9 => hE.symm)  -- q2
        clear h hE; grind [nb]
    · skip
      replace hE := rb_f5 hE c2
      refine h _ ?_
      · refine and_5 ?_ (fun o9 => hE.symm)  -- q3
        clear h hE; grind [nb]

theorem isBlank_g5 {C : rCx} (hC : cOK C)  {σ : rS} {a0 : Int32} {Q : Int32 → rS → Prop} (h : ∀ (v : Int32), ((nb v ∧ (v ≠ 0 → 9 ≤ a0)) ∧ v = g5_isBlank a0 σ) → Q v σ) : cI C 0 m_isBlank [.int a0] σ Q := by
  refine m_isBlank_run hC ?_
  unfold w_isBlank_0
  have hE : g5_isBlank a0 σ = g5_isBlank a0 σ := rfl
  refine ⟨fun c1 => ?_, fun c1 => ?_⟩
  · skip
    replace hE := rb_t5 hE c1
    refine h _ ?_
    · refine and_5 ?_ (fun o9 => hE.symm)  -- q1
      clear h hE; grind [nb]
  · skip
    replace hE := rb_f5 hE c1
    refine ⟨fun c2 => ?_, fun c2 => ?_⟩
    · skip
      replace hE := rb_t5 hE c2
      refine h _ ?_
      · refine and_5 ?_ (fun o9 => hE.symm)  -- q2
        clear h hE; grind [nb]
    · skip
      replace hE := rb_f5 hE c2
      refine ⟨fun c3 => ?_, fun c3 => ?_⟩
      · skip
        replace hE := rb_t5 hE c3
        refine h _ ?_
        · refine and_5 ?_ (fun o9 => hE.symm)  -- q3
          clear h hE; grind [nb]
      · skip
        replace hE := rb_f5 hE c3
        refine ⟨fun c4 => ?_, fun c4 => ?_⟩
        · skip
          replace hE := rb_f5 hE c4
          refine h _ ?_
          · refine and_5 ?_ (fun o9 => hE.symm)  -- q4
            clear h hE; grind [nb]
        · skip
          replace hE := rb_t5 hE c4
          refine h _ ?_
          · refine and_5 ?_ (fun o9 => hE.symm)  -- q5
            clear h hE; grind [nb]

theorem isSign_g5 {C : rCx} (hC : cOK C)  {σ : rS} {a0 : Int32} {Q : Int32 → rS → Prop} (h : ∀ (v : Int32), ((nb v) ∧ v = g5_isSign a0 σ) → Q v σ) : cI C 0 m_isSign [.int a0] σ Q := by
  refine m_isSign_run hC ?_
  unfold w_isSign_0
  have hE : g5_isSign a0 σ = g5_isSign a0 σ := rfl
  refine ⟨fun c1 => ?_, fun c1 => ?_⟩
  · skip
    replace hE := rb_t5 hE c1
    refine h _ ?_
    · refine and_5 ?_ (fun o9 => hE.symm)  -- q1
      clear h hE; first | exact nb_0 | exact nb_1
  · skip
    replace hE := rb_f5 hE c1
    refine ⟨fun c2 => ?_, fun c2 => ?_⟩
    · skip
      replace hE := rb_t5 hE c2
      refine h _ ?_
      · refine and_5 ?_ (fun o9 => hE.symm)  -- q2
        clear h hE; first | exact nb_0 | exact nb_1
    · skip
      replace hE := rb_f5 hE c2
      refine ⟨fun c3 => ?_, fun c3 => ?_⟩
      · skip
        replace hE := rb_t5 hE c3
        refine h _ ?_
        · refine and_5 ?_ (fun o9 => hE.symm)  -- q3
          clear h hE; first | exact nb_0 | exact nb_1
      · skip
        replace hE := rb_f5 hE c3
        refine ⟨fun c4 => ?_, fun c4 => ?_⟩
        · skip
          replace hE := rb_t5 hE c4
          refine h _ ?_
          · refine and_5 ?_ (fun o9 => hE.symm)  -- q4
            clear h hE; first | exact nb_0 | exact nb_1
        · skip
          replace hE := rb_f5 hE c4
          refine ⟨fun c5 => ?_, fun c5 => ?_⟩
          · skip
            replace hE := rb_t5 hE c5
            refine h _ ?_
            · refine and_5 ?_ (fun o9 => hE.symm)  -- q5
              clear h hE; first | exact nb_0 | exact nb_1
          · skip
            replace hE := rb_f5 hE c5
            refine ⟨fun c6 => ?_, fun c6 => ?_⟩
            · skip
              replace hE := rb_t5 hE c6
              refine h _ ?_
              · refine and_5 ?_ (fun o9 => hE.symm)  -- q6
                clear h hE; first | exact nb_0 | exact nb_1
            · skip
              replace hE := rb_f5 hE c6
              refine ⟨fun c7 => ?_, fun c7 => ?_⟩
              · skip
                replace hE := rb_t5 hE c7
                refine h _ ?_
                · refine and_5 ?_ (fun o9 => hE.symm)  -- q7
                  clear h hE; first | exact nb_0 | exact nb_1
              · skip
                replace hE := rb_f5 hE c7
                refine ⟨fun c8 => ?_, fun c8 => ?_⟩
                · skip
                  replace hE := rb_t5 hE c8
                  refine h _ ?_
                  · refine and_5 ?_ (fun o9 => hE.symm)  -- q8
                    clear h hE; first | exact nb_0 | exact nb_1
                · skip
                  replace hE := rb_f5 hE c8
                  refine ⟨fun c9 => ?_, fun c9 => ?_⟩
                  · skip
                    replace hE := rb_t5 hE c9
                    refine h _ ?_
                    · refine and_5 ?_ (fun o9 => hE.symm)  -- q9
                      clear h hE; first | exact nb_0 | exact nb_1
                  · skip
                    replace hE := rb_f5 hE c9
                    refine ⟨fun c10 => ?_, fun c10 => ?_⟩
                    · skip
                      replace hE := rb_t5 hE c10
                      refine h _ ?_
                      · refine and_5 ?_ (fun o9 => hE.symm)  -- q10
                        clear h hE; first | exact nb_0 | exact nb_1
                    · skip
                      replace hE := rb_f5 hE c10
                      refine ⟨fun c11 => ?_, fun c11 => ?_⟩
                      · skip
                        replace hE := rb_t5 hE c11
                        refine h _ ?_
                        · refine and_5 ?_ (fun o9 => hE.symm)  -- q11
                          clear h hE; first | exact nb_0 | exact nb_1
                      · skip
                        replace hE := rb_f5 hE c11
                        refine ⟨fun c12 => ?_, fun c12 => ?_⟩
                        · skip
                          replace hE := rb_t5 hE c12
                          refine h _ ?_
                          · refine and_5 ?_ (fun o9 => hE.symm)  -- q12
                            clear h hE; first | exact nb_0 | exact nb_1
                        · skip
                          replace hE := rb_f5 hE c12
                          refine ⟨fun c13 => ?_, fun c13 => ?_⟩
                          · skip
                            replace hE := rb_t5 hE c13
                            refine h _ ?_
                            · refine and_5 ?_ (fun o9 => hE.symm)  -- q13
                              clear h hE; first | exact nb_0 | exact nb_1
                          · skip
                            replace hE := rb_f5 hE c13
                            refine ⟨fun c14 => ?_, fun c14 => ?_⟩
                            · skip
                              replace hE := rb_t5 hE c14
                              refine h _ ?_
                              · refine and_5 ?_ (fun o9 => hE.symm)  -- q14
                                clear h hE; first | exact nb_0 | exact nb_1
                            · skip
                              replace hE := rb_f5 hE c14
                              refine ⟨fun c15 => ?_, fun c15 => ?_⟩
                              · skip
                                replace hE := rb_t5 hE c15
                                refine h _ ?_
                                · refine and_5 ?_ (fun o9 => hE.symm)  -- q15
                                  clear h hE; first | exact nb_0 | exact nb_1
                              · skip
                                replace hE := rb_f5 hE c15
                                refine ⟨fun c16 => ?_, fun c16 => ?_⟩
                                · skip
                                  replace hE := rb_t5 hE c16
                                  refine h _ ?_
                                  · refine and_5 ?_ (fun o9 => hE.symm)  -- q16
                                    clear h hE; first | exact nb_0 | exact nb_1
                                · skip
                                  replace hE := rb_f5 hE c16
                                  refine ⟨fun c17 => ?_, fun c17 => ?_⟩
                                  · skip
                                    replace hE := rb_t5 hE c17
                                    refine h _ ?_
                                    · refine and_5 ?_ (fun o9 => hE.symm)  -- q17
                                      clear h hE; first | exact nb_0 | exact nb_1
                                  · skip
                                    replace hE := rb_f5 hE c17
                                    refine ⟨fun c18 => ?_, fun c18 => ?_⟩
                                    · skip
                                      replace hE := rb_t5 hE c18
                                      refine h _ ?_
                                      · refine and_5 ?_ (fun o9 => hE.symm)  -- q18
                                        clear h hE; first | exact nb_0 | exact nb_1
                                    · skip
                                      replace hE := rb_f5 hE c18
                                      refine ⟨fun c19 => ?_, fun c19 => ?_⟩
                                      · skip
                                        replace hE := rb_t5 hE c19
                                        refine h _ ?_
                                        · refine and_5 ?_ (fun o9 => hE.symm)  -- q19
                                          clear h hE; first | exact nb_0 | exact nb_1
                                      · skip
                                        replace hE := rb_f5 hE c19
                                        refine ⟨fun c20 => ?_, fun c20 => ?_⟩
                                        · skip
                                          replace hE := rb_t5 hE c20
                                          refine h _ ?_
                                          · refine and_5 ?_ (fun o9 => hE.symm)  -- q20
                                            clear h hE; first | exact nb_0 | exact nb_1
                                        · skip
                                          replace hE := rb_f5 hE c20
                                          refine ⟨fun c21 => ?_, fun c21 => ?_⟩
                                          · skip
                                            replace hE := rb_f5 hE c21
                                            refine h _ ?_
                                            · refine and_5 ?_ (fun o9 => hE.symm)  -- q21
                                              clear h hE; first | exact nb_0 | exact nb_1
                                          · skip
                                            replace hE := rb_t5 hE c21
                                            refine h _ ?_
                                            · refine and_5 ?_ (fun o9 => hE.symm)  -- q22
                                              clear h hE; first | exact nb_0 | exact nb_1

theorem skip_g5 {C : rCx} (hC : cOK C)  {σ : rS} {a1 : Int32} {Q : Int32 → rS → Prop} (hp : 0 ≤ a1 ∧ a1 ≤ σ.1 2 ∧ σ.1 2 ≤ 65536) (h : ∀ (v : Int32), ((a1 ≤ v ∧ v ≤ σ.1 2) ∧ v = g5_skip a1 σ) → Q v σ) : cI C 1 m_skip [.ref (co C), .int a1] σ Q := by
  refine m_skip_run hC ?_
  unfold w_skip_0
  have hE : g5_skip a1 σ = g5_skip a1 σ := rfl
  unfold w_skip_2
  refine ⟨fun n l2 τ => n = (σ.1 2 - l2).toNatClampNeg ∧ ((σ = τ ∧ a1 ≤ l2 ∧ l2 ≤ σ.1 2) ∧ ∃ m5, n < m5 ∧ g5_skip a1 σ = g5_skip_2 m5 l2 τ), ⟨_, rfl, ?_⟩, ?_⟩
  · refine and_5 ?_ (fun o9 => ⟨fu5, cnb5, hE⟩)  -- j1
    clear h hE; grind
  rintro n2 x2_2 _ ⟨hn2, ⟨rfl, i2⟩, m2, hm2, hE⟩
  obtain ⟨m2, rfl⟩ : ∃ m9, m2 = m9 + 1 := ⟨m2 - 1, by clear h hE; omega⟩
  have hj23 : ∀ (l2 : Int32) (τ : rS), ((σ = τ ∧ l2 = x2_2 ∧ l2 < σ.1 2) ∧ g5_skip a1 σ = g5_skip_23 (g5_skip_2 m2) l2 τ) → w_skip_23 C Q (fun l2' τ => ∃ k < n2, (fun n l2 τ => n = (σ.1 2 - l2).toNatClampNeg ∧ ((σ = τ ∧ a1 ≤ l2 ∧ l2 ≤ σ.1 2) ∧ ∃ m5, n < m5 ∧ g5_skip a1 σ = g5_skip_2 m5 l2 τ)) k l2' τ) l2 τ := by
    clear hE
    rintro y23_2 _ ⟨⟨rfl, j23⟩, hE⟩
    unfold w_skip_23
    refine byteAt_g5 hC  ?_ (fun r1 q3 => ?_)
    · clear h hE; grind  -- p2
    obtain ⟨q3, z9⟩ := q3
    replace hE := rb_p5 hE z9
    clear z9
    refine ⟨fun c4 => ?_, fun c4 => ?_⟩
    · skip
      replace hE := rb_f5 hE c4
      intro x5 hx5
      replace hE := rb_p5 hE hx5
      refine lp_b5 (cn_lt2 hn2 ?_ ?_) (fun d9 => ⟨rfl, ?_⟩)
      · clear h hE; grind  -- d3
      · clear h hE; grind  -- d4
      · refine and_5 ?_ (fun o9 => ⟨m2, Nat.lt_of_lt_of_le d9 (Nat.le_of_lt_succ hm2), hE⟩)  -- i5
        clear h hE d9 hm2; grind
    · skip
      replace hE := rb_t5 hE c4
      unfold w_skip_33
      refine ⟨fun n l2 τ => n = (σ.1 2 - l2).toNatClampNeg ∧ ((σ = τ ∧ x2_2 ≤ l2 ∧ l2 ≤ σ.1 2 ∧ (l2 = x2_2 → bAt (σ.1 2) (σ.2.2.1 1) l2 = 35)) ∧ ∃ m5, n < m5 ∧ g5_skip a1 σ = g5_skip_33 (g5_skip_2 m2) m5 l2 τ), ⟨_, rfl, ?_⟩, ?_⟩
      · refine and_5 ?_ (fun o9 => ⟨fu5, cnb5, hE⟩)  -- j6
        clear h hE; grind
      rintro n33 x33_2 _ ⟨hn33, ⟨rfl, i33⟩, m33, hm33, hE⟩
      obtain ⟨m33, rfl⟩ : ∃ m9, m33 = m9 + 1 := ⟨m33 - 1, by clear h hE; omega⟩
      refine ⟨fun c6 => ?_, fun c6 => ?_⟩
      · skip
        replace hE := rb_t5 hE c6
        refine lp_b5 (cn_lt2 hn2 ?_ ?_) (fun d9 => ⟨rfl, ?_⟩)
        · clear h hE; grind  -- d7
        · clear h hE; grind  -- d8
        · refine and_5 ?_ (fun o9 => ⟨m2, Nat.lt_of_lt_of_le d9 (Nat.le_of_lt_succ hm2), hE⟩)  -- i9
          clear h hE d9 hm2; grind
      · skip
        replace hE := rb_f5 hE c6
        refine byteAt_g5 hC  ?_ (fun r7 q9 => ?_)
        · clear h hE; grind  -- p10
        obtain ⟨q9, z9⟩ := q9
        replace hE := rb_p5 hE z9
        clear z9
        refine ⟨fun c10 => ?_, fun c10 => ?_⟩
        · skip
          replace hE := rb_t5 hE c10
          refine lp_b5 (cn_lt2 hn2 ?_ ?_) (fun d9 => ⟨rfl, ?_⟩)
          · clear h hE; grind  -- d11
          · clear h hE; grind  -- d12
          · refine and_5 ?_ (fun o9 => ⟨m2, Nat.lt_of_lt_of_le d9 (Nat.le_of_lt_succ hm2), hE⟩)  -- i13
            clear h hE d9 hm2; grind
        · skip
          replace hE := rb_f5 hE c10
          intro x11 hx11
          replace hE := rb_p5 hE hx11
          refine lp_b5 (cn_lt2 hn33 ?_ ?_) (fun d9 => ⟨rfl, ?_⟩)
          · clear h hE; grind  -- d14
          · clear h hE; grind  -- d15
          · refine and_5 ?_ (fun o9 => ⟨m33, Nat.lt_of_lt_of_le d9 (Nat.le_of_lt_succ hm33), hE⟩)  -- i16
            clear h hE d9 hm33; grind
  refine byteAt_g5 hC  ?_ (fun r12 q14 => ?_)
  · clear h hE; grind  -- p17
  obtain ⟨q14, z9⟩ := q14
  replace hE := rb_p5 hE z9
  clear z9
  refine isBlank_g5 hC  (fun r15 q17 => ?_)
  obtain ⟨q17, z9⟩ := q17
  replace hE := rb_p5 hE z9
  clear z9
  refine ⟨fun c18 => ?_, fun c18 => ?_⟩
  · skip
    replace hE := rb_f5 hE c18
    refine hj23 _ _ ?_
    · refine and_5 ?_ (fun o9 => hE)  -- k18
      clear h hE; grind
  · skip
    replace hE := rb_t5 hE c18
    refine byteAt_g5 hC  ?_ (fun r19 q21 => ?_)
    · clear h hE; grind  -- p19
    obtain ⟨q21, z9⟩ := q21
    replace hE := rb_p5 hE z9
    clear z9
    refine ⟨fun c22 => ?_, fun c22 => ?_⟩
    · skip
      replace hE := rb_f5 hE c22
      refine h _ ?_
      · refine and_5 ?_ (fun o9 => hE.symm)  -- q20
        clear h hE; grind
    · skip
      replace hE := rb_t5 hE c22
      refine hj23 _ _ ?_
      · refine and_5 ?_ (fun o9 => hE)  -- k21
        clear h hE; grind

theorem isRight_g5 {C : rCx} (hC : cOK C)  {σ : rS}  {Q : Int32 → rS → Prop} (h : ∀ (v : Int32), ((nb v ∧ (v ≠ 0 ↔ σ.1 11 = 0)) ∧ v = g5_isRight σ) → Q v σ) : cI C 0 m_isRight [.ref (co C)] σ Q := by
  refine m_isRight_run hC ?_
  unfold w_isRight_0
  have hE : g5_isRight σ = g5_isRight σ := rfl
  refine ⟨fun c1 => ?_, fun c1 => ?_⟩
  · skip
    replace hE := rb_f5 hE c1
    refine h _ ?_
    · refine and_5 ?_ (fun o9 => hE.symm)  -- q1
      clear h hE; grind [nb]
  · skip
    replace hE := rb_t5 hE c1
    refine h _ ?_
    · refine and_5 ?_ (fun o9 => hE.symm)  -- q2
      clear h hE; grind [nb]

theorem flaw_g5 {C : rCx} (hC : cOK C)  {σ : rS} {a1 : Int32} {a2 : Int32} {Q : rS → Prop} (hp : 0 ≤ a2 ∧ a2 < 131074 ∧ 0 < a1) (h : ∀ (σ' : rS), ((((∀ k, k ≠ 11 → k ≠ 12 → σ'.1 k = σ.1 k) ∧ σ'.2 = σ.2) ∧ (σ.1 11 ≠ 0 → σ' = σ) ∧ σ'.1 11 ≠ 0 ∧ (0 ≤ σ.1 11 → 0 ≤ σ'.1 11)) ∧ g5_flaw a1 a2 σ = σ') → Q σ') : cV C 0 m_flaw [.ref (co C), .int a1, .int a2] σ Q := by
  refine m_flaw_run hC ?_
  unfold w_flaw_0
  have hE : g5_flaw a1 a2 σ = g5_flaw a1 a2 σ := rfl
  refine ⟨fun c1 => ?_, fun c1 => ?_⟩
  · skip
    replace hE := rb_f5 hE c1
    refine h _ ?_
    · refine and_5 ?_ (fun o9 => hE)  -- q1
      clear h hE; grind [si1, si2, ri1, ri2, ri3, ri4, ri5]
  · skip
    replace hE := rb_t5 hE c1
    refine ⟨ib_131074.mpr ?_, ?_⟩
    · clear h hE; grind [si1, si2, ri1, ri2, ri3, ri4, ri5]  -- b2
    refine ⟨fun c2 => ?_, fun c2 => ?_⟩
    · skip
      replace hE := rb_f5 hE c2
      unfold w_flaw_23
      intro σ_3 hσ_3
      replace hE := rb_p5 hE hσ_3
      refine ⟨ib_131074.mpr ?_, ?_⟩
      · clear h hE; grind [si1, si2, ri1, ri2, ri3, ri4, ri5]  -- b3
      intro σ_4 hσ_4
      replace hE := rb_p5 hE hσ_4
      refine h _ ?_
      · refine and_5 ?_ (fun o9 => hE)  -- q4
        clear h hE; grind [si1, si2, ri1, ri2, ri3, ri4, ri5]
    · skip
      replace hE := rb_t5 hE c2
      unfold w_flaw_23
      intro σ_5 hσ_5
      replace hE := rb_p5 hE hσ_5
      refine ⟨ib_131074.mpr ?_, ?_⟩
      · clear h hE; grind [si1, si2, ri1, ri2, ri3, ri4, ri5]  -- b5
      intro σ_6 hσ_6
      replace hE := rb_p5 hE hσ_6
      refine h _ ?_
      · refine and_5 ?_ (fun o9 => hE)  -- q6
        clear h hE; grind [si1, si2, ri1, ri2, ri3, ri4, ri5]

theorem readNext_g5 {C : rCx} (hC : cOK C)  {σ : rS}  {Q : rS → Prop} (hp : 0 ≤ σ.1 10 ∧ σ.1 10 < 131074) (h : ∀ (σ' : rS), ((((∀ k, k ≠ 11 → k ≠ 12 → σ'.1 k = σ.1 k) ∧ σ'.2 = σ.2) ∧ (σ.1 11 ≠ 0 → σ' = σ) ∧ (σ'.1 11 = 0 ↔ σ.1 11 = 0 ∧ rd σ 5 (σ.1 10) ≠ 4) ∧ (0 ≤ σ.1 11 → 0 ≤ σ'.1 11)) ∧ g5_readNext σ = σ') → Q σ') : cV C 1 m_readNext [.ref (co C)] σ Q := by
  refine m_readNext_run hC ?_
  unfold w_readNext_0
  have hE : g5_readNext σ = g5_readNext σ := rfl
  refine ⟨ib_131074.mpr ?_, ?_⟩
  · clear h hE; grind [si1, si2, ri1, ri2, ri3, ri4, ri5]  -- b1
  refine ⟨fun c1 => ?_, fun c1 => ?_⟩
  · skip
    replace hE := rb_f5 hE c1
    refine h _ ?_
    · refine and_5 ?_ (fun o9 => hE)  -- q2
      clear h hE; grind [si1, si2, ri1, ri2, ri3, ri4, ri5]
  · skip
    replace hE := rb_t5 hE c1
    refine flaw_g5 hC  ?_ (fun σ_2 q3 => ?_)
    · clear h hE; grind [si1, si2, ri1, ri2, ri3, ri4, ri5]  -- p3
    obtain ⟨q3, z9⟩ := q3
    replace hE := rb_p5 hE z9.symm
    clear z9
    refine h _ ?_
    · refine and_5 ?_ (fun o9 => hE)  -- q4
      clear h hE; grind [si1, si2, ri1, ri2, ri3, ri4, ri5]

theorem go_g5 {C : rCx} (hC : cOK C) (B T : Int32) {σ : rS}  {Q : rS → Prop} (hp : tK σ B T ∧ (σ.1 11 = 0 → rd σ 5 (σ.1 10) ≠ 5)) (h : ∀ (σ' : rS), ((((∀ k, k ≠ 10 → k ≠ 11 → k ≠ 12 → σ'.1 k = σ.1 k) ∧ σ'.2 = σ.2) ∧ tK σ' B T ∧ (σ.1 11 ≠ 0 → σ' = σ) ∧ (σ.1 11 = 0 → σ'.1 10 = σ.1 10 + 1) ∧ (σ'.1 11 = 0 ↔ σ.1 11 = 0 ∧ rd σ 5 (σ.1 10 + 1) ≠ 4)) ∧ g5_go σ = σ') → Q σ') : cV C 2 m_go [.ref (co C)] σ Q := by
  refine m_go_run hC ?_
  unfold w_go_0
  have hE : g5_go σ = g5_go σ := rfl
  refine ⟨fun c1 => ?_, fun c1 => ?_⟩
  · skip
    replace hE := rb_f5 hE c1
    refine h _ ?_
    · refine and_5 ?_ (fun o9 => hE)  -- q1
      clear h hE; grind [si1, si2, ri1, ri2, ri3, ri4, ri5, tK]
  · skip
    replace hE := rb_t5 hE c1
    intro σ_2 hσ_2
    replace hE := rb_p5 hE hσ_2
    refine readNext_g5 hC  ?_ (fun σ_3 q4 => ?_)
    · clear h hE; grind [si1, si2, ri1, ri2, ri3, ri4, ri5, tK]  -- p2
    obtain ⟨q4, z9⟩ := q4
    replace hE := rb_p5 hE z9.symm
    clear z9
    refine h _ ?_
    · refine and_5 ?_ (fun o9 => hE)  -- q3
      clear h hE; grind [si1, si2, ri1, ri2, ri3, ri4, ri5, tK]

theorem isAt_g5 {C : rCx} (hC : cOK C)  {σ : rS} {a1 : Int32} {Q : Int32 → rS → Prop} (hp : 0 ≤ σ.1 10 ∧ σ.1 10 < 131074) (h : ∀ (v : Int32), ((nb v ∧ (v ≠ 0 ↔ rd σ 5 (σ.1 10) = 3 ∧ rd σ 7 (σ.1 10) = a1)) ∧ v = g5_isAt a1 σ) → Q v σ) : cI C 0 m_isAt [.ref (co C), .int a1] σ Q := by
  refine m_isAt_run hC ?_
  unfold w_isAt_0
  have hE : g5_isAt a1 σ = g5_isAt a1 σ := rfl
  refine ⟨ib_131074.mpr ?_, ?_⟩
  · clear h hE; grind [nb]  -- b1
  refine ⟨fun c1 => ?_, fun c1 => ?_⟩
  · skip
    replace hE := rb_f5 hE c1
    refine h _ ?_
    · refine and_5 ?_ (fun o9 => hE.symm)  -- q2
      clear h hE; grind [nb]
  · skip
    replace hE := rb_t5 hE c1
    refine ⟨ib_131074.mpr ?_, ?_⟩
    · clear h hE; grind [nb]  -- b3
    refine ⟨fun c2 => ?_, fun c2 => ?_⟩
    · skip
      replace hE := rb_f5 hE c2
      refine h _ ?_
      · refine and_5 ?_ (fun o9 => hE.symm)  -- q4
        clear h hE; grind [nb]
    · skip
      replace hE := rb_t5 hE c2
      refine h _ ?_
      · refine and_5 ?_ (fun o9 => hE.symm)  -- q5
        clear h hE; grind [nb]

theorem isNext_g5 {C : rCx} (hC : cOK C)  {σ : rS} {a1 : Int32} {Q : Int32 → rS → Prop} (hp : 0 ≤ σ.1 10 ∧ σ.1 10 < 131073) (h : ∀ (v : Int32), ((nb v ∧ (v ≠ 0 ↔ rd σ 5 (σ.1 10 + 1) = 3 ∧ rd σ 7 (σ.1 10 + 1) = a1)) ∧ v = g5_isNext a1 σ) → Q v σ) : cI C 0 m_isNext [.ref (co C), .int a1] σ Q := by
  refine m_isNext_run hC ?_
  unfold w_isNext_0
  have hE : g5_isNext a1 σ = g5_isNext a1 σ := rfl
  refine ⟨ib_131074.mpr ?_, ?_⟩
  · clear h hE; grind [nb]  -- b1
  refine ⟨fun c1 => ?_, fun c1 => ?_⟩
  · skip
    replace hE := rb_f5 hE c1
    refine h _ ?_
    · refine and_5 ?_ (fun o9 => hE.symm)  -- q2
      clear h hE; grind [nb]
  · skip
    replace hE := rb_t5 hE c1
    refine ⟨ib_131074.mpr ?_, ?_⟩
    · clear h hE; grind [nb]  -- b3
    refine ⟨fun c2 => ?_, fun c2 => ?_⟩
    · skip
      replace hE := rb_f5 hE c2
      refine h _ ?_
      · refine and_5 ?_ (fun o9 => hE.symm)  -- q4
        clear h hE; grind [nb]
    · skip
      replace hE := rb_t5 hE c2
      refine h _ ?_
      · refine and_5 ?_ (fun o9 => hE.symm)  -- q5
        clear h hE; grind [nb]

theorem isWord_g5 {C : rCx} (hC : cOK C)  {σ : rS} {a1 : Int32} {Q : Int32 → rS → Prop} (hp : 0 ≤ σ.1 10 ∧ σ.1 10 < 131074) (h : ∀ (v : Int32), ((nb v ∧ (v ≠ 0 ↔ rd σ 5 (σ.1 10) = 6 ∧ rd σ 7 (σ.1 10) = a1)) ∧ v = g5_isWord a1 σ) → Q v σ) : cI C 0 m_isWord [.ref (co C), .int a1] σ Q := by
  refine m_isWord_run hC ?_
  unfold w_isWord_0
  have hE : g5_isWord a1 σ = g5_isWord a1 σ := rfl
  refine ⟨ib_131074.mpr ?_, ?_⟩
  · clear h hE; grind [nb]  -- b1
  refine ⟨fun c1 => ?_, fun c1 => ?_⟩
  · skip
    replace hE := rb_f5 hE c1
    refine h _ ?_
    · refine and_5 ?_ (fun o9 => hE.symm)  -- q2
      clear h hE; grind [nb]
  · skip
    replace hE := rb_t5 hE c1
    refine ⟨ib_131074.mpr ?_, ?_⟩
    · clear h hE; grind [nb]  -- b3
    refine ⟨fun c2 => ?_, fun c2 => ?_⟩
    · skip
      replace hE := rb_f5 hE c2
      refine h _ ?_
      · refine and_5 ?_ (fun o9 => hE.symm)  -- q4
        clear h hE; grind [nb]
    · skip
      replace hE := rb_t5 hE c2
      refine h _ ?_
      · refine and_5 ?_ (fun o9 => hE.symm)  -- q5
        clear h hE; grind [nb]

theorem isSame_g5 {C : rCx} (hC : cOK C)  {σ : rS} {a1 : Int32} {a2 : Int32} {Q : Int32 → rS → Prop} (hp : 0 ≤ a1 ∧ a1 < 131074 ∧ 0 ≤ a2 ∧ a2 < 131074) (h : ∀ (v : Int32), ((nb v) ∧ v = g5_isSame a1 a2 σ) → Q v σ) : cI C 0 m_isSame [.ref (co C), .int a1, .int a2] σ Q := by
  refine m_isSame_run hC ?_
  unfold w_isSame_0
  have hE : g5_isSame a1 a2 σ = g5_isSame a1 a2 σ := rfl
  refine ⟨ib_131074.mpr ?_, ?_⟩
  · clear h hE; grind [nb]  -- b1
  refine ⟨ib_131074.mpr ?_, ?_⟩
  · clear h hE; grind [nb]  -- b2
  refine ⟨fun c1 => ?_, fun c1 => ?_⟩
  · skip
    replace hE := rb_f5 hE c1
    refine h _ ?_
    · refine and_5 ?_ (fun o9 => hE.symm)  -- q3
      clear h hE; grind [nb]
  · skip
    replace hE := rb_t5 hE c1
    refine ⟨ib_131074.mpr ?_, ?_⟩
    · clear h hE; grind [nb]  -- b4
    refine ⟨ib_131074.mpr ?_, ?_⟩
    · clear h hE; grind [nb]  -- b5
    refine ⟨fun c2 => ?_, fun c2 => ?_⟩
    · skip
      replace hE := rb_f5 hE c2
      refine h _ ?_
      · refine and_5 ?_ (fun o9 => hE.symm)  -- q6
        clear h hE; grind [nb]
    · skip
      replace hE := rb_t5 hE c2
      refine h _ ?_
      · refine and_5 ?_ (fun o9 => hE.symm)  -- q7
        clear h hE; grind [nb]

theorem sign_g5 {C : rCx} (hC : cOK C) (B T : Int32) {σ : rS} {a1 : Int32} {Q : rS → Prop} (hp : tK σ B T) (h : ∀ (σ' : rS), ((((∀ k, k ≠ 10 → k ≠ 11 → k ≠ 12 → σ'.1 k = σ.1 k) ∧ σ'.2 = σ.2) ∧ tK σ' B T ∧ (σ.1 11 ≠ 0 → σ' = σ) ∧ (σ'.1 11 = 0 ↔ σ.1 11 = 0 ∧ rd σ 5 (σ.1 10) = 3 ∧ rd σ 7 (σ.1 10) = a1 ∧ rd σ 5 (σ.1 10 + 1) ≠ 4) ∧ (σ'.1 11 = 0 → σ'.1 10 = σ.1 10 + 1)) ∧ g5_sign a1 σ = σ') → Q σ') : cV C 3 m_sign [.ref (co C), .int a1] σ Q := by
  refine m_sign_run hC ?_
  unfold w_sign_0
  have hE : g5_sign a1 σ = g5_sign a1 σ := rfl
  refine isAt_g5 hC  ?_ (fun r1 q3 => ?_)
  · clear h hE; grind [tK]  -- p1
  obtain ⟨q3, z9⟩ := q3
  replace hE := rb_p5 hE z9
  clear z9
  refine ⟨fun c4 => ?_, fun c4 => ?_⟩
  · skip
    replace hE := rb_t5 hE c4
    refine flaw_g5 hC  ?_ (fun σ_5 q6 => ?_)
    · clear h hE; grind [tK]  -- p2
    obtain ⟨q6, z9⟩ := q6
    replace hE := rb_p5 hE z9.symm
    clear z9
    refine h _ ?_
    · refine and_5 ?_ (fun o9 => hE)  -- q3
      clear h hE; grind [tK]
  · skip
    replace hE := rb_f5 hE c4
    refine go_g5 hC B T ?_ (fun σ_7 q8 => ?_)
    · clear h hE; grind [tK]  -- p4
    obtain ⟨q8, z9⟩ := q8
    replace hE := rb_p5 hE z9.symm
    clear z9
    refine h _ ?_
    · refine and_5 ?_ (fun o9 => hE)  -- q5
      clear h hE; grind [tK]

theorem open_g5 {C : rCx} (hC : cOK C) (B T : Int32) {σ : rS} {a1 : Int32} {Q : rS → Prop} (hp : tK σ B T) (h : ∀ (σ' : rS), ((((∀ k, k ≠ 10 → k ≠ 11 → k ≠ 12 → k ≠ 13 → σ'.1 k = σ.1 k) ∧ σ'.2 = σ.2) ∧ tK σ' B T ∧ (σ'.1 11 = 0 ↔ σ.1 11 = 0 ∧ rd σ 5 (σ.1 10) = 3 ∧ rd σ 7 (σ.1 10) = a1 ∧ rd σ 5 (σ.1 10 + 1) ≠ 4 ∧ σ.1 13 ≠ 40) ∧ (σ'.1 11 = 0 → σ'.1 10 = σ.1 10 + 1 ∧ σ'.1 13 = σ.1 13 + 1)) ∧ g5_open a1 σ = σ') → Q σ') : cV C 3 m_open [.ref (co C), .int a1] σ Q := by
  refine m_open_run hC ?_
  unfold w_open_0
  have hE : g5_open a1 σ = g5_open a1 σ := rfl
  refine isAt_g5 hC  ?_ (fun r1 q3 => ?_)
  · clear h hE; grind [si1, si2, tK, nb]  -- p1
  obtain ⟨q3, z9⟩ := q3
  replace hE := rb_p5 hE z9
  clear z9
  refine ⟨fun c4 => ?_, fun c4 => ?_⟩
  · skip
    replace hE := rb_f5 hE c4
    refine ⟨fun c5 => ?_, fun c5 => ?_⟩
    · skip
      replace hE := rb_f5 hE c5
      unfold w_open_38
      refine isRight_g5 hC  (fun r6 q8 => ?_)
      obtain ⟨q8, z9⟩ := q8
      replace hE := rb_p5 hE z9
      clear z9
      refine ⟨fun c9 => ?_, fun c9 => ?_⟩
      · skip
        replace hE := rb_t5 hE c9
        unfold w_open_55
        intro σ_10 hσ_10
        replace hE := rb_p5 hE hσ_10
        refine go_g5 hC B T ?_ (fun σ_11 q12 => ?_)
        · clear h hE; grind [si1, si2, tK, nb]  -- p2
        obtain ⟨q12, z9⟩ := q12
        replace hE := rb_p5 hE z9.symm
        clear z9
        refine h _ ?_
        · refine and_5 ?_ (fun o9 => hE)  -- q3
          clear h hE; grind [si1, si2, tK, nb]
      · skip
        replace hE := rb_f5 hE c9
        unfold w_open_55
        intro σ_13 hσ_13
        replace hE := rb_p5 hE hσ_13
        refine go_g5 hC B T ?_ (fun σ_14 q15 => ?_)
        · clear h hE; grind [si1, si2, tK, nb]  -- p4
        obtain ⟨q15, z9⟩ := q15
        replace hE := rb_p5 hE z9.symm
        clear z9
        refine h _ ?_
        · refine and_5 ?_ (fun o9 => hE)  -- q5
          clear h hE; grind [si1, si2, tK, nb]
    · skip
      replace hE := rb_t5 hE c5
      refine flaw_g5 hC  ?_ (fun σ_16 q17 => ?_)
      · clear h hE; grind [si1, si2, tK, nb]  -- p6
      obtain ⟨q17, z9⟩ := q17
      replace hE := rb_p5 hE z9.symm
      clear z9
      unfold w_open_38
      refine isRight_g5 hC  (fun r18 q20 => ?_)
      obtain ⟨q20, z9⟩ := q20
      replace hE := rb_p5 hE z9
      clear z9
      refine ⟨fun c21 => ?_, fun c21 => ?_⟩
      · skip
        replace hE := rb_t5 hE c21
        unfold w_open_55
        intro σ_22 hσ_22
        replace hE := rb_p5 hE hσ_22
        refine go_g5 hC B T ?_ (fun σ_23 q24 => ?_)
        · clear h hE; grind [si1, si2, tK, nb]  -- p7
        obtain ⟨q24, z9⟩ := q24
        replace hE := rb_p5 hE z9.symm
        clear z9
        refine h _ ?_
        · refine and_5 ?_ (fun o9 => hE)  -- q8
          clear h hE; grind [si1, si2, tK, nb]
      · skip
        replace hE := rb_f5 hE c21
        unfold w_open_55
        intro σ_25 hσ_25
        replace hE := rb_p5 hE hσ_25
        refine go_g5 hC B T ?_ (fun σ_26 q27 => ?_)
        · clear h hE; grind [si1, si2, tK, nb]  -- p9
        obtain ⟨q27, z9⟩ := q27
        replace hE := rb_p5 hE z9.symm
        clear z9
        refine h _ ?_
        · refine and_5 ?_ (fun o9 => hE)  -- q10
          clear h hE; grind [si1, si2, tK, nb]
  · skip
    replace hE := rb_t5 hE c4
    refine flaw_g5 hC  ?_ (fun σ_28 q29 => ?_)
    · clear h hE; grind [si1, si2, tK, nb]  -- p11
    obtain ⟨q29, z9⟩ := q29
    replace hE := rb_p5 hE z9.symm
    clear z9
    unfold w_open_38
    refine isRight_g5 hC  (fun r30 q32 => ?_)
    obtain ⟨q32, z9⟩ := q32
    replace hE := rb_p5 hE z9
    clear z9
    refine ⟨fun c33 => ?_, fun c33 => ?_⟩
    · skip
      replace hE := rb_t5 hE c33
      unfold w_open_55
      intro σ_34 hσ_34
      replace hE := rb_p5 hE hσ_34
      refine go_g5 hC B T ?_ (fun σ_35 q36 => ?_)
      · clear h hE; grind [si1, si2, tK, nb]  -- p12
      obtain ⟨q36, z9⟩ := q36
      replace hE := rb_p5 hE z9.symm
      clear z9
      refine h _ ?_
      · refine and_5 ?_ (fun o9 => hE)  -- q13
        clear h hE; grind [si1, si2, tK, nb]
    · skip
      replace hE := rb_f5 hE c33
      unfold w_open_55
      intro σ_37 hσ_37
      replace hE := rb_p5 hE hσ_37
      refine go_g5 hC B T ?_ (fun σ_38 q39 => ?_)
      · clear h hE; grind [si1, si2, tK, nb]  -- p14
      obtain ⟨q39, z9⟩ := q39
      replace hE := rb_p5 hE z9.symm
      clear z9
      refine h _ ?_
      · refine and_5 ?_ (fun o9 => hE)  -- q15
        clear h hE; grind [si1, si2, tK, nb]

theorem close_g5 {C : rCx} (hC : cOK C) (B T : Int32) {σ : rS} {a1 : Int32} {Q : rS → Prop} (hp : tK σ B T) (h : ∀ (σ' : rS), ((((∀ k, k ≠ 10 → k ≠ 11 → k ≠ 12 → k ≠ 13 → σ'.1 k = σ.1 k) ∧ σ'.2 = σ.2) ∧ tK σ' B T ∧ (σ'.1 11 = 0 ↔ σ.1 11 = 0 ∧ rd σ 5 (σ.1 10) = 3 ∧ rd σ 7 (σ.1 10) = a1 ∧ rd σ 5 (σ.1 10 + 1) ≠ 4) ∧ (σ'.1 11 = 0 → σ'.1 10 = σ.1 10 + 1 ∧ σ'.1 13 = σ.1 13 - 1)) ∧ g5_close a1 σ = σ') → Q σ') : cV C 4 m_close [.ref (co C), .int a1] σ Q := by
  refine m_close_run hC ?_
  unfold w_close_0
  have hE : g5_close a1 σ = g5_close a1 σ := rfl
  refine isAt_g5 hC  ?_ (fun r1 q3 => ?_)
  · clear h hE; grind [si1, si2, tK, nb]  -- p1
  obtain ⟨q3, z9⟩ := q3
  replace hE := rb_p5 hE z9
  clear z9
  refine ⟨fun c4 => ?_, fun c4 => ?_⟩
  · skip
    replace hE := rb_t5 hE c4
    unfold w_close_18
    intro σ_5 hσ_5
    replace hE := rb_p5 hE hσ_5
    refine sign_g5 hC B T ?_ (fun σ_6 q7 => ?_)
    · clear h hE; grind [si1, si2, tK, nb]  -- p2
    obtain ⟨q7, z9⟩ := q7
    replace hE := rb_p5 hE z9.symm
    clear z9
    refine h _ ?_
    · refine and_5 ?_ (fun o9 => hE)  -- q3
      clear h hE; grind [si1, si2, tK, nb]
  · skip
    replace hE := rb_f5 hE c4
    unfold w_close_18
    intro σ_8 hσ_8
    replace hE := rb_p5 hE hσ_8
    refine sign_g5 hC B T ?_ (fun σ_9 q10 => ?_)
    · clear h hE; grind [si1, si2, tK, nb]  -- p4
    obtain ⟨q10, z9⟩ := q10
    replace hE := rb_p5 hE z9.symm
    clear z9
    refine h _ ?_
    · refine and_5 ?_ (fun o9 => hE)  -- q5
      clear h hE; grind [si1, si2, tK, nb]

theorem due_g5 {C : rCx} (hC : cOK C) (B T : Int32) {σ : rS} {a1 : Int32} {Q : Int32 → rS → Prop} (hp : tK σ B T) (h : ∀ (v : Int32) (σ' : rS), ((((∀ k, k ≠ 11 → k ≠ 12 → σ'.1 k = σ.1 k) ∧ σ'.2 = σ.2) ∧ tK σ' B T ∧ v = σ.1 10 ∧ (σ.1 11 ≠ 0 → σ' = σ) ∧ (σ'.1 11 = 0 → σ.1 11 = 0 ∧ rd σ 5 (σ.1 10) = a1)) ∧ g5_due a1 σ = (σ', v)) → Q v σ') : cI C 1 m_due [.ref (co C), .int a1] σ Q := by
  refine m_due_run hC ?_
  unfold w_due_0
  have hE : g5_due a1 σ = g5_due a1 σ := rfl
  refine ⟨ib_131074.mpr ?_, ?_⟩
  · clear h hE; grind [tK]  -- b1
  refine ⟨fun c1 => ?_, fun c1 => ?_⟩
  · skip
    replace hE := rb_t5 hE c1
    refine h _ _ ?_
    · refine and_5 ?_ (fun o9 => hE)  -- q2
      clear h hE; grind [tK]
  · skip
    replace hE := rb_f5 hE c1
    refine flaw_g5 hC  ?_ (fun σ_2 q3 => ?_)
    · clear h hE; grind [tK]  -- p3
    obtain ⟨q3, z9⟩ := q3
    replace hE := rb_p5 hE z9.symm
    clear z9
    refine h _ _ ?_
    · refine and_5 ?_ (fun o9 => hE)  -- q4
      clear h hE; grind [tK]

theorem isTold_g5 {C : rCx} (hC : cOK C)  {σ : rS} {a1 : Int32} {Q : Int32 → rS → Prop} (hp : tF σ ∧ tN σ ∧ 0 ≤ a1 ∧ a1 < 131074) (h : ∀ (v : Int32), ((nb v) ∧ v = g5_isTold a1 σ) → Q v σ) : cI C 1 m_isTold [.ref (co C), .int a1] σ Q := by
  refine m_isTold_run hC ?_
  unfold w_isTold_0
  have hE : g5_isTold a1 σ = g5_isTold a1 σ := rfl
  unfold w_isTold_4
  refine ⟨fun n l1 l2 l3 τ => n = (σ.1 15 - l3).toNatClampNeg ∧ ((σ = τ ∧ l1 = a1 ∧ nb l2 ∧ 0 ≤ l3 ∧ l3 ≤ σ.1 15) ∧ ∃ m5, n < m5 ∧ g5_isTold a1 σ = g5_isTold_4 m5 l1 l2 l3 τ), ⟨_, rfl, ?_⟩, ?_⟩
  · refine and_5 ?_ (fun o9 => ⟨fu5, cnb5, hE⟩)  -- j1
    clear h hE; grind [tyF, tyN, eB, nb]
  rintro n4 x4_1 x4_2 x4_3 _ ⟨hn4, ⟨rfl, i4⟩, m4, hm4, hE⟩
  obtain ⟨m4, rfl⟩ : ∃ m9, m4 = m9 + 1 := ⟨m4 - 1, by clear h hE; omega⟩
  refine ⟨fun c1 => ?_, fun c1 => ?_⟩
  · skip
    replace hE := rb_t5 hE c1
    unfold w_isTold_44
    refine ⟨fun n l1 l2 l3 τ => n = (σ.1 16 - l3).toNatClampNeg ∧ ((σ = τ ∧ l1 = a1 ∧ nb l2 ∧ 0 ≤ l3 ∧ l3 ≤ σ.1 16) ∧ ∃ m5, n < m5 ∧ g5_isTold a1 σ = g5_isTold_44 m5 l1 l2 l3 τ), ⟨_, rfl, ?_⟩, ?_⟩
    · refine and_5 ?_ (fun o9 => ⟨fu5, cnb5, hE⟩)  -- j2
      clear h hE; grind [tyF, tyN, eB, nb]
    rintro n44 x44_1 x44_2 x44_3 _ ⟨hn44, ⟨rfl, i44⟩, m44, hm44, hE⟩
    obtain ⟨m44, rfl⟩ : ∃ m9, m44 = m9 + 1 := ⟨m44 - 1, by clear h hE; omega⟩
    refine ⟨fun c2 => ?_, fun c2 => ?_⟩
    · skip
      replace hE := rb_t5 hE c2
      unfold w_isTold_84
      refine ⟨fun n l1 l2 l3 τ => n = (σ.1 18 - l3).toNatClampNeg ∧ ((σ = τ ∧ l1 = a1 ∧ nb l2 ∧ 0 ≤ l3 ∧ l3 ≤ σ.1 18) ∧ ∃ m5, n < m5 ∧ g5_isTold a1 σ = g5_isTold_84 m5 l1 l2 l3 τ), ⟨_, rfl, ?_⟩, ?_⟩
      · refine and_5 ?_ (fun o9 => ⟨fu5, cnb5, hE⟩)  -- j3
        clear h hE; grind [tyF, tyN, eB, nb]
      rintro n84 x84_1 x84_2 x84_3 _ ⟨hn84, ⟨rfl, i84⟩, m84, hm84, hE⟩
      obtain ⟨m84, rfl⟩ : ∃ m9, m84 = m9 + 1 := ⟨m84 - 1, by clear h hE; omega⟩
      refine ⟨fun c3 => ?_, fun c3 => ?_⟩
      · skip
        replace hE := rb_t5 hE c3
        refine ⟨?_, h _ ?_⟩
        · clear h hE; grind [tyF, tyN, eB, nb]  -- b4
        · refine and_5 ?_ (fun o9 => hE.symm)  -- q5
          clear h hE; grind [tyF, tyN, eB, nb]
      · skip
        replace hE := rb_f5 hE c3
        refine ⟨fun c4 => ?_, fun c4 => ?_⟩
        · skip
          replace hE := rb_f5 hE c4
          unfold w_isTold_115
          intro x5 hx5
          replace hE := rb_p5 hE hx5
          refine lp_b5 (cn_lt2 hn84 ?_ ?_) (fun d9 => ⟨rfl, ?_⟩)
          · clear h hE; grind [tyF, tyN, eB, nb]  -- d6
          · clear h hE; grind [tyF, tyN, eB, nb]  -- d7
          · refine and_5 ?_ (fun o9 => ⟨m84, Nat.lt_of_lt_of_le d9 (Nat.le_of_lt_succ hm84), hE⟩)  -- i8
            clear h hE d9 hm84; grind [tyF, tyN, eB, nb]
        · skip
          replace hE := rb_t5 hE c4
          refine ⟨ib_10.mpr ?_, ?_⟩
          · clear h hE; grind [tyF, tyN, eB, nb]  -- b9
          refine isSame_g5 hC  ?_ (fun r6 q8 => ?_)
          · clear h hE; grind [tyF, tyN, eB, nb]  -- p10
          obtain ⟨q8, z9⟩ := q8
          replace hE := rb_p5 hE z9
          clear z9
          refine ⟨fun c9 => ?_, fun c9 => ?_⟩
          · skip
            replace hE := rb_t5 hE c9
            unfold w_isTold_115
            intro x10 hx10
            replace hE := rb_p5 hE hx10
            refine lp_b5 (cn_lt2 hn84 ?_ ?_) (fun d9 => ⟨rfl, ?_⟩)
            · clear h hE; grind [tyF, tyN, eB, nb]  -- d11
            · clear h hE; grind [tyF, tyN, eB, nb]  -- d12
            · refine and_5 ?_ (fun o9 => ⟨m84, Nat.lt_of_lt_of_le d9 (Nat.le_of_lt_succ hm84), hE⟩)  -- i13
              clear h hE d9 hm84; grind [tyF, tyN, eB, nb]
          · skip
            replace hE := rb_f5 hE c9
            unfold w_isTold_115
            intro x11 hx11
            replace hE := rb_p5 hE hx11
            refine lp_b5 (cn_lt2 hn84 ?_ ?_) (fun d9 => ⟨rfl, ?_⟩)
            · clear h hE; grind [tyF, tyN, eB, nb]  -- d14
            · clear h hE; grind [tyF, tyN, eB, nb]  -- d15
            · refine and_5 ?_ (fun o9 => ⟨m84, Nat.lt_of_lt_of_le d9 (Nat.le_of_lt_succ hm84), hE⟩)  -- i16
              clear h hE d9 hm84; grind [tyF, tyN, eB, nb]
    · skip
      replace hE := rb_f5 hE c2
      refine ⟨fun c12 => ?_, fun c12 => ?_⟩
      · skip
        replace hE := rb_f5 hE c12
        unfold w_isTold_75
        intro x13 hx13
        replace hE := rb_p5 hE hx13
        refine lp_b5 (cn_lt2 hn44 ?_ ?_) (fun d9 => ⟨rfl, ?_⟩)
        · clear h hE; grind [tyF, tyN, eB, nb]  -- d17
        · clear h hE; grind [tyF, tyN, eB, nb]  -- d18
        · refine and_5 ?_ (fun o9 => ⟨m44, Nat.lt_of_lt_of_le d9 (Nat.le_of_lt_succ hm44), hE⟩)  -- i19
          clear h hE d9 hm44; grind [tyF, tyN, eB, nb]
      · skip
        replace hE := rb_t5 hE c12
        refine ⟨ib_3.mpr ?_, ?_⟩
        · clear h hE; grind [tyF, tyN, eB, nb]  -- b20
        refine isSame_g5 hC  ?_ (fun r14 q16 => ?_)
        · clear h hE; grind [tyF, tyN, eB, nb]  -- p21
        obtain ⟨q16, z9⟩ := q16
        replace hE := rb_p5 hE z9
        clear z9
        refine ⟨fun c17 => ?_, fun c17 => ?_⟩
        · skip
          replace hE := rb_t5 hE c17
          unfold w_isTold_75
          intro x18 hx18
          replace hE := rb_p5 hE hx18
          refine lp_b5 (cn_lt2 hn44 ?_ ?_) (fun d9 => ⟨rfl, ?_⟩)
          · clear h hE; grind [tyF, tyN, eB, nb]  -- d22
          · clear h hE; grind [tyF, tyN, eB, nb]  -- d23
          · refine and_5 ?_ (fun o9 => ⟨m44, Nat.lt_of_lt_of_le d9 (Nat.le_of_lt_succ hm44), hE⟩)  -- i24
            clear h hE d9 hm44; grind [tyF, tyN, eB, nb]
        · skip
          replace hE := rb_f5 hE c17
          unfold w_isTold_75
          intro x19 hx19
          replace hE := rb_p5 hE hx19
          refine lp_b5 (cn_lt2 hn44 ?_ ?_) (fun d9 => ⟨rfl, ?_⟩)
          · clear h hE; grind [tyF, tyN, eB, nb]  -- d25
          · clear h hE; grind [tyF, tyN, eB, nb]  -- d26
          · refine and_5 ?_ (fun o9 => ⟨m44, Nat.lt_of_lt_of_le d9 (Nat.le_of_lt_succ hm44), hE⟩)  -- i27
            clear h hE d9 hm44; grind [tyF, tyN, eB, nb]
  · skip
    replace hE := rb_f5 hE c1
    refine ⟨fun c20 => ?_, fun c20 => ?_⟩
    · skip
      replace hE := rb_f5 hE c20
      unfold w_isTold_35
      intro x21 hx21
      replace hE := rb_p5 hE hx21
      refine lp_b5 (cn_lt2 hn4 ?_ ?_) (fun d9 => ⟨rfl, ?_⟩)
      · clear h hE; grind [tyF, tyN, eB, nb]  -- d28
      · clear h hE; grind [tyF, tyN, eB, nb]  -- d29
      · refine and_5 ?_ (fun o9 => ⟨m4, Nat.lt_of_lt_of_le d9 (Nat.le_of_lt_succ hm4), hE⟩)  -- i30
        clear h hE d9 hm4; grind [tyF, tyN, eB, nb]
    · skip
      replace hE := rb_t5 hE c20
      refine ⟨ib_10.mpr ?_, ?_⟩
      · clear h hE; grind [tyF, tyN, eB, nb]  -- b31
      refine isSame_g5 hC  ?_ (fun r22 q24 => ?_)
      · clear h hE; grind [tyF, tyN, eB, nb]  -- p32
      obtain ⟨q24, z9⟩ := q24
      replace hE := rb_p5 hE z9
      clear z9
      refine ⟨fun c25 => ?_, fun c25 => ?_⟩
      · skip
        replace hE := rb_t5 hE c25
        unfold w_isTold_35
        intro x26 hx26
        replace hE := rb_p5 hE hx26
        refine lp_b5 (cn_lt2 hn4 ?_ ?_) (fun d9 => ⟨rfl, ?_⟩)
        · clear h hE; grind [tyF, tyN, eB, nb]  -- d33
        · clear h hE; grind [tyF, tyN, eB, nb]  -- d34
        · refine and_5 ?_ (fun o9 => ⟨m4, Nat.lt_of_lt_of_le d9 (Nat.le_of_lt_succ hm4), hE⟩)  -- i35
          clear h hE d9 hm4; grind [tyF, tyN, eB, nb]
      · skip
        replace hE := rb_f5 hE c25
        unfold w_isTold_35
        intro x27 hx27
        replace hE := rb_p5 hE hx27
        refine lp_b5 (cn_lt2 hn4 ?_ ?_) (fun d9 => ⟨rfl, ?_⟩)
        · clear h hE; grind [tyF, tyN, eB, nb]  -- d36
        · clear h hE; grind [tyF, tyN, eB, nb]  -- d37
        · refine and_5 ?_ (fun o9 => ⟨m4, Nat.lt_of_lt_of_le d9 (Nat.le_of_lt_succ hm4), hE⟩)  -- i38
          clear h hE d9 hm4; grind [tyF, tyN, eB, nb]

theorem variableOf_g5 {C : rCx} (hC : cOK C)  {σ : rS} {a1 : Int32} {Q : Int32 → rS → Prop} (hp : tF σ ∧ tN σ ∧ 0 ≤ a1 ∧ a1 < 131074) (h : ∀ (v : Int32), ((v = -1 ∨ (100 ≤ v ∧ v < 100 + rd σ 27 (σ.1 41)) ∨ (0 ≤ v ∧ v < σ.1 15)) ∧ v = g5_variableOf a1 σ) → Q v σ) : cI C 1 m_variableOf [.ref (co C), .int a1] σ Q := by
  refine m_variableOf_run hC ?_
  unfold w_variableOf_0
  have hE : g5_variableOf a1 σ = g5_variableOf a1 σ := rfl
  unfold w_variableOf_2
  refine ⟨fun n l1 l2 τ => n = (rd σ 27 (σ.1 41) - l2).toNatClampNeg ∧ ((σ = τ ∧ l1 = a1 ∧ 0 ≤ l2 ∧ l2 ≤ rd σ 27 (σ.1 41)) ∧ ∃ m5, n < m5 ∧ g5_variableOf a1 σ = g5_variableOf_2 m5 l1 l2 τ), ⟨_, rfl, ?_⟩, ?_⟩
  · refine and_5 ?_ (fun o9 => ⟨fu5, cnb5, hE⟩)  -- j1
    clear h hE; grind [tyF, tyN, eB, nb]
  rintro n2 x2_1 x2_2 _ ⟨hn2, ⟨rfl, i2⟩, m2, hm2, hE⟩
  obtain ⟨m2, rfl⟩ : ∃ m9, m2 = m9 + 1 := ⟨m2 - 1, by clear h hE; omega⟩
  refine ⟨ib_10.mpr ?_, ?_⟩
  · clear h hE; grind [tyF, tyN, eB, nb]  -- b2
  refine ⟨fun c1 => ?_, fun c1 => ?_⟩
  · skip
    replace hE := rb_t5 hE c1
    unfold w_variableOf_50
    refine ⟨fun n l1 l2 τ => n = (σ.1 15 - l2).toNatClampNeg ∧ ((σ = τ ∧ l1 = a1 ∧ 0 ≤ l2 ∧ l2 ≤ σ.1 15) ∧ ∃ m5, n < m5 ∧ g5_variableOf a1 σ = g5_variableOf_50 m5 l1 l2 τ), ⟨_, rfl, ?_⟩, ?_⟩
    · refine and_5 ?_ (fun o9 => ⟨fu5, cnb5, hE⟩)  -- j3
      clear h hE; grind [tyF, tyN, eB, nb]
    rintro n50 x50_1 x50_2 _ ⟨hn50, ⟨rfl, i50⟩, m50, hm50, hE⟩
    obtain ⟨m50, rfl⟩ : ∃ m9, m50 = m9 + 1 := ⟨m50 - 1, by clear h hE; omega⟩
    refine ⟨fun c2 => ?_, fun c2 => ?_⟩
    · skip
      replace hE := rb_t5 hE c2
      refine h _ ?_
      · refine and_5 ?_ (fun o9 => hE.symm)  -- q4
        clear h hE; grind [tyF, tyN, eB, nb]
    · skip
      replace hE := rb_f5 hE c2
      refine ⟨ib_10.mpr ?_, ?_⟩
      · clear h hE; grind [tyF, tyN, eB, nb]  -- b5
      refine isSame_g5 hC  ?_ (fun r3 q5 => ?_)
      · clear h hE; grind [tyF, tyN, eB, nb]  -- p6
      obtain ⟨q5, z9⟩ := q5
      replace hE := rb_p5 hE z9
      clear z9
      refine ⟨fun c6 => ?_, fun c6 => ?_⟩
      · skip
        replace hE := rb_t5 hE c6
        intro x7 hx7
        replace hE := rb_p5 hE hx7
        refine lp_b5 (cn_lt2 hn50 ?_ ?_) (fun d9 => ⟨rfl, ?_⟩)
        · clear h hE; grind [tyF, tyN, eB, nb]  -- d7
        · clear h hE; grind [tyF, tyN, eB, nb]  -- d8
        · refine and_5 ?_ (fun o9 => ⟨m50, Nat.lt_of_lt_of_le d9 (Nat.le_of_lt_succ hm50), hE⟩)  -- i9
          clear h hE d9 hm50; grind [tyF, tyN, eB, nb]
      · skip
        replace hE := rb_f5 hE c6
        refine h _ ?_
        · refine and_5 ?_ (fun o9 => hE.symm)  -- q10
          clear h hE; grind [tyF, tyN, eB, nb]
  · skip
    replace hE := rb_f5 hE c1
    refine ⟨ib_80.mpr ?_, ?_⟩
    · clear h hE; grind [tyF, tyN, eB, nb]  -- b11
    refine isSame_g5 hC  ?_ (fun r8 q10 => ?_)
    · clear h hE; grind [tyF, tyN, eB, nb]  -- p12
    obtain ⟨q10, z9⟩ := q10
    replace hE := rb_p5 hE z9
    clear z9
    refine ⟨fun c11 => ?_, fun c11 => ?_⟩
    · skip
      replace hE := rb_t5 hE c11
      intro x12 hx12
      replace hE := rb_p5 hE hx12
      refine lp_b5 (cn_lt2 hn2 ?_ ?_) (fun d9 => ⟨rfl, ?_⟩)
      · clear h hE; grind [tyF, tyN, eB, nb]  -- d13
      · clear h hE; grind [tyF, tyN, eB, nb]  -- d14
      · refine and_5 ?_ (fun o9 => ⟨m2, Nat.lt_of_lt_of_le d9 (Nat.le_of_lt_succ hm2), hE⟩)  -- i15
        clear h hE d9 hm2; grind [tyF, tyN, eB, nb]
    · skip
      replace hE := rb_f5 hE c11
      refine h _ ?_
      · refine and_5 ?_ (fun o9 => hE.symm)  -- q16
        clear h hE; grind [tyF, tyN, eB, nb]

theorem arrayOf_g5 {C : rCx} (hC : cOK C)  {σ : rS} {a1 : Int32} {Q : Int32 → rS → Prop} (hp : tF σ ∧ tN σ ∧ 0 ≤ a1 ∧ a1 < 131074) (h : ∀ (v : Int32), ((v = -1 ∨ (200 ≤ v ∧ v < 200 + σ.1 16)) ∧ v = g5_arrayOf a1 σ) → Q v σ) : cI C 1 m_arrayOf [.ref (co C), .int a1] σ Q := by
  refine m_arrayOf_run hC ?_
  unfold w_arrayOf_0
  have hE : g5_arrayOf a1 σ = g5_arrayOf a1 σ := rfl
  unfold w_arrayOf_2
  refine ⟨fun n l1 l2 τ => n = (σ.1 16 - l2).toNatClampNeg ∧ ((σ = τ ∧ l1 = a1 ∧ 0 ≤ l2 ∧ l2 ≤ σ.1 16) ∧ ∃ m5, n < m5 ∧ g5_arrayOf a1 σ = g5_arrayOf_2 m5 l1 l2 τ), ⟨_, rfl, ?_⟩, ?_⟩
  · refine and_5 ?_ (fun o9 => ⟨fu5, cnb5, hE⟩)  -- j1
    clear h hE; grind [tyF, tyN, eB, nb]
  rintro n2 x2_1 x2_2 _ ⟨hn2, ⟨rfl, i2⟩, m2, hm2, hE⟩
  obtain ⟨m2, rfl⟩ : ∃ m9, m2 = m9 + 1 := ⟨m2 - 1, by clear h hE; omega⟩
  refine ⟨fun c1 => ?_, fun c1 => ?_⟩
  · skip
    replace hE := rb_t5 hE c1
    refine h _ ?_
    · refine and_5 ?_ (fun o9 => hE.symm)  -- q2
      clear h hE; grind [tyF, tyN, eB, nb]
  · skip
    replace hE := rb_f5 hE c1
    refine ⟨ib_3.mpr ?_, ?_⟩
    · clear h hE; grind [tyF, tyN, eB, nb]  -- b3
    refine isSame_g5 hC  ?_ (fun r2 q4 => ?_)
    · clear h hE; grind [tyF, tyN, eB, nb]  -- p4
    obtain ⟨q4, z9⟩ := q4
    replace hE := rb_p5 hE z9
    clear z9
    refine ⟨fun c5 => ?_, fun c5 => ?_⟩
    · skip
      replace hE := rb_t5 hE c5
      intro x6 hx6
      replace hE := rb_p5 hE hx6
      refine lp_b5 (cn_lt2 hn2 ?_ ?_) (fun d9 => ⟨rfl, ?_⟩)
      · clear h hE; grind [tyF, tyN, eB, nb]  -- d5
      · clear h hE; grind [tyF, tyN, eB, nb]  -- d6
      · refine and_5 ?_ (fun o9 => ⟨m2, Nat.lt_of_lt_of_le d9 (Nat.le_of_lt_succ hm2), hE⟩)  -- i7
        clear h hE d9 hm2; grind [tyF, tyN, eB, nb]
    · skip
      replace hE := rb_f5 hE c5
      refine h _ ?_
      · refine and_5 ?_ (fun o9 => hE.symm)  -- q8
        clear h hE; grind [tyF, tyN, eB, nb]

theorem functionOf_g5 {C : rCx} (hC : cOK C)  {σ : rS} {a1 : Int32} {Q : Int32 → rS → Prop} (hp : tF σ ∧ tN σ ∧ 0 ≤ a1 ∧ a1 < 131074) (h : ∀ (v : Int32), ((v = -1 ∨ (0 ≤ v ∧ v < σ.1 18)) ∧ v = g5_functionOf a1 σ) → Q v σ) : cI C 1 m_functionOf [.ref (co C), .int a1] σ Q := by
  refine m_functionOf_run hC ?_
  unfold w_functionOf_0
  have hE : g5_functionOf a1 σ = g5_functionOf a1 σ := rfl
  unfold w_functionOf_2
  refine ⟨fun n l1 l2 τ => n = (σ.1 18 - l2).toNatClampNeg ∧ ((σ = τ ∧ l1 = a1 ∧ 0 ≤ l2 ∧ l2 ≤ σ.1 18) ∧ ∃ m5, n < m5 ∧ g5_functionOf a1 σ = g5_functionOf_2 m5 l1 l2 τ), ⟨_, rfl, ?_⟩, ?_⟩
  · refine and_5 ?_ (fun o9 => ⟨fu5, cnb5, hE⟩)  -- j1
    clear h hE; grind [tyF, tyN, eB, nb]
  rintro n2 x2_1 x2_2 _ ⟨hn2, ⟨rfl, i2⟩, m2, hm2, hE⟩
  obtain ⟨m2, rfl⟩ : ∃ m9, m2 = m9 + 1 := ⟨m2 - 1, by clear h hE; omega⟩
  refine ⟨fun c1 => ?_, fun c1 => ?_⟩
  · skip
    replace hE := rb_t5 hE c1
    refine h _ ?_
    · refine and_5 ?_ (fun o9 => hE.symm)  -- q2
      clear h hE; grind [tyF, tyN, eB, nb]
  · skip
    replace hE := rb_f5 hE c1
    refine ⟨ib_10.mpr ?_, ?_⟩
    · clear h hE; grind [tyF, tyN, eB, nb]  -- b3
    refine isSame_g5 hC  ?_ (fun r2 q4 => ?_)
    · clear h hE; grind [tyF, tyN, eB, nb]  -- p4
    obtain ⟨q4, z9⟩ := q4
    replace hE := rb_p5 hE z9
    clear z9
    refine ⟨fun c5 => ?_, fun c5 => ?_⟩
    · skip
      replace hE := rb_t5 hE c5
      intro x6 hx6
      replace hE := rb_p5 hE hx6
      refine lp_b5 (cn_lt2 hn2 ?_ ?_) (fun d9 => ⟨rfl, ?_⟩)
      · clear h hE; grind [tyF, tyN, eB, nb]  -- d5
      · clear h hE; grind [tyF, tyN, eB, nb]  -- d6
      · refine and_5 ?_ (fun o9 => ⟨m2, Nat.lt_of_lt_of_le d9 (Nat.le_of_lt_succ hm2), hE⟩)  -- i7
        clear h hE d9 hm2; grind [tyF, tyN, eB, nb]
    · skip
      replace hE := rb_f5 hE c5
      refine h _ ?_
      · refine and_5 ?_ (fun o9 => hE.symm)  -- q8
        clear h hE; grind [tyF, tyN, eB, nb]

theorem fresh_g5 {C : rCx} (hC : cOK C) (B T : Int32) {σ : rS} {a1 : Int32} {a2 : Int32} {a3 : Int32} {Q : Int32 → rS → Prop} (hp : tK σ B T ∧ tF σ ∧ tN σ) (h : ∀ (v : Int32) (σ' : rS), ((((∀ k, k ≠ 10 → k ≠ 11 → k ≠ 12 → σ'.1 k = σ.1 k) ∧ σ'.2 = σ.2) ∧ tK σ' B T ∧ v = σ.1 10 ∧ (σ.1 11 ≠ 0 → σ' = σ) ∧ (σ'.1 11 = 0 → σ.1 11 = 0 ∧ rd σ 5 (σ.1 10) = 1 ∧ a2 < a3 ∧ σ'.1 10 = σ.1 10 + 1 ∧ rd σ 5 (σ'.1 10) ≠ 4)) ∧ g5_fresh a1 a2 a3 σ = (σ', v)) → Q v σ') : cI C 3 m_fresh [.ref (co C), .int a1, .int a2, .int a3] σ Q := by
  refine m_fresh_run hC ?_
  unfold w_fresh_0
  have hj98 : ∀ (l2 : Int32) (l3 : Int32) (l4 : Int32) (τ : rS), ((l2 = a2 ∧ l3 = a3 ∧ ((∀ k, k ≠ 11 → k ≠ 12 → τ.1 k = σ.1 k) ∧ τ.2 = σ.2) ∧ tK τ B T ∧ l4 = σ.1 10 ∧ (σ.1 11 ≠ 0 → τ = σ) ∧ (τ.1 11 = 0 → σ.1 11 = 0 ∧ rd σ 5 (σ.1 10) = 1)) ∧ g5_fresh a1 a2 a3 σ = g5_fresh_98 l2 l3 l4 τ) → w_fresh_98 C Q  l2 l3 l4 τ := by
    rintro y98_2 y98_3 y98_4 τ98 ⟨j98, hE⟩
    unfold w_fresh_98
    refine isRight_g5 hC  (fun r1 q3 => ?_)
    obtain ⟨q3, z9⟩ := q3
    replace hE := rb_p5 hE z9
    clear z9
    refine ⟨fun c4 => ?_, fun c4 => ?_⟩
    · skip
      replace hE := rb_t5 hE c4
      refine go_g5 hC B T ?_ (fun σ_5 q6 => ?_)
      · clear h hE; grind [tyF, tyN, eB, nb, tK]  -- p1
      obtain ⟨q6, z9⟩ := q6
      replace hE := rb_p5 hE z9.symm
      clear z9
      refine h _ _ ?_
      · refine and_5 ?_ (fun o9 => hE)  -- q2
        clear h hE; grind [tyF, tyN, eB, nb, tK]
    · skip
      replace hE := rb_f5 hE c4
      refine ⟨fun c7 => ?_, fun c7 => ?_⟩
      · skip
        replace hE := rb_t5 hE c7
        refine go_g5 hC B T ?_ (fun σ_8 q9 => ?_)
        · clear h hE; grind [tyF, tyN, eB, nb, tK]  -- p3
        obtain ⟨q9, z9⟩ := q9
        replace hE := rb_p5 hE z9.symm
        clear z9
        refine h _ _ ?_
        · refine and_5 ?_ (fun o9 => hE)  -- q4
          clear h hE; grind [tyF, tyN, eB, nb, tK]
      · skip
        replace hE := rb_f5 hE c7
        refine flaw_g5 hC  ?_ (fun σ_10 q11 => ?_)
        · clear h hE; grind [tyF, tyN, eB, nb, tK]  -- p5
        obtain ⟨q11, z9⟩ := q11
        replace hE := rb_p5 hE z9.symm
        clear z9
        refine go_g5 hC B T ?_ (fun σ_12 q13 => ?_)
        · clear h hE; grind [tyF, tyN, eB, nb, tK]  -- p6
        obtain ⟨q13, z9⟩ := q13
        replace hE := rb_p5 hE z9.symm
        clear z9
        refine h _ _ ?_
        · refine and_5 ?_ (fun o9 => hE)  -- q7
          clear h hE; grind [tyF, tyN, eB, nb, tK]
  have hj78 : ∀ (l2 : Int32) (l3 : Int32) (l4 : Int32) (l5 : Int32) (τ : rS), ((l2 = a2 ∧ l3 = a3 ∧ ((∀ k, k ≠ 11 → k ≠ 12 → τ.1 k = σ.1 k) ∧ τ.2 = σ.2) ∧ tK τ B T ∧ l4 = σ.1 10 ∧ (σ.1 11 ≠ 0 → τ = σ) ∧ (τ.1 11 = 0 → σ.1 11 = 0 ∧ rd σ 5 (σ.1 10) = 1)) ∧ g5_fresh a1 a2 a3 σ = g5_fresh_78 l2 l3 l4 l5 τ) → w_fresh_78 C Q  l2 l3 l4 l5 τ := by
    rintro y78_2 y78_3 y78_4 y78_5 τ78 ⟨j78, hE⟩
    unfold w_fresh_78
    refine isRight_g5 hC  (fun r14 q16 => ?_)
    obtain ⟨q16, z9⟩ := q16
    replace hE := rb_p5 hE z9
    clear z9
    refine ⟨fun c17 => ?_, fun c17 => ?_⟩
    · skip
      replace hE := rb_t5 hE c17
      refine hj98 _ _ _ _ ?_
      · refine and_5 ?_ (fun o9 => hE)  -- k8
        clear h hE; grind [tyF, tyN, eB, nb, tK]
    · skip
      replace hE := rb_f5 hE c17
      refine ⟨fun c18 => ?_, fun c18 => ?_⟩
      · skip
        replace hE := rb_t5 hE c18
        refine hj98 _ _ _ _ ?_
        · refine and_5 ?_ (fun o9 => hE)  -- k9
          clear h hE; grind [tyF, tyN, eB, nb, tK]
      · skip
        replace hE := rb_f5 hE c18
        refine flaw_g5 hC  ?_ (fun σ_19 q20 => ?_)
        · clear h hE; grind [tyF, tyN, eB, nb, tK]  -- p10
        obtain ⟨q20, z9⟩ := q20
        replace hE := rb_p5 hE z9.symm
        clear z9
        refine hj98 _ _ _ _ ?_
        · refine and_5 ?_ (fun o9 => hE)  -- k11
          clear h hE; grind [tyF, tyN, eB, nb, tK]
  have hE : g5_fresh a1 a2 a3 σ = g5_fresh a1 a2 a3 σ := rfl
  refine due_g5 hC B T ?_ (fun r21 σ_22 q23 => ?_)
  · clear h hE; grind [tyF, tyN, eB, nb, tK]  -- p12
  obtain ⟨q23, z9⟩ := q23
  replace hE := rb_m5 hE z9
  clear z9
  refine isTold_g5 hC  ?_ (fun r24 q26 => ?_)
  · clear h hE; grind [tyF, tyN, eB, nb, tK]  -- p13
  obtain ⟨q26, z9⟩ := q26
  replace hE := rb_p5 hE z9
  clear z9
  unfold w_fresh_18
  refine ⟨fun n l1 l2 l3 l4 l5 l6 τ => n = (rd σ 27 (σ.1 41) - l6).toNatClampNeg ∧ ((l1 = a1 ∧ l2 = a2 ∧ l3 = a3 ∧ ((∀ k, k ≠ 11 → k ≠ 12 → τ.1 k = σ.1 k) ∧ τ.2 = σ.2) ∧ tK τ B T ∧ nb l5 ∧ l4 = σ.1 10 ∧ (σ.1 11 ≠ 0 → τ = σ) ∧ (τ.1 11 = 0 → σ.1 11 = 0 ∧ rd σ 5 (σ.1 10) = 1) ∧ 0 ≤ l6 ∧ l6 ≤ rd σ 27 (σ.1 41)) ∧ ∃ m5, n < m5 ∧ g5_fresh a1 a2 a3 σ = g5_fresh_18 m5 l1 l2 l3 l4 l5 l6 τ), ⟨_, rfl, ?_⟩, ?_⟩
  · refine and_5 ?_ (fun o9 => ⟨fu5, cnb5, hE⟩)  -- j14
    clear h hE; grind [tyF, tyN, eB, nb, tK]
  rintro n18 x18_1 x18_2 x18_3 x18_4 x18_5 x18_6 σ18 ⟨hn18, i18, m18, hm18, hE⟩
  obtain ⟨m18, rfl⟩ : ∃ m9, m18 = m9 + 1 := ⟨m18 - 1, by clear h hE; omega⟩
  refine ⟨fun c27 => ?_, fun c27 => ?_⟩
  · skip
    replace hE := rb_t5 hE c27
    refine hj78 _ _ _ _ _ ?_
    · refine and_5 ?_ (fun o9 => hE)  -- k15
      clear h hE; grind [tyF, tyN, eB, nb, tK]
  · skip
    replace hE := rb_f5 hE c27
    refine ⟨ib_10.mpr ?_, ?_⟩
    · clear h hE; grind [tyF, tyN, eB, nb, tK]  -- b16
    refine ⟨fun c28 => ?_, fun c28 => ?_⟩
    · skip
      replace hE := rb_t5 hE c28
      refine hj78 _ _ _ _ _ ?_
      · refine and_5 ?_ (fun o9 => hE)  -- k17
        clear h hE; grind [tyF, tyN, eB, nb, tK]
    · skip
      replace hE := rb_f5 hE c28
      refine ⟨fun c29 => ?_, fun c29 => ?_⟩
      · skip
        replace hE := rb_f5 hE c29
        unfold w_fresh_70
        intro x30 hx30
        replace hE := rb_p5 hE hx30
        refine lp_b5 (cn_lt2 hn18 ?_ ?_) (fun d9 => ⟨rfl, ?_⟩)
        · clear h hE; grind [tyF, tyN, eB, nb, tK]  -- d18
        · clear h hE; grind [tyF, tyN, eB, nb, tK]  -- d19
        · refine and_5 ?_ (fun o9 => ⟨m18, Nat.lt_of_lt_of_le d9 (Nat.le_of_lt_succ hm18), hE⟩)  -- i20
          clear h hE d9 hm18; grind [tyF, tyN, eB, nb, tK]
      · skip
        replace hE := rb_t5 hE c29
        refine ⟨ib_80.mpr ?_, ?_⟩
        · clear h hE; grind [tyF, tyN, eB, nb, tK]  -- b21
        refine isSame_g5 hC  ?_ (fun r31 q33 => ?_)
        · clear h hE; grind [tyF, tyN, eB, nb, tK]  -- p22
        obtain ⟨q33, z9⟩ := q33
        replace hE := rb_p5 hE z9
        clear z9
        refine ⟨fun c34 => ?_, fun c34 => ?_⟩
        · skip
          replace hE := rb_t5 hE c34
          unfold w_fresh_70
          intro x35 hx35
          replace hE := rb_p5 hE hx35
          refine lp_b5 (cn_lt2 hn18 ?_ ?_) (fun d9 => ⟨rfl, ?_⟩)
          · clear h hE; grind [tyF, tyN, eB, nb, tK]  -- d23
          · clear h hE; grind [tyF, tyN, eB, nb, tK]  -- d24
          · refine and_5 ?_ (fun o9 => ⟨m18, Nat.lt_of_lt_of_le d9 (Nat.le_of_lt_succ hm18), hE⟩)  -- i25
            clear h hE d9 hm18; grind [tyF, tyN, eB, nb, tK]
        · skip
          replace hE := rb_f5 hE c34
          unfold w_fresh_70
          intro x36 hx36
          replace hE := rb_p5 hE hx36
          refine lp_b5 (cn_lt2 hn18 ?_ ?_) (fun d9 => ⟨rfl, ?_⟩)
          · clear h hE; grind [tyF, tyN, eB, nb, tK]  -- d26
          · clear h hE; grind [tyF, tyN, eB, nb, tK]  -- d27
          · refine and_5 ?_ (fun o9 => ⟨m18, Nat.lt_of_lt_of_le d9 (Nat.le_of_lt_succ hm18), hE⟩)  -- i28
            clear h hE d9 hm18; grind [tyF, tyN, eB, nb, tK]
