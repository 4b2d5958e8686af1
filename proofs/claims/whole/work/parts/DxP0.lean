section
set_option maxHeartbeats 1600000
/-! the reference's run and exploring as pure functions (gmr.py) -/
def g5_fail (a1 : Int32) (σ : rS) : rS × Int32 := pb5 (siU σ 61 a1) (fun σ1 => (σ1, (2 : Int32)))

def g5_store (a1 : Int32) (a2 : Int32) (σ : rS) : rS := (if a1 < (400 : Int32) then (if a1 < (100 : Int32) then pb5 (riU σ 57 (a1).toNatClampNeg a2) (fun σ1 => σ1) else pb5 (riU σ 60 (((((8 : Int32) * ((σ.1 58) - (1 : Int32))) + a1) - (100 : Int32))).toNatClampNeg a2) (fun σ2 => σ2)) else pb5 (riU σ 57 ((a1 - (400 : Int32))).toNatClampNeg a2) (fun σ3 => σ3))

def g5_workAt (a1 : Int32) (σ : rS) : rS × Int32 := pb5 (siU σ 10 a1) (fun σ1 => pm5 (g5_expression σ1) (fun σ2 r3 => (σ2, r3)))

def g5_outcome (a1 : Int32) (a2 : Int32) (σ : rS) : rS := pb5 (riU σ 64 ((σ.1 63)).toNatClampNeg a1) (fun σ1 => pb5 (riU σ1 65 ((σ1.1 63)).toNatClampNeg a2) (fun σ2 => pb5 (siU σ2 63 ((σ2.1 63) + (1 : Int32))) (fun σ3 => σ3)))

def g5_leave_69 (B2 : Int32 → rS → rS × Int32) (a3 : Int32) (σ : rS) : rS × Int32 := (if (σ.2.2.1 37 (a3).toNatClampNeg) = (-1 : Int32) then (B2 ((0 : Int32)) (σ)) else pb5 (riU σ 59 (((σ.1 58) - (1 : Int32))).toNatClampNeg (σ.2.2.1 37 (a3).toNatClampNeg)) (fun σ1 => (σ1, (0 : Int32))))
def g5_leave_2  : Nat → Int32 → rS → rS × Int32
  | 0, _, σ => (σ, 0)
  | m5 + 1, a2, σ => pb5 (siU σ 58 ((σ.1 58) - (1 : Int32))) (fun σ1 => (if (σ1.1 58) = 0 then pb5 (siU σ1 61 a2) (fun σ5 => (σ5, (1 : Int32))) else pb5 ((σ1.2.2.1 59 (((σ1.1 58) - (1 : Int32))).toNatClampNeg)) (fun v3_2 => (if (σ1.2.2.1 31 (v3_2).toNatClampNeg) = (σ1.2.2.1 32 (v3_2).toNatClampNeg) then (g5_leave_69 (g5_leave_2 m5) (v3_2) (σ1)) else pb5 (g5_store ((σ1.2.2.1 39 ((σ1.2.2.1 31 (v3_2).toNatClampNeg)).toNatClampNeg)) (a2) σ1) (fun σ3 => (g5_leave_69 (g5_leave_2 m5) (v3_2) (σ3)))))))
def g5_leave (a1 : Int32) (σ : rS) : rS × Int32 := (g5_leave_2 fu5 (a1) (σ))

def g5_moveTo (a1 : Int32) (σ : rS) : rS × Int32 := (if a1 = (-1 : Int32) then pm5 (g5_leave ((0 : Int32)) σ) (fun σ2 r3 => (σ2, r3)) else pb5 (riU σ 59 (((σ.1 58) - (1 : Int32))).toNatClampNeg a1) (fun σ1 => (σ1, (0 : Int32))))

def g5_begin_31 (B2 : Int32 → rS → rS × Int32) (a1 : Int32) (s1 : Int32) (s2 : Int32) (σ : rS) : rS × Int32 := pb5 (riU σ 57 (s1).toNatClampNeg s2) (fun σ1 => pb5 (a1 + (1 : Int32)) (fun v1_2 => (B2 (v1_2) (σ1))))
def g5_begin_45  : Nat → Int32 → rS → rS × Int32
  | 0, _, σ => (σ, 0)
  | m5 + 1, a1, σ => (if (8 : Int32) ≤ a1 then pm5 (g5_moveTo ((σ.2.2.1 29 ((σ.1 40)).toNatClampNeg)) σ) (fun σ1 r2 => (σ1, r2)) else pb5 (riU σ 60 (a1).toNatClampNeg (0 : Int32)) (fun σ3 => pb5 (a1 + (1 : Int32)) (fun v1_4 => (g5_begin_45 m5 (v1_4) (σ3)))))
def g5_begin_2  : Nat → Int32 → rS → rS × Int32
  | 0, _, σ => (σ, 0)
  | m5 + 1, a1, σ => (if (34 : Int32) ≤ a1 then pb5 (siU σ 58 (1 : Int32)) (fun σ1 => (g5_begin_45 fu5 ((0 : Int32)) (σ1))) else (if (σ.1 15) ≤ a1 then (g5_begin_31 (g5_begin_2 m5) (a1) (a1) ((0 : Int32)) (σ)) else (g5_begin_31 (g5_begin_2 m5) (a1) (a1) ((σ.2.2.1 21 (a1).toNatClampNeg)) (σ))))
def g5_begin  (σ : rS) : rS × Int32 := (g5_begin_2 fu5 ((0 : Int32)) (σ))

def g5_findPlace_89 (a3 : Int32) (s1 : Int32) (σ : rS) : rS := pb5 (siU σ 47 s1) (fun σ1 => pb5 (siU σ1 67 ((400 : Int32) + a3)) (fun σ2 => σ2))
def g5_findPlace_27 (s0 : Int32) (σ : rS) : rS := pb5 (siU σ 67 (σ.2.2.1 39 (s0).toNatClampNeg)) (fun σ1 => (if (σ1.1 67) < (200 : Int32) then σ1 else pm5 (g5_workAt ((s0 + (2 : Int32))) σ1) (fun σ2 r3 => pb5 (g5_cellOf ((σ1.1 67)) (r3) σ2) (fun r5 => (if (σ2.1 47) ≤ 0 then (if r5 = (-1 : Int32) then (g5_findPlace_89 (r5) ((1 : Int32)) (σ2)) else (g5_findPlace_89 (r5) ((0 : Int32)) (σ2))) else (g5_findPlace_89 (r5) ((σ2.1 47)) (σ2)))))))
def g5_findPlace (a1 : Int32) (σ : rS) : rS := (if (σ.2.2.1 30 (a1).toNatClampNeg) = (1 : Int32) then (g5_findPlace_27 (((σ.2.2.1 31 (a1).toNatClampNeg) + (1 : Int32))) (σ)) else (g5_findPlace_27 ((σ.2.2.1 31 (a1).toNatClampNeg)) (σ)))

def g5_choose_31  (σ : rS) : rS × Int32 := (if (σ.1 47) ≤ 0 then pm5 (g5_fail ((5 : Int32)) σ) (fun σ1 r2 => (σ1, r2)) else pm5 (g5_fail ((σ.1 47)) σ) (fun σ3 r4 => (σ3, r4)))
def g5_choose_58  : Nat → Int32 → Int32 → rS → rS × Int32
  | 0, _, _, σ => (σ, 0)
  | m5 + 1, a2, a3, σ => (if a2 ≤ a3 then pb5 (siU σ 66 (0 : Int32)) (fun σ1 => (σ1, (5 : Int32))) else pb5 (g5_outcome (a3) ((1 : Int32)) σ) (fun σ2 => pb5 (a3 + (1 : Int32)) (fun v3_4 => (g5_choose_58 m5 (a2) (v3_4) (σ2)))))
def g5_choose (a1 : Int32) (σ : rS) : rS × Int32 := pm5 (g5_workAt (((σ.2.2.1 32 (a1).toNatClampNeg) + (2 : Int32))) σ) (fun σ1 r2 => (if 0 < (σ1.1 47) then (g5_choose_31 (σ1)) else (if r2 < (1 : Int32) then (g5_choose_31 (σ1)) else (if r2 ≤ (8 : Int32) then pb5 (siU σ1 63 (0 : Int32)) (fun σ3 => (g5_choose_58 fu5 (r2) ((0 : Int32)) (σ3))) else (g5_choose_31 (σ1))))))

def g5_get (a1 : Int32) (σ : rS) : rS × Int32 := pb5 (g5_store ((σ.1 67)) ((σ.2.2.1 64 (a1).toNatClampNeg)) σ) (fun σ1 => pm5 (g5_moveTo ((σ1.2.2.1 37 ((σ1.2.2.1 59 (((σ1.1 58) - (1 : Int32))).toNatClampNeg)).toNatClampNeg)) σ1) (fun σ3 r4 => (σ3, r4)))

def g5_call_89  (σ : rS) : rS × Int32 := (if (σ.1 47) ≤ 0 then pm5 (g5_fail ((4 : Int32)) σ) (fun σ1 r2 => (σ1, r2)) else pm5 (g5_fail ((σ.1 47)) σ) (fun σ3 r4 => (σ3, r4)))
def g5_call_167 (B122 : Int32 → Int32 → rS → rS × Int32) (a3 : Int32) (a4 : Int32) (s1 : Int32) (s2 : Int32) (σ : rS) : rS × Int32 := pb5 (riU σ 60 (s1).toNatClampNeg s2) (fun σ1 => pb5 (a4 + (1 : Int32)) (fun v4_2 => (B122 (a3) (v4_2) (σ1))))
def g5_call_122  : Nat → Int32 → Int32 → rS → rS × Int32
  | 0, _, _, σ => (σ, 0)
  | m5 + 1, a3, a4, σ => (if (8 : Int32) ≤ a4 then pm5 (g5_moveTo ((σ.2.2.1 29 (a3).toNatClampNeg)) σ) (fun σ1 r2 => (σ1, r2)) else (if (σ.2.2.1 26 (a3).toNatClampNeg) ≤ a4 then (g5_call_167 (g5_call_122 m5) (a3) (a4) ((((8 : Int32) * ((σ.1 58) - (1 : Int32))) + a4)) ((0 : Int32)) (σ)) else (g5_call_167 (g5_call_122 m5) (a3) (a4) ((((8 : Int32) * ((σ.1 58) - (1 : Int32))) + a4)) ((σ.2.2.1 68 (a4).toNatClampNeg)) (σ))))
def g5_call_73 (a3 : Int32) (σ : rS) : rS × Int32 := (if 0 < (σ.1 47) then (g5_call_89 (σ)) else (if (σ.1 58) = (12 : Int32) then (g5_call_89 (σ)) else pb5 (siU σ 58 ((σ.1 58) + (1 : Int32))) (fun σ1 => (g5_call_122 fu5 (a3) ((0 : Int32)) (σ1)))))
def g5_call_28  : Nat → Int32 → Int32 → rS → rS × Int32
  | 0, _, _, σ => (σ, 0)
  | m5 + 1, a3, a4, σ => (if (σ.2.2.1 26 (a3).toNatClampNeg) ≤ a4 then (g5_call_73 (a3) (σ)) else (if (σ.1 47) = 0 then pm5 (g5_expression σ) (fun σ1 r2 => pb5 (riU σ1 68 (a4).toNatClampNeg r2) (fun σ3 => pb5 (siU σ3 10 ((σ3.1 10) + (1 : Int32))) (fun σ4 => pb5 (a4 + (1 : Int32)) (fun v4_5 => (g5_call_28 m5 (a3) (v4_5) (σ4)))))) else (g5_call_73 (a3) (σ))))
def g5_call (a1 : Int32) (σ : rS) : rS × Int32 := pb5 ((σ.2.2.1 32 (a1).toNatClampNeg)) (fun v2_1 => pb5 (((σ.2.2.1 39 (v2_1).toNatClampNeg) - (300 : Int32))) (fun v3_2 => pb5 (siU σ 10 (v2_1 + (2 : Int32))) (fun σ3 => (g5_call_28 fu5 (v3_2) ((0 : Int32)) (σ3)))))

def g5_draw_65  (σ : rS) : rS × Int32 := (if (σ.1 47) ≤ 0 then pm5 (g5_fail ((3 : Int32)) σ) (fun σ1 r2 => (σ1, r2)) else pm5 (g5_fail ((σ.1 47)) σ) (fun σ3 r4 => (σ3, r4)))
def g5_draw_275 (B239 : Int32 → Int32 → rS → rS × Int32) (a5 : Int32) (s0 : Int32) (σ : rS) : rS × Int32 := pb5 (siU σ 66 ((σ.1 66) + (σ.2.2.1 65 (a5).toNatClampNeg))) (fun σ1 => pb5 (a5 + (1 : Int32)) (fun v5_2 => (B239 (s0) (v5_2) (σ1))))
def g5_draw_329  (σ : rS) : rS × Int32 := pm5 (g5_fail ((3 : Int32)) σ) (fun σ1 r2 => (σ1, r2))
def g5_draw_239  : Nat → Int32 → Int32 → rS → rS × Int32
  | 0, _, _, σ => (σ, 0)
  | m5 + 1, a4, a5, σ => (if (σ.1 63) ≤ a5 then (if (σ.1 47) ≤ 0 then (if a4 = 0 then (g5_draw_329 (σ)) else (if (σ.1 66) = 0 then (g5_draw_329 (σ)) else (σ, (4 : Int32)))) else pm5 (g5_fail ((σ.1 47)) σ) (fun σ1 r2 => (σ1, r2))) else (if a4 = 0 then (g5_draw_275 (g5_draw_239 m5) (a5) ((0 : Int32)) (σ)) else pb5 (g5_within ((σ.2.2.1 65 (a5).toNatClampNeg)) ((0 : Int32)) ((1000000 : Int32)) σ) (fun r4 => (if r4 = 0 then (g5_draw_275 (g5_draw_239 m5) (a5) ((0 : Int32)) (σ)) else (g5_draw_275 (g5_draw_239 m5) (a5) ((1 : Int32)) (σ))))))
def g5_draw_228  (σ : rS) : rS × Int32 := pb5 (siU σ 66 (0 : Int32)) (fun σ1 => (g5_draw_239 fu5 ((1 : Int32)) ((0 : Int32)) (σ1)))
def g5_draw_88  : Nat → Int32 → Int32 → rS → rS × Int32
  | 0, _, _, σ => (σ, 0)
  | m5 + 1, a4, a5, σ => (if a4 ≤ a5 then (g5_draw_228 (σ)) else pb5 (g5_outcome (a5) ((1 : Int32)) σ) (fun σ1 => pb5 (a5 + (1 : Int32)) (fun v5_3 => (g5_draw_88 m5 (a4) (v5_3) (σ1)))))
def g5_draw_207 (B162 : Int32 → rS → rS × Int32) (a5 : Int32) (s0 : Int32) (σ : rS) : rS × Int32 := pb5 (g5_outcome (a5) (s0) σ) (fun σ1 => pb5 (g5_isAt ((44 : Int32)) σ1) (fun r4 => (B162 (r4) (σ1))))
def g5_draw_162  : Nat → Int32 → rS → rS × Int32
  | 0, _, σ => (σ, 0)
  | m5 + 1, a4, σ => (if a4 = 0 then (g5_draw_228 (σ)) else (if (σ.1 47) = 0 then pm5 (g5_workAt (((σ.1 10) + (1 : Int32))) σ) (fun σ1 r2 => (if (σ1.1 47) ≤ 0 then pm5 (g5_workAt (((σ1.1 10) + (1 : Int32))) σ1) (fun σ3 r4 => (g5_draw_207 (g5_draw_162 m5) (r2) (r4) (σ3))) else (g5_draw_207 (g5_draw_162 m5) (r2) ((0 : Int32)) (σ1)))) else (g5_draw_228 (σ))))
def g5_draw (a1 : Int32) (σ : rS) : rS × Int32 := pb5 (siU σ 63 (0 : Int32)) (fun σ1 => pb5 (siU σ1 10 (σ1.2.2.1 32 (a1).toNatClampNeg)) (fun σ2 => pb5 (g5_isWord ((11 : Int32)) σ2) (fun r4 => pb5 (g5_isWord ((12 : Int32)) σ2) (fun r6 => (if r4 = 0 then (if r6 = 0 then (g5_draw_162 fu5 ((1 : Int32)) (σ2)) else pm5 (g5_workAt (((σ2.1 10) + (2 : Int32))) σ2) (fun σ7 r8 => pb5 (g5_outcome ((1 : Int32)) (r8) σ7) (fun σ9 => (if (σ9.1 47) ≤ 0 then pm5 (g5_workAt (((σ9.1 10) + (1 : Int32))) σ9) (fun σ11 r12 => pb5 (g5_outcome ((0 : Int32)) (r12) σ11) (fun σ13 => (g5_draw_228 (σ13)))) else pb5 (g5_outcome ((0 : Int32)) ((0 : Int32)) σ9) (fun σ15 => (g5_draw_228 (σ15))))))) else pm5 (g5_workAt (((σ2.1 10) + (2 : Int32))) σ2) (fun σ17 r18 => (if 0 < (σ17.1 47) then (g5_draw_65 (σ17)) else (if r18 < (1 : Int32) then (g5_draw_65 (σ17)) else (if r18 ≤ (64 : Int32) then (g5_draw_88 fu5 (r18) ((0 : Int32)) (σ17)) else (g5_draw_65 (σ17)))))))))))

def g5_act_81 (a1 : Int32) (a2 : Int32) (σ : rS) : rS × Int32 := (if a2 = (3 : Int32) then pm5 (g5_draw (a1) σ) (fun σ32 r33 => (σ32, r33)) else (if a2 = (4 : Int32) then pm5 (g5_choose (a1) σ) (fun σ30 r31 => (σ30, r31)) else pm5 (g5_workAt ((σ.2.2.1 32 (a1).toNatClampNeg)) σ) (fun σ1 r2 => (if (σ1.1 47) ≤ 0 then (if (a2).toInt = 6 then (if r2 = 0 then (if (σ1.2.2.1 34 (a1).toNatClampNeg) = (-1 : Int32) then pm5 (g5_moveTo ((σ1.2.2.1 37 (a1).toNatClampNeg)) σ1) (fun σ7 r8 => (σ7, r8)) else pm5 (g5_moveTo ((σ1.2.2.1 34 (a1).toNatClampNeg)) σ1) (fun σ9 r10 => (σ9, r10))) else (if (σ1.2.2.1 33 (a1).toNatClampNeg) = (-1 : Int32) then pm5 (g5_moveTo ((σ1.2.2.1 37 (a1).toNatClampNeg)) σ1) (fun σ11 r12 => (σ11, r12)) else pm5 (g5_moveTo ((σ1.2.2.1 33 (a1).toNatClampNeg)) σ1) (fun σ13 r14 => (σ13, r14)))) else if (a2).toInt = 7 then (if r2 = 0 then pm5 (g5_moveTo ((σ1.2.2.1 37 (a1).toNatClampNeg)) σ1) (fun σ19 r20 => (σ19, r20)) else (if (σ1.2.2.1 33 (a1).toNatClampNeg) = (-1 : Int32) then pm5 (g5_moveTo (a1) σ1) (fun σ15 r16 => (σ15, r16)) else pm5 (g5_moveTo ((σ1.2.2.1 33 (a1).toNatClampNeg)) σ1) (fun σ17 r18 => (σ17, r18)))) else if (a2).toInt = 8 then pm5 (g5_leave (r2) σ1) (fun σ21 r22 => (σ21, r22)) else if (a2).toInt = 9 then (if r2 = 0 then (σ1, (3 : Int32)) else pm5 (g5_moveTo ((σ1.2.2.1 37 (a1).toNatClampNeg)) σ1) (fun σ23 r24 => (σ23, r24))) else if (a2).toInt = 10 then pb5 (siU σ1 62 r2) (fun σ25 => pm5 (g5_moveTo ((σ25.2.2.1 37 (a1).toNatClampNeg)) σ25) (fun σ26 r27 => (σ26, r27))) else pb5 (g5_store ((σ1.1 67)) (r2) σ1) (fun σ3 => pm5 (g5_moveTo ((σ3.2.2.1 37 (a1).toNatClampNeg)) σ3) (fun σ5 r6 => (σ5, r6)))) else pm5 (g5_fail ((σ1.1 47)) σ1) (fun σ28 r29 => (σ28, r29))))))
def g5_act  (σ : rS) : rS × Int32 := pb5 ((σ.2.2.1 59 (((σ.1 58) - (1 : Int32))).toNatClampNeg)) (fun v1_1 => pb5 (siU σ 11 (0 : Int32)) (fun σ2 => pb5 (siU σ2 13 (0 : Int32)) (fun σ3 => pb5 (siU σ3 47 (0 : Int32)) (fun σ4 => pb5 (siU σ4 46 (1 : Int32)) (fun σ5 => pb5 (siU σ5 62 (0 : Int32)) (fun σ6 => pb5 ((σ6.2.2.1 30 (v1_1).toNatClampNeg)) (fun v2_7 => (if v2_7 = (5 : Int32) then pm5 (g5_call (v1_1) σ6) (fun σ12 r13 => (σ12, r13)) else (if (4 : Int32) < v2_7 then (g5_act_81 (v1_1) (v2_7) (σ6)) else pb5 (g5_findPlace (v1_1) σ6) (fun σ8 => (if (σ8.1 47) ≤ 0 then (g5_act_81 (v1_1) (v2_7) (σ8)) else pm5 (g5_fail ((σ8.1 47)) σ8) (fun σ10 r11 => (σ10, r11)))))))))))))

def g5_pack_90 (B62 : Int32 → rS → rS × Int32) : Nat → Int32 → Int32 → rS → rS × Int32
  | 0, _, _, σ => (σ, 0)
  | m5 + 1, a1, a2, σ => (if (8 : Int32) ≤ a2 then pb5 (a1 + (1 : Int32)) (fun v1_1 => (B62 (v1_1) (σ))) else pb5 (riU σ 84 ((((36 : Int32) + ((9 : Int32) * a1)) + a2)).toNatClampNeg (σ.2.2.1 60 ((((8 : Int32) * a1) + a2)).toNatClampNeg)) (fun σ2 => pb5 (a2 + (1 : Int32)) (fun v2_3 => (g5_pack_90 B62 m5 (a1) (v2_3) (σ2)))))
def g5_pack_137  : Nat → Int32 → Int32 → rS → rS × Int32
  | 0, _, _, σ => (σ, 0)
  | m5 + 1, a1, a2, σ => (if (143 : Int32) ≤ a2 then (σ, a1) else pb5 ((((31 : Int32) * a1) + (σ.2.2.1 84 (a2).toNatClampNeg))) (fun v1_1 => pb5 (a2 + (1 : Int32)) (fun v2_2 => (g5_pack_137 m5 (v1_1) (v2_2) (σ)))))
def g5_pack_62  : Nat → Int32 → rS → rS × Int32
  | 0, _, σ => (σ, 0)
  | m5 + 1, a1, σ => (if (σ.1 58) ≤ a1 then (g5_pack_137 fu5 ((0 : Int32)) ((0 : Int32)) (σ)) else pb5 (riU σ 84 (((35 : Int32) + ((9 : Int32) * a1))).toNatClampNeg (σ.2.2.1 59 (a1).toNatClampNeg)) (fun σ1 => (g5_pack_90 (g5_pack_62 m5) fu5 (a1) ((0 : Int32)) (σ1))))
def g5_pack_34  : Nat → Int32 → rS → rS × Int32
  | 0, _, σ => (σ, 0)
  | m5 + 1, a1, σ => (if (34 : Int32) ≤ a1 then (g5_pack_62 fu5 ((0 : Int32)) (σ)) else pb5 (riU σ 84 (((1 : Int32) + a1)).toNatClampNeg (σ.2.2.1 57 (a1).toNatClampNeg)) (fun σ1 => pb5 (a1 + (1 : Int32)) (fun v1_2 => (g5_pack_34 m5 (v1_2) (σ1)))))
def g5_pack_2  : Nat → Int32 → rS → rS × Int32
  | 0, _, σ => (σ, 0)
  | m5 + 1, a1, σ => (if (143 : Int32) ≤ a1 then pb5 (riU σ 84 ((0 : Int32)).toNatClampNeg (σ.1 58)) (fun σ1 => (g5_pack_34 fu5 ((0 : Int32)) (σ1))) else pb5 (riU σ 84 (a1).toNatClampNeg (0 : Int32)) (fun σ2 => pb5 (a1 + (1 : Int32)) (fun v1_3 => (g5_pack_2 m5 (v1_3) (σ2)))))
def g5_pack  (σ : rS) : rS × Int32 := (g5_pack_2 fu5 ((0 : Int32)) (σ))

def g5_unpack_79 (B48 : Int32 → Int32 → rS → rS) : Nat → Int32 → Int32 → Int32 → rS → rS
  | 0, _, _, _, σ => σ
  | m5 + 1, a2, a3, a4, σ => (if (8 : Int32) ≤ a4 then pb5 (a3 + (1 : Int32)) (fun v3_1 => (B48 (a2) (v3_1) (σ))) else pb5 (riU σ 60 ((((8 : Int32) * a3) + a4)).toNatClampNeg (σ.2.2.1 73 ((((a2 + (36 : Int32)) + ((9 : Int32) * a3)) + a4)).toNatClampNeg)) (fun σ2 => pb5 (a4 + (1 : Int32)) (fun v4_3 => (g5_unpack_79 B48 m5 (a2) (a3) (v4_3) (σ2)))))
def g5_unpack_48  : Nat → Int32 → Int32 → rS → rS
  | 0, _, _, σ => σ
  | m5 + 1, a2, a3, σ => (if (σ.1 58) ≤ a3 then σ else pb5 (riU σ 59 (a3).toNatClampNeg (σ.2.2.1 73 (((a2 + (35 : Int32)) + ((9 : Int32) * a3))).toNatClampNeg)) (fun σ1 => (g5_unpack_79 (g5_unpack_48 m5) fu5 (a2) (a3) ((0 : Int32)) (σ1))))
def g5_unpack_18  : Nat → Int32 → Int32 → rS → rS
  | 0, _, _, σ => σ
  | m5 + 1, a2, a3, σ => (if (34 : Int32) ≤ a3 then (g5_unpack_48 fu5 (a2) ((0 : Int32)) (σ)) else pb5 (riU σ 57 (a3).toNatClampNeg (σ.2.2.1 73 (((a2 + (1 : Int32)) + a3)).toNatClampNeg)) (fun σ1 => pb5 (a3 + (1 : Int32)) (fun v3_2 => (g5_unpack_18 m5 (a2) (v3_2) (σ1)))))
def g5_unpack (a1 : Int32) (σ : rS) : rS := pb5 (((143 : Int32) * a1)) (fun v2_1 => pb5 (siU σ 58 (σ.2.2.1 73 (v2_1).toNatClampNeg)) (fun σ2 => (g5_unpack_18 fu5 (v2_1) ((0 : Int32)) (σ2))))

def g5_isKey_41 (B4 : Int32 → Int32 → Int32 → rS → Int32) (a1 : Int32) (a3 : Int32) (s0 : Int32) (σ : rS) : Int32 := pb5 (a3 + (1 : Int32)) (fun v3_1 => (B4 (a1) (s0) (v3_1) (σ)))
def g5_isKey_4  : Nat → Int32 → Int32 → Int32 → rS → Int32
  | 0, _, _, _, σ => 0
  | m5 + 1, a1, a2, a3, σ => (if (143 : Int32) ≤ a3 then a2 else (if a2 = 0 then a2 else (if (σ.2.2.1 73 ((((143 : Int32) * a1) + a3)).toNatClampNeg) = (σ.2.2.1 84 (a3).toNatClampNeg) then (g5_isKey_41 (g5_isKey_4 m5) (a1) (a3) ((1 : Int32)) (σ)) else (g5_isKey_41 (g5_isKey_4 m5) (a1) (a3) ((0 : Int32)) (σ)))))
def g5_isKey (a1 : Int32) (σ : rS) : Int32 := (g5_isKey_4 fu5 (a1) ((1 : Int32)) ((0 : Int32)) (σ))

def g5_stateNow_7  : Nat → Int32 → Int32 → rS → rS × Int32
  | 0, _, _, σ => (σ, 0)
  | m5 + 1, a1, a2, σ => (if (σ.1 70) ≤ a2 then (σ, (-1 : Int32)) else (if (σ.2.2.1 74 (a2).toNatClampNeg) = a1 then pb5 (g5_isKey (a2) σ) (fun r3 => (if r3 = 0 then pb5 (a2 + (1 : Int32)) (fun v2_4 => (g5_stateNow_7 m5 (a1) (v2_4) (σ))) else (σ, a2))) else pb5 (a2 + (1 : Int32)) (fun v2_1 => (g5_stateNow_7 m5 (a1) (v2_1) (σ)))))
def g5_stateNow  (σ : rS) : rS × Int32 := pm5 (g5_pack σ) (fun σ1 r2 => (g5_stateNow_7 fu5 (r2) ((0 : Int32)) (σ1)))

def g5_stateNumber_38  : Nat → Int32 → rS → rS × Int32
  | 0, _, σ => (σ, 0)
  | m5 + 1, a2, σ => (if (143 : Int32) ≤ a2 then pb5 (siU σ 70 ((σ.1 70) + (1 : Int32))) (fun σ1 => (σ1, ((σ1.1 70) - (1 : Int32)))) else pb5 (riU σ 73 ((((143 : Int32) * (σ.1 70)) + a2)).toNatClampNeg (σ.2.2.1 84 (a2).toNatClampNeg)) (fun σ2 => pb5 (a2 + (1 : Int32)) (fun v2_3 => (g5_stateNumber_38 m5 (v2_3) (σ2)))))
def g5_stateNumber  (σ : rS) : rS × Int32 := pm5 (g5_stateNow σ) (fun σ1 r2 => (if r2 = (-1 : Int32) then (if (σ1.1 70) = (σ1.1 85) then (σ1, r2) else pm5 (g5_pack σ1) (fun σ3 r4 => pb5 (riU σ3 74 ((σ1.1 70)).toNatClampNeg r4) (fun σ5 => (g5_stateNumber_38 fu5 ((0 : Int32)) (σ5))))) else (σ1, r2)))

def g5_endingNumber_71 (B2 : Int32 → rS → rS × Int32) (B34 : Int32 → Int32 → Int32 → rS → rS × Int32) (a1 : Int32) (a3 : Int32) (s0 : Int32) (σ : rS) : rS × Int32 := pb5 (a3 + (1 : Int32)) (fun v3_1 => (B34 (a1) (s0) (v3_1) (σ)))
def g5_endingNumber_78 (B2 : Int32 → rS → rS × Int32) (a1 : Int32) (a2 : Int32) (σ : rS) : rS × Int32 := (if a2 = 0 then pb5 (a1 + (1 : Int32)) (fun v1_1 => (B2 (v1_1) (σ))) else (σ, a1))
def g5_endingNumber_34 (B2 : Int32 → rS → rS × Int32) : Nat → Int32 → Int32 → Int32 → rS → rS × Int32
  | 0, _, _, _, σ => (σ, 0)
  | m5 + 1, a1, a2, a3, σ => (if (34 : Int32) ≤ a3 then (g5_endingNumber_78 B2 (a1) (a2) (σ)) else (if a2 = 0 then (g5_endingNumber_78 B2 (a1) (a2) (σ)) else (if (σ.2.2.1 75 (((((35 : Int32) * a1) + (1 : Int32)) + a3)).toNatClampNeg) = (σ.2.2.1 57 (a3).toNatClampNeg) then (g5_endingNumber_71 B2 (g5_endingNumber_34 B2 m5) (a1) (a3) ((1 : Int32)) (σ)) else (g5_endingNumber_71 B2 (g5_endingNumber_34 B2 m5) (a1) (a3) ((0 : Int32)) (σ)))))
def g5_endingNumber_31 (B2 : Int32 → rS → rS × Int32) (a1 : Int32) (s0 : Int32) (σ : rS) : rS × Int32 := (g5_endingNumber_34 B2 fu5 (a1) (s0) ((0 : Int32)) (σ))
def g5_endingNumber_120  : Nat → Int32 → rS → rS × Int32
  | 0, _, σ => (σ, 0)
  | m5 + 1, a1, σ => (if (34 : Int32) ≤ a1 then pb5 (siU σ 71 ((σ.1 71) + (1 : Int32))) (fun σ1 => (σ1, ((σ1.1 71) - (1 : Int32)))) else pb5 (riU σ 75 (((((35 : Int32) * (σ.1 71)) + (1 : Int32)) + a1)).toNatClampNeg (σ.2.2.1 57 (a1).toNatClampNeg)) (fun σ2 => pb5 (a1 + (1 : Int32)) (fun v1_3 => (g5_endingNumber_120 m5 (v1_3) (σ2)))))
def g5_endingNumber_2  : Nat → Int32 → rS → rS × Int32
  | 0, _, σ => (σ, 0)
  | m5 + 1, a1, σ => (if (σ.1 71) ≤ a1 then (if (σ.1 71) = (1000 : Int32) then (σ, (-1 : Int32)) else pb5 (riU σ 75 (((35 : Int32) * (σ.1 71))).toNatClampNeg (σ.1 61)) (fun σ1 => (g5_endingNumber_120 fu5 ((0 : Int32)) (σ1)))) else (if (σ.2.2.1 75 (((35 : Int32) * a1)).toNatClampNeg) = (σ.1 61) then (g5_endingNumber_31 (g5_endingNumber_2 m5) (a1) ((1 : Int32)) (σ)) else (g5_endingNumber_31 (g5_endingNumber_2 m5) (a1) ((0 : Int32)) (σ))))
def g5_endingNumber  (σ : rS) : rS × Int32 := (g5_endingNumber_2 fu5 ((0 : Int32)) (σ))

def g5_addNext_110 (a1 : Int32) (a2 : Int32) (a5 : Int32) (σ : rS) : rS × Int32 := (if (σ.1 72) = (20000 : Int32) then (σ, (0 : Int32)) else pb5 (riU σ 77 ((σ.1 72)).toNatClampNeg a1) (fun σ1 => pb5 (riU σ1 78 ((σ1.1 72)).toNatClampNeg a5) (fun σ2 => pb5 (riU σ2 79 ((σ2.1 72)).toNatClampNeg a2) (fun σ3 => pb5 (siU σ3 72 ((σ3.1 72) + (1 : Int32))) (fun σ4 => (σ4, (1 : Int32)))))))
def g5_addNext_55  : Nat → Int32 → Int32 → Int32 → Int32 → Int32 → rS → rS × Int32
  | 0, _, _, _, _, _, σ => (σ, 0)
  | m5 + 1, a1, a2, a3, a5, a6, σ => (if (σ.1 72) ≤ a6 then (g5_addNext_110 (a1) (a2) (a5) (σ)) else (if a3 = 0 then (g5_addNext_110 (a1) (a2) (a5) (σ)) else (if (σ.2.2.1 77 (a6).toNatClampNeg) = a1 then (if (σ.2.2.1 78 (a6).toNatClampNeg) = a5 then pb5 (riU σ 79 (a6).toNatClampNeg ((σ.2.2.1 79 (a6).toNatClampNeg) + a2)) (fun σ3 => (σ3, (1 : Int32))) else pb5 (a6 + (1 : Int32)) (fun v6_2 => (g5_addNext_55 m5 (a1) (a2) (a3) (a5) (v6_2) (σ)))) else pb5 (a6 + (1 : Int32)) (fun v6_1 => (g5_addNext_55 m5 (a1) (a2) (a3) (a5) (v6_1) (σ))))))
def g5_addNext_36 (a1 : Int32) (a2 : Int32) (a3 : Int32) (a4 : Int32) (s0 : Int32) (σ : rS) : rS × Int32 := (if s0 = (-1 : Int32) then (if (2 : Int32) ≤ a1 then (g5_addNext_55 fu5 (a1) (a2) (a3) (s0) (a4) (σ)) else (σ, (0 : Int32))) else (g5_addNext_55 fu5 (a1) (a2) (a3) (s0) (a4) (σ)))
def g5_addNext (a1 : Int32) (a2 : Int32) (a3 : Int32) (a4 : Int32) (σ : rS) : rS × Int32 := (if a1 = 0 then pm5 (g5_stateNumber σ) (fun σ3 r4 => (g5_addNext_36 (a1) (a2) (a3) (a4) (r4) (σ3))) else (if a1 = (1 : Int32) then pm5 (g5_endingNumber σ) (fun σ1 r2 => (g5_addNext_36 (a1) (a2) (a3) (a4) (r2) (σ1))) else (if a1 = (2 : Int32) then (g5_addNext_36 (a1) (a2) (a3) (a4) ((σ.1 61)) (σ)) else (g5_addNext_36 (a1) (a2) (a3) (a4) ((0 : Int32)) (σ)))))

def g5_expand_164 (B106 : Int32 → Int32 → Int32 → Int32 → Int32 → rS → rS × Int32) (a1 : Int32) (a2 : Int32) (a3 : Int32) (a5 : Int32) (s1 : Int32) (s2 : Int32) (s3 : Int32) (σ : rS) : rS × Int32 := pm5 (g5_addNext (s1) (s2) (s3) (a2) σ) (fun σ1 r2 => pb5 (a5 + (1 : Int32)) (fun v5_3 => (B106 (a1) (a2) (a3) (r2) (v5_3) (σ1))))
def g5_expand_176 (a1 : Int32) (a4 : Int32) (σ : rS) : rS × Int32 := pb5 (riU σ 76 ((a1 + (1 : Int32))).toNatClampNeg (σ.1 72)) (fun σ1 => (σ1, a4))
def g5_expand_106  : Nat → Int32 → Int32 → Int32 → Int32 → Int32 → rS → rS × Int32
  | 0, _, _, _, _, _, σ => (σ, 0)
  | m5 + 1, a1, a2, a3, a4, a5, σ => (if a3 < (4 : Int32) then (g5_expand_176 (a1) (a4) (σ)) else (if (σ.1 63) ≤ a5 then (g5_expand_176 (a1) (a4) (σ)) else (if a4 = 0 then (g5_expand_176 (a1) (a4) (σ)) else (if (σ.2.2.1 65 (a5).toNatClampNeg) ≤ 0 then pb5 (a5 + (1 : Int32)) (fun v5_1 => (g5_expand_106 m5 (a1) (a2) (a3) (a4) (v5_1) (σ))) else pb5 (g5_unpack (a1) σ) (fun σ2 => pm5 (g5_get (a5) σ2) (fun σ4 r5 => (if a3 = (4 : Int32) then (g5_expand_164 (g5_expand_106 m5) (a1) (a2) (a3) (a5) (r5) ((σ4.2.2.1 65 (a5).toNatClampNeg)) ((1 : Int32)) (σ4)) else (g5_expand_164 (g5_expand_106 m5) (a1) (a2) (a3) (a5) (r5) ((σ4.2.2.1 65 (a5).toNatClampNeg)) ((0 : Int32)) (σ4)))))))))
def g5_expand_84 (a1 : Int32) (a2 : Int32) (a3 : Int32) (s1 : Int32) (s2 : Int32) (σ : rS) : rS × Int32 := pb5 (riU σ 80 (s1).toNatClampNeg s2) (fun σ1 => (if (4 : Int32) ≤ a3 then (g5_expand_106 fu5 (a1) (a2) (a3) ((1 : Int32)) ((0 : Int32)) (σ1)) else pm5 (g5_addNext (a3) ((1 : Int32)) ((0 : Int32)) (a2) σ1) (fun σ2 r3 => (g5_expand_106 fu5 (a1) (a2) (a3) (r3) ((0 : Int32)) (σ2)))))
def g5_expand_56 (a1 : Int32) (a2 : Int32) (a3 : Int32) (s1 : Int32) (s2 : Int32) (σ : rS) : rS × Int32 := pb5 (riU σ 82 (s1).toNatClampNeg s2) (fun σ1 => (if a3 = (4 : Int32) then (g5_expand_84 (a1) (a2) (a3) (a1) ((σ1.1 66)) (σ1)) else (if a3 = (5 : Int32) then (g5_expand_84 (a1) (a2) (a3) (a1) ((0 : Int32)) (σ1)) else (g5_expand_84 (a1) (a2) (a3) (a1) ((1 : Int32)) (σ1)))))
def g5_expand_37 (a1 : Int32) (a2 : Int32) (a3 : Int32) (s1 : Int32) (s2 : Int32) (σ : rS) : rS × Int32 := pb5 (riU σ 81 (s1).toNatClampNeg (vp_nar .boolean s2)) (fun σ1 => (if a3 = (2 : Int32) then (g5_expand_56 (a1) (a2) (a3) (a1) ((0 : Int32)) (σ1)) else (g5_expand_56 (a1) (a2) (a3) (a1) ((σ1.1 62)) (σ1))))
def g5_expand (a1 : Int32) (σ : rS) : rS × Int32 := pb5 ((σ.1 72)) (fun v2_1 => pb5 (riU σ 76 (a1).toNatClampNeg v2_1) (fun σ2 => pb5 (g5_unpack (a1) σ2) (fun σ3 => pm5 (g5_act σ3) (fun σ5 r6 => (if r6 = (5 : Int32) then (g5_expand_37 (a1) (v2_1) (r6) (a1) ((1 : Int32)) (σ5)) else (g5_expand_37 (a1) (v2_1) (r6) (a1) ((0 : Int32)) (σ5)))))))


end
section
set_option maxHeartbeats 1600000
/-! both machines: their memory; a call returns -/
/-- what a run leaves as it was: the code of both sides -/
def FM6 (e e' : E5) (σ σ' : rS) : Prop := ((∀ g, g < 600 ∨ g = 702 → e'.1 g = e.1 g) ∧ (∀ g, g < 600 → e'.2.1 g = e.2.1 g) ∧ e'.2.2 = e.2.2) ∧ (∀ g, g = 11 ∨ g = 15 ∨ g = 16 ∨ g = 17 ∨ g = 18 ∨ g = 19 ∨ g = 40 ∨ 69 ≤ g → σ'.1 g = σ.1 g) ∧ (∀ g, g ≤ 45 ∨ 69 ≤ g → σ'.2.2.1 g = σ.2.2.1 g) ∧ σ'.2.2.2 = σ.2.2.2
theorem FM_r6 {e : E5} {σ : rS} : FM6 e e σ σ := ⟨⟨fun _ _ => rfl, fun _ _ => rfl, rfl⟩, fun _ _ => rfl, fun _ _ => rfl, rfl⟩
theorem FM_t6 {e e' e'' : E5} {σ σ' σ'' : rS} (h : FM6 e e' σ σ') (k : FM6 e' e'' σ' σ'') : FM6 e e'' σ σ'' := ⟨⟨fun g q => (k.1.1 g q).trans (h.1.1 g q), fun g q => (k.1.2.1 g q).trans (h.1.2.1 g q), k.1.2.2.trans h.1.2.2⟩, fun g q => (k.2.1 g q).trans (h.2.1 g q), fun g q => (k.2.2.1 g q).trans (h.2.2.1 g q), k.2.2.2.trans h.2.2.2⟩
section
variable {T : T5} {Bk N nv na f s w d : Nat} {e e' : E5} {σ σ' : rS}
theorem FN_m6 (h : FN6 T Bk N nv na f s e σ) (k : FM6 e e' σ σ') : FN6 T Bk N nv na f s e' σ' := by
  obtain ⟨⟨c1, c2, _⟩, d1, d2, _⟩ := k
  obtain ⟨⟨a1, a2, a3, a4, i, i1, i2, i3, i4⟩, ⟨b0, b1, b2, b3, b4⟩, p3, p4, p5, p6, ⟨q1, q2, q3⟩, ⟨g1, g2, g3, g4, g5⟩, R, r1, r2⟩ := h
  have hm : cm6 e e' := cm_e6 (c1 515 (by decide)) (c2 507 (by decide)) (c2 508 (by decide))
  refine ⟨⟨by rw [c1 509 (by decide)]; exact a1, by rw [c1 510 (by decide)]; exact a2, by rw [c1 512 (by decide)]; exact a3, by rw [c1 513 (by decide)]; exact a4, i, i1, by rw [c1 514 (by decide)]; exact i2, by rw [d1 40 (by decide)]; exact i3, by rw [c2 504 (by decide)]; exact i4⟩, ⟨by rw [d1 11 (by decide)]; exact b0, by rw [d1 15 (by decide)]; exact b1, by rw [d1 16 (by decide)]; exact b2, by rw [d1 18 (by decide)]; exact b3, by rw [d1 19 (by decide)]; exact b4⟩, fun j hj => ?_, fun j hj => ?_, fun j hj k5 => ?_, fun k hk => ?_, ⟨fun g hg => ?_, fun g hg => ?_, fun g x y => ?_⟩, ⟨fun k hk => ?_, fun k hk => ?_, ?_, ?_, ?_⟩, R, cd_e6 r1 (c1 515 (by decide)) (c2 507 (by decide)) (c2 508 (by decide)), r2⟩
  · obtain ⟨z, z1, z2⟩ := p3 j hj
    exact ⟨z, z1, st_m6 z2 hm (Nat.le_refl _) (Nat.le_refl _) (fun c _ => by rw [c2 506 (by decide)]) (by rw [d2 30 (by decide)]) (by rw [d2 31 (by decide)]) (by rw [d2 32 (by decide)]) (fun t _ _ _ => by rw [d2 39 (by decide)])⟩
  · have l := p4 j hj
    unfold lf6 at l ⊢
    rw [c2 506 (by decide), d2 33 (by decide), d2 34 (by decide), d2 37 (by decide), d2 38 (by decide)]
    exact l
  · rw [d2 30 (by decide)] at k5
    have l := p5 j hj k5
    unfold cl6 at l ⊢
    rw [c2 506 (by decide), c2 504 (by decide), d2 32 (by decide), d2 39 (by decide)]
    exact l
  · rw [c2 504 (by decide), d2 26 (by decide)]; exact p6 k hk
  · rw [c2 505 (by decide), d2 27 (by decide)]; exact q1 g hg
  · rw [c2 503 (by decide), d2 29 (by decide)]; exact q2 g hg
  · rw [c2 503 (by decide)]; exact q3 g x y
  · rw [c2 500 (by decide), d2 21 (by decide)]; exact g1 k hk
  · rw [c2 501 (by decide), c2 502 (by decide), d2 23 (by decide), d2 24 (by decide), c1 511 (by decide)]; exact g2 k hk
  · rw [c1 511 (by decide), d1 17 (by decide)]; exact g3
  · rw [c1 511 (by decide)]; exact g4
  · rw [c1 511 (by decide)]; exact g5
/-- the memory of both sides, d calls open; those below the latest stand at calls -/
def zt6 (w : Nat) (σ : rS) : Prop := ∀ i, w ≤ i → i < 34 → σ.2.2.1 57 i = 0
theorem zt_o6 {w : Nat} {σ σ' : rS} (h : σ'.2.2.1 57 = σ.2.2.1 57) (k : zt6 w σ) : zt6 w σ' := fun i x y => by rw [h]; exact k i x y
theorem zt_s6 {w i : Nat} {x : Int32} {σ : rS} (hi : i < w) (k : zt6 w σ) : zt6 w (riU σ 57 i x) := fun j y z => by rw [ri_s6, if_neg (by omega)]; exact k j y z
def MB6 (nv w s d : Nat) (e : E5) (σ : rS) : Prop := (e.1 702 = Int32.ofNat w ∧ nv ≤ w ∧ w ≤ 34 ∧ zt6 w σ) ∧ (e.1 703 = Int32.ofNat d ∧ σ.1 58 = Int32.ofNat d ∧ d ≤ 12 ∧ e.1 704 = Int32.ofNat (w + 9 * (d - 1)) ∧ e.2.2 701 = 142) ∧ (∀ i, i < w → e.2.1 701 i = σ.2.2.1 57 i) ∧ (∀ c, c + 1 < d → ∃ j, j < s ∧ e.2.1 701 (w + 9 * c) = Int32.ofNat j ∧ σ.2.2.1 59 c = Int32.ofNat j ∧ σ.2.2.1 30 j = 5) ∧ ∀ c k, c < d → k < 8 → e.2.1 701 (w + 9 * c + 1 + k) = σ.2.2.1 60 (8 * c + k)
/-- where the latest call is -/
def AT6 (w s d : Nat) (e : E5) (σ : rS) : Prop := ∃ j, j < s ∧ e.2.1 701 (w + 9 * (d - 1)) = Int32.ofNat j ∧ σ.2.2.1 59 (d - 1) = Int32.ofNat j
/-- a number stored in the memory -/
theorem pu_6 {i : Nat} {x : Int32} (hl : e.2.2 701 = 142) (hi : i < 142) : f5_Ma_put (Int32.ofNat i) x e = .inl ((e.1, fun g j => if g = 701 ∧ j = i then x else e.2.1 g j, e.2.2), ()) := by
  have li := ofn_i (n := i) (by omega)
  have l142 := ofn_i (n := 142) (by omega)
  have hl : e.2.2 maMemory = 142 := hl
  unfold f5_Ma_put
  rw [hl, if_neg (show ¬ Int32.ofNat i < 0 by rw [lti, li, t0i]; omega), if_neg (show ¬ Int32.ofNat 142 ≤ Int32.ofNat i by rw [lei, li, l142]; omega)]
  show (.inl ((e.1, fun g j => if g = 701 ∧ j = (Int32.ofNat i).toNatClampNeg then x else e.2.1 g j, e.2.2), ()) : R5 Unit) = _
  rw [cl_5 (by omega)]
/-- the latest call goes on -/
theorem gon_6 {m n : Nat} {g : Int32} (hn : n ≤ 12) (hg : e.1 709 = g) (g1 : ¬ g = -1) : f5_Ma_proceed_2 (m + 1) (Int32.ofNat n) e = .inl ((e.1, fun k j => if k = 701 ∧ j = (e.1 704).toNatClampNeg then g else e.2.1 k j, e.2.2), ()) := by
  have ln := ofn_i (n := n) (by omega)
  have l12 : (12 : Int32).toInt = 12 := rfl
  have hg : e.1 maGoing = g := hg
  rw [f5_Ma_proceed_2, if_neg (show ¬ (12 : Int32) < Int32.ofNat n by rw [lti, l12, ln]; omega), hg, if_neg g1]
  rfl
theorem MB_g6 {j : Nat} (M : MB6 nv w s d e σ) (d0 : 0 < d) (hj : j < s) : MB6 nv w s d (e.1, fun k i => if k = 701 ∧ i = (e.1 704).toNatClampNeg then Int32.ofNat j else e.2.1 k i, e.2.2) (riU σ 59 (d - 1) (Int32.ofNat j)) ∧ AT6 w s d (e.1, fun k i => if k = 701 ∧ i = (e.1 704).toNatClampNeg then Int32.ofNat j else e.2.1 k i, e.2.2) (riU σ 59 (d - 1) (Int32.ofNat j)) ∧ FM6 e (e.1, fun k i => if k = 701 ∧ i = (e.1 704).toNatClampNeg then Int32.ofNat j else e.2.1 k i, e.2.2) σ (riU σ 59 (d - 1) (Int32.ofNat j)) := by
  obtain ⟨⟨m1, m2, m3⟩, ⟨m4, m5, m6, m7, m8⟩, m9, m10, m11⟩ := M
  have cf : (e.1 704).toNatClampNeg = w + 9 * (d - 1) := cln_6 m7 (by omega)
  rw [cf]
  have me : ∀ i, (if 701 = 701 ∧ i = w + 9 * (d - 1) then Int32.ofNat j else e.2.1 701 i) = if i = w + 9 * (d - 1) then Int32.ofNat j else e.2.1 701 i := fun i => by
    by_cases q : i = w + 9 * (d - 1)
    · rw [if_pos ⟨rfl, q⟩, if_pos q]
    · rw [if_neg (fun z => q z.2), if_neg q]
  refine ⟨⟨⟨m1, m2, m3.1, zt_o6 (ri_o6 (by decide)) m3.2⟩, ⟨m4, m5, m6, m7, m8⟩, fun i hi => ?_, fun c hc => ?_, fun c k hc hk => ?_⟩, ⟨j, hj, ?_, ?_⟩, ⟨fun _ _ => rfl, fun g q => ?_, rfl⟩, fun _ _ => rfl, fun g q => ri_o6 (by omega), rfl⟩
  · show (if 701 = 701 ∧ i = w + 9 * (d - 1) then Int32.ofNat j else e.2.1 701 i) = _
    rw [me, if_neg (by omega), ri_o6 (by decide)]; exact m9 i hi
  · obtain ⟨k, k1, k2, k3, k4⟩ := m10 c hc
    refine ⟨k, k1, ?_, ?_, ?_⟩
    · show (if 701 = 701 ∧ w + 9 * c = w + 9 * (d - 1) then Int32.ofNat j else e.2.1 701 (w + 9 * c)) = _
      rw [me, if_neg (by omega)]; exact k2
    · rw [ri_s6, if_neg (by omega)]; exact k3
    · rw [ri_o6 (by decide)]; exact k4
  · show (if 701 = 701 ∧ w + 9 * c + 1 + k = w + 9 * (d - 1) then Int32.ofNat j else e.2.1 701 (w + 9 * c + 1 + k)) = _
    rw [me, if_neg (by omega), ri_o6 (by decide)]; exact m11 c k hc hk
  · show (if 701 = 701 ∧ w + 9 * (d - 1) = w + 9 * (d - 1) then Int32.ofNat j else e.2.1 701 (w + 9 * (d - 1))) = _
    rw [me, if_pos rfl]
  · rw [ri_s6, if_pos rfl]
  · show (fun i => if g = 701 ∧ i = w + 9 * (d - 1) then Int32.ofNat j else e.2.1 g i) = _
    funext i
    exact if_neg (fun z => by omega)
end

end
section
set_option maxHeartbeats 1600000
/-! both machines: a number stored, a call left -/
section
variable {T : T5} {Bk N nv na f s w d : Nat} {e e' : E5} {σ σ' : rS}
/-- where a name's number lies: what the class keeps of it, and the reference's note -/
def pl6b (nv : Nat) (so ix ref : Int32) : Prop := (so = 2 ∧ ∃ k, k < 8 ∧ ix = Int32.ofNat k ∧ ref = Int32.ofNat (100 + k)) ∨ (so = 1 ∧ ∃ k, k < nv ∧ ix = Int32.ofNat k ∧ ref = Int32.ofNat k)
theorem ix9_6 {x y : Int32} {c k : Nat} (hx : x = Int32.ofNat c) (hy : y = Int32.ofNat (100 + k)) (hc : c ≤ 1000) (hk : k ≤ 1000) : ((8 : Int32) * x + y - 100).toNatClampNeg = 8 * c + k := by
  have l1 := ofn_i (n := c) (by omega)
  have l2 := ofn_i (n := 100 + k) (by omega)
  have l8 : (8 : Int32).toInt = 8 := rfl
  have l100 : (100 : Int32).toInt = 100 := rfl
  have m1 : ((8 : Int32) * x).toInt = 8 * c := by rw [hx, mul_i (by rw [l8, l1]; omega) (by rw [l8, l1]; omega), l8, l1]
  have m2 : ((8 : Int32) * x + y).toInt = 8 * c + (100 + k : Nat) := by rw [add_i (by rw [m1, hy, l2]; omega) (by rw [m1, hy, l2]; omega), m1, hy, l2]
  rw [nc_5, sub_i (by rw [m2, l100]; omega) (by rw [m2, l100]; omega), m2, l100]
  omega
/-- a memory with a number stored -/
def me6 (i : Nat) (x : Int32) (e : E5) : E5 := (e.1, fun g j => if g = 701 ∧ j = i then x else e.2.1 g j, e.2.2)
theorem me_m6 {i j : Nat} {x : Int32} : (me6 i x e).2.1 701 j = if j = i then x else e.2.1 701 j := by
  show (if 701 = 701 ∧ j = i then x else e.2.1 701 j) = _
  by_cases q : j = i
  · rw [if_pos ⟨rfl, q⟩, if_pos q]
  · rw [if_neg (fun z => q z.2), if_neg q]
theorem me_o6 {i g : Nat} {x : Int32} (h : g ≠ 701) : (me6 i x e).2.1 g = e.2.1 g := by
  funext j
  exact if_neg (fun z => h z.1)
/-- a number stored on both sides -/
theorem sto_6 {so ix ref x : Int32} (M : MB6 nv w s d e σ) (d0 : 0 < d) (hp : pl6b nv so ix ref) : ∃ i, i < 142 ∧ f5_Ma_slot so ix e = .inl (e, Int32.ofNat i) ∧ MB6 nv w s d (me6 i x e) (g5_store ref x σ) ∧ FM6 e (me6 i x e) σ (g5_store ref x σ) ∧ (∀ c, c < d → (me6 i x e).2.1 701 (w + 9 * c) = e.2.1 701 (w + 9 * c)) ∧ (g5_store ref x σ).1 = σ.1 ∧ (∀ g, g ≠ 57 → g ≠ 60 → (g5_store ref x σ).2.2.1 g = σ.2.2.1 g) ∧ (g5_store ref x σ).2.2.2 = σ.2.2.2 := by
  obtain ⟨⟨m1, m2, m3⟩, ⟨m4, m5, m6, m7, m8⟩, m9, m10, m11⟩ := M
  have l400 : (400 : Int32).toInt = 400 := rfl
  have l100 : (100 : Int32).toInt = 100 := rfl
  rcases hp with ⟨q1, k, k1, k2, k3⟩ | ⟨q1, k, k1, k2, k3⟩
  · have lr := ofn_i (n := 100 + k) (by omega)
    have es : g5_store ref x σ = riU σ 60 (8 * (d - 1) + k) x := by
      unfold g5_store
      rw [if_pos (show ref < 400 by rw [k3, lti, lr, l400]; omega), if_neg (show ¬ ref < 100 by rw [k3, lti, lr, l100]; omega), pb_e5, ix9_6 (c := d - 1) (k := k) (of_s5 (b := d - 1) (by rw [m5]; congr 1; omega) (by omega)) k3 (by omega) (by omega)]
    rw [es]
    refine ⟨w + 9 * (d - 1) + 1 + k, by omega, ?_, ⟨⟨m1, m2, m3.1, zt_o6 (ri_o6 (by decide)) m3.2⟩, ⟨m4, m5, m6, m7, m8⟩, fun i hi => ?_, fun c hc => ?_, fun c k' hc hk => ?_⟩, ⟨⟨fun _ _ => rfl, fun g q => me_o6 (by omega), rfl⟩, fun _ _ => rfl, fun g q => ri_o6 (by omega), rfl⟩, fun c hc => ?_, rfl, fun g _ w2 => ri_o6 w2, rfl⟩
    · unfold f5_Ma_slot
      have m7 : e.1 maFrame = Int32.ofNat (w + 9 * (d - 1)) := m7
      rw [if_pos q1, m7, k2, on_15 (by omega), on_5 (by omega)]
    · rw [me_m6, if_neg (by omega), ri_o6 (by decide)]; exact m9 i hi
    · obtain ⟨j, j1, j2, j3, j4⟩ := m10 c hc
      exact ⟨j, j1, by rw [me_m6, if_neg (by omega)]; exact j2, by rw [ri_o6 (by decide)]; exact j3, by rw [ri_o6 (by decide)]; exact j4⟩
    · rw [me_m6, ri_s6]
      by_cases z : c = d - 1 ∧ k' = k
      · rw [if_pos (by omega), if_pos (by omega)]
      · rw [if_neg (by omega), if_neg (by omega)]; exact m11 c k' hc hk
    · rw [me_m6, if_neg (by omega)]
  · have lr := ofn_i (n := k) (by omega)
    have es : g5_store ref x σ = riU σ 57 k x := by
      unfold g5_store
      rw [if_pos (show ref < 400 by rw [k3, lti, lr, l400]; omega), if_pos (show ref < 100 by rw [k3, lti, lr, l100]; omega), pb_e5, k3, cl_5 (by omega)]
    rw [es]
    refine ⟨k, by omega, ?_, ⟨⟨m1, m2, m3.1, zt_s6 (by omega) m3.2⟩, ⟨m4, m5, m6, m7, m8⟩, fun i hi => ?_, fun c hc => ?_, fun c k' hc hk => ?_⟩, ⟨⟨fun _ _ => rfl, fun g q => me_o6 (by omega), rfl⟩, fun _ _ => rfl, fun g q => ri_o6 (by omega), rfl⟩, fun c hc => ?_, rfl, fun g w1 _ => ri_o6 w1, rfl⟩
    · unfold f5_Ma_slot
      rw [if_neg (by rw [q1]; decide), if_pos q1, k2]
    · rw [me_m6, ri_s6]
      by_cases z : i = k
      · rw [if_pos z, if_pos z]
      · rw [if_neg z, if_neg z]; exact m9 i hi
    · obtain ⟨j, j1, j2, j3, j4⟩ := m10 c hc
      exact ⟨j, j1, by rw [me_m6, if_neg (by omega)]; exact j2, by rw [ri_o6 (by decide)]; exact j3, by rw [ri_o6 (by decide)]; exact j4⟩
    · rw [me_m6, if_neg (by omega), ri_o6 (by decide)]; exact m11 c k' hc hk
    · rw [me_m6, if_neg (by omega)]
/-- a call statement's place -/
theorem cst_6 {r30 r31 r32 r : Nat → Int32} {j z : Nat} (h : stm6 T Bk nv na e r30 r31 r32 r j z) (hk : r30 j = 5) (hB : Bk ≤ 65537) (hz : z ≤ 70000) : (r31 j = r32 j ∧ e.2.1 506 (11 * j + 1) = 0) ∨ (¬ r31 j = r32 j ∧ pl6b nv (e.2.1 506 (11 * j + 1)) (e.2.1 506 (11 * j + 2)) (r (r31 j).toNatClampNeg)) := by
  obtain ⟨b, x, pc, hb, hx, _, bx, xz, _, h7⟩ := h
  have no : ∀ c : Int32, r30 j = c → c = 5 := fun c q => by rw [← q]; exact hk
  have fin : ((b = x ∧ e.2.1 506 (11 * j + 1) = 0) ∨ (b < x ∧ T.2.1 b = 140 ∧ T.2.1 (b + 1) = 61 ∧ pk6 Bk nv r (e.2.1 506 (11 * j + 1)) (e.2.1 506 (11 * j + 2)) b)) → (r31 j = r32 j ∧ e.2.1 506 (11 * j + 1) = 0) ∨ (¬ r31 j = r32 j ∧ pl6b nv (e.2.1 506 (11 * j + 1)) (e.2.1 506 (11 * j + 2)) (r (r31 j).toNatClampNeg)) := fun q => by
    rcases q with ⟨q1, q2⟩ | ⟨q1, _, _, q2⟩
    · exact Or.inl ⟨by rw [hb, hx, q1], q2⟩
    · refine Or.inr ⟨fun y => ?_, ?_⟩
      · rw [hb, hx] at y
        have y := congrArg Int32.toInt y
        rw [ofn_i (by omega), ofn_i (by omega)] at y
        omega
      · rw [hb, cl_5 (by omega)]
        exact q2
  rcases h7 with ⟨q, _⟩ | ⟨_, _, _, ⟨q, _⟩ | ⟨q, _⟩ | ⟨q, _⟩ | ⟨q, _⟩ | ⟨q, _⟩⟩ | ⟨_, _, _, _, q, _⟩ | ⟨q, _⟩
  · exact absurd (no _ q) (by decide)
  · exact absurd (no _ q) (by decide)
  · exact absurd (no _ q) (by decide)
  · exact absurd (no _ q) (by decide)
  · exact absurd (no _ q) (by decide)
  · exact absurd (no _ q) (by decide)
  · exact fin q
  · rcases q with q | q | q | q | q <;> exact absurd (no _ q) (by decide)
/-- how a step ends: it goes on, or all is over -/
def EX6 (nv w s : Nat) (e e' : E5) (σ σ' : rS) (r : Int32) : Prop := FM6 e e' σ σ' ∧ ((r = 0 ∧ e'.1 711 = e.1 711 ∧ ∃ d, 0 < d ∧ MB6 nv w s d e' σ' ∧ AT6 w s d e' σ') ∨ (r = 1 ∧ e'.1 711 = 1 ∧ e'.1 712 = σ'.1 61 ∧ (∀ i, i < w → e'.2.1 701 i = σ'.2.2.1 57 i) ∧ zt6 w σ')) ∧ ((∀ g, g < 703 ∨ 712 < g ∨ g = 708 → e'.1 g = e.1 g) ∧ ∀ g, g ≠ 701 → e'.2.1 g = e.2.1 g) ∧ (∀ g, g ≠ 58 → g ≠ 61 → σ'.1 g = σ.1 g) ∧ ∀ g, g ≠ 57 → g ≠ 59 → g ≠ 60 → σ'.2.2.1 g = σ.2.2.1 g
theorem lv_6 (hB : Bk ≤ 65537) (hN : N ≤ 65537) : ∀ (d m mr n : Nat) (x : Int32) (e : E5) (σ : rS), FN6 T Bk N nv na f s e σ → MB6 nv w s d e σ → 0 < d → e.1 709 = -1 → e.1 710 = x → n + d ≤ 12 → d < m → d ≤ mr → ∃ e' σ' r, f5_Ma_proceed_2 m (Int32.ofNat n) e = .inl (e', ()) ∧ g5_leave_2 mr x σ = (σ', r) ∧ EX6 nv w s e e' σ σ' r
  | 0, _, _, _, _, _, _, _, _, h, _, _, _, _, _ => by omega
  | d + 1, m, mr, n, x, e, σ, F, M, _, hg, ha, hn, hm, hmr => by
    obtain ⟨m, rfl⟩ : ∃ k, m = k + 1 := ⟨m - 1, by omega⟩
    obtain ⟨mr, rfl⟩ : ∃ k, mr = k + 1 := ⟨mr - 1, by omega⟩
    have ln := ofn_i (n := n) (by omega)
    have l12 : (12 : Int32).toInt = 12 := rfl
    obtain ⟨⟨m1, m2, m3⟩, ⟨m4, m5, m6, m7, m8⟩, m9, m10, m11⟩ := M
    have hg' : e.1 maGoing = -1 := hg
    have ho : e.1 maOpen - 1 = Int32.ofNat d := of_s5 (b := d) m4 (by omega)
    have hs : σ.1 58 - 1 = Int32.ofNat d := of_s5 (b := d) m5 (by omega)
    rw [f5_Ma_proceed_2, if_neg (show ¬ (12 : Int32) < Int32.ofNat n by rw [lti, l12, ln]; omega), if_pos hg', g5_leave_2, pb_e5, hs, ho]
    unfold stI5
    rw [rdl_5]
    have ld := ofn_i (n := d) (by omega)
    by_cases d0 : d = 0
    · rw [d0]
      rw [if_neg (show ¬ (0 : Int32) < (fun g => if g = maOpen then Int32.ofNat 0 else e.1 g) maOpen by show ¬ (0 : Int32) < Int32.ofNat 0; decide), rdl_5, rdl_5, if_pos (show (siU σ 58 (Int32.ofNat 0)).1 58 = 0 from rfl), pb_e5]
      refine ⟨_, _, _, rfl, rfl, ⟨⟨fun g q => ?_, fun _ _ => rfl, rfl⟩, fun g q => ?_, fun _ _ => rfl, rfl⟩, Or.inr ⟨rfl, rfl, ?_, m9, m3.2⟩, ⟨fun g q => ?_, fun _ _ => rfl⟩, fun g w1 w2 => ?_, fun _ _ _ _ => rfl⟩
      · show (if g = 712 then _ else if g = 711 then _ else if g = 703 then _ else e.1 g) = _
        rw [if_neg (by omega), if_neg (by omega), if_neg (by omega)]
      · rw [si1, if_neg (by omega), si1, if_neg (by omega)]
      · exact ha
      · show (if g = 712 then _ else if g = 711 then _ else if g = 703 then _ else e.1 g) = _
        rw [if_neg (by omega), if_neg (by omega), if_neg (by omega)]
      · rw [si1, if_neg w2, si1, if_neg w1]
    · obtain ⟨c, rfl⟩ : ∃ c, d = c + 1 := ⟨d - 1, by omega⟩
      rw [if_pos (show (0 : Int32) < (fun g => if g = maOpen then Int32.ofNat (c + 1) else e.1 g) maOpen by show (0 : Int32) < Int32.ofNat (c + 1); rw [lti, t0i, ld]; omega), rdl_5, if_neg (show ¬ (siU σ 58 (Int32.ofNat (c + 1))).1 58 = 0 from fun y => by
        have y : Int32.ofNat (c + 1) = 0 := y
        have y := congrArg Int32.toInt y
        rw [ld, t0i] at y
        omega)]
      have hf : e.1 maFrame - 9 = Int32.ofNat (w + 9 * c) := by
        have m7 : e.1 maFrame = Int32.ofNat (w + 9 * (c + 1)) := m7
        have l9 : (9 : Int32).toInt = 9 := rfl
        have la := ofn_i (n := w + 9 * (c + 1)) (by omega)
        rw [m7]
        exact Int32.toInt_inj.mp (by rw [sub_i (by rw [la, l9]; omega) (by rw [la, l9]; omega), la, l9, ofn_i (by omega)]; omega)
      obtain ⟨e3, x1, x2, x3, x4⟩ : ∃ e3 : E5, ((fun g => if g = maFrame then (fun g => if g = maOpen then Int32.ofNat (c + 1) else e.1 g) maFrame - 9 else (fun g => if g = maOpen then Int32.ofNat (c + 1) else e.1 g) g, (e.2 : (Nat → Nat → Int32) × (Nat → Nat))) : E5) = e3 ∧ (e3.1 704 = Int32.ofNat (w + 9 * c) ∧ e3.1 703 = Int32.ofNat (c + 1)) ∧ (∀ g, g ≠ 703 → g ≠ 704 → e3.1 g = e.1 g) ∧ e3.2 = e.2 := ⟨_, rfl, ⟨hf, rfl⟩, fun g w1 w2 => by
        show (if g = 704 then _ else if g = 703 then _ else e.1 g) = _
        rw [if_neg w2, if_neg w1], rfl⟩
      rw [x1]
      obtain ⟨σ3, z1, z2, z3, z4⟩ : ∃ σ3 : rS, siU σ 58 (Int32.ofNat (c + 1)) = σ3 ∧ σ3.1 58 = Int32.ofNat (c + 1) ∧ (∀ g, g ≠ 58 → σ3.1 g = σ.1 g) ∧ σ3.2 = σ.2 := ⟨_, rfl, rfl, fun g w1 => by rw [si1, if_neg w1], rfl⟩
      rw [z1]
      clear x1 z1
      obtain ⟨j, j1, j2, j3, j4⟩ := m10 c (by omega)
      have cf : (e3.1 maFrame).toNatClampNeg = w + 9 * c := cln_6 x2.1 (by omega)
      have hs3 : (σ3.1 58 - 1).toNatClampNeg = c := by rw [of_s5 (b := c) z2 (by omega), cl_5 (by omega)]
      have vj : e3.2.1 maMemory (w + 9 * c) = Int32.ofNat j := by rw [x4]; exact j2
      have F3 : FM6 e e3 σ σ3 := ⟨⟨fun g q => x3 g (by omega) (by omega), fun _ _ => by rw [x4], by rw [x4]⟩, fun g q => z3 g (by omega), fun _ _ => by rw [z4], by rw [z4]⟩
      have FN3 := FN_m6 F F3
      have M3 : MB6 nv w s (c + 1) e3 σ3 := ⟨⟨(x3 702 (by decide) (by decide)).trans m1, m2, m3.1, zt_o6 (by rw [z4]) m3.2⟩, ⟨x2.2, z2, by omega, x2.1, by rw [x4]; exact m8⟩, fun i hi => by rw [x4, z4]; exact m9 i hi, fun c' hc => by rw [x4, z4]; exact m10 c' (by omega), fun c' k hc hk => by rw [x4, z4]; exact m11 c' k (by omega) hk⟩
      have s150 := FN3.1.2.2.2.1.2
      have est : e3.1 coStatements = Int32.ofNat s := FN3.1.2.2.2.1.1
      have cl : ∀ q : Nat, q ≤ 10 → ∀ e9 : E5, e9.1 coStatements = Int32.ofNat s → cl5 (Int32.ofNat j) (Int32.ofNat q) e9 = e9.2.1 506 (11 * j + q) := fun q hq e9 h9 => cl_55 (s := j) (c := q) h9 (by omega) (by omega) hq
      obtain ⟨z, zN, hst⟩ := FN3.2.2.1 j j1
      have k5 : σ3.2.2.1 30 j = 5 := by rw [z4]; exact j4
      have cs := cst_6 hst k5 hB (by omega)
      have lf := FN3.2.2.2.1 j j1
      have cj : (Int32.ofNat j).toNatClampNeg = j := cl_5 (by omega)
      have j59 : σ3.2.2.1 59 c = Int32.ofNat j := by rw [z4]; exact j3
      have ha3 : e3.1 maAnswer = x := (x3 710 (by decide) (by decide)).trans ha
      rw [pb_e5, cf, vj, pb_e5, pb_e5, pb_e5, hs3, j59, cj]
      have cl1 : cl5 (Int32.ofNat j) 1 e3 = e3.2.1 506 (11 * j + 1) := cl 1 (by decide) e3 est
      have cl2 : cl5 (Int32.ofNat j) 2 e3 = e3.2.1 506 (11 * j + 2) := cl 2 (by decide) e3 est
      rw [cl1, cl2]
      -- what is left: behind the number stored
      have rest : ∀ (e4 : E5) (σ4 : rS), MB6 nv w s (c + 1) e4 σ4 → FM6 e3 e4 σ3 σ4 → e4.1 = e3.1 → σ4.1 = σ3.1 → (∀ g, g ≠ 57 → g ≠ 60 → σ4.2.2.1 g = σ3.2.2.1 g) → (∀ g, g ≠ 701 → e4.2.1 g = e3.2.1 g) → ∃ e' σ' r, pb5 (cl5 (Int32.ofNat j) 8 e4) (fun r23 => rdB5 (.inl ((fun g => if g = maGoing then r23 else e4.1 g, e4.2), ())) (fun e25 _ => rdB5 (.inl ((fun g => if g = maAnswer then 0 else e25.1 g, e25.2), ())) (fun e27 _ => pb5 (Int32.ofNat n + 1) (fun v1_29 => f5_Ma_proceed_2 m v1_29 e27)))) = .inl (e', ()) ∧ g5_leave_69 (g5_leave_2 mr) (Int32.ofNat j) σ4 = (σ', r) ∧ EX6 nv w s e e' σ σ' r := fun e4 σ4 M4 F4 ee es rr rq => by
        have FN4 := FN_m6 FN3 F4
        have lf := FN4.2.2.2.1 j j1
        have cl8 : cl5 (Int32.ofNat j) 8 e4 = σ4.2.2.1 37 j := (cl 8 (by decide) e4 FN4.1.2.2.2.1.1).trans lf.2.2.1.1
        rw [pb_e5, cl8, rdl_5, rdl_5, pb_e5, on_15 (by omega)]
        obtain ⟨e5, y1, y2, y3, y4⟩ : ∃ e5 : E5, ((fun g => if g = maAnswer then 0 else (fun g => if g = maGoing then σ4.2.2.1 37 j else e4.1 g) g, (e4.2 : (Nat → Nat → Int32) × (Nat → Nat))) : E5) = e5 ∧ (e5.1 709 = σ4.2.2.1 37 j ∧ e5.1 710 = 0) ∧ (∀ g, g ≠ 709 → g ≠ 710 → e5.1 g = e4.1 g) ∧ e5.2 = e4.2 := ⟨_, rfl, ⟨rfl, rfl⟩, fun g w1 w2 => by
          show (if g = 710 then _ else if g = 709 then _ else e4.1 g) = _
          rw [if_neg w2, if_neg w1], rfl⟩
        rw [y1]
        clear y1
        have F5 : FM6 e4 e5 σ4 σ4 := ⟨⟨fun g q => y3 g (by omega) (by omega), fun _ _ => by rw [y4], by rw [y4]⟩, fun _ _ => rfl, fun _ _ => rfl, rfl⟩
        have FN5 := FN_m6 FN4 F5
        have M5 : MB6 nv w s (c + 1) e5 σ4 := by
          obtain ⟨⟨a1, a2, a3⟩, ⟨a4, a5, a6, a7, a8⟩, a9, a10, a11⟩ := M4
          exact ⟨⟨(y3 702 (by decide) (by decide)).trans a1, a2, a3⟩, ⟨(y3 703 (by decide) (by decide)).trans a4, a5, a6, (y3 704 (by decide) (by decide)).trans a7, by rw [y4]; exact a8⟩, fun i hi => by rw [y4]; exact a9 i hi, fun c' hc => by rw [y4]; exact a10 c' hc, fun c' k hc hk => by rw [y4]; exact a11 c' k hc hk⟩
        have FF := FM_t6 (FM_t6 F3 F4) F5
        have e711 : e5.1 711 = e.1 711 := (y3 711 (by decide) (by decide)).trans ((congrFun ee 711).trans (x3 711 (by decide) (by decide)))
        have eq5 : ∀ g, g ≠ 701 → e5.2.1 g = e.2.1 g := fun g q => by rw [y4, rq g q, x4]
        have eg : ∀ g, g < 703 ∨ 712 < g ∨ g = 708 → e5.1 g = e.1 g := fun g q => (y3 g (by omega) (by omega)).trans ((congrFun ee g).trans (x3 g (by omega) (by omega)))
        have sg : ∀ g, g ≠ 58 → g ≠ 61 → σ4.1 g = σ.1 g := fun g w1 _ => (congrFun es g).trans (z3 g w1)
        have sr : ∀ g, g ≠ 57 → g ≠ 59 → g ≠ 60 → σ4.2.2.1 g = σ.2.2.1 g := fun g w1 _ w3 => (rr g w1 w3).trans (by rw [z4])
        unfold g5_leave_69
        rw [cj]
        by_cases k37 : σ4.2.2.1 37 j = -1
        · rw [if_pos k37]
          obtain ⟨e', σ', r, u1, u2, u3, u4, u5, u6, u7⟩ := lv_6 hB hN (c + 1) m mr (n + 1) 0 e5 σ4 FN5 M5 (by omega) (y2.1.trans k37) y2.2 (by omega) (by omega) (by omega)
          refine ⟨e', σ', r, u1, u2, FM_t6 FF u3, ?_, ⟨fun g q => (u5.1 g q).trans (eg g q), fun g q => (u5.2 g q).trans (eq5 g q)⟩, fun g w1 w2 => (u6 g w1 w2).trans (sg g w1 w2), fun g w1 w2 w3 => (u7 g w1 w2 w3).trans (sr g w1 w2 w3)⟩
          rcases u4 with ⟨r0, q1, q2⟩ | q
          · exact Or.inl ⟨r0, q1.trans e711, q2⟩
          · exact Or.inr q
        · rw [if_neg k37, pb_e5]
          obtain ⟨jn, n1, n2⟩ := lf.2.2.1.2.resolve_left k37
          obtain ⟨m, rfl⟩ : ∃ k, m = k + 1 := ⟨m - 1, by omega⟩
          rw [gon_6 (by omega) (y2.1.trans n2) (by rw [← n2]; exact k37)]
          have c58 : (σ4.1 58 - 1).toNatClampNeg = c := by rw [of_s5 (b := c) M4.2.1.2.1 (by omega), cl_5 (by omega)]
          rw [c58, n2]
          obtain ⟨B1, B2, B3⟩ := MB_g6 M5 (by omega) n1
          exact ⟨_, _, _, rfl, rfl, FM_t6 FF B3, Or.inl ⟨rfl, e711, c + 1, by omega, B1, B2⟩, ⟨eg, fun g q => (funext fun i => if_neg (fun y => q y.1)).trans (eq5 g q)⟩, sg, fun g w1 w2 w3 => (ri_o6 w2).trans (sr g w1 w2 w3)⟩
      rcases cs with ⟨t1, t2⟩ | ⟨t1, t2⟩
      · rw [t2, if_pos t1]
        have sl : f5_Ma_slot 0 (e3.2.1 506 (11 * j + 2)) e3 = .inl (e3, -1) := by
          unfold f5_Ma_slot
          rw [if_neg (show ¬ (0 : Int32) = 2 by decide), if_neg (show ¬ (0 : Int32) = 1 by decide)]
        have pu : f5_Ma_put (-1) (e3.1 maAnswer) e3 = .inl (e3, ()) := by
          unfold f5_Ma_put
          rw [if_pos (show (-1 : Int32) < 0 by decide)]
        rw [sl, rdl_5, pu, rdl_5]
        exact rest e3 σ3 M3 FM_r6 rfl rfl (fun _ _ _ => rfl) (fun _ _ => rfl)
      · rw [if_neg t1, pb_e5]
        obtain ⟨i, i1, i2, i3, i4, _, i6, i7, _⟩ := sto_6 (x := x) M3 (by omega) t2
        rw [i2, rdl_5, ha3, pu_6 M3.2.1.2.2.2.2 i1, rdl_5]
        exact rest _ _ i3 i4 rfl i6 i7 (fun g q => me_o6 q)
end

end
section
set_option maxHeartbeats 1600000
/-! both machines: the latest call goes on; an expression worked out -/
section
variable {T : T5} {X : X5} {Bk N nv na f s w d : Nat} {Z : Int32} {e e' : E5} {σ σ' : rS}
theorem mv_6 {g : Int32} (hB : Bk ≤ 65537) (hN : N ≤ 65537) (F : FN6 T Bk N nv na f s e σ) (M : MB6 nv w s d e σ) (d0 : 0 < d) (hg : e.1 709 = g) (ha : e.1 710 = 0) (hb : bl6 s g) : ∃ e' σ' r, f5_Ma_proceed e = .inl (e', ()) ∧ g5_moveTo g σ = (σ', r) ∧ EX6 nv w s e e' σ σ' r := by
  have d12 := M.2.1.2.2.1
  unfold f5_Ma_proceed g5_moveTo
  by_cases c : g = -1
  · rw [if_pos c]
    obtain ⟨e', σ', r, u1, u2, u3⟩ := lv_6 hB hN d fu5 fu5 0 0 e σ F M d0 (hg.trans c) ha (by omega) (by unfold fu5; omega) (by unfold fu5; omega)
    refine ⟨e', σ', r, u1, ?_, u3⟩
    unfold g5_leave
    rw [u2, pm_e5]
  · rw [if_neg c, pb_e5]
    obtain ⟨j, j1, j2⟩ := hb.resolve_left c
    have c58 : (σ.1 58 - 1).toNatClampNeg = d - 1 := by rw [of_s5 (b := d - 1) (by rw [M.2.1.2.1]; congr 1; omega) (by omega), cl_5 (by omega)]
    have z : f5_Ma_proceed_2 fu5 0 e = .inl ((e.1, fun k j => if k = 701 ∧ j = (e.1 704).toNatClampNeg then g else e.2.1 k j, e.2.2), ()) := gon_6 (m := fu5 - 1) (n := 0) (by decide) hg c
    rw [z, c58, j2]
    obtain ⟨B1, B2, B3⟩ := MB_g6 M d0 j1
    exact ⟨_, _, _, rfl, rfl, B3, Or.inl ⟨rfl, rfl, d, d0, B1, B2⟩, ⟨fun _ _ => rfl, fun g q => funext fun i => if_neg (fun y => q y.1)⟩, fun _ _ _ => rfl, fun g _ w2 _ => ri_o6 w2⟩
end
theorem bin_6 (K : Int32) : f5_Pa_binary K ≠ -1 → bi16 (f5_Pa_binary K) := by
  unfold f5_Pa_binary
  have z : ∀ {c : Prop} [Decidable c] {x y : Int32}, (x ≠ -1 → bi16 x) → (y ≠ -1 → bi16 y) → (if c then x else y) ≠ -1 → bi16 (if c then x else y) := fun {c} _ {x y} h1 h2 => by
    by_cases q : c
    · rw [if_pos q]; exact h1
    · rw [if_neg q]; exact h2
  repeat' refine z (fun _ => by decide) ?_
  exact fun h => absurd rfl h
theorem dr_m6 {r c : Int32} : ∀ {C : List Int32}, c ∈ drC5 r C → c ∈ C
  | [], h => h
  | x :: C, h => by
    rw [drC5] at h
    by_cases q : f5_Pa_rankOf x < r
    · rw [if_pos q] at h; exact h
    · rw [if_neg q] at h; exact List.mem_cons_of_mem _ (dr_m6 h)
theorem tk_m6 {r c : Int32} : ∀ {C : List Int32}, c ∈ tk6 r C → c ∈ C
  | [], h => h
  | x :: C, h => by
    rw [tk6] at h
    by_cases q : f5_Pa_rankOf x < r
    · rw [if_pos q] at h; cases h
    · rw [if_neg q] at h
      rcases List.mem_cons.mp h with y | y
      · rw [y]; exact List.mem_cons_self
      · exact List.mem_cons_of_mem _ (tk_m6 y)
theorem vC_m6 {c : Int32} : ∀ {C : List Int32}, vC6 C → c ∈ C → vo6 c
  | [], _, h => by cases h
  | x :: C, v, h => by
    rcases List.mem_cons.mp h with y | y
    · rw [y]; exact v.1
    · exact vC_m6 v.2 y
theorem cdm_6 {r : Int32} {C : List Int32} {c : Qq6} (v : vC6 C) (h : c ∈ cd6 (tk6 r C)) : c.1 ≠ 4 := by
  unfold cd6 at h
  obtain ⟨x, h1, h2⟩ := List.mem_map.mp h
  have vx := vC_m6 v (tk_m6 h1)
  rw [← h2]
  show x ≠ 4
  rcases vx with (q | q) | (q | q | q | q) | q
  · rw [q]; decide
  · rw [q]; decide
  · rw [q]; decide
  · rw [q]; decide
  · rw [q]; decide
  · rw [q]; decide
  · rcases q with q | q | q | q | q | q | q | q | q | q | q | q | q <;> rw [q] <;> decide
/-- which arrays an expression's code names -/
theorem ck_6 {P : Int32 → Prop} {T : T5} {qb : Nat} {rs : Nat → Qq6} {ra : Nat → Int32} : ∀ {m : Nat} {st : Bool} {a : Nat} {C : List Int32} {K : List Qq6} {a' : Nat}, Ch6 T qb rs ra m st a C K a' → vC6 C → (∀ c, c ∈ C → br16 c → c ≠ 100 → P (c - 101)) → (∀ t, a ≤ t → t < a' → T.2.1 t = 140 → T.2.1 (t + 1) = 91 → P (ra t)) → ∀ c, c ∈ K → c.1 = 4 → P c.2
  | 0, _, _, _, _, _, h, _, _, _ => h.elim
  | m + 1, false, a, C, K, a', h, v, hC, hP => fun c hc c4 => by
    rcases h with ⟨_, K', eK, h⟩ | ⟨o, k, h⟩ | ⟨_, _, h⟩ | ⟨_, _, _, kr, K', eK, h⟩ | ⟨k, k91, _, kr, h⟩
    · rw [eK] at hc
      rcases List.mem_cons.mp hc with y | y
      · rw [y] at c4; exact absurd c4 (by show ¬ (1 : Int32) = 4; decide)
      · exact ck_6 h v hC (fun t x => hP t (by omega)) c y c4
    · have us : us16 o := by rcases k with ⟨_, q⟩ | ⟨_, q⟩ <;> rw [q] <;> decide
      refine ck_6 h ⟨Or.inl us, v⟩ (fun x hx bx n1 => ?_) (fun t x => hP t (by omega)) c hc c4
      rcases List.mem_cons.mp hx with y | y
      · rw [y] at bx; exact absurd bx (us_f6 us).2.2.2.2.1
      · exact hC x y bx n1
    · refine ck_6 h ⟨Or.inr (Or.inl (Or.inl rfl)), v⟩ (fun x hx bx n1 => ?_) (fun t x => hP t (by omega)) c hc c4
      rcases List.mem_cons.mp hx with y | y
      · exact absurd y n1
      · exact hC x y bx n1
    · rw [eK] at hc
      rcases List.mem_cons.mp hc with y | y
      · rw [y] at c4
        rcases kr.1 with q | q
        · rw [q] at c4; exact absurd c4 (by decide)
        · rw [q] at c4; exact absurd c4 (by decide)
      · exact ck_6 h v hC (fun t x => hP t (by omega)) c y c4
    · have hbr : br16 (101 + ra a) := by rcases kr with q | q | q <;> rw [q] <;> decide
      have le := (ch_le6 h).1
      refine ck_6 h ⟨Or.inr (Or.inl hbr), v⟩ (fun x hx bx n1 => ?_) (fun t x => hP t (by omega)) c hc c4
      rcases List.mem_cons.mp hx with y | y
      · rw [y]
        have z : (101 + ra a) - 101 = ra a := by rcases kr with q | q | q <;> rw [q] <;> rfl
        rw [z]
        exact hP a (Nat.le_refl _) (by omega) k k91
      · exact hC x y bx n1
  | m + 1, true, a, C, K, a', h, v, hC, hP => fun c hc c4 => by
    rcases h with ⟨o, r, K', ho, ho1, _, _, eK, h⟩ | ⟨_, x, C', K', hD, _, eK, h⟩ | ⟨_, _, eK, _⟩
    · have bo : bi16 o := by rw [← ho]; exact bin_6 _ (by rw [ho]; exact ho1)
      rw [eK] at hc
      rcases List.mem_append.mp hc with y | y
      · exact absurd c4 (cdm_6 v y)
      · refine ck_6 h ⟨Or.inr (Or.inr bo), vC_r6 v⟩ (fun x hx bx n1 => ?_) (fun t x => hP t (by omega)) c y c4
        rcases List.mem_cons.mp hx with z | z
        · rw [z] at bx; exact absurd bx (bi_f6 bo).2.2.2.2.2.2
        · exact hC x (dr_m6 z) bx n1
    · have vD := vC_r6 (r := 1) v
      have mD : ∀ y, y ∈ x :: C' → y ∈ C := fun y hy => dr_m6 (r := 1) (by rw [hD]; exact hy)
      have hbr : br16 x := dr_16 vD hD
      rw [hD] at vD
      rw [eK] at hc
      rcases List.mem_append.mp hc with y | y
      · exact absurd c4 (cdm_6 v y)
      · rcases List.mem_append.mp y with y | y
        · by_cases q : x = 100
          · rw [if_pos q] at y; cases y
          · rw [if_neg q] at y
            have y : c = (4, x - 101) := List.mem_singleton.mp y
            rw [y]
            exact hC x (mD x List.mem_cons_self) hbr q
        · exact ck_6 h vD.2 (fun z hz => hC z (mD z (List.mem_cons_of_mem _ hz))) (fun t x => hP t (by omega)) c y c4
    · rw [eK] at hc
      exact absurd c4 (cdm_6 v hc)
theorem ex_m6 {M M' : Mm6} (h1 : M'.1 = M.1) : ∀ {K : List Qq6} {st : List Int32}, (∀ c, c ∈ K → c.1 = 4 → ∀ i, M'.2 c.2 i = M.2 c.2 i) → ex6 M' K st = ex6 M K st
  | [], _, _ => rfl
  | c :: K, st, h => by
    have o : on6 M' c st = on6 M c st := by
      unfold on6
      by_cases q : c.1 = 4
      · cases st with
        | nil => rw [h1]
        | cons i r =>
          rw [h1]
          dsimp only
          rw [h c List.mem_cons_self q i]
      · rw [h1, if_neg q, if_neg q]
    rw [ex6, ex6, o]
    cases on6 M c st with
    | inl s => exact ex_m6 h1 (fun x hx => h x (List.mem_cons_of_mem _ hx))
    | inr f => rfl

end
section
set_option maxHeartbeats 1600000
/-! both machines: an expression worked out -/
section
variable {T : T5} {X : X5} {Bk N nv na f s w d : Nat} {Z : Int32} {e e' : E5} {σ σ' : rS}
theorem s200_6 {k : Nat} (hk : k ≤ 1000) : (200 : Int32) + Int32.ofNat k - 200 = Int32.ofNat k ∧ Int32.ofNat (200 + k) - 200 = Int32.ofNat k ∧ (200 : Int32) + Int32.ofNat k = Int32.ofNat (200 + k) := by
  have l1 := ofn_i (n := k) (by omega)
  have l2 := ofn_i (n := 200 + k) (by omega)
  have l200 : (200 : Int32).toInt = 200 := rfl
  have a1 : (200 : Int32) + Int32.ofNat k = Int32.ofNat (200 + k) := Int32.toInt_inj.mp (by rw [add_i (by rw [l200, l1]; omega) (by rw [l200, l1]; omega), l200, l1, l2]; omega)
  have a2 : Int32.ofNat (200 + k) - 200 = Int32.ofNat k := Int32.toInt_inj.mp (by rw [sub_i (by rw [l200, l2]; omega) (by rw [l200, l2]; omega), l200, l2, l1]; omega)
  exact ⟨by rw [a1]; exact a2, a2, a1⟩
theorem s100_6 {k : Nat} (hk : k ≤ 1000) : Int32.ofNat (100 + k) - 100 = Int32.ofNat k := by
  have l1 := ofn_i (n := k) (by omega)
  have l2 := ofn_i (n := 100 + k) (by omega)
  have l100 : (100 : Int32).toInt = 100 := rfl
  exact Int32.toInt_inj.mp (by rw [sub_i (by rw [l100, l2]; omega) (by rw [l100, l2]; omega), l100, l2, l1]; omega)
/-- cells of arrays, both sides -/
theorem cel_6 {k : Nat} {i : Int32} (F : FN6 T Bk N nv na f s e σ) (M : MB6 nv w s d e σ) (hw : (w : Int) = nv + (e.1 511).toInt) (hk : k < na) : g5_cellOf (200 + Int32.ofNat k) i σ = ca6 (Int32.ofNat k) i e ∧ (ca6 (Int32.ofNat k) i e ≠ -1 → σ.2.2.1 57 (ca6 (Int32.ofNat k) i e).toNatClampNeg = e.2.1 701 (ca6 (Int32.ofNat k) i e).toNatClampNeg) := by
  obtain ⟨⟨m1, m2, m3⟩, _, m9, _, _⟩ := M
  have na3 := F.1.2.1.2
  have nv10 := F.1.1.2
  obtain ⟨g1, g2, x, y, g3, g4, g5⟩ := F.2.2.2.2.2.2.2.1.2.1 k hk
  have e9 : e.1 coVars = Int32.ofNat nv := F.1.1.1
  have s15 := F.2.1.2.1
  have lk := ofn_i (n := k) (by omega)
  have l3 : (3 : Int32).toInt = 3 := rfl
  have ck : (Int32.ofNat k).toNatClampNeg = k := cl_5 (by omega)
  have h501 : e.2.1 coArrayBases k = Int32.ofNat x := g1.trans g3
  have h502 : e.2.1 coArraySizes k = Int32.ofNat y := g2.trans g4
  have lx := ofn_i (n := x) (by omega)
  have ly := ofn_i (n := y) (by omega)
  have lv := ofn_i (n := nv) (by omega)
  unfold g5_cellOf ca6
  rw [pb_e5, (s200_6 (k := k) (by omega)).1, ck, g4, g3, s15, h501, h502, e9, if_neg (show ¬ Int32.ofNat k < 0 by rw [lti, lk, t0i]; omega), if_neg (show ¬ (3 : Int32) ≤ Int32.ofNat k by rw [lei, l3, lk]; omega)]
  by_cases i0 : i < 0
  · rw [if_pos i0, if_pos i0]
    exact ⟨rfl, fun q => absurd rfl q⟩
  · rw [if_neg i0, if_neg i0]
    rw [lti, t0i] at i0
    by_cases i1 : i < Int32.ofNat y
    · have i2 : ¬ Int32.ofNat y ≤ i := by rw [lei]; rw [lti] at i1; omega
      rw [if_pos i1, if_neg i2]
      rw [lti, ly] at i1
      refine ⟨rfl, fun _ => ?_⟩
      have ei : i = Int32.ofNat i.toInt.toNat := Int32.toInt_inj.mp (by rw [ofn_i (by omega)]; omega)
      have es : Int32.ofNat nv + Int32.ofNat x + i = Int32.ofNat (nv + x + i.toInt.toNat) := by
        rw [on_5 (by omega)]
        conv => lhs; rw [ei]
        rw [on_5 (by omega)]
      rw [es, cl_5 (by omega)]
      exact (m9 _ (by omega)).symm
    · have i2 : Int32.ofNat y ≤ i := by rw [lei]; rw [lti] at i1; omega
      rw [if_neg i1, if_pos i2]
      exact ⟨rfl, fun q => absurd rfl q⟩
/-- the number of a name, both sides -/
theorem var_6 {k : Nat} {ref : Int32} (M : MB6 nv w s d e σ) (d0 : 0 < d) (hr : (k < nv ∧ ref = Int32.ofNat k) ∨ (k < 8 ∧ ref = Int32.ofNat (100 + k))) : g5_valueOf ref σ = va6 (if (100 : Int32) ≤ ref then (3, ref - 100) else (2, ref) : Qq6).1 (if (100 : Int32) ≤ ref then (3, ref - 100) else (2, ref) : Qq6).2 e := by
  obtain ⟨⟨m1, m2, m3⟩, ⟨m4, m5, m6, m7, m8⟩, m9, m10, m11⟩ := M
  have l100 : (100 : Int32).toInt = 100 := rfl
  have m8 : e.2.2 maMemory = 142 := m8
  have l142 := ofn_i (n := 142) (by omega)
  have va : ∀ (o x : Int32) (i : Nat), pl16 o x e = Int32.ofNat i → i < 142 → va6 o x e = e.2.1 701 i := fun o x i h hi => by
    have li := ofn_i (n := i) (by omega)
    unfold va6
    rw [h, m8, if_neg (show ¬ Int32.ofNat i < 0 by rw [lti, li, t0i]; omega), if_neg (show ¬ Int32.ofNat 142 ≤ Int32.ofNat i by rw [lei, l142, li]; omega), cl_5 (by omega)]
  unfold g5_valueOf
  rcases hr with ⟨h1, h2⟩ | ⟨h1, h2⟩
  · have lk := ofn_i (n := k) (by omega)
    have c : ¬ (100 : Int32) ≤ ref := by rw [h2, lei, l100, lk]; omega
    rw [if_neg c, if_neg c, va 2 ref k (by unfold pl16; rw [if_neg (by decide), h2]) (by omega), h2, cl_5 (by omega)]
    exact (m9 k (by omega)).symm
  · have lk := ofn_i (n := 100 + k) (by omega)
    have c : (100 : Int32) ≤ ref := by rw [h2, lei, l100, lk]; omega
    have m7 : e.1 maFrame = Int32.ofNat (w + 9 * (d - 1)) := m7
    rw [if_pos c, if_pos c, ix9_6 (c := d - 1) (k := k) (of_s5 (b := d - 1) (by rw [m5]; congr 1; omega) (by omega)) h2 (by omega) (by omega), va 3 (ref - 100) (w + 9 * (d - 1) + 1 + k) (by unfold pl16; rw [if_pos rfl, m7, h2, s100_6 (by omega), on_15 (by omega), on_5 (by omega)]) (by omega)]
    exact (m11 (d - 1) k (by omega) h1).symm
/-- an expression on both sides -/
theorem xw_6 {p a p' a' : Nat} (H : TR5 T X Bk N Z) (hE : T.2.1 (N - 1) = 142) (F : FN6 T Bk N nv na f s e σ) (M : MB6 nv w s d e σ) (d0 : 0 < d) (hw : (w : Int) = nv + (e.1 511).toInt) (hx : xe6 T Bk nv na e (σ.2.2.1 39) p a p' a') (aN : a' < N) (hpc : e.1 706 = Int32.ofNat p) (hst : e.2.2 705 = 256) (ho : ok6 σ) (h13 : σ.1 13 = 0) (hsx : sx5 σ = X) :
    (∃ e' σ' v, f5_Ma_work e = .inl (e', v) ∧ g5_workAt (Int32.ofNat (Bk + a)) σ = (σ', v) ∧ e'.1 706 = Int32.ofNat p' ∧ e'.1 713 = e.1 713 ∧ W6 e e' ∧ σ'.1 10 = Int32.ofNat (Bk + a') ∧ σ'.1 47 = 0 ∧ σ'.1 13 = 0 ∧ F6 σ σ') ∨
    (∃ e' σ' v x, f5_Ma_work e = .inl (e', 0) ∧ g5_workAt (Int32.ofNat (Bk + a)) σ = (σ', v) ∧ (x = 1 ∨ x = 2) ∧ e'.1 713 = x ∧ σ'.1 47 = x ∧ W6 e e' ∧ F6 σ σ') := by
  obtain ⟨⟨mm, K, h1, h2, h3, h4⟩, hb, la⟩ := hx
  have hh := H.1
  have na3 := F.1.2.1.2
  have nv10 := F.1.1.2
  obtain ⟨σ2, hσ⟩ : ∃ σ2 : rS, σ2 = siU (siU (siU σ 10 (Int32.ofNat (Bk + a))) 48 0) 49 0 := ⟨_, rfl⟩
  have ew : g5_workAt (Int32.ofNat (Bk + a)) σ = g5_expression_12 fu5 0 σ2 := by
    have pe : ∀ q : rS × Int32, pm5 q (fun a b => (a, b)) = q := fun q => by
      cases q
      rfl
    unfold g5_workAt
    rw [pb_e5, pe]
    unfold g5_expression
    rw [pb_e5, pb_e5, hσ]
  have f2 : F6 σ σ2 := by
    rw [hσ]
    exact F_t6 (F_t6 (F_si6 (Or.inl rfl)) (F_si6 (Or.inr (Or.inr (Or.inr (Or.inl rfl)))))) (F_si6 (Or.inr (Or.inr (Or.inr (Or.inr rfl)))))
  have r2 : σ2.2 = σ.2 := by rw [hσ]; rfl
  have g2 : ∀ g, g ≠ 10 → g ≠ 48 → g ≠ 49 → σ2.1 g = σ.1 g := fun g w1 w2 w3 => by rw [hσ, si1, if_neg w3, si1, if_neg w2, si1, if_neg w1]
  have s10 : σ2.1 10 = Int32.ofNat (Bk + a) := by rw [hσ]; rfl
  have s48 : σ2.1 48 = 0 := by rw [hσ]; rfl
  have s49 : σ2.1 49 = 0 := by rw [hσ]; rfl
  clear hσ
  have cel : ∀ k i, g5_cellOf k i σ2 = g5_cellOf k i σ := fun k i => by
    unfold g5_cellOf
    rw [r2, g2 15 (by decide) (by decide) (by decide)]
  have val : ∀ k, g5_valueOf k σ2 = g5_valueOf k σ := fun k => by
    unfold g5_valueOf
    rw [r2, g2 58 (by decide) (by decide) (by decide)]
  let M' : Mm6 := (fun o x => va6 o x e, fun k i => if g5_cellOf (200 + k) i σ = -1 then none else some (σ.2.2.1 57 (g5_cellOf (200 + k) i σ).toNatClampNeg))
  have es : es6 X Bk a [] σ2 := ⟨⟨(g2 11 (by decide) (by decide) (by decide)).trans ho.1, (g2 46 (by decide) (by decide) (by decide)).trans ho.2.1, (g2 47 (by decide) (by decide) (by decide)).trans ho.2.2⟩, by
    rw [← hsx]
    unfold sx5
    rw [r2], s10, (g2 13 (by decide) (by decide) (by decide)).trans h13⟩
  have ev : ev6 T (rsR6 (σ.2.2.1 39) Bk) (raR6 (σ.2.2.1 39) Bk) M' Bk a a' σ2 := by
    refine ⟨fun k i _ => ?_, fun t t1 t2 kt => ⟨fun k91 => ?_, fun n91 => ?_⟩⟩
    · rw [cel, r2]
    · rw [r2]
      rcases hb t t1 t2 kt with ⟨_, k, k1, k2⟩ | ⟨q, _⟩
      · unfold raR6
        rw [k2, (s200_6 (k := k) (by omega)).2.1, (s200_6 (k := k) (by omega)).2.2]
      · exact absurd k91 q
    · rw [val, r2]
      rcases hb t t1 t2 kt with ⟨q, _⟩ | ⟨_, _, ⟨k, k1, k2⟩ | ⟨k, k1, k2⟩⟩
      · exact absurd q n91
      · exact var_6 M d0 (Or.inl ⟨k1, k2⟩)
      · exact var_6 M d0 (Or.inr ⟨k1, k2⟩)
  have z := (run_6 (M := M') (Nat.le_refl 40) H hE mm).1 a [] K a' h1 aN (Nat.zero_le _) trivial trivial fu5 σ2 [] (by unfold fu5; omega) es ⟨s48, trivial, trivial⟩ ⟨s49, trivial⟩ rfl ev
  have eM : ex6 M' K [] = ex6 (mm6 e) K [] := by
    refine ex_m6 (M := mm6 e) (M' := M') rfl (fun c hc c4 i => ?_)
    obtain ⟨k, k1, k2⟩ := ck_6 (P := fun x => ∃ k, k < na ∧ x = Int32.ofNat k) h1 trivial (fun c hc => by cases hc) (fun t t1 t2 kt k91 => by
      rcases hb t t1 t2 kt with ⟨_, k, k1, k2⟩ | ⟨q, _⟩
      · exact ⟨k, k1, by unfold raR6; rw [k2, (s200_6 (k := k) (by omega)).2.1]⟩
      · exact absurd k91 q) c hc c4
    obtain ⟨c1, c2⟩ := cel_6 (i := i) F M hw k1
    show (if g5_cellOf (200 + c.2) i σ = -1 then none else some (σ.2.2.1 57 (g5_cellOf (200 + c.2) i σ).toNatClampNeg)) = if ca6 c.2 i e = -1 then none else some (e.2.1 maMemory (ca6 c.2 i e).toNatClampNeg)
    rw [k2, c1]
    by_cases q : ca6 (Int32.ofNat k) i e = -1
    · rw [if_pos q, if_pos q]
    · rw [if_neg q, if_neg q, c2 q]
  rw [eM, ← ew] at z
  have dl := (dl_6 h1 trivial trivial trivial (Nat.zero_le _) (Nat.le_refl 40) (fun t => bin_6 _)).1 rfl
  have wk := wk_m6 K fu5 p [] e (by unfold fu5; omega) (by omega) h2 hpc trivial dl (Nat.zero_le _) hst
  have e00 : Int32.ofNat ([] : List Int32).length = 0 := rfl
  rw [e00] at wk
  have e0 : f5_Ma_work e = f5_Ma_work_2 fu5 0 e := by rw [f5_Ma_work]
  rw [← e0] at wk
  rcases wk with ⟨st', e', w1, w2, w3, w4, w5⟩ | ⟨x, e', w1, w2, w3, w4, w5⟩
  · rcases z with ⟨v, z1, z2, z3, z4, z5, z6⟩ | ⟨x, z1, _⟩
    · have q := Sum.inl.inj (w1.symm.trans z1)
      rw [q] at w2
      refine Or.inl ⟨e', (g5_workAt (Int32.ofNat (Bk + a)) σ).1, v, w2, Prod.ext rfl z2, by rw [h3]; exact w3, w4, w5, z3, z4, z5, F_t6 f2 z6⟩
    · cases w1.symm.trans z1
  · rcases z with ⟨v, z1, _⟩ | ⟨y, z1, z2, z3, z4⟩
    · cases w1.symm.trans z1
    · have q : x = y := Sum.inr.inj (w1.symm.trans z1)
      exact Or.inr ⟨e', (g5_workAt (Int32.ofNat (Bk + a)) σ).1, (g5_workAt (Int32.ofNat (Bk + a)) σ).2, x, w3, Prod.ext rfl rfl, w2, w4, by rw [q]; exact z3, w5, F_t6 f2 z4⟩
end

end
section
set_option maxHeartbeats 1600000
/-! both machines: where a statement's number goes -/
/-- what is changed while a place is looked for and expressions are worked out -/
def WA6 (e e' : E5) : Prop := (∀ g, g ≠ 706 → g ≠ 708 → g ≠ 713 → e'.1 g = e.1 g) ∧ (∀ g, g ≠ 705 → g ≠ 707 → e'.2.1 g = e.2.1 g) ∧ e'.2.2 = e.2.2
def FA6 (σ σ' : rS) : Prop := (∀ g, g ≠ 10 → g ≠ 13 → g ≠ 47 → g ≠ 48 → g ≠ 49 → g ≠ 67 → σ'.1 g = σ.1 g) ∧ σ'.2.1 = σ.2.1 ∧ (∀ g, g ≠ 50 → g ≠ 51 → g ≠ 52 → σ'.2.2.1 g = σ.2.2.1 g) ∧ σ'.2.2.2 = σ.2.2.2
theorem WA_t6 {a b c : E5} (h : WA6 a b) (k : WA6 b c) : WA6 a c := ⟨fun g x y z => (k.1 g x y z).trans (h.1 g x y z), fun g x y => (k.2.1 g x y).trans (h.2.1 g x y), k.2.2.trans h.2.2⟩
theorem FA_t6 {a b c : rS} (h : FA6 a b) (k : FA6 b c) : FA6 a c := ⟨fun g x1 x2 x3 x4 x5 x6 => (k.1 g x1 x2 x3 x4 x5 x6).trans (h.1 g x1 x2 x3 x4 x5 x6), k.2.1.trans h.2.1, fun g x y z => (k.2.2.1 g x y z).trans (h.2.2.1 g x y z), k.2.2.2.trans h.2.2.2⟩
theorem WA_w6 {a b : E5} (h : W6 a b) : WA6 a b := ⟨fun g x _ z => h.1 g x z, fun g x _ => h.2.1 g x, h.2.2⟩
theorem FA_f6 {a b : rS} (h : F6 a b) : FA6 a b := ⟨fun g x1 x2 x3 x4 x5 _ => h.1 g x1 x2 x3 x4 x5, h.2.1, h.2.2.1, h.2.2.2⟩
theorem FA_s6 {σ : rS} {x : Int32} : FA6 σ (siU σ 67 x) := ⟨fun g _ _ _ _ _ w => by rw [si1, if_neg w], rfl, fun _ _ _ _ => rfl, rfl⟩
theorem WA_s6 {e : E5} {g : Nat} {x : Int32} (h : g = 706 ∨ g = 708 ∨ g = 713) : WA6 e (fun k => if k = g then x else e.1 k, e.2) := ⟨fun k x y z => if_neg (by omega), fun _ _ _ => rfl, rfl⟩
section
variable {T : T5} {X : X5} {Bk N nv na f s w d : Nat} {Z : Int32} {e e' : E5} {σ σ' : rS}
theorem FM_a6 (h : WA6 e e') (k : FA6 σ σ') : FM6 e e' σ σ' := ⟨⟨fun g q => h.1 g (by omega) (by omega) (by omega), fun g q => h.2.1 g (by omega) (by omega), h.2.2⟩, fun g q => k.1 g (by omega) (by omega) (by omega) (by omega) (by omega) (by omega), fun g q => k.2.2.1 g (by omega) (by omega) (by omega), k.2.2.2⟩
theorem MB_a6 (M : MB6 nv w s d e σ) (h : WA6 e e') (k : FA6 σ σ') : MB6 nv w s d e' σ' := by
  obtain ⟨⟨m1, m2, m3⟩, ⟨m4, m5, m6, m7, m8⟩, m9, m10, m11⟩ := M
  have r := h.2.1 701 (by decide) (by decide)
  have q57 := k.2.2.1 57 (by decide) (by decide) (by decide)
  have q59 := k.2.2.1 59 (by decide) (by decide) (by decide)
  have q60 := k.2.2.1 60 (by decide) (by decide) (by decide)
  have q30 := k.2.2.1 30 (by decide) (by decide) (by decide)
  refine ⟨⟨(h.1 702 (by decide) (by decide) (by decide)).trans m1, m2, m3.1, zt_o6 q57 m3.2⟩, ⟨(h.1 703 (by decide) (by decide) (by decide)).trans m4, (k.1 58 (by decide) (by decide) (by decide) (by decide) (by decide) (by decide)).trans m5, m6, (h.1 704 (by decide) (by decide) (by decide)).trans m7, by rw [h.2.2]; exact m8⟩, ?_, ?_, ?_⟩
  · rw [r, q57]; exact m9
  · rw [r, q59, q30]; exact m10
  · rw [r, q60]; exact m11
/-- a place on both sides -/
def tg6 (nv w d i : Nat) (ref : Int32) : Prop := (i < w ∧ ref = Int32.ofNat (400 + i)) ∨ (i < nv ∧ ref = Int32.ofNat i) ∨ ∃ k, k < 8 ∧ i = w + 9 * (d - 1) + 1 + k ∧ ref = Int32.ofNat (100 + k)
theorem tst_6 {i : Nat} {ref x : Int32} (M : MB6 nv w s d e σ) (d0 : 0 < d) (hp : tg6 nv w d i ref) : i < 142 ∧ MB6 nv w s d (me6 i x e) (g5_store ref x σ) ∧ FM6 e (me6 i x e) σ (g5_store ref x σ) ∧ (∀ c, c < d → (me6 i x e).2.1 701 (w + 9 * c) = e.2.1 701 (w + 9 * c)) ∧ (g5_store ref x σ).1 = σ.1 ∧ (∀ g, g ≠ 57 → g ≠ 60 → (g5_store ref x σ).2.2.1 g = σ.2.2.1 g) ∧ (g5_store ref x σ).2.2.2 = σ.2.2.2 := by
  obtain ⟨⟨m1, m2, m3⟩, ⟨m4, m5, m6, m7, m8⟩, m9, m10, m11⟩ := M
  have l400 : (400 : Int32).toInt = 400 := rfl
  have l100 : (100 : Int32).toInt = 100 := rfl
  have glob : i < w → g5_store ref x σ = riU σ 57 i x → i < 142 ∧ MB6 nv w s d (me6 i x e) (g5_store ref x σ) ∧ FM6 e (me6 i x e) σ (g5_store ref x σ) ∧ (∀ c, c < d → (me6 i x e).2.1 701 (w + 9 * c) = e.2.1 701 (w + 9 * c)) ∧ (g5_store ref x σ).1 = σ.1 ∧ (∀ g, g ≠ 57 → g ≠ 60 → (g5_store ref x σ).2.2.1 g = σ.2.2.1 g) ∧ (g5_store ref x σ).2.2.2 = σ.2.2.2 := fun iw es => by
    rw [es]
    refine ⟨by omega, ⟨⟨m1, m2, m3.1, zt_s6 iw m3.2⟩, ⟨m4, m5, m6, m7, m8⟩, fun k hi => ?_, fun c hc => ?_, fun c k' hc hk => ?_⟩, ⟨⟨fun _ _ => rfl, fun g q => me_o6 (by omega), rfl⟩, fun _ _ => rfl, fun g q => ri_o6 (by omega), rfl⟩, fun c hc => ?_, rfl, fun g w1 _ => ri_o6 w1, rfl⟩
    · rw [me_m6, ri_s6]
      by_cases z : k = i
      · rw [if_pos z, if_pos z]
      · rw [if_neg z, if_neg z]; exact m9 k hi
    · obtain ⟨j, j1, j2, j3, j4⟩ := m10 c hc
      exact ⟨j, j1, by rw [me_m6, if_neg (by omega)]; exact j2, by rw [ri_o6 (by decide)]; exact j3, by rw [ri_o6 (by decide)]; exact j4⟩
    · rw [me_m6, if_neg (by omega), ri_o6 (by decide)]; exact m11 c k' hc hk
    · rw [me_m6, if_neg (by omega)]
  rcases hp with ⟨h1, h2⟩ | ⟨h1, h2⟩ | ⟨k, k1, k2, k3⟩
  · have lr := ofn_i (n := 400 + i) (by omega)
    have e4 : ref - 400 = Int32.ofNat i := by
      rw [h2]
      exact Int32.toInt_inj.mp (by rw [sub_i (by rw [lr, l400]; omega) (by rw [lr, l400]; omega), lr, l400, ofn_i (by omega)]; omega)
    refine glob h1 ?_
    unfold g5_store
    rw [if_neg (show ¬ ref < 400 by rw [h2, lti, lr, l400]; omega), pb_e5, e4, cl_5 (by omega)]
  · have lr := ofn_i (n := i) (by omega)
    refine glob (by omega) ?_
    unfold g5_store
    rw [if_pos (show ref < 400 by rw [h2, lti, lr, l400]; omega), if_pos (show ref < 100 by rw [h2, lti, lr, l100]; omega), pb_e5, h2, cl_5 (by omega)]
  · obtain ⟨j, j1, j2, j3, j4, j5, j6, j7, j8⟩ := sto_6 (so := 2) (ix := Int32.ofNat k) (x := x) ⟨⟨m1, m2, m3⟩, ⟨m4, m5, m6, m7, m8⟩, m9, m10, m11⟩ d0 (Or.inl ⟨rfl, k, k1, rfl, k3⟩)
    have ji : j = i := by
      unfold f5_Ma_slot at j2
      have m7 : e.1 maFrame = Int32.ofNat (w + 9 * (d - 1)) := m7
      rw [if_pos rfl, m7, on_15 (by omega), on_5 (by omega)] at j2
      have y := congrArg Int32.toInt (congrArg Prod.snd (Sum.inl.inj j2))
      have y : (Int32.ofNat (w + 9 * (d - 1) + 1 + k)).toInt = (Int32.ofNat j).toInt := y
      rw [ofn_i (by omega), ofn_i (by omega)] at y
      omega
    rw [ji] at j1 j3 j4 j5
    exact ⟨j1, j3, j4, j5, j6, j7, j8⟩
/-- a name's place -/
theorem tg_6 {so ix ref : Int32} (M : MB6 nv w s d e σ) (hp : pl6b nv so ix ref) : ∃ i, f5_Ma_slot so ix e = .inl (e, Int32.ofNat i) ∧ tg6 nv w d i ref ∧ so ≠ 3 ∧ ref < 200 := by
  have l200 : (200 : Int32).toInt = 200 := rfl
  have mw := M.1.2
  have d12 := M.2.1.2.2.1
  rcases hp with ⟨q1, k, k1, k2, k3⟩ | ⟨q1, k, k1, k2, k3⟩
  · refine ⟨w + 9 * (d - 1) + 1 + k, ?_, Or.inr (Or.inr ⟨k, k1, rfl, k3⟩), by rw [q1]; decide, by rw [k3, lti, ofn_i (by omega), l200]; omega⟩
    unfold f5_Ma_slot
    have m7 : e.1 maFrame = Int32.ofNat (w + 9 * (d - 1)) := M.2.1.2.2.2.1
    rw [if_pos q1, m7, k2, on_15 (by omega), on_5 (by omega)]
  · refine ⟨k, ?_, Or.inr (Or.inl ⟨k1, k3⟩), by rw [q1]; decide, by rw [k3, lti, ofn_i (by omega), l200]; omega⟩
    unfold f5_Ma_slot
    rw [if_neg (by rw [q1]; decide), if_pos q1, k2]
/-- the place of a statement that has one: a name's -/
theorem amn_6 {j t : Nat} (est : e.1 513 = Int32.ofNat s) (hj : j < s) (hs : s ≤ 150) (M : MB6 nv w s d e σ) (ht : Bk + t ≤ 1000000) (hp : pk6 Bk nv (σ.2.2.1 39) (e.2.1 506 (11 * j + 1)) (e.2.1 506 (11 * j + 2)) t) : ∃ e' i, f5_Ma_aim (Int32.ofNat j) e = .inl (e', ()) ∧ e'.1 708 = Int32.ofNat i ∧ (∀ g, g ≠ 708 → e'.1 g = e.1 g) ∧ e'.2 = e.2 ∧ (g5_findPlace_27 (Int32.ofNat (Bk + t)) σ = siU σ 67 (σ.2.2.1 39 (Bk + t))) ∧ tg6 nv w d i (σ.2.2.1 39 (Bk + t)) := by
  obtain ⟨i, i1, i2, i3, i4⟩ := tg_6 (ref := σ.2.2.1 39 (Bk + t)) M hp
  have c1 : cl5 (Int32.ofNat j) 1 e = e.2.1 506 (11 * j + 1) := cl_55 (s := j) (c := 1) est (by omega) (by omega) (by decide)
  have c2 : cl5 (Int32.ofNat j) 2 e = e.2.1 506 (11 * j + 2) := cl_55 (s := j) (c := 2) est (by omega) (by omega) (by decide)
  refine ⟨(fun g => if g = 708 then Int32.ofNat i else e.1 g, e.2), i, ?_, rfl, fun g q => if_neg q, rfl, ?_, i2⟩
  · unfold f5_Ma_aim
    rw [pb_e5, pb_e5, c1, c2, if_neg i3, i1, rdl_5]
    rfl
  · unfold g5_findPlace_27
    rw [pb_e5, cl_5 (by omega), if_pos (show (siU σ 67 (σ.2.2.1 39 (Bk + t))).1 67 < 200 from i4)]
end

end
section
set_option maxHeartbeats 1600000
/-! both machines: a place found -/
def AM6 (nv w d p1 : Nat) (e e' : E5) (σ σ' : rS) : Prop := WA6 e e' ∧ FA6 σ σ' ∧ ((∃ i, e'.1 708 = Int32.ofNat i ∧ tg6 nv w d i (σ'.1 67) ∧ e'.1 706 = Int32.ofNat p1 ∧ e'.1 713 = 0 ∧ σ'.1 47 = 0 ∧ σ'.1 13 = 0) ∨ ∃ x, (x = 1 ∨ x = 2) ∧ e'.1 713 = x ∧ σ'.1 47 = x)
section
variable {T : T5} {X : X5} {Bk N nv na f s w d : Nat} {Z : Int32} {e e' : E5} {σ σ' : rS}
theorem xe_n6 {p a p' a' : Nat} (hx : xe6 T Bk nv na e (σ.2.2.1 39) p a p' a') (k : FM6 e e' σ σ') : xe6 T Bk nv na e' (σ'.2.2.1 39) p a p' a' :=
  xe_m6 hx (cm_e6 (k.1.1 515 (by decide)) (k.1.2.1 507 (by decide)) (k.1.2.1 508 (by decide))) (Nat.le_refl _) (Nat.le_refl _) (fun t _ _ _ _ => by rw [k.2.2.1 39 (by decide)])
theorem sx_a6 (k : FA6 σ σ') (h : sx5 σ = X) : sx5 σ' = X := by
  rw [← h]
  unfold sx5
  rw [k.2.2.1 5 (by decide) (by decide) (by decide), k.2.2.1 6 (by decide) (by decide) (by decide), k.2.2.1 7 (by decide) (by decide) (by decide), k.2.2.1 9 (by decide) (by decide) (by decide), k.2.2.2]
theorem a61_6 {x : Int32} : f5_Ma_aim_61 x e = .inl ((fun g => if g = 713 ∧ x = -1 then 1 else if g = 708 then x else e.1 g, e.2), ()) := by
  unfold f5_Ma_aim_61 stI5
  rw [rdl_5]
  have q : (fun g => if g = maTarget then x else e.1 g) maTarget = x := rfl
  show (if (fun g => if g = maTarget then x else e.1 g) maTarget = -1 then _ else _) = _
  rw [q]
  by_cases h : x = -1
  · rw [if_pos h, rdl_5]
    have z : (fun g => if g = 713 then (1 : Int32) else (fun g => if g = maTarget then x else e.1 g) g) = (fun g => if g = 713 ∧ x = -1 then 1 else if g = 708 then x else e.1 g) := by
      funext g
      by_cases y : g = 713
      · rw [if_pos y, if_pos ⟨y, h⟩]
      · rw [if_neg y, if_neg (fun q => y q.1)]
    show (.inl ((fun g => if g = 713 then (1 : Int32) else (fun g => if g = maTarget then x else e.1 g) g, e.2), ()) : R5 Unit) = _
    rw [z]
  · rw [if_neg h]
    have z : (fun g => if g = maTarget then x else e.1 g) = (fun g => if g = 713 ∧ x = -1 then 1 else if g = 708 then x else e.1 g) := by
      funext g
      exact (if_neg (fun q => h q.2)).symm
    rw [z]
theorem pq_6 {j b pc p1 z : Nat} (H : TR5 T X Bk N Z) (hE : T.2.1 (N - 1) = 142) (F : FN6 T Bk N nv na f s e σ) (M : MB6 nv w s d e σ) (d0 : 0 < d) (hw : (w : Int) = nv + (e.1 511).toInt) (hj : j < s) (hp : pq6 T Bk nv na e (σ.2.2.1 39) (e.2.1 506 (11 * j + 1)) (e.2.1 506 (11 * j + 2)) b pc p1 z) (zN : z < N) (bN : b < N) (hpc : e.1 706 = Int32.ofNat pc) (hfa : e.1 713 = 0) (hst : e.2.2 705 = 256) (ho : ok6 σ) (h13 : σ.1 13 = 0) (hsx : sx5 σ = X) : ∃ e' σ', f5_Ma_aim (Int32.ofNat j) e = .inl (e', ()) ∧ g5_findPlace_27 (Int32.ofNat (Bk + b)) σ = σ' ∧ AM6 nv w d p1 e e' σ σ' := by
  have hh := H.1
  have s150 := F.1.2.2.2.1.2
  have est := F.1.2.2.2.1.1
  rcases hp with ⟨h1, h2, _, _⟩ | ⟨h1, ⟨k, k1, k2, k3⟩, _, a1, hx, a1z⟩
  · obtain ⟨e', i, t1, t2, t3, t4, t5, t6⟩ := amn_6 (Bk := Bk) (t := b) est hj s150 M (by omega) h1
    refine ⟨e', _, t1, t5, ⟨fun g _ q _ => t3 g q, fun _ _ _ => by rw [t4], by rw [t4]⟩, FA_s6, Or.inl ⟨i, t2, ?_, by rw [t3 706 (by decide), h2]; exact hpc, (t3 713 (by decide)).trans hfa, ?_, ?_⟩⟩
    · exact t6
    · rw [si1, if_neg (by decide)]; exact ho.2.2
    · rw [si1, if_neg (by decide)]; exact h13
  · have na3 := F.1.2.1.2
    have c1 : cl5 (Int32.ofNat j) 1 e = e.2.1 506 (11 * j + 1) := cl_55 (s := j) (c := 1) est (by omega) (by omega) (by decide)
    have c2 : cl5 (Int32.ofNat j) 2 e = e.2.1 506 (11 * j + 2) := cl_55 (s := j) (c := 2) est (by omega) (by omega) (by decide)
    obtain ⟨σ1, hσ⟩ : ∃ σ1 : rS, siU σ 67 (σ.2.2.1 39 (Bk + b)) = σ1 := ⟨_, rfl⟩
    have f1 : FA6 σ σ1 := by rw [← hσ]; exact FA_s6
    have s67 : σ1.1 67 = 200 + Int32.ofNat k := by rw [← hσ, si1, if_pos rfl, k3, (s200_6 (k := k) (by omega)).2.2]
    have l200 : (200 : Int32).toInt = 200 := rfl
    have n200 : ¬ σ1.1 67 < 200 := by
      rw [s67, (s200_6 (k := k) (by omega)).2.2, lti, l200, ofn_i (by omega)]
      omega
    have F1 : FM6 e e σ σ1 := FM_a6 ⟨fun _ _ _ _ => rfl, fun _ _ _ => rfl, rfl⟩ f1
    have FN1 := FN_m6 F F1
    have M1 := MB_a6 M (e' := e) ⟨fun _ _ _ _ => rfl, fun _ _ _ => rfl, rfl⟩ f1
    have g1 : ∀ g, g ≠ 10 → g ≠ 13 → g ≠ 47 → g ≠ 48 → g ≠ 49 → g ≠ 67 → σ1.1 g = σ.1 g := f1.1
    have ok1 : ok6 σ1 := by
      rw [← hσ]
      refine ⟨?_, ?_, ?_⟩
      · rw [si1, if_neg (by decide)]; exact ho.1
      · rw [si1, if_neg (by decide)]; exact ho.2.1
      · rw [si1, if_neg (by decide)]; exact ho.2.2
    have t1 : σ1.1 13 = 0 := by rw [← hσ, si1, if_neg (by decide)]; exact h13
    have xw := xw_6 H hE FN1 M1 d0 hw (xe_n6 hx F1) (by omega) hpc hst ok1 t1 (sx_a6 f1 hsx)
    have on2 : Int32.ofNat (Bk + b) + 2 = Int32.ofNat (Bk + (b + 2)) := on_5 (b := 2) (by omega)
    have eR : g5_findPlace_27 (Int32.ofNat (Bk + b)) σ = pm5 (g5_workAt (Int32.ofNat (Bk + (b + 2))) σ1) (fun σ2 r3 => pb5 (g5_cellOf (σ1.1 67) r3 σ2) (fun r5 => if σ2.1 47 ≤ 0 then (if r5 = -1 then g5_findPlace_89 r5 1 σ2 else g5_findPlace_89 r5 0 σ2) else g5_findPlace_89 r5 (σ2.1 47) σ2)) := by
      unfold g5_findPlace_27
      rw [pb_e5, cl_5 (by omega), hσ, if_neg n200, on2]
    have eC : f5_Ma_aim (Int32.ofNat j) e = rdB5 (f5_Ma_work e) (fun e8 r9 => if e8.1 maFailure = 0 then rdB5 (f5_Ma_cellAt (Int32.ofNat k) r9 e8) (fun e13 r14 => f5_Ma_aim_61 r14 e13) else f5_Ma_aim_61 0 e8) := by
      unfold f5_Ma_aim
      rw [pb_e5, pb_e5, c1, c2, if_pos h1, k2]
    have F89 : ∀ (r s0 : Int32) (τ : rS), g5_findPlace_89 r s0 τ = siU (siU τ 47 s0) 67 (400 + r) := fun r s0 τ => rfl
    have FA9 : ∀ (r s0 : Int32) (τ : rS), FA6 τ (siU (siU τ 47 s0) 67 (400 + r)) := fun r s0 τ => ⟨fun g _ _ q _ _ q2 => by rw [si1, if_neg q2, si1, if_neg q], rfl, fun _ _ _ _ => rfl, rfl⟩
    have WA9 : ∀ (r : Int32) (e8 : E5), WA6 e8 (fun g => if g = 713 ∧ r = -1 then 1 else if g = 708 then r else e8.1 g, e8.2) := fun r e8 => ⟨fun g _ q1 q2 => by
      show (if g = 713 ∧ r = -1 then 1 else if g = 708 then r else e8.1 g) = _
      rw [if_neg (fun y => q2 y.1), if_neg q1], fun _ _ _ => rfl, rfl⟩
    rcases xw with ⟨e8, σ2, v, w1, w2, w3, w4, w5, w6, w7, w8, w9⟩ | ⟨e8, σ2, v, x, w1, w2, w3, w4, w5, w6, w7⟩
    · have f8 : e8.1 maFailure = 0 := w4.trans hfa
      have FN2 := FN_m6 FN1 (FM_a6 (WA_w6 w5) (FA_f6 w9))
      have M2 := MB_a6 M1 (WA_w6 w5) (FA_f6 w9)
      have hw2 : (w : Int) = nv + (e8.1 511).toInt := by rw [w5.1 511 (by decide) (by decide)]; exact hw
      obtain ⟨y1, y2⟩ := cel_6 (i := v) FN2 M2 hw2 k1
      have l0 : σ2.1 47 ≤ 0 := by rw [w7]; decide
      rw [eR, eC, w1, w2, pm_e5, rdl_5, if_pos f8, ce_6, rdl_5, a61_6, pb_e5, s67, y1, if_pos l0]
      have kc : ca6 (Int32.ofNat k) v e8 = -1 ∨ ∃ i, i < w ∧ ca6 (Int32.ofNat k) v e8 = Int32.ofNat i := by
        obtain ⟨g1', g2', x', y', g3', g4', g5'⟩ := FN2.2.2.2.2.2.2.2.1.2.1 k k1
        have nv10 := FN2.1.1.2
        have mw := M2.1.2
        have e9 : e8.1 coVars = Int32.ofNat nv := FN2.1.1.1
        have lk := ofn_i (n := k) (by omega)
        have l3 : (3 : Int32).toInt = 3 := rfl
        have ck : (Int32.ofNat k).toNatClampNeg = k := cl_5 (by omega)
        have h501 : e8.2.1 coArrayBases k = Int32.ofNat x' := g1'.trans g3'
        have h502 : e8.2.1 coArraySizes k = Int32.ofNat y' := g2'.trans g4'
        have ly := ofn_i (n := y') (by omega)
        unfold ca6
        rw [ck, h501, h502, e9, if_neg (show ¬ Int32.ofNat k < 0 by rw [lti, lk, t0i]; omega), if_neg (show ¬ (3 : Int32) ≤ Int32.ofNat k by rw [lei, l3, lk]; omega)]
        by_cases i0 : v < 0
        · rw [if_pos i0]; exact Or.inl rfl
        · rw [if_neg i0]
          rw [lti, t0i] at i0
          by_cases i1 : Int32.ofNat y' ≤ v
          · rw [if_pos i1]; exact Or.inl rfl
          · rw [if_neg i1]
            rw [lei, ly] at i1
            have ei : v = Int32.ofNat v.toInt.toNat := Int32.toInt_inj.mp (by rw [ofn_i (by omega)]; omega)
            refine Or.inr ⟨nv + x' + v.toInt.toNat, by omega, ?_⟩
            rw [on_5 (by omega)]
            conv => lhs; rw [ei]
            rw [on_5 (by omega)]
      by_cases q : ca6 (Int32.ofNat k) v e8 = -1
      · rw [if_pos q, F89]
        exact ⟨_, _, rfl, rfl, WA_t6 (WA_w6 w5) (WA9 _ _), FA_t6 f1 (FA_t6 (FA_f6 w9) (FA9 _ _ _)), Or.inr ⟨1, Or.inl rfl, if_pos ⟨rfl, q⟩, rfl⟩⟩
      · rw [if_neg q, F89]
        obtain ⟨i, i1, i2⟩ := kc.resolve_left q
        have mw := M.1.2
        refine ⟨_, _, rfl, rfl, WA_t6 (WA_w6 w5) (WA9 _ _), FA_t6 f1 (FA_t6 (FA_f6 w9) (FA9 _ _ _)), Or.inl ⟨i, ?_, Or.inl ⟨i1, ?_⟩, ?_, ?_, rfl, ?_⟩⟩
        · show (if 708 = 713 ∧ ca6 (Int32.ofNat k) v e8 = -1 then 1 else if 708 = 708 then ca6 (Int32.ofNat k) v e8 else e8.1 708) = _
          rw [if_neg (fun y => absurd y.1 (by decide)), if_pos rfl]; exact i2
        · show (400 : Int32) + ca6 (Int32.ofNat k) v e8 = _
          rw [i2]
          exact on_5 (a := 400) (by omega)
        · show (if 706 = 713 ∧ ca6 (Int32.ofNat k) v e8 = -1 then 1 else if 706 = 708 then ca6 (Int32.ofNat k) v e8 else e8.1 706) = _
          rw [if_neg (fun y => absurd y.1 (by decide)), if_neg (by decide)]; exact w3
        · show (if 713 = 713 ∧ ca6 (Int32.ofNat k) v e8 = -1 then 1 else if 713 = 708 then ca6 (Int32.ofNat k) v e8 else e8.1 713) = _
          rw [if_neg (fun y => q y.2), if_neg (by decide)]; exact f8
        · exact w8
    · have nf : ¬ e8.1 maFailure = 0 := fun y => by
        have y : e8.1 713 = 0 := y
        rw [w4] at y
        rcases w3 with q | q <;> rw [q] at y <;> exact absurd y (by decide)
      have nl : ¬ σ2.1 47 ≤ 0 := by
        rw [w5]
        rcases w3 with q | q <;> rw [q] <;> decide
      rw [eR, eC, w1, w2, pm_e5, rdl_5, if_neg nf, a61_6, pb_e5, if_neg nl, F89]
      refine ⟨_, _, rfl, rfl, WA_t6 (WA_w6 w6) (WA9 _ _), FA_t6 f1 (FA_t6 (FA_f6 w7) (FA9 _ _ _)), Or.inr ⟨x, w3, ?_, w5⟩⟩
      show (if 713 = 713 ∧ (0 : Int32) = -1 then 1 else if 713 = 708 then (0 : Int32) else e8.1 713) = _
      rw [if_neg (fun y => absurd y.2 (by decide)), if_neg (by decide)]; exact w4
end

end
section
set_option maxHeartbeats 1600000
/-! both machines: a statement begun -/
theorem rb_c6 {α β : Type} {m : R5 α} {k k' : E5 → α → R5 β} (h : ∀ e a, k e a = k' e a) : rdB5 m k = rdB5 m k' := by
  rcases m with ⟨e, a⟩ | x
  · exact h e a
  · rfl
/-- the first number worked out -/
def wo6 (v : Int32) (e : E5) : E5 := (e.1, fun g j => if g = 707 ∧ j = 0 then v else e.2.1 g j, e.2.2)
theorem WA_o6 {v : Int32} {e : E5} : WA6 e (wo6 v e) := ⟨fun _ _ _ _ => rfl, fun g _ q => by funext j; exact if_neg (fun y => q y.1), rfl⟩
theorem a55_6 {m : Nat} {a1 : Int32} {e : E5} (hl : e.2.2 707 = 16) (hf : e.1 713 = 0) : f5_Ma_act_55 (m + 2) a1 1 0 e = rdB5 (f5_Ma_work e) (fun e1 v => f5_Ma_act_92 a1 (wo6 v e1)) := by
  have hl : e.2.2 maWorked = 16 := hl
  have hf : e.1 maFailure = 0 := hf
  rw [f5_Ma_act_55, if_neg (show ¬ (1 : Int32) ≤ 0 by decide), hl, if_neg (show ¬ Int32.ofNat 16 ≤ 0 by decide), if_pos hf]
  refine rb_c6 (fun e1 v => ?_)
  have z : sa5 maWorked (0 : Int32).toNatClampNeg v e1 = .inl (wo6 v e1, ()) := rfl
  rw [z, rdl_5, pb_e5, show (0 : Int32) + 1 = 1 from rfl, f5_Ma_act_55, if_pos (show (1 : Int32) ≤ 1 by decide)]
/-- the records at a statement's beginning -/
def ab6 (p : Int32) (e : E5) : E5 := (fun g => if g = 706 then p else if g = 713 then 0 else if g = 714 then 0 else if g = 715 then -1 else e.1 g, e.2)
def ar6b (σ : rS) : rS := siU (siU (siU (siU (siU σ 11 0) 13 0) 47 0) 46 1) 62 0
section
variable {T : T5} {X : X5} {Bk N nv na f s w d : Nat} {Z : Int32} {e e' : E5} {σ σ' : rS}
theorem ab_o6 {p : Int32} {g : Nat} (h1 : g ≠ 706) (h2 : g ≠ 713) (h3 : g ≠ 714) (h4 : g ≠ 715) : (ab6 p e).1 g = e.1 g := by
  show (if g = 706 then p else if g = 713 then 0 else if g = 714 then 0 else if g = 715 then -1 else e.1 g) = _
  rw [if_neg h1, if_neg h2, if_neg h3, if_neg h4]
theorem ar_o6 {g : Nat} (h1 : g ≠ 11) (h2 : g ≠ 13) (h3 : g ≠ 47) (h4 : g ≠ 46) (h5 : g ≠ 62) : (ar6b σ).1 g = σ.1 g := by
  unfold ar6b
  rw [si1, if_neg h5, si1, if_neg h4, si1, if_neg h3, si1, if_neg h2, si1, if_neg h1]
theorem FM_b6 {p : Int32} (h11 : σ.1 11 = 0) : FM6 e (ab6 p e) σ (ar6b σ) := by
  refine ⟨⟨fun g q => ab_o6 (by omega) (by omega) (by omega) (by omega), fun _ _ => rfl, rfl⟩, fun g q => ?_, fun _ _ => rfl, rfl⟩
  by_cases y : g = 11
  · rw [y, h11]; rfl
  · exact ar_o6 y (by omega) (by omega) (by omega) (by omega)
theorem MB_b6 {p : Int32} (M : MB6 nv w s d e σ) : MB6 nv w s d (ab6 p e) (ar6b σ) := by
  obtain ⟨⟨m1, m2, m3⟩, ⟨m4, m5, m6, m7, m8⟩, m9, m10, m11⟩ := M
  exact ⟨⟨(ab_o6 (by decide) (by decide) (by decide) (by decide)).trans m1, m2, m3⟩, ⟨(ab_o6 (by decide) (by decide) (by decide) (by decide)).trans m4, (ar_o6 (by decide) (by decide) (by decide) (by decide) (by decide)).trans m5, m6, (ab_o6 (by decide) (by decide) (by decide) (by decide)).trans m7, m8⟩, m9, m10, m11⟩
/-- the class's beginning -/
theorem acC_6 {j : Nat} {p : Int32} (F : FN6 T Bk N nv na f s e σ) (M : MB6 nv w s d e σ) (hj : j < s) (ha : e.2.1 701 (w + 9 * (d - 1)) = Int32.ofNat j) (hp : e.2.1 506 (11 * j + 3) = p) : f5_Ma_act e = rdB5 (f5_Ma_aim (Int32.ofNat j) (ab6 p e)) (fun e13 _ => pb5 (cl5 (Int32.ofNat j) 4 e13) (fun r19 => f5_Ma_act_55 fu5 (Int32.ofNat j) r19 0 e13)) := by
  have s150 := F.1.2.2.2.1.2
  have est := F.1.2.2.2.1.1
  have mw := M.1.2
  have d12 := M.2.1.2.2.1
  have cf : (e.1 maFrame).toNatClampNeg = w + 9 * (d - 1) := cln_6 M.2.1.2.2.2.1 (by omega)
  have vj : e.2.1 maMemory (w + 9 * (d - 1)) = Int32.ofNat j := ha
  unfold f5_Ma_act
  rw [pb_e5, cf, vj]
  unfold stI5
  rw [rdl_5, rdl_5, rdl_5, pb_e5, rdl_5]
  have c3 : cl5 (Int32.ofNat j) 3 (fun g => if g = maFailure then 0 else (fun g => if g = maGained then 0 else (fun g => if g = maWants then -1 else e.1 g) g) g, e.2) = p := (cl_55 (s := j) (c := 3) (e := (fun g => if g = maFailure then 0 else (fun g => if g = maGained then 0 else (fun g => if g = maWants then -1 else e.1 g) g) g, e.2)) est (by omega) (by omega) (by decide)).trans hp
  rw [c3]
  rfl
/-- the reference's -/
theorem acR_6 {j : Nat} (M : MB6 nv w s d e σ) (d0 : 0 < d) (hj : j ≤ 1000) (ha : σ.2.2.1 59 (d - 1) = Int32.ofNat j) : g5_act σ = if σ.2.2.1 30 j = 5 then pm5 (g5_call (Int32.ofNat j) (ar6b σ)) (fun σ12 r13 => (σ12, r13)) else if 4 < σ.2.2.1 30 j then g5_act_81 (Int32.ofNat j) (σ.2.2.1 30 j) (ar6b σ) else pb5 (g5_findPlace (Int32.ofNat j) (ar6b σ)) (fun σ8 => if σ8.1 47 ≤ 0 then g5_act_81 (Int32.ofNat j) (σ.2.2.1 30 j) σ8 else pm5 (g5_fail (σ8.1 47) σ8) (fun σ10 r11 => (σ10, r11))) := by
  have d12 := M.2.1.2.2.1
  have c58 : (σ.1 58 - 1).toNatClampNeg = d - 1 := by rw [of_s5 (b := d - 1) (by rw [M.2.1.2.1]; congr 1; omega) (by omega), cl_5 (by omega)]
  have cj : (Int32.ofNat j).toNatClampNeg = j := cl_5 (by omega)
  unfold g5_act
  rw [pb_e5, pb_e5, pb_e5, pb_e5, pb_e5, pb_e5, pb_e5, c58, ha, cj]
  rfl
end

end
section
set_option maxHeartbeats 1600000
/-! both machines: statements with one expression and no place -/
/-- a record with a number stored in a field -/
def fl6 (k : Nat) (x : Int32) (e : E5) : E5 := (fun g => if g = k then x else e.1 g, e.2)
theorem fl_o6 {k g : Nat} {x : Int32} {e : E5} (h : g ≠ k) : (fl6 k x e).1 g = e.1 g := if_neg h
theorem fl_s6 {k : Nat} {x : Int32} {e : E5} : (fl6 k x e).1 k = x := if_pos rfl
theorem st_f6 {k : Nat} {x : Int32} {e : E5} : stI5 k x e = .inl (fl6 k x e, ()) := rfl
section
variable {T : T5} {X : X5} {Bk N nv na f s w d : Nat} {Z : Int32} {e e' : E5} {σ σ' : rS}
theorem FM_k6 {k : Nat} {x : Int32} (h : 703 ≤ k) : FM6 e (fl6 k x e) σ σ := ⟨⟨fun g q => fl_o6 (by omega), fun _ _ => rfl, rfl⟩, fun _ _ => rfl, fun _ _ => rfl, rfl⟩
theorem MB_k6 {k : Nat} {x : Int32} (h : k ≠ 702 ∧ k ≠ 703 ∧ k ≠ 704) (M : MB6 nv w s d e σ) : MB6 nv w s d (fl6 k x e) σ := by
  obtain ⟨⟨m1, m2, m3⟩, ⟨m4, m5, m6, m7, m8⟩, m9, m10, m11⟩ := M
  exact ⟨⟨(fl_o6 (Ne.symm h.1)).trans m1, m2, m3⟩, ⟨(fl_o6 (Ne.symm h.2.1)).trans m4, m5, m6, (fl_o6 (Ne.symm h.2.2)).trans m7, m8⟩, m9, m10, m11⟩
/-- behind the obeying -/
def tal6 (e12 : E5) : R5 Unit := if e12.1 maWants = -1 then (if e12.1 maOutcome = 0 then rdB5 (f5_Ma_proceed e12) (fun e17 _ => .inl (e17, ())) else .inl (e12, ())) else .inl (e12, ())
theorem a92_6 {j : Nat} (F : FN6 T Bk N nv na f s e σ) (hj : j < s) (hf : e.1 713 = 0) : f5_Ma_act_92 (Int32.ofNat j) e = rdB5 (f5_Ma_obey (Int32.ofNat j) (e.2.1 506 (11 * j)) (fl6 710 0 (fl6 709 (σ.2.2.1 37 j) e))) (fun e12 _ => tal6 e12) := by
  have s150 := F.1.2.2.2.1.2
  have est : e.1 coStatements = Int32.ofNat s := F.1.2.2.2.1.1
  have hf : e.1 maFailure = 0 := hf
  have c8 : cl5 (Int32.ofNat j) 8 e = σ.2.2.1 37 j := (cl_55 (s := j) (c := 8) est (by omega) (by omega) (by decide)).trans (F.2.2.2.1 j hj).2.2.1.1
  have c0 : cl5 (Int32.ofNat j) 0 (fl6 710 0 (fl6 709 (σ.2.2.1 37 j) e)) = e.2.1 506 (11 * j) := cl_55 (s := j) (c := 0) (e := fl6 710 0 (fl6 709 (σ.2.2.1 37 j) e)) est (by omega) (by omega) (by decide)
  unfold f5_Ma_act_92
  rw [if_pos hf, pb_e5, c8, st_f6, rdl_5, st_f6, rdl_5, pb_e5, show maAnswer = 710 from rfl, show maGoing = 709 from rfl, c0]
  rfl
/-- the latest call goes on to G -/
theorem tal_6 {G : Int32} (hB : Bk ≤ 65537) (hN : N ≤ 65537) (F : FN6 T Bk N nv na f s e σ) (M : MB6 nv w s d e σ) (d0 : 0 < d) (h709 : e.1 709 = G) (h710 : e.1 710 = 0) (h715 : e.1 715 = -1) (h711 : e.1 711 = 0) (hb : bl6 s G) : ∃ e' σ' r, tal6 e = .inl (e', ()) ∧ pm5 (g5_moveTo G σ) (fun a b => (a, b)) = (σ', r) ∧ EX6 nv w s e e' σ σ' r := by
  obtain ⟨e', σ', r, u1, u2, u3⟩ := mv_6 hB hN F M d0 h709 h710 hb
  have h715 : e.1 maWants = -1 := h715
  have h711 : e.1 maOutcome = 0 := h711
  refine ⟨e', σ', r, ?_, by rw [u2, pm_e5], u3⟩
  unfold tal6
  rw [if_pos h715, if_pos h711, u1, rdl_5]
/-- the latest call returns x -/
theorem tar_6 {x : Int32} (hB : Bk ≤ 65537) (hN : N ≤ 65537) (F : FN6 T Bk N nv na f s e σ) (M : MB6 nv w s d e σ) (d0 : 0 < d) (h709 : e.1 709 = -1) (h710 : e.1 710 = x) (h715 : e.1 715 = -1) (h711 : e.1 711 = 0) : ∃ e' σ' r, tal6 e = .inl (e', ()) ∧ pm5 (g5_leave x σ) (fun a b => (a, b)) = (σ', r) ∧ EX6 nv w s e e' σ σ' r := by
  have d12 := M.2.1.2.2.1
  obtain ⟨e', σ', r, u1, u2, u3⟩ := lv_6 hB hN d fu5 fu5 0 x e σ F M d0 h709 h710 (by omega) (by unfold fu5; omega) (by unfold fu5; omega)
  have h715 : e.1 maWants = -1 := h715
  have h711 : e.1 maOutcome = 0 := h711
  refine ⟨e', σ', r, ?_, ?_, u3⟩
  · unfold tal6
    have u1 : f5_Ma_proceed_2 fu5 0 e = .inl (e', ()) := u1
    rw [if_pos h715, if_pos h711, f5_Ma_proceed, u1, rdl_5]
  · unfold g5_leave
    rw [u2, pm_e5]
/-- where an if and a while go -/
theorem oif_6 {j : Nat} {v : Int32} (F : FN6 T Bk N nv na f s e σ) (hj : j < s) (hv : e.2.1 707 0 = v) (h709 : e.1 709 = σ.2.2.1 37 j) : ∃ G, f5_Ma_obey (Int32.ofNat j) 6 e = .inl (fl6 709 G e, ()) ∧ bl6 s G ∧ G = if v = 0 then (if σ.2.2.1 34 j = -1 then σ.2.2.1 37 j else σ.2.2.1 34 j) else (if σ.2.2.1 33 j = -1 then σ.2.2.1 37 j else σ.2.2.1 33 j) := by
  have s150 := F.1.2.2.2.1.2
  have est : e.1 coStatements = Int32.ofNat s := F.1.2.2.2.1.1
  obtain ⟨l1, l2, l3, _⟩ := F.2.2.2.1 j hj
  have c6 : cl5 (Int32.ofNat j) 6 e = σ.2.2.1 33 j := (cl_55 (s := j) (c := 6) est (by omega) (by omega) (by decide)).trans l1.1
  have c7 : cl5 (Int32.ofNat j) 7 e = σ.2.2.1 34 j := (cl_55 (s := j) (c := 7) est (by omega) (by omega) (by decide)).trans l2.1
  have hv : e.2.1 maWorked (0 : Int32).toNatClampNeg = v := hv
  have hg : e.1 maGoing = σ.2.2.1 37 j := h709
  have ob : ∀ q r : Int32, cl5 (Int32.ofNat j) q e = r → bl6 s r → f5_Ma_obey_134 (Int32.ofNat j) q e = .inl (fl6 709 (if r = -1 then σ.2.2.1 37 j else r) e, ()) ∧ bl6 s (if r = -1 then σ.2.2.1 37 j else r) := fun q r h b => by
    unfold f5_Ma_obey_134
    rw [pb_e5, h]
    by_cases y : r = -1
    · rw [if_pos y, if_pos y, st_f6, rdl_5, hg]
      exact ⟨rfl, l3.2⟩
    · rw [if_neg y, if_neg y, st_f6, rdl_5]
      exact ⟨rfl, b⟩
  unfold f5_Ma_obey
  rw [pb_e5, hv, if_neg (by decide), if_neg (by decide), if_neg (by decide), if_neg (by decide), if_neg (by decide), if_neg (by decide), if_pos (show (6 : Int32).toInt = 6 from rfl)]
  by_cases y : v = 0
  · rw [if_pos y, if_pos y]
    exact ⟨_, (ob 7 _ c7 l2.2).1, (ob 7 _ c7 l2.2).2, rfl⟩
  · rw [if_neg y, if_neg y]
    exact ⟨_, (ob 6 _ c6 l1.2).1, (ob 6 _ c6 l1.2).2, rfl⟩
theorem owh_6 {j : Nat} {v : Int32} (F : FN6 T Bk N nv na f s e σ) (hj : j < s) (hv : e.2.1 707 0 = v) (h709 : e.1 709 = σ.2.2.1 37 j) : ∃ G, f5_Ma_obey (Int32.ofNat j) 7 e = .inl (fl6 709 G e, ()) ∧ bl6 s G ∧ G = if v = 0 then σ.2.2.1 37 j else (if σ.2.2.1 33 j = -1 then Int32.ofNat j else σ.2.2.1 33 j) := by
  have s150 := F.1.2.2.2.1.2
  have est : e.1 coStatements = Int32.ofNat s := F.1.2.2.2.1.1
  obtain ⟨l1, l2, l3, _⟩ := F.2.2.2.1 j hj
  have c6 : cl5 (Int32.ofNat j) 6 e = σ.2.2.1 33 j := (cl_55 (s := j) (c := 6) est (by omega) (by omega) (by decide)).trans l1.1
  have hv : e.2.1 maWorked (0 : Int32).toNatClampNeg = v := hv
  have hg : e.1 maGoing = σ.2.2.1 37 j := h709
  unfold f5_Ma_obey
  rw [pb_e5, hv, if_neg (by decide), if_neg (by decide), if_neg (by decide), if_neg (by decide), if_neg (by decide), if_neg (by decide), if_neg (by decide), if_pos (show (7 : Int32).toInt = 7 from rfl), pb_e5, c6]
  by_cases y : v = 0
  · rw [if_pos y, if_pos y, st_f6, rdl_5, hg]
    exact ⟨_, rfl, l3.2, rfl⟩
  · rw [if_neg y, if_neg y]
    by_cases q : σ.2.2.1 33 j = -1
    · rw [if_pos q, if_pos q, st_f6, rdl_5]
      exact ⟨_, rfl, Or.inr ⟨j, hj, rfl⟩, rfl⟩
    · rw [if_neg q, if_neg q, st_f6, rdl_5]
      exact ⟨_, rfl, l1.2, rfl⟩
end

end
section
set_option maxHeartbeats 1600000
/-! both machines: if, while, return, observe, gain -/
theorem n1_6 {y : Int32} (h : y = 1 ∨ y = 2) : y ≠ -1 := by
  rcases h with q | q <;> rw [q] <;> decide
/-- what stays of the memory -/
def ME6 (e e' : E5) (σ σ' : rS) : Prop := (e'.1 702 = e.1 702 ∧ e'.1 703 = e.1 703 ∧ e'.1 704 = e.1 704 ∧ e'.2.1 701 = e.2.1 701 ∧ e'.2.2 = e.2.2) ∧ σ'.1 58 = σ.1 58 ∧ ∀ g, g = 57 ∨ g = 59 ∨ g = 60 ∨ g = 30 → σ'.2.2.1 g = σ.2.2.1 g
theorem ME_t6 {e e' e'' : E5} {σ σ' σ'' : rS} (h : ME6 e e' σ σ') (k : ME6 e' e'' σ' σ'') : ME6 e e'' σ σ'' := ⟨⟨k.1.1.trans h.1.1, k.1.2.1.trans h.1.2.1, k.1.2.2.1.trans h.1.2.2.1, k.1.2.2.2.1.trans h.1.2.2.2.1, k.1.2.2.2.2.trans h.1.2.2.2.2⟩, k.2.1.trans h.2.1, fun g q => (k.2.2 g q).trans (h.2.2 g q)⟩
theorem ME_k6 {k : Nat} {x : Int32} {e : E5} {σ : rS} (h : 705 ≤ k) : ME6 e (fl6 k x e) σ σ := ⟨⟨fl_o6 (by omega), fl_o6 (by omega), fl_o6 (by omega), rfl, rfl⟩, rfl, fun _ _ => rfl⟩
theorem ME_a6 {e e' : E5} {σ σ' : rS} (h : WA6 e e') (k : FA6 σ σ') : ME6 e e' σ σ' := ⟨⟨h.1 702 (by decide) (by decide) (by decide), h.1 703 (by decide) (by decide) (by decide), h.1 704 (by decide) (by decide) (by decide), h.2.1 701 (by decide) (by decide), h.2.2⟩, k.1 58 (by decide) (by decide) (by decide) (by decide) (by decide) (by decide), fun g q => k.2.2.1 g (by omega) (by omega) (by omega)⟩
theorem ME_b6 {p : Int32} {e : E5} {σ : rS} : ME6 e (ab6 p e) σ (ar6b σ) := ⟨⟨ab_o6 (by decide) (by decide) (by decide) (by decide), ab_o6 (by decide) (by decide) (by decide) (by decide), ab_o6 (by decide) (by decide) (by decide) (by decide), rfl, rfl⟩, ar_o6 (by decide) (by decide) (by decide) (by decide) (by decide), fun _ _ => rfl⟩
theorem ME_s6 {g : Nat} {x : Int32} {e : E5} {σ : rS} (h : g ≠ 58) : ME6 e e σ (siU σ g x) := ⟨⟨rfl, rfl, rfl, rfl, rfl⟩, by rw [si1, if_neg (Ne.symm h)], fun _ _ => rfl⟩
/-- the memory of both sides, the latest call at a statement -/
def MT6 (nv w s d : Nat) (e : E5) (σ : rS) : Prop := MB6 nv w s d e σ ∧ AT6 w s d e σ
theorem MT_e6 {nv w s d : Nat} {e e' : E5} {σ σ' : rS} (M : MT6 nv w s d e σ) (h : ME6 e e' σ σ') : MT6 nv w s d e' σ' := by
  obtain ⟨⟨⟨m1, m2, m3⟩, ⟨m4, m5, m6, m7, m8⟩, m9, m10, m11⟩, j, a1, a2, a3⟩ := M
  obtain ⟨⟨h1, h2, h3, h4, h5⟩, k1, k2⟩ := h
  have q57 := k2 57 (by omega)
  have q59 := k2 59 (by omega)
  have q60 := k2 60 (by omega)
  have q30 := k2 30 (by omega)
  refine ⟨⟨⟨h1.trans m1, m2, m3.1, zt_o6 q57 m3.2⟩, ⟨h2.trans m4, k1.trans m5, m6, h3.trans m7, by rw [h5]; exact m8⟩, ?_, ?_, ?_⟩, j, a1, by rw [h4]; exact a2, by rw [q59]; exact a3⟩
  · rw [h4, q57]; exact m9
  · rw [h4, q59, q30]; exact m10
  · rw [h4, q60]; exact m11
def AE6 (nv w s : Nat) (e' : E5) (σ' : rS) (r : Int32) : Prop := (r = 0 ∧ e'.1 711 = 0 ∧ e'.1 714 = σ'.1 62 ∧ ∃ d, 0 < d ∧ MB6 nv w s d e' σ' ∧ AT6 w s d e' σ') ∨ (r = 1 ∧ e'.1 711 = 1 ∧ e'.1 714 = σ'.1 62 ∧ e'.1 712 = σ'.1 61 ∧ (∀ i, i < w → e'.2.1 701 i = σ'.2.2.1 57 i) ∧ zt6 w σ') ∨ (r = 2 ∧ e'.1 711 = 2 ∧ e'.1 713 = σ'.1 61 ∧ e'.1 714 = 0 ∧ e'.1 713 ≠ -1 ∧ ∃ d, MT6 nv w s d e' σ') ∨ (r = 3 ∧ e'.1 711 = 3 ∧ e'.1 714 = σ'.1 62 ∧ ∃ d, MT6 nv w s d e' σ')
section
variable {T : T5} {X : X5} {Bk N nv na f s w d : Nat} {Z : Int32} {e e' e'' : E5} {σ σ' σ'' : rS}
theorem AE_x6 {r : Int32} (h : EX6 nv w s e' e'' σ' σ'' r) (h711 : e'.1 711 = 0) (hg : e'.1 714 = σ'.1 62) : AE6 nv w s e'' σ'' r ∧ e''.1 715 = e'.1 715 := by
  obtain ⟨_, h2, ⟨h3, _⟩, h4, _⟩ := h
  have g : e''.1 714 = σ''.1 62 := (h3 714 (Or.inr (by decide))).trans (hg.trans (h4 62 (by decide) (by decide)).symm)
  refine ⟨?_, h3 715 (Or.inr (by decide))⟩
  rcases h2 with ⟨q1, q2, q3⟩ | ⟨q1, q2, q3, q4⟩
  · exact Or.inl ⟨q1, q2.trans h711, g, q3⟩
  · exact Or.inr (Or.inl ⟨q1, q2, g, q3, q4⟩)
theorem ac1_6 {j b x pc p' a' z : Nat} (H : TR5 T X Bk N Z) (hE : T.2.1 (N - 1) = 142) (F : FN6 T Bk N nv na f s e σ) (M : MB6 nv w s d e σ) (d0 : 0 < d) (hw : (w : Int) = nv + (e.1 511).toInt) (hj : j < s) (at1 : e.2.1 701 (w + 9 * (d - 1)) = Int32.ofNat j) (at2 : σ.2.2.1 59 (d - 1) = Int32.ofNat j) (h711 : e.1 711 = 0) (hst : e.2.2 705 = 256) (hwk : e.2.2 707 = 16) (hsx : sx5 σ = X)
    (h32 : σ.2.2.1 32 j = Int32.ofNat (Bk + x)) (h3 : e.2.1 506 (11 * j + 3) = Int32.ofNat pc) (hk : σ.2.2.1 30 j = 6 ∨ σ.2.2.1 30 j = 7 ∨ σ.2.2.1 30 j = 8 ∨ σ.2.2.1 30 j = 9 ∨ σ.2.2.1 30 j = 10) (h0 : e.2.1 506 (11 * j) = σ.2.2.1 30 j) (h4 : e.2.1 506 (11 * j + 4) = 1) (h1 : e.2.1 506 (11 * j + 1) = 0) (hx : xe6 T Bk nv na e (σ.2.2.1 39) pc x p' a') (aN : a' < N) : ∃ e' σ' r, f5_Ma_act e = .inl (e', ()) ∧ g5_act σ = (σ', r) ∧ FM6 e e' σ σ' ∧ e'.1 715 = -1 ∧ AE6 nv w s e' σ' r := by
  have MT0 : MT6 nv w s d e σ := ⟨M, j, hj, at1, at2⟩
  have hh := H.1
  have s150 := F.1.2.2.2.1.2
  have xa := hx.2.2
  have cj : (Int32.ofNat j).toNatClampNeg = j := cl_5 (by omega)
  have F1 : FM6 e (ab6 (Int32.ofNat pc) e) σ (ar6b σ) := FM_b6 F.2.1.1
  have ME1 : ME6 e (ab6 (Int32.ofNat pc) e) σ (ar6b σ) := ME_b6
  have M1 : MB6 nv w s d (ab6 (Int32.ofNat pc) e) (ar6b σ) := MB_b6 M
  obtain ⟨e2, he2⟩ : ∃ e2, e2 = fl6 708 (-1) (ab6 (Int32.ofNat pc) e) := ⟨_, rfl⟩
  have F2 : FM6 e e2 σ (ar6b σ) := by rw [he2]; exact FM_t6 F1 (FM_k6 (by decide))
  have ME2 : ME6 e e2 σ (ar6b σ) := by rw [he2]; exact ME_t6 ME1 (ME_k6 (by decide))
  have M2 : MB6 nv w s d e2 (ar6b σ) := by rw [he2]; exact MB_k6 (by decide) M1
  have FN2 := FN_m6 F F2
  have est2 : e2.1 coStatements = Int32.ofNat s := FN2.1.2.2.2.1.1
  have est1 : (ab6 (Int32.ofNat pc) e).1 coStatements = Int32.ofNat s := (FN_m6 F F1).1.2.2.2.1.1
  have r2 : e2.2 = e.2 := by rw [he2]; rfl
  have f706 : e2.1 706 = Int32.ofNat pc := by rw [he2]; rfl
  have f713 : e2.1 713 = 0 := by rw [he2]; rfl
  have f714 : e2.1 714 = 0 := by rw [he2]; rfl
  have f715 : e2.1 715 = -1 := by rw [he2]; rfl
  have f711 : e2.1 711 = 0 := by rw [he2]; exact h711
  have am : f5_Ma_aim (Int32.ofNat j) (ab6 (Int32.ofNat pc) e) = .inl (e2, ()) := by
    have c1 : cl5 (Int32.ofNat j) 1 (ab6 (Int32.ofNat pc) e) = 0 := (cl_55 (s := j) (c := 1) est1 (by omega) (by omega) (by decide)).trans h1
    unfold f5_Ma_aim
    rw [pb_e5, pb_e5, c1, if_neg (show ¬ (0 : Int32) = 3 by decide)]
    unfold f5_Ma_slot
    rw [if_neg (show ¬ (0 : Int32) = 2 by decide), if_neg (show ¬ (0 : Int32) = 1 by decide), rdl_5, st_f6, rdl_5, he2]
  have c4 : cl5 (Int32.ofNat j) 4 e2 = 1 := (cl_55 (s := j) (c := 4) est2 (by omega) (by omega) (by decide)).trans (by rw [r2]; exact h4)
  have a55 : f5_Ma_act_55 fu5 (Int32.ofNat j) 1 0 e2 = rdB5 (f5_Ma_work e2) (fun e1 v => f5_Ma_act_92 (Int32.ofNat j) (wo6 v e1)) := a55_6 (m := fu5 - 2) (by rw [r2]; exact hwk) f713
  have eC : f5_Ma_act e = rdB5 (f5_Ma_work e2) (fun e1 v => f5_Ma_act_92 (Int32.ofNat j) (wo6 v e1)) := by
    rw [acC_6 F M hj at1 h3, am, rdl_5, pb_e5, c4, a55]
  have n5 : ¬ σ.2.2.1 30 j = 5 := by rcases hk with q | q | q | q | q <;> rw [q] <;> decide
  have n4 : 4 < σ.2.2.1 30 j := by rcases hk with q | q | q | q | q <;> rw [q] <;> decide
  have m3 : ¬ σ.2.2.1 30 j = 3 := by rcases hk with q | q | q | q | q <;> rw [q] <;> decide
  have m4 : ¬ σ.2.2.1 30 j = 4 := by rcases hk with q | q | q | q | q <;> rw [q] <;> decide
  have w32 : (ar6b σ).2.2.1 32 (Int32.ofNat j).toNatClampNeg = Int32.ofNat (Bk + x) := by rw [cj]; exact h32
  have eR := acR_6 M d0 (by omega) at2
  rw [if_neg n5, if_pos n4] at eR
  unfold g5_act_81 at eR
  rw [if_neg m3, if_neg m4, w32] at eR
  have ok1 : ok6 (ar6b σ) := ⟨rfl, rfl, rfl⟩
  have s62 : (ar6b σ).1 62 = 0 := rfl
  have hw2 : (w : Int) = nv + (e2.1 511).toInt := by rw [F2.1.1 511 (by decide)]; exact hw
  have xw := xw_6 H hE FN2 M2 d0 hw2 (xe_n6 hx F2) aN f706 (by rw [r2]; exact hst) ok1 rfl hsx
  have t13 : (ar6b σ).1 58 = σ.1 58 := rfl
  generalize ar6b σ = σ1 at F1 ME1 M1 F2 ME2 M2 FN2 eR ok1 s62 xw w32 t13
  rcases xw with ⟨e3, σ3, v, w1, w2, w3, w4, w5, w6, w7, w8, w9⟩ | ⟨e3, σ3, v, y, w1, w2, w3, w4, w5, w6, w7⟩
  · have l0 : σ3.1 47 ≤ 0 := by rw [w7]; decide
    rw [w1, rdl_5] at eC
    rw [w2, pm_e5] at eR
    dsimp only at eR
    rw [if_pos l0, cj] at eR
    have WA4 : WA6 e2 (wo6 v e3) := WA_t6 (WA_w6 w5) WA_o6
    have FM4 : FM6 e2 (wo6 v e3) σ1 σ3 := FM_a6 WA4 (FA_f6 w9)
    have ME4 : ME6 e2 (wo6 v e3) σ1 σ3 := ME_a6 WA4 (FA_f6 w9)
    have FN4 := FN_m6 FN2 FM4
    have M4 := MB_a6 M2 WA4 (FA_f6 w9)
    have v707 : (wo6 v e3).2.1 707 0 = v := by
      show (if 707 = 707 ∧ 0 = 0 then v else e3.2.1 707 0) = v
      rw [if_pos ⟨rfl, rfl⟩]
    have g713 : (wo6 v e3).1 713 = 0 := w4.trans f713
    have g714 : (wo6 v e3).1 714 = 0 := (WA4.1 714 (by decide) (by decide) (by decide)).trans f714
    have g715 : (wo6 v e3).1 715 = -1 := (WA4.1 715 (by decide) (by decide) (by decide)).trans f715
    have g711 : (wo6 v e3).1 711 = 0 := (WA4.1 711 (by decide) (by decide) (by decide)).trans f711
    have k30 : (wo6 v e3).2.1 506 (11 * j) = σ.2.2.1 30 j := by rw [WA4.2.1 506 (by decide) (by decide), r2]; exact h0
    have t62 : σ3.1 62 = 0 := (w9.1 62 (by decide) (by decide) (by decide) (by decide) (by decide)).trans s62
    generalize wo6 v e3 = e4 at eC WA4 FM4 ME4 FN4 M4 v707 g713 g714 g715 g711 k30
    rw [a92_6 FN4 hj g713, k30] at eC
    obtain ⟨e5, he5⟩ : ∃ e5, e5 = fl6 710 0 (fl6 709 (σ3.2.2.1 37 j) e4) := ⟨_, rfl⟩
    have FM5 : FM6 e4 e5 σ3 σ3 := by rw [he5]; exact FM_t6 (FM_k6 (by decide)) (FM_k6 (by decide))
    have ME5 : ME6 e4 e5 σ3 σ3 := by rw [he5]; exact ME_t6 (ME_k6 (by decide)) (ME_k6 (by decide))
    have FN5 := FN_m6 FN4 FM5
    have M5 : MB6 nv w s d e5 σ3 := by rw [he5]; exact MB_k6 (by decide) (MB_k6 (by decide) M4)
    have b709 : e5.1 709 = σ3.2.2.1 37 j := by rw [he5]; rfl
    have b710 : e5.1 710 = 0 := by rw [he5]; rfl
    have b711 : e5.1 711 = 0 := by rw [he5]; exact g711
    have b714 : e5.1 714 = 0 := by rw [he5]; exact g714
    have b715 : e5.1 715 = -1 := by rw [he5]; exact g715
    have b707 : e5.2.1 707 0 = v := by rw [he5]; exact v707
    rw [← he5] at eC
    clear he5
    have FE : FM6 e e5 σ σ3 := FM_t6 (FM_t6 F2 FM4) FM5
    have MEE : ME6 e e5 σ σ3 := ME_t6 (ME_t6 ME2 ME4) ME5
    have l37 := (FN5.2.2.2.1 j hj).2.2.1.2
    have bv : e5.2.1 maWorked (0 : Int32).toNatClampNeg = v := b707
    -- going on to G
    have on : ∀ G : Int32, bl6 s G → f5_Ma_act e = tal6 (fl6 709 G e5) → g5_act σ = pm5 (g5_moveTo G σ3) (fun a b => (a, b)) → ∃ e' σ' r, f5_Ma_act e = .inl (e', ()) ∧ g5_act σ = (σ', r) ∧ FM6 e e' σ σ' ∧ e'.1 715 = -1 ∧ AE6 nv w s e' σ' r := fun G hb c1 c2 => by
      obtain ⟨e', σ', r, u1, u2, u3⟩ := tal_6 (by omega) (by omega) (FN_m6 FN5 (FM_k6 (k := 709) (x := G) (by decide))) (MB_k6 (by decide) M5) d0 fl_s6 ((fl_o6 (by decide)).trans b710) ((fl_o6 (by decide)).trans b715) ((fl_o6 (by decide)).trans b711) hb
      obtain ⟨y1, y2⟩ := AE_x6 u3 ((fl_o6 (by decide)).trans b711) (((fl_o6 (by decide)).trans b714).trans t62.symm)
      exact ⟨e', σ', r, c1.trans u1, c2.trans u2, FM_t6 FE (FM_t6 (FM_k6 (by decide)) u3.1), y2.trans ((fl_o6 (by decide)).trans b715), y1⟩
    rcases hk with k | k | k | k | k
    · rw [k] at eC eR
      rw [if_pos (show (6 : Int32).toInt = 6 from rfl)] at eR
      obtain ⟨G, o1, o2, o3⟩ := oif_6 FN5 hj b707 b709
      rw [o1, rdl_5] at eC
      refine on G o2 eC ?_
      rw [eR, o3]
      by_cases q : v = 0
      · rw [if_pos q, if_pos q]
        by_cases q2 : σ3.2.2.1 34 j = -1
        · rw [if_pos q2, if_pos q2]
        · rw [if_neg q2, if_neg q2]
      · rw [if_neg q, if_neg q]
        by_cases q2 : σ3.2.2.1 33 j = -1
        · rw [if_pos q2, if_pos q2]
        · rw [if_neg q2, if_neg q2]
    · rw [k] at eC eR
      rw [if_neg (show ¬ (7 : Int32).toInt = 6 by decide), if_pos (show (7 : Int32).toInt = 7 from rfl)] at eR
      obtain ⟨G, o1, o2, o3⟩ := owh_6 FN5 hj b707 b709
      rw [o1, rdl_5] at eC
      refine on G o2 eC ?_
      rw [eR, o3]
      by_cases q : v = 0
      · rw [if_pos q, if_pos q]
      · rw [if_neg q, if_neg q]
        by_cases q2 : σ3.2.2.1 33 j = -1
        · rw [if_pos q2, if_pos q2]
        · rw [if_neg q2, if_neg q2]
    · rw [k] at eC eR
      rw [if_neg (show ¬ (8 : Int32).toInt = 6 by decide), if_neg (show ¬ (8 : Int32).toInt = 7 by decide), if_pos (show (8 : Int32).toInt = 8 from rfl)] at eR
      have ob : f5_Ma_obey (Int32.ofNat j) 8 e5 = .inl (fl6 710 v (fl6 709 (-1) e5), ()) := by
        unfold f5_Ma_obey
        rw [pb_e5, bv, if_neg (by decide), if_neg (by decide), if_neg (by decide), if_neg (by decide), if_neg (by decide), if_neg (by decide), if_neg (by decide), if_neg (by decide), if_pos (show (8 : Int32).toInt = 8 from rfl), st_f6, rdl_5, st_f6, rdl_5]
      rw [ob, rdl_5] at eC
      obtain ⟨e', σ', r, u1, u2, u3⟩ := tar_6 (x := v) (by omega) (by omega) (FN_m6 FN5 (FM_t6 (FM_k6 (k := 709) (x := -1) (by decide)) (FM_k6 (k := 710) (x := v) (by decide)))) (MB_k6 (by decide) (MB_k6 (by decide) M5)) d0 rfl fl_s6 b715 b711
      obtain ⟨y1, y2⟩ := AE_x6 u3 b711 (b714.trans t62.symm)
      exact ⟨e', σ', r, eC.trans u1, eR.trans u2, FM_t6 FE (FM_t6 (FM_t6 (FM_k6 (by decide)) (FM_k6 (by decide))) u3.1), y2.trans b715, y1⟩
    · rw [k] at eC eR
      rw [if_neg (show ¬ (9 : Int32).toInt = 6 by decide), if_neg (show ¬ (9 : Int32).toInt = 7 by decide), if_neg (show ¬ (9 : Int32).toInt = 8 by decide), if_pos (show (9 : Int32).toInt = 9 from rfl)] at eR
      have ob : f5_Ma_obey (Int32.ofNat j) 9 e5 = if v = 0 then .inl (fl6 711 3 e5, ()) else .inl (fl6 711 0 e5, ()) := by
        unfold f5_Ma_obey
        rw [pb_e5, bv, if_neg (by decide), if_neg (by decide), if_neg (by decide), if_neg (by decide), if_neg (by decide), if_neg (by decide), if_neg (by decide), if_neg (by decide), if_neg (by decide), if_pos (show (9 : Int32).toInt = 9 from rfl)]
        by_cases q : v = 0
        · rw [if_pos q, if_pos q, st_f6, rdl_5]
        · rw [if_neg q, if_neg q, st_f6, rdl_5]
      by_cases q : v = 0
      · rw [if_pos q] at ob eR
        rw [ob, rdl_5] at eC
        have t : tal6 (fl6 711 3 e5) = .inl (fl6 711 3 e5, ()) := by
          unfold tal6
          have z : (fl6 711 3 e5).1 maWants = -1 := b715
          rw [if_pos z, if_neg (show ¬ (fl6 711 3 e5).1 maOutcome = 0 by show ¬ (3 : Int32) = 0; decide)]
        exact ⟨_, _, _, eC.trans t, eR, FM_t6 FE (FM_k6 (by decide)), b715, Or.inr (Or.inr (Or.inr ⟨rfl, fl_s6, b714.trans t62.symm, d, MT_e6 MT0 (ME_t6 MEE (ME_k6 (by decide)))⟩))⟩
      · rw [if_neg q] at ob eR
        rw [ob, rdl_5] at eC
        obtain ⟨e', σ', r, u1, u2, u3⟩ := tal_6 (by omega) (by omega) (FN_m6 FN5 (FM_k6 (k := 711) (x := 0) (by decide))) (MB_k6 (by decide) M5) d0 b709 b710 b715 fl_s6 l37
        obtain ⟨y1, y2⟩ := AE_x6 u3 fl_s6 (b714.trans t62.symm)
        exact ⟨e', σ', r, eC.trans u1, eR.trans u2, FM_t6 FE (FM_t6 (FM_k6 (by decide)) u3.1), y2.trans b715, y1⟩
    · rw [k] at eC eR
      rw [if_neg (show ¬ (10 : Int32).toInt = 6 by decide), if_neg (show ¬ (10 : Int32).toInt = 7 by decide), if_neg (show ¬ (10 : Int32).toInt = 8 by decide), if_neg (show ¬ (10 : Int32).toInt = 9 by decide), if_pos (show (10 : Int32).toInt = 10 from rfl), pb_e5] at eR
      have ob : f5_Ma_obey (Int32.ofNat j) 10 e5 = .inl (fl6 714 v e5, ()) := by
        unfold f5_Ma_obey
        rw [pb_e5, bv, if_neg (by decide), if_neg (by decide), if_neg (by decide), if_neg (by decide), if_neg (by decide), if_neg (by decide), if_neg (by decide), if_neg (by decide), if_neg (by decide), if_neg (by decide), st_f6, rdl_5]
      rw [ob, rdl_5] at eC
      have FM6' : FM6 e5 (fl6 714 v e5) σ3 (siU σ3 62 v) := ⟨⟨fun g q => fl_o6 (by omega), fun _ _ => rfl, rfl⟩, fun g q => by rw [si1, if_neg (by omega)], fun _ _ => rfl, rfl⟩
      have M6 : MB6 nv w s d (fl6 714 v e5) (siU σ3 62 v) := by
        obtain ⟨q1, q2, q3⟩ := MB_k6 (k := 714) (x := v) (by decide) M5
        exact ⟨q1, q2, q3⟩
      obtain ⟨e', σ', r, u1, u2, u3⟩ := tal_6 (by omega) (by omega) (FN_m6 FN5 FM6') M6 d0 b709 b710 b715 b711 l37
      obtain ⟨y1, y2⟩ := AE_x6 u3 b711 (fl_s6.trans rfl)
      exact ⟨e', σ', r, eC.trans u1, eR.trans u2, FM_t6 FE (FM_t6 FM6' u3.1), y2.trans b715, y1⟩
  · have nl : ¬ σ3.1 47 ≤ 0 := by
      rw [w5]
      rcases w3 with q | q <;> rw [q] <;> decide
    rw [w1, rdl_5] at eC
    rw [w2, pm_e5] at eR
    dsimp only at eR
    rw [if_neg nl] at eR
    have WA4 : WA6 e2 (wo6 0 e3) := WA_t6 (WA_w6 w6) WA_o6
    have FM4 : FM6 e2 (wo6 0 e3) σ1 σ3 := FM_a6 WA4 (FA_f6 w7)
    have ME4 : ME6 e2 (wo6 0 e3) σ1 σ3 := ME_a6 WA4 (FA_f6 w7)
    have g713 : (wo6 0 e3).1 713 = y := w4
    have g714 : (wo6 0 e3).1 714 = 0 := (WA4.1 714 (by decide) (by decide) (by decide)).trans f714
    have g715 : (wo6 0 e3).1 715 = -1 := (WA4.1 715 (by decide) (by decide) (by decide)).trans f715
    generalize wo6 0 e3 = e4 at eC WA4 FM4 ME4 g713 g714 g715
    have nf : ¬ e4.1 maFailure = 0 := fun q => by
      have q : e4.1 713 = 0 := q
      rw [g713] at q
      rcases w3 with t | t <;> rw [t] at q <;> exact absurd q (by decide)
    unfold f5_Ma_act_92 at eC
    rw [if_neg nf, st_f6, rdl_5] at eC
    unfold g5_fail at eR
    rw [pb_e5, pm_e5] at eR
    refine ⟨_, _, _, eC, eR, FM_t6 (FM_t6 F2 FM4) ⟨⟨fun g q => fl_o6 (show g ≠ 711 by omega), fun _ _ => rfl, rfl⟩, fun g q => by rw [si1, if_neg (by omega)], fun _ _ => rfl, rfl⟩, ?_, Or.inr (Or.inr (Or.inl ⟨rfl, fl_s6, ?_, ?_, ?_, d, MT_e6 MT0 (ME_t6 (ME_t6 ME2 ME4) (ME_t6 (ME_k6 (by decide)) (ME_s6 (by decide))))⟩))⟩
    · exact (fl_o6 (show (715 : Nat) ≠ 711 by decide)).trans g715
    · exact ((fl_o6 (show (713 : Nat) ≠ 711 by decide)).trans g713).trans (w5.symm.trans rfl)
    · exact (fl_o6 (show (714 : Nat) ≠ 711 by decide)).trans g714
    · rw [fl_o6 (show (713 : Nat) ≠ 711 by decide), g713]
      exact n1_6 w3
end

end
