set_option maxHeartbeats 1600000
/-! the reference: items and statements -/
def g5_openBlock (a1 : Int32) (a2 : Int32) (σ : rS) : rS := pb5 (riU σ 43 ((σ.1 42)).toNatClampNeg a1) (fun σ1 => pb5 (riU σ1 44 ((σ1.1 42)).toNatClampNeg (-1 : Int32)) (fun σ2 => pb5 (riU σ2 45 ((σ2.1 42)).toNatClampNeg (vp_nar .boolean a2)) (fun σ3 => pb5 (siU σ3 42 ((σ3.1 42) + (1 : Int32))) (fun σ4 => σ4))))

def g5_newStatement_221 (a2 : Int32) (a3 : Int32) (σ : rS) : rS × Int32 := pb5 (riU σ 44 (a3).toNatClampNeg a2) (fun σ1 => (σ1, a2))
def g5_newStatement_51 (a1 : Int32) (s0 : Int32) (σ : rS) : rS × Int32 := pb5 (g5_isRight σ) (fun r2 => (if r2 = 0 then (σ, s0) else pb5 (siU σ 19 ((σ.1 19) + (1 : Int32))) (fun σ3 => pb5 (riU σ3 30 (s0).toNatClampNeg a1) (fun σ4 => pb5 (riU σ4 38 (s0).toNatClampNeg (σ4.1 41)) (fun σ5 => pb5 (riU σ5 31 (s0).toNatClampNeg (σ5.1 10)) (fun σ6 => pb5 (riU σ6 32 (s0).toNatClampNeg (-1 : Int32)) (fun σ7 => pb5 (riU σ7 33 (s0).toNatClampNeg (-1 : Int32)) (fun σ8 => pb5 (riU σ8 34 (s0).toNatClampNeg (-1 : Int32)) (fun σ9 => pb5 (riU σ9 35 (s0).toNatClampNeg (-1 : Int32)) (fun σ10 => pb5 (((σ10.1 42) - (1 : Int32))) (fun v3_11 => pb5 ((σ10.2.2.1 43 (v3_11).toNatClampNeg)) (fun v4_12 => pb5 (riU σ10 36 (s0).toNatClampNeg v4_12) (fun σ13 => (if (σ13.2.2.1 44 (v3_11).toNatClampNeg) = (-1 : Int32) then (if v4_12 = (-1 : Int32) then pb5 (riU σ13 29 ((σ13.1 41)).toNatClampNeg s0) (fun σ16 => (g5_newStatement_221 (s0) (v3_11) (σ16))) else (if (σ13.2.2.1 45 (v3_11).toNatClampNeg) = 0 then pb5 (riU σ13 33 (v4_12).toNatClampNeg s0) (fun σ14 => (g5_newStatement_221 (s0) (v3_11) (σ14))) else pb5 (riU σ13 34 (v4_12).toNatClampNeg s0) (fun σ15 => (g5_newStatement_221 (s0) (v3_11) (σ15))))) else pb5 (riU σ13 35 ((σ13.2.2.1 44 (v3_11).toNatClampNeg)).toNatClampNeg s0) (fun σ17 => (g5_newStatement_221 (s0) (v3_11) (σ17)))))))))))))))))
def g5_newStatement_33 (a1 : Int32) (σ : rS) : rS × Int32 := (if (150 : Int32) ≤ (σ.1 19) then (g5_newStatement_51 (a1) ((0 : Int32)) (σ)) else (g5_newStatement_51 (a1) ((σ.1 19)) (σ)))
def g5_newStatement (a1 : Int32) (σ : rS) : rS × Int32 := (if (σ.2.2.1 5 ((σ.1 10)).toNatClampNeg) = (5 : Int32) then (g5_newStatement_33 (a1) (σ)) else (if (σ.1 19) = (150 : Int32) then pb5 (g5_flaw ((15 : Int32)) ((σ.1 10)) σ) (fun σ1 => (g5_newStatement_33 (a1) (σ1))) else (g5_newStatement_33 (a1) (σ))))

def g5_tellVar_87 (a1 : Int32) (a2 : Int32) (σ : rS) : rS := pb5 (g5_sign ((59 : Int32)) σ) (fun σ1 => pb5 (g5_isRight σ1) (fun r4 => (if r4 = 0 then σ1 else pb5 (riU σ1 20 ((σ1.1 15)).toNatClampNeg a1) (fun σ5 => pb5 (riU σ5 21 ((σ5.1 15)).toNatClampNeg a2) (fun σ6 => pb5 (siU σ6 15 ((σ6.1 15) + (1 : Int32))) (fun σ7 => σ7))))))
def g5_tellVar_82 (a1 : Int32) (s0 : Int32) (σ : rS) : rS := pb5 (g5_go σ) (fun σ1 => (g5_tellVar_87 (a1) (s0) (σ1)))
def g5_tellVar_53 (a1 : Int32) (a3 : Int32) (σ : rS) : rS := pm5 (g5_due ((2 : Int32)) σ) (fun σ1 r2 => (if a3 = 0 then (g5_tellVar_82 (a1) ((σ1.2.2.1 7 (r2).toNatClampNeg)) (σ1)) else (g5_tellVar_82 (a1) ((-(σ1.2.2.1 7 (r2).toNatClampNeg))) (σ1))))
def g5_tellVar  (σ : rS) : rS := pb5 (g5_go σ) (fun σ1 => pm5 (g5_fresh ((0 : Int32)) ((σ1.1 15)) ((10 : Int32)) σ1) (fun σ3 r4 => pb5 (g5_isRight σ3) (fun r6 => (if r6 = 0 then (g5_tellVar_87 (r4) ((0 : Int32)) (σ3)) else pb5 (g5_isAt ((61 : Int32)) σ3) (fun r8 => (if r8 = 0 then (g5_tellVar_87 (r4) ((0 : Int32)) (σ3)) else pb5 (g5_go σ3) (fun σ9 => pb5 (g5_isAt ((45 : Int32)) σ9) (fun r12 => (if r12 = 0 then (g5_tellVar_53 (r4) (r12) (σ9)) else pb5 (g5_go σ9) (fun σ13 => (g5_tellVar_53 (r4) (r12) (σ13))))))))))))

def g5_tellArr_56 (a1 : Int32) (a2 : Int32) (σ : rS) : rS := pb5 (g5_go σ) (fun σ1 => pb5 (g5_close ((93 : Int32)) σ1) (fun σ3 => pb5 (g5_sign ((59 : Int32)) σ3) (fun σ5 => pb5 (g5_isRight σ5) (fun r8 => (if r8 = 0 then σ5 else pb5 (riU σ5 22 ((σ5.1 16)).toNatClampNeg a1) (fun σ9 => pb5 (riU σ9 23 ((σ9.1 16)).toNatClampNeg (σ9.2.2.1 7 (a2).toNatClampNeg)) (fun σ10 => pb5 (riU σ10 24 ((σ10.1 16)).toNatClampNeg (σ10.1 17)) (fun σ11 => pb5 (siU σ11 17 ((σ11.1 17) + (σ11.2.2.1 7 (a2).toNatClampNeg))) (fun σ12 => pb5 (siU σ12 16 ((σ12.1 16) + (1 : Int32))) (fun σ13 => σ13))))))))))
def g5_tellArr  (σ : rS) : rS := pb5 (g5_go σ) (fun σ1 => pm5 (g5_fresh ((0 : Int32)) ((σ1.1 16)) ((3 : Int32)) σ1) (fun σ3 r4 => pb5 (g5_open ((91 : Int32)) σ3) (fun σ5 => pm5 (g5_due ((2 : Int32)) σ5) (fun σ7 r8 => pb5 (g5_isRight σ7) (fun r10 => (if r10 = 0 then (g5_tellArr_56 (r4) (r8) (σ7)) else pb5 (g5_within ((σ7.2.2.1 7 (r8).toNatClampNeg)) ((1 : Int32)) ((8 : Int32)) σ7) (fun r12 => (if r12 = 0 then pb5 (g5_flaw ((12 : Int32)) (r8) σ7) (fun σ13 => (g5_tellArr_56 (r4) (r8) (σ13))) else (g5_tellArr_56 (r4) (r8) (σ7))))))))))

def g5_arguments_65 (B28 : Int32 → rS → rS) (s0 : Int32) (σ : rS) : rS := (if s0 = 0 then (B28 (s0) (σ)) else pb5 (g5_go σ) (fun σ1 => (B28 (s0) (σ1))))
def g5_arguments_77  (σ : rS) : rS := pb5 (g5_close ((41 : Int32)) σ) (fun σ1 => pb5 (g5_sign ((59 : Int32)) σ1) (fun σ3 => σ3))
def g5_arguments_28  : Nat → Int32 → rS → rS
  | 0, _, σ => σ
  | m5 + 1, a1, σ => pb5 (g5_isRight σ) (fun r2 => (if r2 = 0 then (g5_arguments_77 (σ)) else (if a1 = 0 then (g5_arguments_77 (σ)) else pm5 (g5_expression σ) (fun σ3 r4 => pb5 (g5_isRight σ3) (fun r6 => (if r6 = 0 then (g5_arguments_65 (g5_arguments_28 m5) ((0 : Int32)) (σ3)) else pb5 (g5_isAt ((44 : Int32)) σ3) (fun r8 => (if r8 = 0 then (g5_arguments_65 (g5_arguments_28 m5) ((0 : Int32)) (σ3)) else (g5_arguments_65 (g5_arguments_28 m5) ((1 : Int32)) (σ3))))))))))
def g5_arguments  (σ : rS) : rS := pb5 (g5_open ((40 : Int32)) σ) (fun σ1 => pb5 (g5_isRight σ1) (fun r4 => (if r4 = 0 then (g5_arguments_28 fu5 ((0 : Int32)) (σ1)) else pb5 (g5_isAt ((41 : Int32)) σ1) (fun r6 => (if r6 = 0 then (g5_arguments_28 fu5 ((1 : Int32)) (σ1)) else (g5_arguments_28 fu5 ((0 : Int32)) (σ1)))))))

def g5_tellDraw_55  (σ : rS) : rS := pb5 (g5_close ((41 : Int32)) σ) (fun σ1 => pb5 (g5_sign ((59 : Int32)) σ1) (fun σ3 => σ3))
def g5_tellDraw_18  (σ : rS) : rS := pb5 (g5_isWord ((12 : Int32)) σ) (fun r2 => pb5 (g5_go σ) (fun σ3 => pb5 (g5_open ((40 : Int32)) σ3) (fun σ5 => pm5 (g5_expression σ5) (fun σ7 r8 => (if r2 = 0 then (g5_tellDraw_55 (σ7)) else pb5 (g5_sign ((44 : Int32)) σ7) (fun σ9 => pm5 (g5_expression σ9) (fun σ11 r12 => (g5_tellDraw_55 (σ11)))))))))
def g5_tellDraw_160 (B77 : Int32 → Int32 → rS → rS) (a1 : Int32) (s0 : Int32) (σ : rS) : rS := (if s0 = 0 then (B77 (a1) (s0) (σ)) else pb5 (g5_go σ) (fun σ1 => (B77 (a1) (s0) (σ1))))
def g5_tellDraw_125 (B77 : Int32 → Int32 → rS → rS) (a1 : Int32) (σ : rS) : rS := pb5 (g5_sign ((58 : Int32)) σ) (fun σ1 => pm5 (g5_expression σ1) (fun σ3 r4 => pb5 (a1 + (1 : Int32)) (fun v1_5 => pb5 (g5_isRight σ3) (fun r7 => (if r7 = 0 then (g5_tellDraw_160 B77 (v1_5) ((0 : Int32)) (σ3)) else pb5 (g5_isAt ((44 : Int32)) σ3) (fun r9 => (if r9 = 0 then (g5_tellDraw_160 B77 (v1_5) ((0 : Int32)) (σ3)) else (g5_tellDraw_160 B77 (v1_5) ((1 : Int32)) (σ3)))))))))
def g5_tellDraw_172  (σ : rS) : rS := pb5 (g5_close ((125 : Int32)) σ) (fun σ1 => pb5 (g5_sign ((59 : Int32)) σ1) (fun σ3 => σ3))
def g5_tellDraw_77  : Nat → Int32 → Int32 → rS → rS
  | 0, _, _, σ => σ
  | m5 + 1, a1, a2, σ => pb5 (g5_isRight σ) (fun r2 => (if r2 = 0 then (g5_tellDraw_172 (σ)) else (if a2 = 0 then (g5_tellDraw_172 (σ)) else pm5 (g5_expression σ) (fun σ3 r4 => pb5 (g5_isRight σ3) (fun r6 => (if r6 = 0 then (g5_tellDraw_125 (g5_tellDraw_77 m5) (a1) (σ3)) else pb5 (g5_isAt ((58 : Int32)) σ3) (fun r8 => (if r8 = 0 then (g5_tellDraw_125 (g5_tellDraw_77 m5) (a1) (σ3)) else (if a1 = (8 : Int32) then pb5 (g5_flaw ((15 : Int32)) ((σ3.1 10)) σ3) (fun σ9 => (g5_tellDraw_125 (g5_tellDraw_77 m5) (a1) (σ9))) else (g5_tellDraw_125 (g5_tellDraw_77 m5) (a1) (σ3)))))))))))
def g5_tellDraw  (σ : rS) : rS := pb5 (g5_isWord ((11 : Int32)) σ) (fun r2 => (if r2 = 0 then pb5 (g5_isWord ((12 : Int32)) σ) (fun r4 => (if r4 = 0 then pb5 (g5_open ((123 : Int32)) σ) (fun σ5 => pb5 (g5_isRight σ5) (fun r8 => (g5_tellDraw_77 fu5 ((0 : Int32)) (r8) (σ5)))) else (g5_tellDraw_18 (σ)))) else (g5_tellDraw_18 (σ))))

def g5_tellNamed_295  (σ : rS) : rS := pm5 (g5_expression σ) (fun σ1 r2 => pb5 (g5_sign ((59 : Int32)) σ1) (fun σ3 => σ3))
def g5_tellNamed_244 (a1 : Int32) (a3 : Int32) (σ : rS) : rS := pb5 (g5_isRight σ) (fun r2 => (if r2 = 0 then (g5_tellNamed_295 (σ)) else (if a3 = 0 then (if (σ.2.2.1 5 ((σ.1 10)).toNatClampNeg) = (1 : Int32) then pb5 (g5_isNext ((40 : Int32)) σ) (fun r4 => (if r4 = 0 then (g5_tellNamed_295 (σ)) else pb5 (riU σ 30 (a1).toNatClampNeg (5 : Int32)) (fun σ5 => pb5 (g5_go σ5) (fun σ6 => pb5 (g5_arguments σ6) (fun σ8 => σ8))))) else (g5_tellNamed_295 (σ))) else (g5_tellNamed_295 (σ)))))
def g5_tellNamed_175 (a1 : Int32) (a3 : Int32) (σ : rS) : rS := pb5 (g5_sign ((61 : Int32)) σ) (fun σ1 => pb5 (riU σ1 32 (a1).toNatClampNeg (σ1.1 10)) (fun σ3 => pb5 (g5_isRight σ3) (fun r5 => (if r5 = 0 then (g5_tellNamed_244 (a1) (a3) (σ3)) else pb5 (g5_isWord ((13 : Int32)) σ3) (fun r7 => (if r7 = 0 then (g5_tellNamed_244 (a1) (a3) (σ3)) else pb5 (riU σ3 30 (a1).toNatClampNeg (4 : Int32)) (fun σ8 => pb5 (g5_go σ8) (fun σ9 => pb5 (g5_open ((40 : Int32)) σ9) (fun σ11 => pm5 (g5_expression σ11) (fun σ13 r14 => pb5 (g5_close ((41 : Int32)) σ13) (fun σ15 => pb5 (g5_sign ((59 : Int32)) σ15) (fun σ17 => σ17))))))))))))
def g5_tellNamed_133 (a1 : Int32) (a3 : Int32) (σ : rS) : rS := pb5 (g5_isRight σ) (fun r2 => (if r2 = 0 then (g5_tellNamed_175 (a1) (a3) (σ)) else pb5 (g5_isAt ((126 : Int32)) σ) (fun r4 => (if r4 = 0 then (g5_tellNamed_175 (a1) (a3) (σ)) else pb5 (g5_go σ) (fun σ5 => pb5 (riU σ5 30 (a1).toNatClampNeg (3 : Int32)) (fun σ7 => pb5 (riU σ7 32 (a1).toNatClampNeg (σ7.1 10)) (fun σ8 => pb5 (g5_tellDraw σ8) (fun σ9 => σ9))))))))
def g5_tellNamed_109 (a1 : Int32) (a3 : Int32) (s1 : Int32) (s2 : Int32) (σ : rS) : rS := pb5 (g5_look (s1) (s2) σ) (fun σ1 => (if a3 = 0 then (g5_tellNamed_133 (a1) (a3) (σ1)) else pb5 (g5_open ((91 : Int32)) σ1) (fun σ3 => pm5 (g5_expression σ3) (fun σ5 r6 => pb5 (g5_close ((93 : Int32)) σ5) (fun σ7 => (g5_tellNamed_133 (a1) (a3) (σ7)))))))
def g5_tellNamed_90 (a1 : Int32) (a2 : Int32) (a3 : Int32) (σ : rS) : rS := (if a3 = 0 then pb5 (g5_variableOf (a2) σ) (fun r2 => (g5_tellNamed_109 (a1) (a3) (a2) (r2) (σ))) else pb5 (g5_arrayOf (a2) σ) (fun r4 => (g5_tellNamed_109 (a1) (a3) (a2) (r4) (σ))))
def g5_tellNamed  (σ : rS) : rS := pm5 (g5_newStatement ((2 : Int32)) σ) (fun σ1 r2 => pb5 ((σ1.1 10)) (fun v2_3 => pb5 (g5_go σ1) (fun σ4 => pb5 (g5_isRight σ4) (fun r7 => (if r7 = 0 then σ4 else pb5 (g5_isAt ((40 : Int32)) σ4) (fun r9 => (if r9 = 0 then pb5 (g5_isAt ((91 : Int32)) σ4) (fun r11 => (if r11 = 0 then pb5 (g5_isAt ((61 : Int32)) σ4) (fun r13 => (if r13 = 0 then pb5 (g5_isAt ((126 : Int32)) σ4) (fun r15 => (if r15 = 0 then pb5 (g5_flaw ((2 : Int32)) ((σ4.1 10)) σ4) (fun σ16 => σ16) else (g5_tellNamed_90 (r2) (v2_3) (r11) (σ4)))) else (g5_tellNamed_90 (r2) (v2_3) (r11) (σ4)))) else (g5_tellNamed_90 (r2) (v2_3) (r11) (σ4)))) else pb5 (riU σ4 30 (r2).toNatClampNeg (5 : Int32)) (fun σ18 => pb5 (riU σ18 32 (r2).toNatClampNeg v2_3) (fun σ19 => pb5 (g5_arguments σ19) (fun σ20 => σ20))))))))))

def g5_tellLocal  (σ : rS) : rS := pm5 (g5_newStatement ((1 : Int32)) σ) (fun σ1 r2 => pb5 (g5_go σ1) (fun σ3 => pm5 (g5_fresh ((1 : Int32)) ((σ3.2.2.1 27 ((σ3.1 41)).toNatClampNeg)) ((8 : Int32)) σ3) (fun σ5 r6 => pb5 (g5_sign ((61 : Int32)) σ5) (fun σ7 => pb5 (riU σ7 32 (r2).toNatClampNeg (σ7.1 10)) (fun σ9 => pm5 (g5_expression σ9) (fun σ10 r11 => pb5 (g5_sign ((59 : Int32)) σ10) (fun σ12 => pb5 (g5_isRight σ12) (fun r15 => (if r15 = 0 then σ12 else pb5 (riU σ12 39 (r6).toNatClampNeg ((100 : Int32) + (σ12.2.2.1 27 ((σ12.1 41)).toNatClampNeg))) (fun σ16 => pb5 (riU σ16 28 ((((8 : Int32) * (σ16.1 41)) + (σ16.2.2.1 27 ((σ16.1 41)).toNatClampNeg))).toNatClampNeg r6) (fun σ17 => pb5 (riU σ17 27 ((σ17.1 41)).toNatClampNeg ((σ17.2.2.1 27 ((σ17.1 41)).toNatClampNeg) + (1 : Int32))) (fun σ18 => σ18))))))))))))

def g5_tellStatement_68 (s1 : Int32) (σ : rS) : rS := pm5 (g5_newStatement (s1) σ) (fun σ1 r2 => pb5 (g5_go σ1) (fun σ3 => pb5 (riU σ3 32 (r2).toNatClampNeg (σ3.1 10)) (fun σ5 => pm5 (g5_expression σ5) (fun σ6 r7 => pb5 (g5_open ((123 : Int32)) σ6) (fun σ8 => pb5 (g5_openBlock (r2) ((0 : Int32)) σ8) (fun σ10 => σ10))))))
def g5_tellStatement_52  (σ : rS) : rS := pb5 (g5_isWord ((5 : Int32)) σ) (fun r2 => (if r2 = 0 then (g5_tellStatement_68 ((7 : Int32)) (σ)) else (g5_tellStatement_68 ((6 : Int32)) (σ))))
def g5_tellStatement_164 (s1 : Int32) (σ : rS) : rS := pm5 (g5_newStatement (s1) σ) (fun σ1 r2 => pb5 (g5_go σ1) (fun σ3 => pb5 (riU σ3 32 (r2).toNatClampNeg (σ3.1 10)) (fun σ5 => pm5 (g5_expression σ5) (fun σ6 r7 => pb5 (g5_sign ((59 : Int32)) σ6) (fun σ8 => σ8)))))
def g5_tellStatement_133  (σ : rS) : rS := pb5 (g5_isWord ((8 : Int32)) σ) (fun r2 => (if r2 = 0 then pb5 (g5_isWord ((9 : Int32)) σ) (fun r4 => (if r4 = 0 then (g5_tellStatement_164 ((10 : Int32)) (σ)) else (g5_tellStatement_164 ((9 : Int32)) (σ)))) else (g5_tellStatement_164 ((8 : Int32)) (σ))))
def g5_tellStatement  (σ : rS) : rS := (if (σ.2.2.1 5 ((σ.1 10)).toNatClampNeg) = (1 : Int32) then pb5 (g5_tellNamed σ) (fun σ17 => σ17) else pb5 (g5_isWord ((4 : Int32)) σ) (fun r2 => (if r2 = 0 then pb5 (g5_isWord ((5 : Int32)) σ) (fun r4 => (if r4 = 0 then pb5 (g5_isWord ((7 : Int32)) σ) (fun r6 => (if r6 = 0 then pb5 (g5_isWord ((8 : Int32)) σ) (fun r8 => (if r8 = 0 then pb5 (g5_isWord ((9 : Int32)) σ) (fun r10 => (if r10 = 0 then pb5 (g5_isWord ((10 : Int32)) σ) (fun r12 => (if r12 = 0 then pb5 (g5_flaw ((2 : Int32)) ((σ.1 10)) σ) (fun σ13 => σ13) else (g5_tellStatement_133 (σ)))) else (g5_tellStatement_133 (σ)))) else (g5_tellStatement_133 (σ)))) else (g5_tellStatement_52 (σ)))) else (g5_tellStatement_52 (σ)))) else pb5 (g5_tellLocal σ) (fun σ15 => σ15))))

def g5_endBlock  (σ : rS) : rS := pb5 ((σ.2.2.1 43 (((σ.1 42) - (1 : Int32))).toNatClampNeg)) (fun v1_1 => pb5 ((σ.2.2.1 45 (((σ.1 42) - (1 : Int32))).toNatClampNeg)) (fun v2_2 => pb5 (siU σ 42 ((σ.1 42) - (1 : Int32))) (fun σ3 => pb5 (g5_close ((125 : Int32)) σ3) (fun σ4 => pb5 (g5_isRight σ4) (fun r7 => (if r7 = 0 then σ4 else (if v2_2 = 0 then (if (σ4.2.2.1 30 (v1_1).toNatClampNeg) = (6 : Int32) then pb5 (g5_isWord ((6 : Int32)) σ4) (fun r9 => (if r9 = 0 then σ4 else pb5 (g5_go σ4) (fun σ10 => pb5 (g5_open ((123 : Int32)) σ10) (fun σ12 => pb5 (g5_openBlock (v1_1) ((1 : Int32)) σ12) (fun σ14 => σ14))))) else σ4) else σ4)))))))

def g5_tellStatements_11  : Nat → rS → rS
  | 0, σ => σ
  | m5 + 1, σ => pb5 (g5_isRight σ) (fun r2 => (if r2 = 0 then σ else (if (σ.1 42) ≤ 0 then σ else pb5 (g5_isAt ((125 : Int32)) σ) (fun r4 => (if r4 = 0 then pb5 (g5_tellStatement σ) (fun σ8 => (g5_tellStatements_11 m5 (σ8))) else (if (σ.1 42) = (1 : Int32) then pb5 (siU σ 42 (0 : Int32)) (fun σ7 => (g5_tellStatements_11 m5 (σ7))) else pb5 (g5_endBlock σ) (fun σ5 => (g5_tellStatements_11 m5 (σ5)))))))))
def g5_tellStatements  (σ : rS) : rS := pb5 (siU σ 42 (0 : Int32)) (fun σ1 => pb5 (g5_openBlock ((-1 : Int32)) ((0 : Int32)) σ1) (fun σ2 => (g5_tellStatements_11 fu5 (σ2))))

def g5_tellFunc_206 (B102 : Int32 → Int32 → rS → rS) (a1 : Int32) (s0 : Int32) (σ : rS) : rS := (if s0 = 0 then (B102 (a1) (s0) (σ)) else pb5 (g5_go σ) (fun σ1 => (B102 (a1) (s0) (σ1))))
def g5_tellFunc_185 (B102 : Int32 → Int32 → rS → rS) (a1 : Int32) (σ : rS) : rS := pb5 (g5_isRight σ) (fun r2 => (if r2 = 0 then (g5_tellFunc_206 B102 (a1) ((0 : Int32)) (σ)) else pb5 (g5_isAt ((44 : Int32)) σ) (fun r4 => (if r4 = 0 then (g5_tellFunc_206 B102 (a1) ((0 : Int32)) (σ)) else (g5_tellFunc_206 B102 (a1) ((1 : Int32)) (σ))))))
def g5_tellFunc_218 (a1 : Int32) (σ : rS) : rS := pb5 (g5_close ((41 : Int32)) σ) (fun σ1 => pb5 (g5_open ((123 : Int32)) σ1) (fun σ3 => pb5 (g5_tellStatements σ3) (fun σ5 => pb5 (g5_close ((125 : Int32)) σ5) (fun σ7 => pb5 (g5_isRight σ7) (fun r10 => (if r10 = 0 then σ7 else pb5 (riU σ7 25 ((σ7.1 18)).toNatClampNeg a1) (fun σ11 => pb5 (siU σ11 18 ((σ11.1 18) + (1 : Int32))) (fun σ12 => σ12))))))))
def g5_tellFunc_102  : Nat → Int32 → Int32 → rS → rS
  | 0, _, _, σ => σ
  | m5 + 1, a1, a2, σ => pb5 (g5_isRight σ) (fun r2 => (if r2 = 0 then (g5_tellFunc_218 (a1) (σ)) else (if a2 = 0 then (g5_tellFunc_218 (a1) (σ)) else pm5 (g5_fresh ((1 : Int32)) ((σ.2.2.1 27 ((σ.1 41)).toNatClampNeg)) ((4 : Int32)) σ) (fun σ3 r4 => pb5 (g5_isRight σ3) (fun r6 => (if r6 = 0 then (g5_tellFunc_185 (g5_tellFunc_102 m5) (a1) (σ3)) else pb5 (riU σ3 28 ((((8 : Int32) * (σ3.1 41)) + (σ3.2.2.1 27 ((σ3.1 41)).toNatClampNeg))).toNatClampNeg r4) (fun σ7 => pb5 (riU σ7 27 ((σ7.1 41)).toNatClampNeg ((σ7.2.2.1 27 ((σ7.1 41)).toNatClampNeg) + (1 : Int32))) (fun σ8 => pb5 (riU σ8 26 ((σ8.1 41)).toNatClampNeg ((σ8.2.2.1 26 ((σ8.1 41)).toNatClampNeg) + (1 : Int32))) (fun σ9 => (g5_tellFunc_185 (g5_tellFunc_102 m5) (a1) (σ9)))))))))))
def g5_tellFunc_74 (a1 : Int32) (σ : rS) : rS := pb5 (g5_open ((40 : Int32)) σ) (fun σ1 => pb5 (g5_isRight σ1) (fun r4 => (if r4 = 0 then (g5_tellFunc_102 fu5 (a1) ((0 : Int32)) (σ1)) else pb5 (g5_isAt ((41 : Int32)) σ1) (fun r6 => (if r6 = 0 then (g5_tellFunc_102 fu5 (a1) ((1 : Int32)) (σ1)) else (g5_tellFunc_102 fu5 (a1) ((0 : Int32)) (σ1)))))))
def g5_tellFunc_34 (a1 : Int32) (s1 : Int32) (σ : rS) : rS := pb5 (siU σ 41 s1) (fun σ1 => pb5 (g5_isRight σ1) (fun r3 => (if r3 = 0 then (g5_tellFunc_74 (a1) (σ1)) else pb5 (riU σ1 27 ((σ1.1 41)).toNatClampNeg (0 : Int32)) (fun σ4 => pb5 (riU σ4 26 ((σ4.1 41)).toNatClampNeg (0 : Int32)) (fun σ5 => pb5 (riU σ5 29 ((σ5.1 41)).toNatClampNeg (-1 : Int32)) (fun σ6 => (g5_tellFunc_74 (a1) (σ6))))))))
def g5_tellFunc  (σ : rS) : rS := pb5 (g5_go σ) (fun σ1 => pm5 (g5_fresh ((0 : Int32)) ((σ1.1 18)) ((10 : Int32)) σ1) (fun σ3 r4 => (if (10 : Int32) ≤ (σ3.1 18) then (g5_tellFunc_34 (r4) ((0 : Int32)) (σ3)) else (g5_tellFunc_34 (r4) ((σ3.1 18)) (σ3)))))

theorem openBlock_g5 {C : rCx} (hC : cOK C)  {σ : rS} {a1 : Int32} {a2 : Int32} {Q : rS → Prop} (hp : 0 ≤ σ.1 42 ∧ σ.1 42 < 64 ∧ -1 ≤ a1 ∧ a1 < 150 ∧ tS σ) (h : ∀ (σ' : rS), ((((∀ k, k ≠ 42 → σ'.1 k = σ.1 k) ∧ (∀ k,  σ'.2.1 k = σ.2.1 k) ∧ (∀ k, k ≠ 43 → k ≠ 44 → k ≠ 45 → σ'.2.2.1 k = σ.2.2.1 k) ∧ (∀ k j, k ≠ 43 → k ≠ 44 → k ≠ 45 → σ'.2.2.1 k j = σ.2.2.1 k j) ∧ (∀ k j,  σ'.2.2.2 k j = σ.2.2.2 k j)) ∧ tS σ' ∧ σ'.1 42 = σ.1 42 + 1 ∧ rd σ' 43 (σ.1 42) = a1 ∧ (∀ i : Int32, 0 ≤ i → i < σ.1 42 → rd σ' 43 i = rd σ 43 i)) ∧ g5_openBlock a1 a2 σ = σ') → Q σ') : cV C 0 m_openBlock [.ref (co C), .int a1, .int a2] σ Q := by
  refine m_openBlock_run hC ?_
  unfold w_openBlock_0
  have hE : g5_openBlock a1 a2 σ = g5_openBlock a1 a2 σ := rfl
  refine ⟨ib_64.mpr ?_, ?_⟩
  · clear h hE; grind (splits := 24) [si1, si2, ri1, ri2, ri3, ri34, ri5, ri_row, eB_upd]  -- b1
  intro σ_1 hσ_1
  replace hE := rb_p5 hE hσ_1
  refine ⟨ib_64.mpr ?_, ?_⟩
  · clear h hE; grind (splits := 24) [si1, si2, ri1, ri2, ri3, ri34, ri5, ri_row, eB_upd]  -- b2
  intro σ_2 hσ_2
  replace hE := rb_p5 hE hσ_2
  refine ⟨ib_64.mpr ?_, ?_⟩
  · clear h hE; grind (splits := 24) [si1, si2, ri1, ri2, ri3, ri34, ri5, ri_row, eB_upd]  -- b3
  intro σ_3 hσ_3
  replace hE := rb_p5 hE hσ_3
  intro σ_4 hσ_4
  replace hE := rb_p5 hE hσ_4
  refine h _ ?_
  · refine and_5 ?_ (fun o9 => hE)  -- q4
    clear h hE; refine ⟨by grind [si1, si2, ri1, ri2, ri3, ri34, ri5], by grind [si1, si2, ri1, ri3, ri_row, eB_upd, tyS], by grind [si1, ri1], by grind [si1, si2, ri1, ri34], fun i hi hj => ?_⟩
    have := cn_ne hi hj
    grind [si1, si2, ri1, ri34]

theorem newStatement_g5 {C : rCx} (hC : cOK C) (B T : Int32) {σ : rS} {a1 : Int32} {Q : Int32 → rS → Prop} (hp : tK σ B T ∧ tF σ ∧ tS σ ∧ 1 ≤ σ.1 42 ∧ σ.1 42 ≤ 64 ∧ rd σ 5 (σ.1 10) ≠ 5) (h : ∀ (v : Int32) (σ' : rS), ((((∀ k, k ≠ 11 → k ≠ 12 → k ≠ 19 → σ'.1 k = σ.1 k) ∧ (∀ k,  σ'.2.1 k = σ.2.1 k) ∧ (∀ k, k ≠ 29 → k ≠ 30 → k ≠ 31 → k ≠ 32 → k ≠ 33 → k ≠ 34 → k ≠ 35 → k ≠ 36 → k ≠ 38 → k ≠ 44 → σ'.2.2.1 k = σ.2.2.1 k) ∧ (∀ k j, k ≠ 29 → k ≠ 30 → k ≠ 31 → k ≠ 32 → k ≠ 33 → k ≠ 34 → k ≠ 35 → k ≠ 36 → k ≠ 38 → k ≠ 44 → σ'.2.2.1 k j = σ.2.2.1 k j) ∧ (∀ k j,  σ'.2.2.2 k j = σ.2.2.2 k j)) ∧ tF σ' ∧ tS σ' ∧ 0 ≤ v ∧ v < 150 ∧ (σ'.1 11 = 0 → σ.1 11 = 0 ∧ v = σ.1 19 ∧ σ'.1 19 = σ.1 19 + 1 ∧ rd σ' 30 v = a1 ∧ rd σ' 31 v = σ.1 10 ∧ rd σ' 36 v = rd σ 43 (σ.1 42 - 1) ∧ (∀ j, j ≠ v.toNatClampNeg → σ'.2.2.1 30 j = σ.2.2.1 30 j ∧ σ'.2.2.1 31 j = σ.2.2.1 31 j ∧ σ'.2.2.1 32 j = σ.2.2.1 32 j ∧ σ'.2.2.1 36 j = σ.2.2.1 36 j) ∧ lkN σ σ') ∧ (σ.1 11 ≠ 0 → σ'.1 11 ≠ 0) ∧ (0 ≤ σ.1 11 → 0 ≤ σ'.1 11)) ∧ g5_newStatement a1 σ = (σ', v)) → Q v σ') : cI C 1 m_newStatement [.ref (co C), .int a1] σ Q := by
  refine m_newStatement_run hC ?_
  unfold w_newStatement_0
  have hj221 : ∀ (l2 : Int32) (l3 : Int32) (τ : rS), ((((∀ k, k ≠ 11 → k ≠ 12 → k ≠ 19 → τ.1 k = σ.1 k) ∧ (∀ k,  τ.2.1 k = σ.2.1 k) ∧ (∀ k, k ≠ 29 → k ≠ 30 → k ≠ 31 → k ≠ 32 → k ≠ 33 → k ≠ 34 → k ≠ 35 → k ≠ 36 → k ≠ 38 → τ.2.2.1 k = σ.2.2.1 k) ∧ (∀ k j, k ≠ 29 → k ≠ 30 → k ≠ 31 → k ≠ 32 → k ≠ 33 → k ≠ 34 → k ≠ 35 → k ≠ 36 → k ≠ 38 → τ.2.2.1 k j = σ.2.2.1 k j) ∧ (∀ k j,  τ.2.2.2 k j = σ.2.2.2 k j)) ∧ tF τ ∧ tS τ ∧ 0 ≤ l2 ∧ l2 < 150 ∧ l3 = σ.1 42 - 1 ∧ (τ.1 11 = 0 ∧ σ.1 11 = 0) ∧ l2 = σ.1 19 ∧ τ.1 19 = σ.1 19 + 1 ∧ rd τ 30 l2 = a1 ∧ rd τ 31 l2 = σ.1 10 ∧ rd τ 36 l2 = rd σ 43 (σ.1 42 - 1) ∧ (∀ j, j ≠ l2.toNatClampNeg → τ.2.2.1 30 j = σ.2.2.1 30 j ∧ τ.2.2.1 31 j = σ.2.2.1 31 j ∧ τ.2.2.1 32 j = σ.2.2.1 32 j ∧ τ.2.2.1 36 j = σ.2.2.1 36 j) ∧ lkN σ τ) ∧ g5_newStatement a1 σ = g5_newStatement_221 l2 l3 τ) → w_newStatement_221 C Q  l2 l3 τ := by
    rintro y221_2 y221_3 τ221 ⟨j221, hE⟩
    unfold w_newStatement_221
    refine ⟨ib_64.mpr ?_, ?_⟩
    · clear h hE; grind (splits := 24) [si1, si2, ri1, ri2, ri3, ri34, ri5, ri_row, eB_upd, tyF, tyS, tK, lkN_w]  -- b1
    intro σ_1 hσ_1
    replace hE := rb_p5 hE hσ_1
    refine h _ _ ?_
    · refine and_5 ?_ (fun o9 => hE)  -- q2
      clear h hE; obtain ⟨jF, jf, js, j1, j2, j3, j4, j5, j6, j7, j8, j9, ja, jl⟩ := j221
      have ts : tS σ_1 := by clear jF jf ja jl; grind [ri3, ri_row, eB_upd, tyS]
      have tf : tF σ_1 := by clear jF js ja jl; grind [ri1]
      refine ⟨by clear js jf ja jl; grind [ri1, ri2, ri3, ri34, ri5], tf, ts, j1, j2, fun _ => ⟨?_, j5, ?_, ?_, ?_, ?_, ?_, ?_⟩, fun z => ?_, fun _ => ?_⟩
      · exact j4.2
      · rw [hσ_1, ri1]; exact j6
      · rw [hσ_1]; exact (congrFun (ri3 (by decide)) _).trans j7
      · rw [hσ_1]; exact (congrFun (ri3 (by decide)) _).trans j8
      · rw [hσ_1]; exact (congrFun (ri3 (by decide)) _).trans j9
      · intro j hj
        rw [hσ_1]
        exact ⟨(congrFun (ri3 (by decide)) _).trans (ja j hj).1, (congrFun (ri3 (by decide)) _).trans (ja j hj).2.1, (congrFun (ri3 (by decide)) _).trans (ja j hj).2.2.1, (congrFun (ri3 (by decide)) _).trans (ja j hj).2.2.2⟩
      · rw [hσ_1]; exact lkN_o jl (ri3 (by decide)) (ri3 (by decide)) (ri3 (by decide)) (ri3 (by decide)) ri1
      · exact absurd j4.2 z
      · rw [hσ_1, ri1, j4.1]; decide
  have hj51 : ∀ (l1 : Int32) (s0 : Int32) (τ : rS), ((l1 = a1 ∧ ((∀ k, k ≠ 11 → k ≠ 12 → τ.1 k = σ.1 k) ∧ τ.2 = σ.2) ∧ (τ.1 11 = 0 → σ.1 11 = 0 ∧ s0 = σ.1 19 ∧ σ.1 19 < 150) ∧ (σ.1 11 ≠ 0 → τ.1 11 ≠ 0) ∧ 0 ≤ s0 ∧ s0 < 150 ∧ (0 ≤ σ.1 11 → 0 ≤ τ.1 11)) ∧ g5_newStatement a1 σ = g5_newStatement_51 l1 s0 τ) → w_newStatement_51 C Q  l1 s0 τ := by
    rintro y51_1 y51_s0 τ51 ⟨j51, hE⟩
    unfold w_newStatement_51
    refine isRight_g5 hC  (fun r2 q4 => ?_)
    obtain ⟨q4, z9⟩ := q4
    replace hE := rb_p5 hE z9
    clear z9
    refine ⟨fun c5 => ?_, fun c5 => ?_⟩
    · skip
      replace hE := rb_f5 hE c5
      intro σ_6 hσ_6
      replace hE := rb_p5 hE hσ_6
      refine ⟨ib_150.mpr ?_, ?_⟩
      · clear h hE; grind (splits := 24) [si1, si2, ri1, ri2, ri3, ri34, ri5, ri_row, eB_upd, tyF, tyS, tK, lkN_w]  -- b3
      intro σ_7 hσ_7
      replace hE := rb_p5 hE hσ_7
      refine ⟨ib_150.mpr ?_, ?_⟩
      · clear h hE; grind (splits := 24) [si1, si2, ri1, ri2, ri3, ri34, ri5, ri_row, eB_upd, tyF, tyS, tK, lkN_w]  -- b4
      intro σ_8 hσ_8
      replace hE := rb_p5 hE hσ_8
      refine ⟨ib_150.mpr ?_, ?_⟩
      · clear h hE; grind (splits := 24) [si1, si2, ri1, ri2, ri3, ri34, ri5, ri_row, eB_upd, tyF, tyS, tK, lkN_w]  -- b5
      intro σ_9 hσ_9
      replace hE := rb_p5 hE hσ_9
      refine ⟨ib_150.mpr ?_, ?_⟩
      · clear h hE; grind (splits := 24) [si1, si2, ri1, ri2, ri3, ri34, ri5, ri_row, eB_upd, tyF, tyS, tK, lkN_w]  -- b6
      intro σ_10 hσ_10
      replace hE := rb_p5 hE hσ_10
      refine ⟨ib_150.mpr ?_, ?_⟩
      · clear h hE; grind (splits := 24) [si1, si2, ri1, ri2, ri3, ri34, ri5, ri_row, eB_upd, tyF, tyS, tK, lkN_w]  -- b7
      intro σ_11 hσ_11
      replace hE := rb_p5 hE hσ_11
      refine ⟨ib_150.mpr ?_, ?_⟩
      · clear h hE; grind (splits := 24) [si1, si2, ri1, ri2, ri3, ri34, ri5, ri_row, eB_upd, tyF, tyS, tK, lkN_w]  -- b8
      intro σ_12 hσ_12
      replace hE := rb_p5 hE hσ_12
      refine ⟨ib_150.mpr ?_, ?_⟩
      · clear h hE; grind (splits := 24) [si1, si2, ri1, ri2, ri3, ri34, ri5, ri_row, eB_upd, tyF, tyS, tK, lkN_w]  -- b9
      intro σ_13 hσ_13
      replace hE := rb_p5 hE hσ_13
      intro x14 hx14
      replace hE := rb_p5 hE hx14
      refine ⟨ib_64.mpr ?_, ?_⟩
      · clear h hE; grind (splits := 24) [si1, si2, ri1, ri2, ri3, ri34, ri5, ri_row, eB_upd, tyF, tyS, tK, lkN_w]  -- b10
      intro x15 hx15
      replace hE := rb_p5 hE hx15
      refine ⟨ib_150.mpr ?_, ?_⟩
      · clear h hE; grind (splits := 24) [si1, si2, ri1, ri2, ri3, ri34, ri5, ri_row, eB_upd, tyF, tyS, tK, lkN_w]  -- b11
      intro σ_16 hσ_16
      replace hE := rb_p5 hE hσ_16
      refine ⟨ib_64.mpr ?_, ?_⟩
      · clear h hE; grind (splits := 24) [si1, si2, ri1, ri2, ri3, ri34, ri5, ri_row, eB_upd, tyF, tyS, tK, lkN_w]  -- b12
      have p0 : σ.1 11 = 0 ∧ y51_s0 = σ.1 19 ∧ σ.1 19 < 150 ∧ τ51.1 11 = 0 := by clear h hE; clear hσ_6 hσ_7 hσ_8 hσ_9 hσ_10 hσ_11 hσ_12 hσ_13 hσ_16; grind
      have p1 : ((∀ k, k ≠ 11 → k ≠ 12 → k ≠ 19 → σ_16.1 k = σ.1 k) ∧ (∀ k,  σ_16.2.1 k = σ.2.1 k) ∧ (∀ k, k ≠ 30 → k ≠ 31 → k ≠ 32 → k ≠ 33 → k ≠ 34 → k ≠ 35 → k ≠ 36 → k ≠ 38 → σ_16.2.2.1 k = σ.2.2.1 k) ∧ (∀ k j, k ≠ 30 → k ≠ 31 → k ≠ 32 → k ≠ 33 → k ≠ 34 → k ≠ 35 → k ≠ 36 → k ≠ 38 → σ_16.2.2.1 k j = σ.2.2.1 k j) ∧ (∀ k j,  σ_16.2.2.2 k j = σ.2.2.2 k j)) := by
        have b1 := j51.2.1
        have rw3 : ∀ k, k ≠ 30 → k ≠ 31 → k ≠ 32 → k ≠ 33 → k ≠ 34 → k ≠ 35 → k ≠ 36 → k ≠ 38 → σ_16.2.2.1 k = σ.2.2.1 k := by
          intro k w30 w31 w32 w33 w34 w35 w36 w38
          rw [hσ_16, ri3 w36, hσ_13, ri3 w35, hσ_12, ri3 w34, hσ_11, ri3 w33, hσ_10, ri3 w32, hσ_9, ri3 w31, hσ_8, ri3 w38, hσ_7, ri3 w30, hσ_6, si2, b1.2]
        refine ⟨fun k h1 h2 h3 => ?_, fun k => ?_, rw3, fun k j w30 w31 w32 w33 w34 w35 w36 w38 => congrFun (rw3 k w30 w31 w32 w33 w34 w35 w36 w38) j, fun k j => ?_⟩
        · rw [hσ_16, ri1, hσ_13, ri1, hσ_12, ri1, hσ_11, ri1, hσ_10, ri1, hσ_9, ri1, hσ_8, ri1, hσ_7, ri1, hσ_6, si1, if_neg h3]; exact b1.1 k h1 h2
        · rw [hσ_16, ri2, hσ_13, ri2, hσ_12, ri2, hσ_11, ri2, hσ_10, ri2, hσ_9, ri2, hσ_8, ri2, hσ_7, ri2, hσ_6, si2, b1.2]
        · rw [hσ_16, ri5, hσ_13, ri5, hσ_12, ri5, hσ_11, ri5, hσ_10, ri5, hσ_9, ri5, hσ_8, ri5, hσ_7, ri5, hσ_6, si2, b1.2]
      have p2 : tS σ_16 := by
        have z : tS σ_13 := by
          have y : tS σ := hp.2.2.1
          have y2 : tS τ51 := by clear h hE; clear hσ_6 hσ_7 hσ_8 hσ_9 hσ_10 hσ_11 hσ_12 hσ_13 hσ_16; grind
          have y3 : 0 ≤ σ_7.1 41 ∧ σ_7.1 41 < 10 := by clear h hE; clear hσ_8 hσ_9 hσ_10 hσ_11 hσ_12 hσ_13 hσ_16; grind [tyF, si1, ri1]
          clear hp p1; grind (gen := 30) [si2, ri3, ri_row, eB_upd, tyS]
        have z2 : -1 ≤ x15 ∧ x15 < 150 := by rw [hx15]; exact z.2.2.2.2.2.2.1 _
        clear hp p1 hσ_6 hσ_7 hσ_8 hσ_9 hσ_10 hσ_11 hσ_12 hσ_13; grind [ri3, ri_row, eB_upd, tyS]
      have p4 : σ_16.1 11 = 0 ∧ σ_16.1 19 = σ.1 19 + 1 ∧ x14 = σ.1 42 - 1 ∧ x15 = rd σ 43 (σ.1 42 - 1) ∧ rd σ_16 30 y51_s0 = a1 ∧ rd σ_16 31 y51_s0 = σ.1 10 ∧ rd σ_16 36 y51_s0 = x15 := by clear h hE; clear p1 p2; grind (gen := 30) [si1, si2, ri1, ri2, ri3, ri34, ri5]
      have p3 : tF σ_16 := by clear h hE; clear p2 hσ_6 hσ_7 hσ_8 hσ_9 hσ_10 hσ_11 hσ_12 hσ_13 hσ_16; grind [tyF]
      have p5 : ∀ j, j ≠ y51_s0.toNatClampNeg → σ_16.2.2.1 30 j = σ.2.2.1 30 j ∧ σ_16.2.2.1 31 j = σ.2.2.1 31 j ∧ σ_16.2.2.1 32 j = σ.2.2.1 32 j ∧ σ_16.2.2.1 36 j = σ.2.2.1 36 j := by clear h hE; clear p1 p2 p4; grind (gen := 30) [si1, si2, ri1, ri2, ri3, ri34, ri5]
      have p6 : -1 ≤ x15 ∧ x15 < 150 := by rw [hx15, show σ_13.2.2.1 43 = σ_16.2.2.1 43 from by rw [hσ_16, ri3 (by decide)]]; exact p2.2.2.2.2.2.2.1 _
      have p7 : -1 ≤ rd σ_16 44 x14 ∧ rd σ_16 44 x14 < 150 := p2.2.2.2.2.2.2.2 _
      have p8 : lkN σ σ_16 := by
        have b1 := j51.2.1
        have t19 : 0 ≤ σ.1 19 := by have := hp.2.1; clear p1 p2 p3 p4 p5 p6 p7 hσ_6 hσ_7 hσ_8 hσ_9 hσ_10 hσ_11 hσ_12 hσ_13 hσ_16 j51 hp b1; grind [tyF]
        refine lkN_new p4.2.1 t19 p0.2.2.1 ?_ ?_ ?_ ?_
        · exact p1.2.2.1 29 (by decide) (by decide) (by decide) (by decide) (by decide) (by decide) (by decide) (by decide)
        · rw [hσ_16, ri3 (by decide), hσ_13, ri3 (by decide), hσ_12, ri3 (by decide), hσ_11, ri_row, hσ_10, ri3 (by decide), hσ_9, ri3 (by decide), hσ_8, ri3 (by decide), hσ_7, ri3 (by decide), hσ_6, si2, b1.2, p0.2.1]
        · rw [hσ_16, ri3 (by decide), hσ_13, ri3 (by decide), hσ_12, ri_row, hσ_11, ri3 (by decide), hσ_10, ri3 (by decide), hσ_9, ri3 (by decide), hσ_8, ri3 (by decide), hσ_7, ri3 (by decide), hσ_6, si2, b1.2, p0.2.1]
        · rw [hσ_16, ri3 (by decide), hσ_13, ri_row, hσ_12, ri3 (by decide), hσ_11, ri3 (by decide), hσ_10, ri3 (by decide), hσ_9, ri3 (by decide), hσ_8, ri3 (by decide), hσ_7, ri3 (by decide), hσ_6, si2, b1.2, p0.2.1]
      have p9 : y51_s0 < σ_16.1 19 := by rw [p4.2.1, p0.2.1]; have := p0.2.2.1; clear p1 p2 p3 p4 p5 p6 p7 p8 hσ_6 hσ_7 hσ_8 hσ_9 hσ_10 hσ_11 hσ_12 hσ_13 hσ_16 j51 hp; grind
      clear hσ_6 hσ_7 hσ_8 hσ_9 hσ_10 hσ_11 hσ_12 hσ_13 hσ_16 j51
      refine ⟨fun c17 => ?_, fun c17 => ?_⟩
      · skip
        replace hE := rb_t5 hE c17
        refine ⟨fun c18 => ?_, fun c18 => ?_⟩
        · skip
          replace hE := rb_f5 hE c18
          refine ⟨ib_64.mpr ?_, ?_⟩
          · clear h hE; grind (splits := 24) [si1, si2, ri1, ri2, ri3, ri34, ri5, ri_row, eB_upd, tyF, tyS, tK, lkN_w]  -- b13
          refine ⟨fun c19 => ?_, fun c19 => ?_⟩
          · skip
            replace hE := rb_t5 hE c19
            refine ⟨ib_150.mpr ?_, ?_⟩
            · clear h hE; grind (splits := 24) [si1, si2, ri1, ri2, ri3, ri34, ri5, ri_row, eB_upd, tyF, tyS, tK, lkN_w]  -- b14
            intro σ_20 hσ_20
            replace hE := rb_p5 hE hσ_20
            refine hj221 _ _ _ ?_
            · refine and_5 ?_ (fun o9 => hE)  -- k15
              clear h hE; grind (splits := 24) [si1, si2, ri1, ri2, ri3, ri34, ri5, ri_row, eB_upd, tyF, tyS, tK, lkN_w]
          · skip
            replace hE := rb_f5 hE c19
            refine ⟨ib_150.mpr ?_, ?_⟩
            · clear h hE; grind (splits := 24) [si1, si2, ri1, ri2, ri3, ri34, ri5, ri_row, eB_upd, tyF, tyS, tK, lkN_w]  -- b16
            intro σ_21 hσ_21
            replace hE := rb_p5 hE hσ_21
            refine hj221 _ _ _ ?_
            · refine and_5 ?_ (fun o9 => hE)  -- k17
              clear h hE; grind (splits := 24) [si1, si2, ri1, ri2, ri3, ri34, ri5, ri_row, eB_upd, tyF, tyS, tK, lkN_w]
        · skip
          replace hE := rb_t5 hE c18
          refine ⟨ib_10.mpr ?_, ?_⟩
          · clear h hE; grind (splits := 24) [si1, si2, ri1, ri2, ri3, ri34, ri5, ri_row, eB_upd, tyF, tyS, tK, lkN_w]  -- b18
          intro σ_22 hσ_22
          replace hE := rb_p5 hE hσ_22
          refine hj221 _ _ _ ?_
          · refine and_5 ?_ (fun o9 => hE)  -- k19
            clear h hE; grind (splits := 24) [si1, si2, ri1, ri2, ri3, ri34, ri5, ri_row, eB_upd, tyF, tyS, tK, lkN_w]
      · skip
        replace hE := rb_f5 hE c17
        refine ⟨ib_64.mpr ?_, ?_⟩
        · clear h hE; grind (splits := 24) [si1, si2, ri1, ri2, ri3, ri34, ri5, ri_row, eB_upd, tyF, tyS, tK, lkN_w]  -- b20
        refine ⟨ib_150.mpr ?_, ?_⟩
        · clear h hE; grind (splits := 24) [si1, si2, ri1, ri2, ri3, ri34, ri5, ri_row, eB_upd, tyF, tyS, tK, lkN_w]  -- b21
        intro σ_23 hσ_23
        replace hE := rb_p5 hE hσ_23
        refine hj221 _ _ _ ?_
        · refine and_5 ?_ (fun o9 => hE)  -- k22
          clear h hE; grind (splits := 24) [si1, si2, ri1, ri2, ri3, ri34, ri5, ri_row, eB_upd, tyF, tyS, tK, lkN_w]
    · skip
      replace hE := rb_t5 hE c5
      refine h _ _ ?_
      · refine and_5 ?_ (fun o9 => hE)  -- q23
        clear h hE; grind (splits := 24) [si1, si2, ri1, ri2, ri3, ri34, ri5, ri_row, eB_upd, tyF, tyS, tK, lkN_w]
  have hj33 : ∀ (l1 : Int32) (τ : rS), ((l1 = a1 ∧ ((∀ k, k ≠ 11 → k ≠ 12 → τ.1 k = σ.1 k) ∧ τ.2 = σ.2) ∧ (τ.1 11 = 0 → σ.1 11 = 0 ∧ σ.1 19 < 150) ∧ (σ.1 11 ≠ 0 → τ.1 11 ≠ 0) ∧ (0 ≤ σ.1 11 → 0 ≤ τ.1 11)) ∧ g5_newStatement a1 σ = g5_newStatement_33 l1 τ) → w_newStatement_33 C Q  l1 τ := by
    rintro y33_1 τ33 ⟨j33, hE⟩
    unfold w_newStatement_33
    refine ⟨fun c24 => ?_, fun c24 => ?_⟩
    · skip
      replace hE := rb_t5 hE c24
      refine hj51 _ _ _ ?_
      · refine and_5 ?_ (fun o9 => hE)  -- k24
        clear h hE; grind (splits := 24) [si1, si2, ri1, ri2, ri3, ri34, ri5, ri_row, eB_upd, tyF, tyS, tK, lkN_w]
    · skip
      replace hE := rb_f5 hE c24
      refine hj51 _ _ _ ?_
      · refine and_5 ?_ (fun o9 => hE)  -- k25
        clear h hE; grind (splits := 24) [si1, si2, ri1, ri2, ri3, ri34, ri5, ri_row, eB_upd, tyF, tyS, tK, lkN_w]
  have hE : g5_newStatement a1 σ = g5_newStatement a1 σ := rfl
  refine ⟨ib_131074.mpr ?_, ?_⟩
  · clear h hE; grind (splits := 24) [si1, si2, ri1, ri2, ri3, ri34, ri5, ri_row, eB_upd, tyF, tyS, tK, lkN_w]  -- b26
  refine ⟨fun c25 => ?_, fun c25 => ?_⟩
  · skip
    replace hE := rb_t5 hE c25
    refine hj33 _ _ ?_
    · refine and_5 ?_ (fun o9 => hE)  -- k27
      clear h hE; grind (splits := 24) [si1, si2, ri1, ri2, ri3, ri34, ri5, ri_row, eB_upd, tyF, tyS, tK, lkN_w]
  · skip
    replace hE := rb_f5 hE c25
    refine ⟨fun c26 => ?_, fun c26 => ?_⟩
    · skip
      replace hE := rb_f5 hE c26
      refine hj33 _ _ ?_
      · refine and_5 ?_ (fun o9 => hE)  -- k28
        clear h hE; grind (splits := 24) [si1, si2, ri1, ri2, ri3, ri34, ri5, ri_row, eB_upd, tyF, tyS, tK, lkN_w]
    · skip
      replace hE := rb_t5 hE c26
      refine flaw_g5 hC  ?_ (fun σ_27 q28 => ?_)
      · clear h hE; grind (splits := 24) [si1, si2, ri1, ri2, ri3, ri34, ri5, ri_row, eB_upd, tyF, tyS, tK, lkN_w]  -- p29
      obtain ⟨q28, z9⟩ := q28
      replace hE := rb_p5 hE z9.symm
      clear z9
      refine hj33 _ _ ?_
      · refine and_5 ?_ (fun o9 => hE)  -- k30
        clear h hE; grind (splits := 24) [si1, si2, ri1, ri2, ri3, ri34, ri5, ri_row, eB_upd, tyF, tyS, tK, lkN_w]

theorem tellVar_g5 {C : rCx} (hC : cOK C) (B T : Int32) {σ : rS}  {Q : rS → Prop} (hp : tK σ B T ∧ tF σ ∧ tN σ ∧ rd σ 5 (σ.1 10) ≠ 5) (h : ∀ (σ' : rS), ((((∀ k, k ≠ 10 → k ≠ 11 → k ≠ 12 → k ≠ 15 → σ'.1 k = σ.1 k) ∧ (∀ k,  σ'.2.1 k = σ.2.1 k) ∧ (∀ k, k ≠ 20 → k ≠ 21 → σ'.2.2.1 k = σ.2.2.1 k) ∧ (∀ k j, k ≠ 20 → k ≠ 21 → σ'.2.2.1 k j = σ.2.2.1 k j) ∧ (∀ k j,  σ'.2.2.2 k j = σ.2.2.2 k j)) ∧ tK σ' B T ∧ tF σ' ∧ tN σ' ∧ (σ'.1 11 = 0 → σ.1 11 = 0 ∧ σ.1 10 < σ'.1 10)) ∧ g5_tellVar σ = σ') → Q σ') : cV C 4 m_tellVar [.ref (co C)] σ Q := by
  refine m_tellVar_run hC ?_
  unfold w_tellVar_0
  have hj87 : ∀ (l1 : Int32) (l2 : Int32) (τ : rS), ((((∀ k, k ≠ 10 → k ≠ 11 → k ≠ 12 → τ.1 k = σ.1 k) ∧ τ.2 = σ.2) ∧ tK τ B T ∧ (τ.1 11 = 0 → σ.1 11 = 0 ∧ σ.1 10 < τ.1 10 ∧ σ.1 15 < 10) ∧ 0 ≤ l1 ∧ l1 < 131074) ∧ g5_tellVar σ = g5_tellVar_87 l1 l2 τ) → w_tellVar_87 C Q  l1 l2 τ := by
    rintro y87_1 y87_2 τ87 ⟨j87, hE⟩
    unfold w_tellVar_87
    refine sign_g5 hC B T ?_ (fun σ_1 q2 => ?_)
    · clear h hE; grind (splits := 24) [si1, si2, ri1, ri2, ri3, ri34, ri5, ri_row, eB_upd, tyF, tyN, tK]  -- p1
    obtain ⟨q2, z9⟩ := q2
    replace hE := rb_p5 hE z9.symm
    clear z9
    refine isRight_g5 hC  (fun r3 q5 => ?_)
    obtain ⟨q5, z9⟩ := q5
    replace hE := rb_p5 hE z9
    clear z9
    refine ⟨fun c6 => ?_, fun c6 => ?_⟩
    · skip
      replace hE := rb_t5 hE c6
      refine h _ ?_
      · refine and_5 ?_ (fun o9 => hE)  -- q2
        clear h hE; grind (splits := 24) [si1, si2, ri1, ri2, ri3, ri34, ri5, ri_row, eB_upd, tyF, tyN, tK]
    · skip
      replace hE := rb_f5 hE c6
      refine ⟨ib_10.mpr ?_, ?_⟩
      · clear h hE; grind (splits := 24) [si1, si2, ri1, ri2, ri3, ri34, ri5, ri_row, eB_upd, tyF, tyN, tK]  -- b3
      intro σ_7 hσ_7
      replace hE := rb_p5 hE hσ_7
      refine ⟨ib_10.mpr ?_, ?_⟩
      · clear h hE; grind (splits := 24) [si1, si2, ri1, ri2, ri3, ri34, ri5, ri_row, eB_upd, tyF, tyN, tK]  -- b4
      intro σ_8 hσ_8
      replace hE := rb_p5 hE hσ_8
      intro σ_9 hσ_9
      replace hE := rb_p5 hE hσ_9
      refine h _ ?_
      · refine and_5 ?_ (fun o9 => hE)  -- q5
        clear h hE; have fS : ((∀ k, k ≠ 10 → k ≠ 11 → k ≠ 12 → σ_1.1 k = σ.1 k) ∧ σ_1.2 = σ.2) := by clear hσ_7 hσ_8 hσ_9; grind
        have f : σ.1 11 = 0 ∧ σ.1 10 < σ_1.1 10 ∧ σ.1 15 < 10 ∧ σ_1.1 11 = 0 ∧ 0 ≤ y87_1 ∧ y87_1 < 131074 := by clear hσ_7 hσ_8 hσ_9; grind [tK]
        have mT : tK σ_1 B T := q2.2.1
        obtain ⟨hK, hF, hN, -⟩ := hp
        clear q2 j87 q5
        refine ⟨by grind [si1, si2, ri1, ri2, ri3, ri34, ri5], by grind [tK, si1, si2, ri1, ri34], by clear hN; grind [tyF, si1, si2, ri1], by clear hF mT; grind [tyN, si2, ri3, ri_row, eB_upd], fun _ => ⟨f.1, by grind [si1, ri1]⟩⟩
  have hj82 : ∀ (l1 : Int32) (s0 : Int32) (τ : rS), ((((∀ k, k ≠ 10 → k ≠ 11 → k ≠ 12 → τ.1 k = σ.1 k) ∧ τ.2 = σ.2) ∧ tK τ B T ∧ (τ.1 11 = 0 → σ.1 11 = 0 ∧ σ.1 10 < τ.1 10 ∧ σ.1 15 < 10 ∧ rd σ 5 (τ.1 10) = 2) ∧ 0 ≤ l1 ∧ l1 < 131074) ∧ g5_tellVar σ = g5_tellVar_82 l1 s0 τ) → w_tellVar_82 C Q  l1 s0 τ := by
    rintro y82_1 y82_s0 τ82 ⟨j82, hE⟩
    unfold w_tellVar_82
    refine go_g5 hC B T ?_ (fun σ_10 q11 => ?_)
    · clear h hE; grind (splits := 24) [si1, si2, ri1, ri2, ri3, ri34, ri5, ri_row, eB_upd, tyF, tyN, tK]  -- p6
    obtain ⟨q11, z9⟩ := q11
    replace hE := rb_p5 hE z9.symm
    clear z9
    refine hj87 _ _ _ ?_
    · refine and_5 ?_ (fun o9 => hE)  -- k7
      clear h hE; grind (splits := 24) [si1, si2, ri1, ri2, ri3, ri34, ri5, ri_row, eB_upd, tyF, tyN, tK]
  have hj53 : ∀ (l1 : Int32) (l3 : Int32) (τ : rS), ((((∀ k, k ≠ 10 → k ≠ 11 → k ≠ 12 → τ.1 k = σ.1 k) ∧ τ.2 = σ.2) ∧ tK τ B T ∧ (τ.1 11 = 0 → σ.1 11 = 0 ∧ σ.1 10 < τ.1 10 ∧ σ.1 15 < 10) ∧ 0 ≤ l1 ∧ l1 < 131074) ∧ g5_tellVar σ = g5_tellVar_53 l1 l3 τ) → w_tellVar_53 C Q  l1 l3 τ := by
    rintro y53_1 y53_3 τ53 ⟨j53, hE⟩
    unfold w_tellVar_53
    refine due_g5 hC B T ?_ (fun r12 σ_13 q14 => ?_)
    · clear h hE; grind (splits := 24) [si1, si2, ri1, ri2, ri3, ri34, ri5, ri_row, eB_upd, tyF, tyN, tK]  -- p8
    obtain ⟨q14, z9⟩ := q14
    replace hE := rb_m5 hE z9
    clear z9
    refine ⟨fun c15 => ?_, fun c15 => ?_⟩
    · skip
      replace hE := rb_t5 hE c15
      refine ⟨ib_131074.mpr ?_, ?_⟩
      · clear h hE; grind (splits := 24) [si1, si2, ri1, ri2, ri3, ri34, ri5, ri_row, eB_upd, tyF, tyN, tK]  -- b9
      refine hj82 _ _ _ ?_
      · refine and_5 ?_ (fun o9 => hE)  -- k10
        clear h hE; grind (splits := 24) [si1, si2, ri1, ri2, ri3, ri34, ri5, ri_row, eB_upd, tyF, tyN, tK]
    · skip
      replace hE := rb_f5 hE c15
      refine ⟨ib_131074.mpr ?_, ?_⟩
      · clear h hE; grind (splits := 24) [si1, si2, ri1, ri2, ri3, ri34, ri5, ri_row, eB_upd, tyF, tyN, tK]  -- b11
      refine hj82 _ _ _ ?_
      · refine and_5 ?_ (fun o9 => hE)  -- k12
        clear h hE; grind (splits := 24) [si1, si2, ri1, ri2, ri3, ri34, ri5, ri_row, eB_upd, tyF, tyN, tK]
  have hE : g5_tellVar σ = g5_tellVar σ := rfl
  refine go_g5 hC B T ?_ (fun σ_16 q17 => ?_)
  · clear h hE; grind (splits := 24) [si1, si2, ri1, ri2, ri3, ri34, ri5, ri_row, eB_upd, tyF, tyN, tK]  -- p13
  obtain ⟨q17, z9⟩ := q17
  replace hE := rb_p5 hE z9.symm
  clear z9
  refine fresh_g5 hC B T ?_ (fun r18 σ_19 q20 => ?_)
  · clear h hE; grind (splits := 24) [si1, si2, ri1, ri2, ri3, ri34, ri5, ri_row, eB_upd, tyF, tyN, tK]  -- p14
  obtain ⟨q20, z9⟩ := q20
  replace hE := rb_m5 hE z9
  clear z9
  refine isRight_g5 hC  (fun r21 q23 => ?_)
  obtain ⟨q23, z9⟩ := q23
  replace hE := rb_p5 hE z9
  clear z9
  refine ⟨fun c24 => ?_, fun c24 => ?_⟩
  · skip
    replace hE := rb_t5 hE c24
    refine hj87 _ _ _ ?_
    · refine and_5 ?_ (fun o9 => hE)  -- k15
      clear h hE; grind (splits := 24) [si1, si2, ri1, ri2, ri3, ri34, ri5, ri_row, eB_upd, tyF, tyN, tK]
  · skip
    replace hE := rb_f5 hE c24
    refine isAt_g5 hC  ?_ (fun r25 q27 => ?_)
    · clear h hE; grind (splits := 24) [si1, si2, ri1, ri2, ri3, ri34, ri5, ri_row, eB_upd, tyF, tyN, tK]  -- p16
    obtain ⟨q27, z9⟩ := q27
    replace hE := rb_p5 hE z9
    clear z9
    refine ⟨fun c28 => ?_, fun c28 => ?_⟩
    · skip
      replace hE := rb_t5 hE c28
      refine hj87 _ _ _ ?_
      · refine and_5 ?_ (fun o9 => hE)  -- k17
        clear h hE; grind (splits := 24) [si1, si2, ri1, ri2, ri3, ri34, ri5, ri_row, eB_upd, tyF, tyN, tK]
    · skip
      replace hE := rb_f5 hE c28
      refine go_g5 hC B T ?_ (fun σ_29 q30 => ?_)
      · clear h hE; grind (splits := 24) [si1, si2, ri1, ri2, ri3, ri34, ri5, ri_row, eB_upd, tyF, tyN, tK]  -- p18
      obtain ⟨q30, z9⟩ := q30
      replace hE := rb_p5 hE z9.symm
      clear z9
      refine isAt_g5 hC  ?_ (fun r31 q33 => ?_)
      · clear h hE; grind (splits := 24) [si1, si2, ri1, ri2, ri3, ri34, ri5, ri_row, eB_upd, tyF, tyN, tK]  -- p19
      obtain ⟨q33, z9⟩ := q33
      replace hE := rb_p5 hE z9
      clear z9
      refine ⟨fun c34 => ?_, fun c34 => ?_⟩
      · skip
        replace hE := rb_t5 hE c34
        refine hj53 _ _ _ ?_
        · refine and_5 ?_ (fun o9 => hE)  -- k20
          clear h hE; grind (splits := 24) [si1, si2, ri1, ri2, ri3, ri34, ri5, ri_row, eB_upd, tyF, tyN, tK]
      · skip
        replace hE := rb_f5 hE c34
        refine go_g5 hC B T ?_ (fun σ_35 q36 => ?_)
        · clear h hE; grind (splits := 24) [si1, si2, ri1, ri2, ri3, ri34, ri5, ri_row, eB_upd, tyF, tyN, tK]  -- p21
        obtain ⟨q36, z9⟩ := q36
        replace hE := rb_p5 hE z9.symm
        clear z9
        refine hj53 _ _ _ ?_
        · refine and_5 ?_ (fun o9 => hE)  -- k22
          clear h hE; grind (splits := 24) [si1, si2, ri1, ri2, ri3, ri34, ri5, ri_row, eB_upd, tyF, tyN, tK]

theorem tellArr_g5 {C : rCx} (hC : cOK C) (B T : Int32) {σ : rS}  {Q : rS → Prop} (hp : tK σ B T ∧ tF σ ∧ tN σ ∧ tA σ ∧ rd σ 5 (σ.1 10) ≠ 5) (h : ∀ (σ' : rS), ((((∀ k, k ≠ 10 → k ≠ 11 → k ≠ 12 → k ≠ 13 → k ≠ 16 → k ≠ 17 → σ'.1 k = σ.1 k) ∧ (∀ k,  σ'.2.1 k = σ.2.1 k) ∧ (∀ k, k ≠ 22 → k ≠ 23 → k ≠ 24 → σ'.2.2.1 k = σ.2.2.1 k) ∧ (∀ k j, k ≠ 22 → k ≠ 23 → k ≠ 24 → σ'.2.2.1 k j = σ.2.2.1 k j) ∧ (∀ k j,  σ'.2.2.2 k j = σ.2.2.2 k j)) ∧ tK σ' B T ∧ tF σ' ∧ tN σ' ∧ tA σ' ∧ (σ'.1 11 = 0 → σ.1 11 = 0 ∧ σ.1 10 < σ'.1 10 ∧ σ'.1 13 = σ.1 13)) ∧ g5_tellArr σ = σ') → Q σ') : cV C 5 m_tellArr [.ref (co C)] σ Q := by
  refine m_tellArr_run hC ?_
  unfold w_tellArr_0
  have hj56 : ∀ (l1 : Int32) (l2 : Int32) (τ : rS), ((((∀ k, k ≠ 10 → k ≠ 11 → k ≠ 12 → k ≠ 13 → τ.1 k = σ.1 k) ∧ τ.2 = σ.2) ∧ tK τ B T ∧ 0 ≤ l1 ∧ l1 < 131074 ∧ 0 ≤ l2 ∧ l2 < 131074 ∧ (τ.1 11 = 0 → σ.1 11 = 0 ∧ σ.1 10 < τ.1 10 ∧ σ.1 16 < 3 ∧ rd σ 5 (τ.1 10) = 2 ∧ 1 ≤ rd σ 7 l2 ∧ rd σ 7 l2 ≤ 8 ∧ τ.1 13 = σ.1 13 + 1)) ∧ g5_tellArr σ = g5_tellArr_56 l1 l2 τ) → w_tellArr_56 C Q  l1 l2 τ := by
    rintro y56_1 y56_2 τ56 ⟨j56, hE⟩
    unfold w_tellArr_56
    refine go_g5 hC B T ?_ (fun σ_1 q2 => ?_)
    · clear h hE; grind (splits := 24) [tyF, tyN, tK, nb]  -- p1
    obtain ⟨q2, z9⟩ := q2
    replace hE := rb_p5 hE z9.symm
    clear z9
    refine close_g5 hC B T ?_ (fun σ_3 q4 => ?_)
    · clear h hE; grind (splits := 24) [tyF, tyN, tK, nb]  -- p2
    obtain ⟨q4, z9⟩ := q4
    replace hE := rb_p5 hE z9.symm
    clear z9
    refine sign_g5 hC B T ?_ (fun σ_5 q6 => ?_)
    · clear h hE; grind (splits := 24) [tyF, tyN, tK, nb]  -- p3
    obtain ⟨q6, z9⟩ := q6
    replace hE := rb_p5 hE z9.symm
    clear z9
    refine isRight_g5 hC  (fun r7 q9 => ?_)
    obtain ⟨q9, z9⟩ := q9
    replace hE := rb_p5 hE z9
    clear z9
    refine ⟨fun c10 => ?_, fun c10 => ?_⟩
    · skip
      replace hE := rb_t5 hE c10
      refine h _ ?_
      · refine and_5 ?_ (fun o9 => hE)  -- q4
        clear h hE; grind (splits := 24) [tyF, tyN, tK, nb]
    · skip
      replace hE := rb_f5 hE c10
      refine ⟨ib_3.mpr ?_, ?_⟩
      · clear h hE; grind (splits := 24) [ri1, si1, tyF, tK, nb]  -- b5
      intro σ_11 hσ_11
      replace hE := rb_p5 hE hσ_11
      refine ⟨ib_131074.mpr ?_, ?_⟩
      · clear h hE; grind (splits := 24) [ri1, si1, tyF, tK, nb]  -- b6
      refine ⟨ib_3.mpr ?_, ?_⟩
      · clear h hE; grind (splits := 24) [ri1, si1, tyF, tK, nb]  -- b7
      intro σ_12 hσ_12
      replace hE := rb_p5 hE hσ_12
      refine ⟨ib_3.mpr ?_, ?_⟩
      · clear h hE; grind (splits := 24) [ri1, si1, tyF, tK, nb]  -- b8
      intro σ_13 hσ_13
      replace hE := rb_p5 hE hσ_13
      refine ⟨ib_131074.mpr ?_, ?_⟩
      · clear h hE; grind (splits := 24) [ri1, si1, tyF, tK, nb]  -- b9
      intro σ_14 hσ_14
      replace hE := rb_p5 hE hσ_14
      intro σ_15 hσ_15
      replace hE := rb_p5 hE hσ_15
      refine h _ ?_
      · refine and_5 ?_ (fun o9 => hE)  -- q10
        clear h hE; have fS : ((∀ k, k ≠ 10 → k ≠ 11 → k ≠ 12 → k ≠ 13 → σ_5.1 k = σ.1 k) ∧ σ_5.2 = σ.2) := by clear hσ_11 hσ_12 hσ_13 hσ_14 hσ_15; grind
        have f : σ.1 11 = 0 ∧ σ.1 10 < σ_5.1 10 ∧ σ.1 16 < 3 ∧ σ_5.1 11 = 0 ∧ 0 ≤ y56_1 ∧ y56_1 < 131074 ∧ 1 ≤ rd σ 7 y56_2 ∧ rd σ 7 y56_2 ≤ 8 ∧ σ_5.1 13 = σ.1 13 := by clear hσ_11 hσ_12 hσ_13 hσ_14 hσ_15; grind [tK]
        have mT : tK σ_5 B T := q6.2.1
        obtain ⟨hK, hF, hN, hA, -⟩ := hp
        clear q2 q4 q6 j56 q9
        have e7 : rd σ_11 7 y56_2 = rd σ 7 y56_2 ∧ rd σ_13 7 y56_2 = rd σ 7 y56_2 := by clear hF hN hA mT; grind [si2, ri34]
        have e17 : σ_12.1 17 = σ.1 17 ∧ σ_12.1 16 = σ.1 16 ∧ σ_13.1 17 = σ.1 17 ∧ σ_14.1 16 = σ.1 16 := by clear hF hN hA mT e7; grind [si1, si2, ri1]
        refine ⟨by clear hF hN hA mT e7 e17; grind (gen := 20) [si1, si2, ri1, ri2, ri3, ri34, ri5], by clear hF hN hA e7 e17; grind (gen := 20) [tK, si1, si2, ri1, ri34], by clear hN hA mT; grind [tyF, si1, si2, ri1], by clear hF hA mT e7 e17; grind [tyN, si2, ri3, ri_row, eB_upd], ?_, fun _ => ⟨f.1, by clear hF hN hA mT e7; grind [si1, si2, ri1], by clear hF hN hA mT e7; grind [si1, si2, ri1]⟩⟩
        have h17 : 0 ≤ σ.1 17 ∧ σ.1 17 < 17 := by clear hN hA mT e7; grind [tyF]
        clear hF hN mT
        grind [tyA, si2, ri3, ri_row, eB_upd]
  have hE : g5_tellArr σ = g5_tellArr σ := rfl
  refine go_g5 hC B T ?_ (fun σ_16 q17 => ?_)
  · clear h hE; grind (splits := 24) [tyF, tyN, tK, nb]  -- p11
  obtain ⟨q17, z9⟩ := q17
  replace hE := rb_p5 hE z9.symm
  clear z9
  refine fresh_g5 hC B T ?_ (fun r18 σ_19 q20 => ?_)
  · clear h hE; grind (splits := 24) [tyF, tyN, tK, nb]  -- p12
  obtain ⟨q20, z9⟩ := q20
  replace hE := rb_m5 hE z9
  clear z9
  refine open_g5 hC B T ?_ (fun σ_21 q22 => ?_)
  · clear h hE; grind (splits := 24) [tyF, tyN, tK, nb]  -- p13
  obtain ⟨q22, z9⟩ := q22
  replace hE := rb_p5 hE z9.symm
  clear z9
  refine due_g5 hC B T ?_ (fun r23 σ_24 q25 => ?_)
  · clear h hE; grind (splits := 24) [tyF, tyN, tK, nb]  -- p14
  obtain ⟨q25, z9⟩ := q25
  replace hE := rb_m5 hE z9
  clear z9
  have F : ((∀ k, k ≠ 10 → k ≠ 11 → k ≠ 12 → k ≠ 13 → σ_24.1 k = σ.1 k) ∧ σ_24.2 = σ.2) := ⟨fun k z1 z2 z3 z4 => (q25.1.1 k z2 z3).trans ((q22.1.1 k z1 z2 z3 z4).trans ((q20.1.1 k z1 z2 z3).trans (q17.1.1 k z1 z2 z3))), by rw [q25.1.2, q22.1.2, q20.1.2, q17.1.2]⟩
  have R : σ_21.2 = σ.2 := by rw [q22.1.2, q20.1.2, q17.1.2]
  have t16 := tk_b q17.2.1
  have t21 := tk_b q22.2.1
  have t0 := tk_b hp.1
  have t19 := tk_b q20.2.1
  have G : σ_24.1 11 = 0 → σ.1 11 = 0 ∧ σ.1 10 < σ_24.1 10 ∧ σ.1 16 < 3 ∧ rd σ 5 (σ_24.1 10) = 2 ∧ σ_24.1 13 = σ.1 13 + 1 := fun f => by
    obtain ⟨f1, f2⟩ := q25.2.2.2.2 f
    have e1 := q22.2.2.1.mp f1
    have e2 := q22.2.2.2 f1
    obtain ⟨f3, -, f5, f6, -⟩ := q20.2.2.2.2 e1.1
    have e4 := (q17.2.2.2.2.mp f3).1
    have e5 := q17.2.2.2.1 e4
    have l1 : σ.1 10 < σ_16.1 10 := lt1p t0.1 t0.2 e5
    have l2 : σ_16.1 10 < σ_19.1 10 := lt1p t16.1 t16.2 f6
    have l3 : σ_19.1 10 < σ_21.1 10 := lt1p t19.1 t19.2 e2.1
    have a24 : σ_24.1 10 = σ_21.1 10 := q25.1.1 10 (by decide) (by decide)
    refine ⟨e4, by rw [a24]; exact Int32.lt_trans l1 (Int32.lt_trans l2 l3), by rw [← q17.1.1 16 (by decide) (by decide) (by decide)]; exact f5, ?_, ?_⟩
    · rw [rd, R] at f2; rw [a24]; exact f2
    · rw [q25.1.1 13 (by decide) (by decide), e2.2, q20.1.1 13 (by decide) (by decide) (by decide), q17.1.1 13 (by decide) (by decide) (by decide)]
  have r18b : 0 ≤ r18 ∧ r18 < 131074 := by rw [q20.2.2.1]; exact t16
  have r23b : 0 ≤ r23 ∧ r23 < 131074 := by rw [q25.2.2.1]; exact t21
  refine isRight_g5 hC  (fun r26 q28 => ?_)
  obtain ⟨q28, z9⟩ := q28
  replace hE := rb_p5 hE z9
  clear z9
  refine ⟨fun c29 => ?_, fun c29 => ?_⟩
  · skip
    replace hE := rb_t5 hE c29
    refine hj56 _ _ _ ?_
    · refine and_5 ?_ (fun o9 => hE)  -- k15
      clear h hE; exact ⟨F, q25.2.1, r18b.1, r18b.2, r23b.1, r23b.2, fun f => absurd c29 (q28.2.mpr f)⟩
  · skip
    replace hE := rb_f5 hE c29
    refine ⟨ib_131074.mpr ?_, ?_⟩
    · clear h hE; exact r23b  -- b16
    refine within_g5 hC  (fun r30 q32 => ?_)
    obtain ⟨q32, z9⟩ := q32
    replace hE := rb_p5 hE z9
    clear z9
    refine ⟨fun c33 => ?_, fun c33 => ?_⟩
    · skip
      replace hE := rb_f5 hE c33
      refine hj56 _ _ _ ?_
      · refine and_5 ?_ (fun o9 => hE)  -- k17
        clear h hE; refine ⟨F, q25.2.1, r18b.1, r18b.2, r23b.1, r23b.2, fun f => ?_⟩
        obtain ⟨g1, g2, g3, g4, g5⟩ := G f
        have w := q32.2.mp c33
        rw [F.2] at w
        exact ⟨g1, g2, g3, g4, w.1, w.2, g5⟩
    · skip
      replace hE := rb_t5 hE c33
      refine flaw_g5 hC  ?_ (fun σ_34 q35 => ?_)
      · clear h hE; exact ⟨r23b.1, r23b.2, by decide⟩  -- p18
      obtain ⟨q35, z9⟩ := q35
      replace hE := rb_p5 hE z9.symm
      clear z9
      refine hj56 _ _ _ ?_
      · refine and_5 ?_ (fun o9 => hE)  -- k19
        clear h hE; refine ⟨⟨fun k z1 z2 z3 z4 => (q35.1.1 k z2 z3).trans (F.1 k z1 z2 z3 z4), by rw [q35.1.2]; exact F.2⟩, tk_fl q25.2.1 q35, r18b.1, r18b.2, r23b.1, r23b.2, fun f => absurd f q35.2.2.1⟩

theorem arguments_g5 {C : rCx} (hC : cOK C) (B T : Int32) {σ : rS}  {Q : rS → Prop} (hp : p0 σ B T ∧ (σ.1 11 = 0 → 0 ≤ σ.1 13 ∧ σ.1 13 ≤ 40)) (h : ∀ (σ' : rS), ((aI σ σ' B T ∧ (σ'.1 11 = 0 → σ.1 11 = 0 ∧ σ.1 10 < σ'.1 10 ∧ σ'.1 13 = σ.1 13 ∧ sg (σ.2.2.1 5) (σ.2.2.1 7) (σ.1 10) 40 ∧ ∃ n, gN (σ.2.2.1 5) (σ.2.2.1 7) (σ'.2.2.1 39) (σ'.1 10) n (σ.1 10 + 1))) ∧ g5_arguments σ = σ') → Q σ') : cV C 7 m_arguments [.ref (co C)] σ Q := by
  refine m_arguments_run hC ?_
  unfold w_arguments_0
  obtain ⟨hP, hO⟩ := hp
  have hj77 : ∀  (τ : rS), ((aI σ τ B T ∧ (τ.1 11 = 0 → σ.1 11 = 0 ∧ sg (σ.2.2.1 5) (σ.2.2.1 7) (σ.1 10) 40 ∧ σ.1 10 < τ.1 10 ∧ σ.1 13 < 40 ∧ τ.1 13 = σ.1 13 + 1 ∧ ((τ.1 10 = σ.1 10 + 1) ∨ ∃ i b, gP (σ.2.2.1 5) (σ.2.2.1 7) (τ.2.2.1 39) (σ.1 10 + 1) i b ∧ ePa (σ.2.2.1 5) (σ.2.2.1 7) (τ.2.2.1 39) b (τ.1 10) ∧ b ≤ τ.1 10))) ∧ g5_arguments σ = g5_arguments_77 τ) → w_arguments_77 C Q   τ := by
    rintro  τ77 ⟨j77, hE⟩
    unfold w_arguments_77
    refine close_g5 hC B T ?_ (fun σ_1 q2 => ?_)
    · clear h hE; exact j77.1.2.1.1  -- p1
    obtain ⟨q2, z9⟩ := q2
    replace hE := rb_p5 hE z9.symm
    clear z9
    refine sign_g5 hC B T ?_ (fun σ_3 q4 => ?_)
    · clear h hE; exact q2.2.1  -- p2
    obtain ⟨q4, z9⟩ := q4
    replace hE := rb_p5 hE z9.symm
    clear z9
    refine h _ ?_
    · refine and_5 ?_ (fun o9 => hE)  -- q3
      clear h hE; have a1 := aI_fr j77.1 q2.2.1 q2.1 (fun z e => z (q2.2.2.1.mp e).1)
      have a2 := aI_fr a1 q4.2.1 ⟨fun k z1 z2 z3 _ => q4.1.1 k z1 z2 z3, q4.1.2⟩ (fun z e => z (q4.2.2.2.1.mp e).1)
      refine ⟨a2, fun f => ?_⟩
      have f1 := (q4.2.2.2.1.mp f).1
      have f0 := q2.2.2.1.mp f1
      obtain ⟨n1, n2, n3, n4, n5, n6⟩ := j77.2 f0.1
      have r5 : τ77.2.2.1 5 = σ.2.2.1 5 := j77.1.1.2.2.1 5 (by decide) (by decide) (by decide) (by decide)
      have r7 : τ77.2.2.1 7 = σ.2.2.1 7 := j77.1.1.2.2.1 7 (by decide) (by decide) (by decide) (by decide)
      have sg41 : sg (σ.2.2.1 5) (σ.2.2.1 7) (τ77.1 10) 41 := ⟨by rw [← r5]; exact f0.2.1, by rw [← r7]; exact f0.2.2.1⟩
      have at1 := q2.2.2.2 f1
      have at3 := q4.2.2.2.2 f
      have R3 : σ_3.2.2.1 39 = τ77.2.2.1 39 := by rw [q4.1.2, q2.1.2]
      have lt : τ77.1 10 < σ_3.1 10 := by
        have t1 := j77.1.2.1.1
        clear j77 n6 q4 q2 a1 a2 hP hO
        grind [tK]
      refine ⟨n1, Int32.lt_trans n3 lt, by rw [q4.1.1 13 (by decide) (by decide) (by decide), at1.2, n5]; grind, n2, ?_⟩
      rw [R3]
      rcases n6 with e | ⟨i, b, m1, m2, m3⟩
      · exact ⟨0, by rw [← e]; exact ⟨sg41, lt⟩⟩
      · exact ⟨i + 0 + 1, gP_B (k := 0) m1 (Int32.le_trans m3 (Int32.le_of_lt lt)) ⟨τ77.1 10, m2, m3, lt, sg41⟩⟩
  have hh28 : ∀ (l1 : Int32) (τ : rS), ((aI σ τ B T ∧ nb l1 ∧ (τ.1 11 = 0 → σ.1 11 = 0 ∧ sg (σ.2.2.1 5) (σ.2.2.1 7) (σ.1 10) 40 ∧ σ.1 10 < τ.1 10 ∧ σ.1 13 < 40 ∧ τ.1 13 = σ.1 13 + 1 ∧ (l1 ≠ 0 → ∃ i, gP (σ.2.2.1 5) (σ.2.2.1 7) (τ.2.2.1 39) (σ.1 10 + 1) i (τ.1 10)) ∧ (l1 = 0 → (τ.1 10 = σ.1 10 + 1) ∨ ∃ i b, gP (σ.2.2.1 5) (σ.2.2.1 7) (τ.2.2.1 39) (σ.1 10 + 1) i b ∧ ePa (σ.2.2.1 5) (σ.2.2.1 7) (τ.2.2.1 39) b (τ.1 10) ∧ b ≤ τ.1 10))) ∧ ∃ m5, eMs (τ.1 11) 0 (if l1 = 0 then 2 else 0) (τ.1 10) T < m5 ∧ g5_arguments σ = g5_arguments_28 m5 l1 τ) → w_arguments_28 C Q  l1 τ := by
    intro z1 τi hinit
    unfold w_arguments_28
    refine ⟨fun n l1 τ => n = eMs (τ.1 11) 0 (if l1 = 0 then 2 else 0) (τ.1 10) T ∧ ((aI σ τ B T ∧ nb l1 ∧ (τ.1 11 = 0 → σ.1 11 = 0 ∧ sg (σ.2.2.1 5) (σ.2.2.1 7) (σ.1 10) 40 ∧ σ.1 10 < τ.1 10 ∧ σ.1 13 < 40 ∧ τ.1 13 = σ.1 13 + 1 ∧ (l1 ≠ 0 → ∃ i, gP (σ.2.2.1 5) (σ.2.2.1 7) (τ.2.2.1 39) (σ.1 10 + 1) i (τ.1 10)) ∧ (l1 = 0 → (τ.1 10 = σ.1 10 + 1) ∨ ∃ i b, gP (σ.2.2.1 5) (σ.2.2.1 7) (τ.2.2.1 39) (σ.1 10 + 1) i b ∧ ePa (σ.2.2.1 5) (σ.2.2.1 7) (τ.2.2.1 39) b (τ.1 10) ∧ b ≤ τ.1 10))) ∧ ∃ m5, n < m5 ∧ g5_arguments σ = g5_arguments_28 m5 l1 τ), ⟨_, rfl, hinit⟩, ?_⟩
    clear hinit
    rintro n28 x28_1 σ28 ⟨hn28, i28, m28, hm28, hE⟩
    obtain ⟨m28, rfl⟩ : ∃ m9, m28 = m9 + 1 := ⟨m28 - 1, by clear h hE; omega⟩
    have hj65 : ∀ (s0 : Int32) (τ : rS), ((σ28.1 11 = 0 ∧ x28_1 ≠ 0 ∧ aI σ τ B T ∧ nb s0 ∧ (τ.1 11 ≠ 0 → s0 = 0) ∧ (τ.1 11 = 0 → σ28.1 10 ≤ τ.1 10 ∧ σ.1 11 = 0 ∧ sg (σ.2.2.1 5) (σ.2.2.1 7) (σ.1 10) 40 ∧ σ.1 10 < τ.1 10 ∧ σ.1 13 < 40 ∧ τ.1 13 = σ.1 13 + 1 ∧ (s0 ≠ 0 → sg (σ.2.2.1 5) (σ.2.2.1 7) (τ.1 10) 44) ∧ ∃ i b, gP (σ.2.2.1 5) (σ.2.2.1 7) (τ.2.2.1 39) (σ.1 10 + 1) i b ∧ ePa (σ.2.2.1 5) (σ.2.2.1 7) (τ.2.2.1 39) b (τ.1 10) ∧ b ≤ τ.1 10)) ∧ g5_arguments σ = g5_arguments_65 (g5_arguments_28 m28) s0 τ) → w_arguments_65 C Q (fun l1' τ => ∃ k < n28, (fun n l1 τ => n = eMs (τ.1 11) 0 (if l1 = 0 then 2 else 0) (τ.1 10) T ∧ ((aI σ τ B T ∧ nb l1 ∧ (τ.1 11 = 0 → σ.1 11 = 0 ∧ sg (σ.2.2.1 5) (σ.2.2.1 7) (σ.1 10) 40 ∧ σ.1 10 < τ.1 10 ∧ σ.1 13 < 40 ∧ τ.1 13 = σ.1 13 + 1 ∧ (l1 ≠ 0 → ∃ i, gP (σ.2.2.1 5) (σ.2.2.1 7) (τ.2.2.1 39) (σ.1 10 + 1) i (τ.1 10)) ∧ (l1 = 0 → (τ.1 10 = σ.1 10 + 1) ∨ ∃ i b, gP (σ.2.2.1 5) (σ.2.2.1 7) (τ.2.2.1 39) (σ.1 10 + 1) i b ∧ ePa (σ.2.2.1 5) (σ.2.2.1 7) (τ.2.2.1 39) b (τ.1 10) ∧ b ≤ τ.1 10))) ∧ ∃ m5, n < m5 ∧ g5_arguments σ = g5_arguments_28 m5 l1 τ)) k l1' τ) s0 τ := by
      clear hE
      rintro y65_s0 τ65 ⟨j65, hE⟩
      unfold w_arguments_65
      have a0 : 0 ≤ σ28.1 10 := Int32.le_trans i28.1.2.1.1.1 i28.1.2.1.1.2.2.2.2.1
      refine ⟨fun c5 => ?_, fun c5 => ?_⟩
      · skip
        replace hE := rb_t5 hE c5
        refine lp_b5 ?_ (fun d9 => ⟨rfl, ?_⟩)
        · clear h hE; obtain ⟨k1, k2, k3, k4, k5, k6⟩ := j65
          show eMs (τ65.1 11) 0 (if y65_s0 = 0 then 2 else 0) (τ65.1 10) T < n28
          rw [if_pos c5, hn28, k1, if_neg k2]
          exact eMs_lt (by decide) (fun _ _ z => absurd rfl z) (Int32.le_trans i28.1.2.1.1.1 i28.1.2.1.1.2.2.2.2.1) k3.2.1.1.2.2.2.2.2
        · refine and_5 ?_ (fun o9 => ⟨m28, Nat.lt_of_lt_of_le d9 (Nat.le_of_lt_succ hm28), hE⟩)  -- i5
          clear h hE d9 hm28; obtain ⟨k1, k2, k3, k4, k5, k6⟩ := j65
          refine ⟨k3, k4, fun f => ?_⟩
          obtain ⟨m1, m2, m3, m4, m5, m6, m7, i, b, m8, m9, m10⟩ := k6 f
          exact ⟨m2, m3, m4, m5, m6, fun z => absurd c5 z, fun _ => Or.inr ⟨i, b, m8, m9, m10⟩⟩
      · skip
        replace hE := rb_f5 hE c5
        refine go_g5 hC B T ?_ (fun σ_6 q7 => ?_)
        · clear h hE; obtain ⟨k1, k2, k3, k4, k5, k6⟩ := j65
          refine ⟨k3.2.1.1, fun f => ?_⟩
          obtain ⟨m1, m2, m3, m4, m5, m6, m7, i, b, m8, m9, m10⟩ := k6 f
          have r5 : τ65.2.2.1 5 = σ.2.2.1 5 := k3.1.2.2.1 5 (by decide) (by decide) (by decide) (by decide)
          have := (m7 c5).1
          rw [rd, r5, this]; decide
        obtain ⟨q7, z9⟩ := q7
        replace hE := rb_p5 hE z9.symm
        clear z9
        refine lp_b5 ?_ (fun d9 => ⟨rfl, ?_⟩)
        · clear h hE; obtain ⟨k1, k2, k3, k4, k5, k6⟩ := j65
          show eMs (σ_6.1 11) 0 (if y65_s0 = 0 then 2 else 0) (σ_6.1 10) T < n28
          have f0 : τ65.1 11 = 0 := Decidable.byContradiction (fun z => c5 (k5 z))
          obtain ⟨m1, -⟩ := k6 f0
          rw [if_neg c5, hn28, k1, if_neg k2]
          refine eMs_lt (by decide) (fun _ _ _ => ?_) (Int32.le_trans i28.1.2.1.1.1 i28.1.2.1.1.2.2.2.2.1) q7.2.1.2.2.2.2.2
          have t1 := k3.2.1.1
          have t2 := q7.2.2.2.1 f0
          rw [t2]
          clear q7 k3 k6 i28 hP hO
          grind [tK]
        · refine and_5 ?_ (fun o9 => ⟨m28, Nat.lt_of_lt_of_le d9 (Nat.le_of_lt_succ hm28), hE⟩)  -- i8
          clear h hE d9 hm28; obtain ⟨k1, k2, k3, k4, k5, k6⟩ := j65
          have f0 : τ65.1 11 = 0 := Decidable.byContradiction (fun z => c5 (k5 z))
          obtain ⟨m1, m2, m3, m4, m5, m6, m7, i, b, m8, m9, m10⟩ := k6 f0
          have a2 := aI_fr k3 q7.2.1 ⟨fun k z1 z2 z3 _ => q7.1.1 k z1 z2 z3, q7.1.2⟩ (fun z => absurd f0 z)
          have t2 := q7.2.2.2.1 f0
          have lt : τ65.1 10 < σ_6.1 10 := by
            have t1 := k3.2.1.1
            rw [t2]
            clear q7 k3 k6 i28 hP hO m8 m9 a2
            grind [tK]
          refine ⟨a2, k4, fun f => ⟨m2, m3, Int32.lt_trans m4 lt, m5, by rw [q7.1.1 13 (by decide) (by decide) (by decide)]; exact m6, fun _ => ⟨i + 1, b, τ65.1 10, ?_, ?_, m10, lt, t2, m7 c5⟩, fun z => absurd z c5⟩⟩
          · rw [q7.1.2]; exact m8
          · rw [q7.1.2]; exact m9
    refine isRight_g5 hC  (fun r8 q10 => ?_)
    obtain ⟨q10, z9⟩ := q10
    replace hE := rb_p5 hE z9
    clear z9
    refine ⟨fun c11 => ?_, fun c11 => ?_⟩
    · skip
      replace hE := rb_t5 hE c11
      refine hj77 _ ?_
      · refine and_5 ?_ (fun o9 => hE)  -- k9
        clear h hE; exact ⟨i28.1, fun f => absurd c11 (q10.2.mpr f)⟩
    · skip
      replace hE := rb_f5 hE c11
      refine ⟨fun c12 => ?_, fun c12 => ?_⟩
      · skip
        replace hE := rb_t5 hE c12
        refine hj77 _ ?_
        · refine and_5 ?_ (fun o9 => hE)  -- k10
          clear h hE; exact ⟨i28.1, fun f => ⟨(i28.2.2 f).1, (i28.2.2 f).2.1, (i28.2.2 f).2.2.1, (i28.2.2 f).2.2.2.1, (i28.2.2 f).2.2.2.2.1, (i28.2.2 f).2.2.2.2.2.2 c12⟩⟩
      · skip
        replace hE := rb_f5 hE c12
        refine expr0_g5 hC B T ?_ (fun r13 σ_14 q15 => ?_)
        · clear h hE; refine ⟨i28.1.2.1, fun f => ?_⟩
          have z := i28.2.2 f
          have z2 := hO z.1
          rw [z.2.2.2.2.1]
          have z3 := z.2.2.2.1
          clear z i28 q10 hP
          grind
        obtain ⟨q15, z9⟩ := q15
        replace hE := rb_m5 hE z9
        clear z9
        have e11 : σ28.1 11 = 0 := q10.2.mp c11
        have i3 := i28.2.2 e11
        have aE := aI_ex i28.1 q15.1 q15.2.1 q15.2.2.1 q15.2.2.2.1 q15.2.2.2.2.2 (fun _ => Int32.le_of_lt i3.2.2.1)
        obtain ⟨i, hgp⟩ := i3.2.2.2.2.2.1 c12
        have r5 : σ28.2.2.1 5 = σ.2.2.1 5 := i28.1.1.2.2.1 5 (by decide) (by decide) (by decide) (by decide)
        have r7 : σ28.2.2.1 7 = σ.2.2.1 7 := i28.1.1.2.2.1 7 (by decide) (by decide) (by decide) (by decide)
        have A1 : 0 ≤ σ.1 10 + 1 := by
          have t1 := hP.1
          clear hP hO i28 i3 aE hgp q15
          grind [tK]
        have nx : σ_14.1 11 = 0 → (σ28.1 10 ≤ σ_14.1 10 ∧ σ.1 10 < σ_14.1 10 ∧ σ_14.1 13 = σ.1 13 + 1 ∧ gP (σ.2.2.1 5) (σ.2.2.1 7) (σ_14.2.2.1 39) (σ.1 10 + 1) i (σ28.1 10) ∧ ePa (σ.2.2.1 5) (σ.2.2.1 7) (σ_14.2.2.1 39) (σ28.1 10) (σ_14.1 10)) := fun f => by
          obtain ⟨z1, z2, z3, z4⟩ := q15.2.2.2.2.1 f
          exact ⟨z2, Int32.lt_of_lt_of_le i3.2.2.1 z2, by rw [z3]; exact i3.2.2.2.2.1, gP_R A1 hgp q15.2.2.2.1, by rw [← r5, ← r7]; exact z4⟩
        refine isRight_g5 hC  (fun r16 q18 => ?_)
        obtain ⟨q18, z9⟩ := q18
        replace hE := rb_p5 hE z9
        clear z9
        refine ⟨fun c19 => ?_, fun c19 => ?_⟩
        · skip
          replace hE := rb_t5 hE c19
          refine hj65 _ _ ?_
          · refine and_5 ?_ (fun o9 => hE)  -- k12
            clear h hE; exact ⟨e11, c12, aE, nb_0, fun _ => rfl, fun f => absurd c19 (q18.2.mpr f)⟩
        · skip
          replace hE := rb_f5 hE c19
          refine isAt_g5 hC  ?_ (fun r20 q22 => ?_)
          · clear h hE; exact ⟨Int32.le_trans aE.2.1.1.1 aE.2.1.1.2.2.2.2.1, by have := aE.2.1.1; clear i28 i3 aE hgp q15 hP nx; grind [tK]⟩  -- p13
          obtain ⟨q22, z9⟩ := q22
          replace hE := rb_p5 hE z9
          clear z9
          refine ⟨fun c23 => ?_, fun c23 => ?_⟩
          · skip
            replace hE := rb_t5 hE c23
            refine hj65 _ _ ?_
            · refine and_5 ?_ (fun o9 => hE)  -- k14
              clear h hE; exact ⟨e11, c12, aE, nb_0, fun _ => rfl, fun f => ⟨(nx f).1, i3.1, i3.2.1, (nx f).2.1, i3.2.2.2.1, (nx f).2.2.1, fun z => absurd rfl z, i, σ28.1 10, (nx f).2.2.2.1, (nx f).2.2.2.2, (nx f).1⟩⟩
          · skip
            replace hE := rb_f5 hE c23
            refine hj65 _ _ ?_
            · refine and_5 ?_ (fun o9 => hE)  -- k15
              clear h hE; have s5 : σ_14.2.2.1 5 = σ.2.2.1 5 := aE.1.2.2.1 5 (by decide) (by decide) (by decide) (by decide)
              have s7 : σ_14.2.2.1 7 = σ.2.2.1 7 := aE.1.2.2.1 7 (by decide) (by decide) (by decide) (by decide)
              have sq : sg (σ.2.2.1 5) (σ.2.2.1 7) (σ_14.1 10) 44 := by
                have := q22.2.mp c23
                exact ⟨by rw [← s5]; exact this.1, by rw [← s7]; exact this.2⟩
              exact ⟨e11, c12, aE, nb_1, fun z => absurd (q18.2.mp c19) z, fun f => ⟨(nx f).1, i3.1, i3.2.1, (nx f).2.1, i3.2.2.2.1, (nx f).2.2.1, fun _ => sq, i, σ28.1 10, (nx f).2.2.2.1, (nx f).2.2.2.2, (nx f).1⟩⟩
  have hE : g5_arguments σ = g5_arguments σ := rfl
  refine open_g5 hC B T ?_ (fun σ_24 q25 => ?_)
  · clear h hE; exact hP.1  -- p16
  obtain ⟨q25, z9⟩ := q25
  replace hE := rb_p5 hE z9.symm
  clear z9
  have aO := aI_fr (aI_refl hP) q25.2.1 q25.1 (fun z e => z (q25.2.2.1.mp e).1)
  have nO : σ_24.1 11 = 0 → σ.1 11 = 0 ∧ sg (σ.2.2.1 5) (σ.2.2.1 7) (σ.1 10) 40 ∧ σ.1 10 < σ_24.1 10 ∧ σ.1 13 < 40 ∧ σ_24.1 13 = σ.1 13 + 1 ∧ σ_24.1 10 = σ.1 10 + 1 := fun f => by
    have z := q25.2.2.1.mp f
    have z2 := q25.2.2.2 f
    have t1 := hP.1
    have o1 := hO z.1
    refine ⟨z.1, ⟨z.2.1, z.2.2.1⟩, ?_, ?_, z2.2, z2.1⟩
    · rw [z2.1]; clear hP hO aO q25 z2 z o1; grind [tK]
    · have := z.2.2.2.2; clear hP hO aO q25 z2 z t1; grind
  refine isRight_g5 hC  (fun r26 q28 => ?_)
  obtain ⟨q28, z9⟩ := q28
  replace hE := rb_p5 hE z9
  clear z9
  refine ⟨fun c29 => ?_, fun c29 => ?_⟩
  · skip
    replace hE := rb_t5 hE c29
    refine hh28 _ _ ?_
    · refine and_5 ?_ (fun o9 => ⟨fu5, by first | exact eMs_5 | (clear h hE; unfold fu5; omega), hE⟩)  -- j17
      clear h hE; exact ⟨aO, nb_0, fun f => absurd c29 (q28.2.mpr f)⟩
  · skip
    replace hE := rb_f5 hE c29
    refine isAt_g5 hC  ?_ (fun r30 q32 => ?_)
    · clear h hE; exact ⟨Int32.le_trans aO.2.1.1.1 aO.2.1.1.2.2.2.2.1, by have := aO.2.1.1; clear aO q25 hP nO; grind [tK]⟩  -- p18
    obtain ⟨q32, z9⟩ := q32
    replace hE := rb_p5 hE z9
    clear z9
    refine ⟨fun c33 => ?_, fun c33 => ?_⟩
    · skip
      replace hE := rb_f5 hE c33
      refine hh28 _ _ ?_
      · refine and_5 ?_ (fun o9 => ⟨fu5, by first | exact eMs_5 | (clear h hE; unfold fu5; omega), hE⟩)  -- j19
        clear h hE; exact ⟨aO, nb_0, fun f => ⟨(nO f).1, (nO f).2.1, (nO f).2.2.1, (nO f).2.2.2.1, (nO f).2.2.2.2.1, fun z => absurd rfl z, fun _ => Or.inl (nO f).2.2.2.2.2⟩⟩
    · skip
      replace hE := rb_t5 hE c33
      refine hh28 _ _ ?_
      · refine and_5 ?_ (fun o9 => ⟨fu5, by first | exact eMs_5 | (clear h hE; unfold fu5; omega), hE⟩)  -- j20
        clear h hE; exact ⟨aO, nb_1, fun f => ⟨(nO f).1, (nO f).2.1, (nO f).2.2.1, (nO f).2.2.2.1, (nO f).2.2.2.2.1, fun _ => ⟨0, (nO f).2.2.2.2.2⟩, fun z => absurd z (by decide)⟩⟩

theorem tellDraw_g5 {C : rCx} (hC : cOK C) (B T : Int32) {σ : rS}  {Q : rS → Prop} (hp : p0 σ B T ∧ (σ.1 11 = 0 → 0 ≤ σ.1 13 ∧ σ.1 13 ≤ 40)) (h : ∀ (σ' : rS), ((aI σ σ' B T ∧ (σ'.1 11 = 0 → σ.1 11 = 0 ∧ σ.1 10 < σ'.1 10 ∧ σ'.1 13 = σ.1 13 ∧ drO (σ.2.2.1 5) (σ.2.2.1 7) (σ'.2.2.1 39) (σ'.1 10) (σ.1 10))) ∧ g5_tellDraw σ = σ') → Q σ') : cV C 7 m_tellDraw [.ref (co C)] σ Q := by
  refine m_tellDraw_run hC ?_
  unfold w_tellDraw_0
  obtain ⟨hP, hO⟩ := hp
  have hS := aI_refl hP
  have hj172 : ∀  (τ : rS), ((aI σ τ B T ∧ (τ.1 11 = 0 → dB0 σ τ ∧ ∃ i p e, i < 8 ∧ prP (σ.2.2.1 5) (σ.2.2.1 7) (τ.2.2.1 39) (σ.1 10) i p ∧ p < p + 1 ∧ ePa (σ.2.2.1 5) (σ.2.2.1 7) (τ.2.2.1 39) (p + 1) e ∧ p + 1 ≤ e ∧ e < e + 1 ∧ ePa (σ.2.2.1 5) (σ.2.2.1 7) (τ.2.2.1 39) (e + 1) (τ.1 10) ∧ e + 1 ≤ τ.1 10 ∧ ¬ sg (σ.2.2.1 5) (σ.2.2.1 7) (τ.1 10) 44)) ∧ g5_tellDraw σ = g5_tellDraw_172 τ) → w_tellDraw_172 C Q   τ := by
    rintro  τ172 ⟨j172, hE⟩
    unfold w_tellDraw_172
    refine close_g5 hC B T ?_ (fun σ_1 q2 => ?_)
    · clear h hE; exact j172.1.2.1.1  -- p1
    obtain ⟨q2, z9⟩ := q2
    replace hE := rb_p5 hE z9.symm
    clear z9
    refine sign_g5 hC B T ?_ (fun σ_3 q4 => ?_)
    · clear h hE; exact q2.2.1  -- p2
    obtain ⟨q4, z9⟩ := q4
    replace hE := rb_p5 hE z9.symm
    clear z9
    refine h _ ?_
    · refine and_5 ?_ (fun o9 => hE)  -- q3
      clear h hE; have a1 := aI_close j172.1 q2
      have a2 := aI_sign a1.1 q4
      refine ⟨a2.1, fun f => ?_⟩
      obtain ⟨f1, l1, e1, o1, -⟩ := a2.2.2 f
      obtain ⟨f0, l0, e0, o0, -⟩ := a1.2.2 f1
      obtain ⟨d0, i, p, e, m1, m2, m3, m4, m5, m6, m7, m8, m9⟩ := j172.2 f0
      have lP := Int32.lt_trans l0 l1
      refine ⟨d0.1, Int32.lt_trans d0.2.1 lP, by rw [o1, o0, d0.2.2.2.1]; exact oc_dn, fun z => absurd ⟨z.1, Or.inl z.2⟩ d0.2.2.2.2, fun z => absurd ⟨z.1, Or.inr z.2⟩ d0.2.2.2.2, fun _ => ⟨i + 0, m1, ?_⟩⟩
      rw [a2.2.1, a1.2.1]
      exact prP_B (k := 0) m2 (Int32.lt_of_lt_of_le m3 (Int32.le_trans m5 (Int32.le_trans (Int32.le_of_lt m6) (Int32.le_trans m8 (Int32.le_of_lt lP))))) ⟨e, τ172.1 10, m4, m5, m3, m7, m6, m8, lP, m9⟩
  have hj55 : ∀  (τ : rS), ((aI σ τ B T ∧ (τ.1 11 = 0 → σ.1 11 = 0 ∧ σ.1 10 < τ.1 10 ∧ τ.1 13 = σ.1 13 + 1 ∧ rd σ 5 (σ.1 10) = 6 ∧ (rd σ 7 (σ.1 10) = 11 ∨ rd σ 7 (σ.1 10) = 12) ∧ (rd σ 7 (σ.1 10) = 11 → ePa (σ.2.2.1 5) (σ.2.2.1 7) (τ.2.2.1 39) (σ.1 10 + 2) (τ.1 10)) ∧ (rd σ 7 (σ.1 10) = 12 → ∃ e, ePa (σ.2.2.1 5) (σ.2.2.1 7) (τ.2.2.1 39) (σ.1 10 + 2) e ∧ e < e + 1 ∧ e + 1 ≤ τ.1 10 ∧ ePa (σ.2.2.1 5) (σ.2.2.1 7) (τ.2.2.1 39) (e + 1) (τ.1 10)))) ∧ g5_tellDraw σ = g5_tellDraw_55 τ) → w_tellDraw_55 C Q   τ := by
    rintro  τ55 ⟨j55, hE⟩
    unfold w_tellDraw_55
    refine close_g5 hC B T ?_ (fun σ_5 q6 => ?_)
    · clear h hE; exact j55.1.2.1.1  -- p4
    obtain ⟨q6, z9⟩ := q6
    replace hE := rb_p5 hE z9.symm
    clear z9
    refine sign_g5 hC B T ?_ (fun σ_7 q8 => ?_)
    · clear h hE; exact q6.2.1  -- p5
    obtain ⟨q8, z9⟩ := q8
    replace hE := rb_p5 hE z9.symm
    clear z9
    refine h _ ?_
    · refine and_5 ?_ (fun o9 => hE)  -- q6
      clear h hE; have a1 := aI_close j55.1 q6
      have a2 := aI_sign a1.1 q8
      refine ⟨a2.1, fun f => ?_⟩
      obtain ⟨f1, l1, e1, o1, -⟩ := a2.2.2 f
      obtain ⟨f0, l0, e0, o0, -⟩ := a1.2.2 f1
      obtain ⟨n1, n2, n3, n4, n5, n6, n7⟩ := j55.2 f0
      have lP := Int32.lt_trans l0 l1
      rw [a2.2.1, a1.2.1]
      refine ⟨n1, Int32.lt_trans n2 lP, by rw [o1, o0, n3]; exact oc_dn, fun z => ⟨τ55.1 10, n6 z.2, lP⟩, fun z => ?_, fun z => absurd ⟨n4, n5⟩ z⟩
      obtain ⟨e, m1, m2, m3, m4⟩ := n7 z.2
      exact ⟨e, τ55.1 10, m1, m2, m3, m4, lP⟩
  have hj18 : ∀  (τ : rS), ((σ = τ ∧ rd σ 5 (σ.1 10) = 6 ∧ (rd σ 7 (σ.1 10) = 11 ∨ rd σ 7 (σ.1 10) = 12)) ∧ g5_tellDraw σ = g5_tellDraw_18 τ) → w_tellDraw_18 C Q   τ := by
    rintro  _ ⟨⟨rfl, j18⟩, hE⟩
    unfold w_tellDraw_18
    refine isWord_g5 hC  ?_ (fun r9 q11 => ?_)
    · clear h hE; exact (aI_at hS).2.2.2  -- p7
    obtain ⟨q11, z9⟩ := q11
    replace hE := rb_p5 hE z9
    clear z9
    refine go_g5 hC B T ?_ (fun σ_12 q13 => ?_)
    · clear h hE; exact ⟨hP.1, fun _ => by rw [j18.1]; decide⟩  -- p8
    obtain ⟨q13, z9⟩ := q13
    replace hE := rb_p5 hE z9.symm
    clear z9
    refine open_g5 hC B T ?_ (fun σ_14 q15 => ?_)
    · clear h hE; exact q13.2.1  -- p9
    obtain ⟨q15, z9⟩ := q15
    replace hE := rb_p5 hE z9.symm
    clear z9
    have b1 := aI_go hS q13
    have b2 := aI_open b1.1 q15
    have nx : σ_14.1 11 = 0 → σ.1 11 = 0 ∧ σ.1 10 < σ_14.1 10 ∧ σ_14.1 10 = σ.1 10 + 2 ∧ σ_14.1 13 = σ.1 13 + 1 ∧ 0 ≤ σ_14.1 13 ∧ σ_14.1 13 ≤ 40 := fun f => by
      obtain ⟨f1, l1, e1, o1, s1, o2⟩ := b2.2.2 f
      obtain ⟨f0, l0, e0, o0⟩ := b1.2.2 f1
      have z := hO f0
      rw [o0] at o2 o1
      have w := oc_up z.1 z.2 o2
      exact ⟨f0, Int32.lt_trans l0 l1, by rw [e1, e0]; exact up_2, o1, by rw [o1]; exact w.1, by rw [o1]; exact w.2⟩
    refine expr0_g5 hC B T ?_ (fun r16 σ_17 q18 => ?_)
    · clear h hE; exact ⟨b2.1.2.1, fun f => (nx f).2.2.2.2⟩  -- p10
    obtain ⟨q18, z9⟩ := q18
    replace hE := rb_m5 hE z9
    clear z9
    have b3 := aI_expr b2.1 q18 (fun f => Int32.le_of_lt (nx f).2.1)
    have ny : σ_17.1 11 = 0 → σ.1 11 = 0 ∧ σ.1 10 < σ_17.1 10 ∧ σ_17.1 13 = σ.1 13 + 1 ∧ 0 ≤ σ_17.1 13 ∧ σ_17.1 13 ≤ 40 ∧ ePa (σ.2.2.1 5) (σ.2.2.1 7) (σ_17.2.2.1 39) (σ.1 10 + 2) (σ_17.1 10) ∧ 0 ≤ σ.1 10 + 2 := fun f => by
      obtain ⟨g1, g2, g3, g4⟩ := b3.2.2 f
      have w := nx g1
      rw [w.2.2.1] at g4
      refine ⟨w.1, Int32.lt_of_lt_of_le w.2.1 g2, by rw [g3]; exact w.2.2.2.1, by rw [g3]; exact w.2.2.2.2.1, by rw [g3]; exact w.2.2.2.2.2, g4, ?_⟩
      rw [← w.2.2.1]; exact Int32.le_trans (aI_at hS).2.2.2.1 (Int32.le_of_lt w.2.1)
    refine ⟨fun c19 => ?_, fun c19 => ?_⟩
    · skip
      replace hE := rb_t5 hE c19
      refine hj55 _ ?_
      · refine and_5 ?_ (fun o9 => hE)  -- k11
        clear h hE; refine ⟨b3.1, fun f => ?_⟩
        have w := ny f
        exact ⟨w.1, w.2.1, w.2.2.1, j18.1, j18.2, fun _ => w.2.2.2.2.2.1, fun z => absurd c19 (q11.2.mpr ⟨j18.1, z⟩)⟩
    · skip
      replace hE := rb_f5 hE c19
      refine sign_g5 hC B T ?_ (fun σ_20 q21 => ?_)
      · clear h hE; exact q18.2.1.1  -- p12
      obtain ⟨q21, z9⟩ := q21
      replace hE := rb_p5 hE z9.symm
      clear z9
      have b4 := aI_sign b3.1 q21
      refine expr0_g5 hC B T ?_ (fun r22 σ_23 q24 => ?_)
      · clear h hE; exact ⟨b4.1.2.1, fun f => by obtain ⟨f1, l1, e1, o1, -⟩ := b4.2.2 f; have w := ny f1; rw [o1]; exact ⟨w.2.2.2.1, w.2.2.2.2.1⟩⟩  -- p13
      obtain ⟨q24, z9⟩ := q24
      replace hE := rb_m5 hE z9
      clear z9
      refine hj55 _ ?_
      · refine and_5 ?_ (fun o9 => hE)  -- k14
        clear h hE; have b5 := aI_expr b4.1 q24 (fun f => by obtain ⟨f1, l1, -⟩ := b4.2.2 f; exact Int32.le_of_lt (Int32.lt_trans (ny f1).2.1 l1))
        refine ⟨b5.1, fun f => ?_⟩
        obtain ⟨g1, g2, g3, g4⟩ := b5.2.2 f
        obtain ⟨f1, l1, e1, o1, -⟩ := b4.2.2 g1
        have w := ny f1
        have r9c := q11.2.mp c19
        refine ⟨w.1, Int32.lt_of_lt_of_le (Int32.lt_trans w.2.1 l1) g2, by rw [g3, o1]; exact w.2.2.1, j18.1, j18.2, fun z => absurd (z.symm.trans r9c.2) (by decide), fun _ => ⟨σ_17.1 10, ?_, by rw [← e1]; exact l1, by rw [← e1]; exact g2, by rw [← e1]; exact g4⟩⟩
        have hw := w.2.2.2.2.2.1
        have hb := b5.2.1
        rw [b4.2.1] at hb
        exact ePa_lo hw w.2.2.2.2.2.2 hb (Int32.le_of_lt l1)
  have hE : g5_tellDraw σ = g5_tellDraw σ := rfl
  refine isWord_g5 hC  ?_ (fun r25 q27 => ?_)
  · clear h hE; exact (aI_at hS).2.2.2  -- p15
  obtain ⟨q27, z9⟩ := q27
  replace hE := rb_p5 hE z9
  clear z9
  refine ⟨fun c28 => ?_, fun c28 => ?_⟩
  · skip
    replace hE := rb_f5 hE c28
    refine hj18 _ ?_
    · refine and_5 ?_ (fun o9 => hE)  -- k16
      clear h hE; exact ⟨rfl, (q27.2.mp c28).1, Or.inl (q27.2.mp c28).2⟩
  · skip
    replace hE := rb_t5 hE c28
    refine isWord_g5 hC  ?_ (fun r29 q31 => ?_)
    · clear h hE; exact (aI_at hS).2.2.2  -- p17
    obtain ⟨q31, z9⟩ := q31
    replace hE := rb_p5 hE z9
    clear z9
    refine ⟨fun c32 => ?_, fun c32 => ?_⟩
    · skip
      replace hE := rb_t5 hE c32
      refine open_g5 hC B T ?_ (fun σ_33 q34 => ?_)
      · clear h hE; exact hP.1  -- p18
      obtain ⟨q34, z9⟩ := q34
      replace hE := rb_p5 hE z9.symm
      clear z9
      refine isRight_g5 hC  (fun r35 q37 => ?_)
      obtain ⟨q37, z9⟩ := q37
      replace hE := rb_p5 hE z9
      clear z9
      unfold w_tellDraw_77
      refine ⟨fun n l1 l2 τ => n = eMs (τ.1 11) 0 (if l2 = 0 then 2 else 0) (τ.1 10) T ∧ ((aI σ τ B T ∧ nb l2 ∧ 0 ≤ l1 ∧ (τ.1 11 = 0 → dB0 σ τ ∧ l1 ≤ 8 ∧ (l2 ≠ 0 → ∃ p, prP (σ.2.2.1 5) (σ.2.2.1 7) (τ.2.2.1 39) (σ.1 10) l1.toNatClampNeg p ∧ τ.1 10 = p + 1 ∧ p < p + 1) ∧ (l2 = 0 → ∃ i p e, i < 8 ∧ prP (σ.2.2.1 5) (σ.2.2.1 7) (τ.2.2.1 39) (σ.1 10) i p ∧ p < p + 1 ∧ ePa (σ.2.2.1 5) (σ.2.2.1 7) (τ.2.2.1 39) (p + 1) e ∧ p + 1 ≤ e ∧ e < e + 1 ∧ ePa (σ.2.2.1 5) (σ.2.2.1 7) (τ.2.2.1 39) (e + 1) (τ.1 10) ∧ e + 1 ≤ τ.1 10 ∧ ¬ sg (σ.2.2.1 5) (σ.2.2.1 7) (τ.1 10) 44))) ∧ ∃ m5, n < m5 ∧ g5_tellDraw σ = g5_tellDraw_77 m5 l1 l2 τ), ⟨_, rfl, ?_⟩, ?_⟩
      · refine and_5 ?_ (fun o9 => ⟨fu5, by first | exact eMs_5 | (clear h hE; unfold fu5; omega), hE⟩)  -- j19
        clear h hE; have b1 := aI_open hS q34
        refine ⟨b1.1, q37.1, by decide, fun f => ?_⟩
        obtain ⟨f0, l0, e0, o0, s0, o2⟩ := b1.2.2 f
        refine ⟨⟨f0, l0, o2, o0, fun z => by rcases z.2 with w | w; exact (q27.2.mpr ⟨z.1, w⟩) c28; exact (q31.2.mpr ⟨z.1, w⟩) c32⟩, by decide, fun _ => ⟨σ.1 10, ?_, e0, by rw [← e0]; exact l0⟩, fun z => absurd z (q37.2.mpr f)⟩
        rw [show (0 : Int32).toNatClampNeg = 0 from rfl]
        rfl
      rintro n77 x77_1 x77_2 σ77 ⟨hn77, i77, m77, hm77, hE⟩
      obtain ⟨m77, rfl⟩ : ∃ m9, m77 = m9 + 1 := ⟨m77 - 1, by clear h hE; omega⟩
      have hj160 : ∀ (l1 : Int32) (s0 : Int32) (τ : rS), ((σ77.1 11 = 0 ∧ x77_2 ≠ 0 ∧ 0 ≤ x77_1 ∧ x77_1 ≤ 8 ∧ l1 = x77_1 + 1 ∧ aI σ τ B T ∧ nb s0 ∧ (τ.1 11 ≠ 0 → s0 = 0) ∧ (τ.1 11 = 0 → dB0 σ τ ∧ σ77.1 10 < τ.1 10 ∧ x77_1 < 8 ∧ (s0 ≠ 0 ↔ sg (σ.2.2.1 5) (σ.2.2.1 7) (τ.1 10) 44) ∧ ∃ p e, prP (σ.2.2.1 5) (σ.2.2.1 7) (τ.2.2.1 39) (σ.1 10) x77_1.toNatClampNeg p ∧ p < p + 1 ∧ ePa (σ.2.2.1 5) (σ.2.2.1 7) (τ.2.2.1 39) (p + 1) e ∧ p + 1 ≤ e ∧ e < e + 1 ∧ ePa (σ.2.2.1 5) (σ.2.2.1 7) (τ.2.2.1 39) (e + 1) (τ.1 10) ∧ e + 1 ≤ τ.1 10)) ∧ g5_tellDraw σ = g5_tellDraw_160 (g5_tellDraw_77 m77) l1 s0 τ) → w_tellDraw_160 C Q (fun l1' l2' τ => ∃ k < n77, (fun n l1 l2 τ => n = eMs (τ.1 11) 0 (if l2 = 0 then 2 else 0) (τ.1 10) T ∧ ((aI σ τ B T ∧ nb l2 ∧ 0 ≤ l1 ∧ (τ.1 11 = 0 → dB0 σ τ ∧ l1 ≤ 8 ∧ (l2 ≠ 0 → ∃ p, prP (σ.2.2.1 5) (σ.2.2.1 7) (τ.2.2.1 39) (σ.1 10) l1.toNatClampNeg p ∧ τ.1 10 = p + 1 ∧ p < p + 1) ∧ (l2 = 0 → ∃ i p e, i < 8 ∧ prP (σ.2.2.1 5) (σ.2.2.1 7) (τ.2.2.1 39) (σ.1 10) i p ∧ p < p + 1 ∧ ePa (σ.2.2.1 5) (σ.2.2.1 7) (τ.2.2.1 39) (p + 1) e ∧ p + 1 ≤ e ∧ e < e + 1 ∧ ePa (σ.2.2.1 5) (σ.2.2.1 7) (τ.2.2.1 39) (e + 1) (τ.1 10) ∧ e + 1 ≤ τ.1 10 ∧ ¬ sg (σ.2.2.1 5) (σ.2.2.1 7) (τ.1 10) 44))) ∧ ∃ m5, n < m5 ∧ g5_tellDraw σ = g5_tellDraw_77 m5 l1 l2 τ)) k l1' l2' τ) l1 s0 τ := by
        clear hE
        rintro y160_1 y160_s0 τ160 ⟨j160, hE⟩
        unfold w_tellDraw_160
        refine ⟨fun c38 => ?_, fun c38 => ?_⟩
        · skip
          replace hE := rb_t5 hE c38
          refine lp_b5 ?_ (fun d9 => ⟨rfl, ?_⟩)
          · clear h hE; obtain ⟨k1, k2, k3, k9, k4, k5, k6, k7, k8⟩ := j160
            show eMs (τ160.1 11) 0 (if y160_s0 = 0 then 2 else 0) (τ160.1 10) T < n77
            rw [if_pos c38, hn77, k1, if_neg k2]
            exact eMs_lt (by decide) (fun _ _ z => absurd rfl z) (Int32.le_trans i77.1.2.1.1.1 i77.1.2.1.1.2.2.2.2.1) k5.2.1.1.2.2.2.2.2
          · refine and_5 ?_ (fun o9 => ⟨m77, Nat.lt_of_lt_of_le d9 (Nat.le_of_lt_succ hm77), hE⟩)  -- i21
            clear h hE d9 hm77; obtain ⟨k1, k2, k3, k9, k4, k5, k6, k7, k8⟩ := j160
            refine ⟨k5, k6, by rw [k4]; exact le9 k3 k9, fun f => ?_⟩
            obtain ⟨m1, m2, m3, m4, p, e, m5, m6, m7, m8, m9, m10, m11⟩ := k8 f
            exact ⟨m1, by rw [k4]; exact lt8 m3, fun z => absurd c38 z, fun _ => ⟨x77_1.toNatClampNeg, p, e, Nat.lt_of_lt_of_eq (cn_lt k3 m3) rfl, m5, m6, m7, m8, m9, m10, m11, fun z => (m4.mpr z) c38⟩⟩
        · skip
          replace hE := rb_f5 hE c38
          refine go_g5 hC B T ?_ (fun σ_39 q40 => ?_)
          · clear h hE; obtain ⟨k1, k2, k3, k9, k4, k5, k6, k7, k8⟩ := j160
            refine ⟨k5.2.1.1, fun f => ?_⟩
            obtain ⟨m1, m2, m3, m4, -⟩ := k8 f
            rw [rd, (aI_at k5).1, (m4.mp c38).1]; decide
          obtain ⟨q40, z9⟩ := q40
          replace hE := rb_p5 hE z9.symm
          clear z9
          refine lp_b5 ?_ (fun d9 => ⟨rfl, ?_⟩)
          · clear h hE; obtain ⟨k1, k2, k3, k9, k4, k5, k6, k7, k8⟩ := j160
            have b := aI_go k5 q40
            have f0 : τ160.1 11 = 0 := Decidable.byContradiction (fun z => c38 (k7 z))
            show eMs (σ_39.1 11) 0 (if y160_s0 = 0 then 2 else 0) (σ_39.1 10) T < n77
            rw [if_neg c38, hn77, k1, if_neg k2]
            exact eMs_lt (by decide) (fun f _ _ => Int32.lt_trans (k8 f0).2.1 (b.2.2 f).2.1) (Int32.le_trans i77.1.2.1.1.1 i77.1.2.1.1.2.2.2.2.1) b.1.2.1.1.2.2.2.2.2
          · refine and_5 ?_ (fun o9 => ⟨m77, Nat.lt_of_lt_of_le d9 (Nat.le_of_lt_succ hm77), hE⟩)  -- i24
            clear h hE d9 hm77; obtain ⟨k1, k2, k3, k9, k4, k5, k6, k7, k8⟩ := j160
            have b := aI_go k5 q40
            refine ⟨b.1, k6, by rw [k4]; exact le9 k3 k9, fun f => ?_⟩
            obtain ⟨f0, l0, e0, o0⟩ := b.2.2 f
            obtain ⟨m1, m2, m3, m4, p, e, m5, m6, m7, m8, m9, m10, m11⟩ := k8 f0
            refine ⟨⟨m1.1, Int32.lt_trans m1.2.1 l0, m1.2.2.1, by rw [o0]; exact m1.2.2.2.1, m1.2.2.2.2⟩, by rw [k4]; exact lt8 m3, fun _ => ⟨τ160.1 10, ?_, e0, by rw [← e0]; exact l0⟩, fun z => absurd z c38⟩
            rw [b.2.1, k4, cn_succ k3 (Int32.lt_trans m3 (by decide))]
            exact ⟨p, e, m5, m6, m7, m8, m9, m10, m11, m4.mp c38⟩
      have hj125 : ∀ (l1 : Int32) (τ : rS), ((σ77.1 11 = 0 ∧ x77_2 ≠ 0 ∧ 0 ≤ x77_1 ∧ x77_1 ≤ 8 ∧ l1 = x77_1 ∧ aI σ τ B T ∧ (τ.1 11 = 0 → dB0 σ τ ∧ σ77.1 10 ≤ τ.1 10 ∧ (sg (σ.2.2.1 5) (σ.2.2.1 7) (τ.1 10) 58 → l1 < 8) ∧ ∃ p, prP (σ.2.2.1 5) (σ.2.2.1 7) (τ.2.2.1 39) (σ.1 10) l1.toNatClampNeg p ∧ p < p + 1 ∧ σ77.1 10 = p + 1 ∧ ePa (σ.2.2.1 5) (σ.2.2.1 7) (τ.2.2.1 39) (p + 1) (τ.1 10))) ∧ g5_tellDraw σ = g5_tellDraw_125 (g5_tellDraw_77 m77) l1 τ) → w_tellDraw_125 C Q (fun l1' l2' τ => ∃ k < n77, (fun n l1 l2 τ => n = eMs (τ.1 11) 0 (if l2 = 0 then 2 else 0) (τ.1 10) T ∧ ((aI σ τ B T ∧ nb l2 ∧ 0 ≤ l1 ∧ (τ.1 11 = 0 → dB0 σ τ ∧ l1 ≤ 8 ∧ (l2 ≠ 0 → ∃ p, prP (σ.2.2.1 5) (σ.2.2.1 7) (τ.2.2.1 39) (σ.1 10) l1.toNatClampNeg p ∧ τ.1 10 = p + 1 ∧ p < p + 1) ∧ (l2 = 0 → ∃ i p e, i < 8 ∧ prP (σ.2.2.1 5) (σ.2.2.1 7) (τ.2.2.1 39) (σ.1 10) i p ∧ p < p + 1 ∧ ePa (σ.2.2.1 5) (σ.2.2.1 7) (τ.2.2.1 39) (p + 1) e ∧ p + 1 ≤ e ∧ e < e + 1 ∧ ePa (σ.2.2.1 5) (σ.2.2.1 7) (τ.2.2.1 39) (e + 1) (τ.1 10) ∧ e + 1 ≤ τ.1 10 ∧ ¬ sg (σ.2.2.1 5) (σ.2.2.1 7) (τ.1 10) 44))) ∧ ∃ m5, n < m5 ∧ g5_tellDraw σ = g5_tellDraw_77 m5 l1 l2 τ)) k l1' l2' τ) l1 τ := by
        clear hE
        rintro y125_1 τ125 ⟨j125, hE⟩
        unfold w_tellDraw_125
        obtain ⟨k1, k2, k3, k9, k4, k5, k6⟩ := j125
        refine sign_g5 hC B T ?_ (fun σ_41 q42 => ?_)
        · clear h hE; exact k5.2.1.1  -- p25
        obtain ⟨q42, z9⟩ := q42
        replace hE := rb_p5 hE z9.symm
        clear z9
        have b1 := aI_sign k5 q42
        refine expr0_g5 hC B T ?_ (fun r43 σ_44 q45 => ?_)
        · clear h hE; exact ⟨b1.1.2.1, fun f => by obtain ⟨f1, l1, e1, o1, -⟩ := b1.2.2 f; have w := (k6 f1).1; have z := hO w.1; rw [o1, w.2.2.2.1]; exact oc_up z.1 z.2 w.2.2.1⟩  -- p26
        obtain ⟨q45, z9⟩ := q45
        replace hE := rb_m5 hE z9
        clear z9
        intro x46 hx46
        replace hE := rb_p5 hE hx46
        have b2 := aI_expr b1.1 q45 (fun f => by obtain ⟨f1, l1, -⟩ := b1.2.2 f; exact Int32.le_of_lt (Int32.lt_trans (k6 f1).1.2.1 l1))
        have ny : σ_44.1 11 = 0 → dB0 σ σ_44 ∧ σ77.1 10 < σ_44.1 10 ∧ x77_1 < 8 ∧ ∃ p e, prP (σ.2.2.1 5) (σ.2.2.1 7) (σ_44.2.2.1 39) (σ.1 10) x77_1.toNatClampNeg p ∧ p < p + 1 ∧ ePa (σ.2.2.1 5) (σ.2.2.1 7) (σ_44.2.2.1 39) (p + 1) e ∧ p + 1 ≤ e ∧ e < e + 1 ∧ ePa (σ.2.2.1 5) (σ.2.2.1 7) (σ_44.2.2.1 39) (e + 1) (σ_44.1 10) ∧ e + 1 ≤ σ_44.1 10 := fun f => by
          obtain ⟨g1, g2, g3, g4⟩ := b2.2.2 f
          obtain ⟨f1, l1, e1, o1, s58⟩ := b1.2.2 g1
          obtain ⟨m1, m2, m3, p, m4, m5, m6, m7⟩ := k6 f1
          have hR := b2.2.1
          rw [b1.2.1] at hR
          have p0 : 0 ≤ p := Int32.le_trans (aI_at hS).2.2.2.1 (prP_ge m4)
          have pl : p + 1 ≤ τ125.1 10 := by rw [← m6]; exact m2
          have pl2 : p ≤ σ_41.1 10 := Int32.le_trans (Int32.le_of_lt m5) (Int32.le_trans pl (Int32.le_of_lt l1))
          refine ⟨⟨m1.1, Int32.lt_of_lt_of_le (Int32.lt_trans m1.2.1 l1) g2, m1.2.2.1, by rw [g3, o1]; exact m1.2.2.2.1, m1.2.2.2.2⟩, Int32.lt_of_le_of_lt m2 (Int32.lt_of_lt_of_le l1 g2), by rw [← k4]; exact m3 s58, p, τ125.1 10, ?_, m5, ?_, pl, by rw [← e1]; exact l1, by rw [← e1]; exact g4, by rw [← e1]; exact g2⟩
          · rw [← k4]
            exact prP_R (aI_at hS).2.2.2.1 m4 (fun t ht ht2 => hR t ht (Int32.lt_of_lt_of_le ht2 pl2))
          · exact ePa_lo m7 (Int32.le_trans p0 (Int32.le_of_lt m5)) hR (Int32.le_of_lt l1)
        have kx : x46 = x77_1 + 1 := by rw [hx46, k4]
        refine isRight_g5 hC  (fun r47 q49 => ?_)
        obtain ⟨q49, z9⟩ := q49
        replace hE := rb_p5 hE z9
        clear z9
        refine ⟨fun c50 => ?_, fun c50 => ?_⟩
        · skip
          replace hE := rb_t5 hE c50
          refine hj160 _ _ _ ?_
          · refine and_5 ?_ (fun o9 => hE)  -- k27
            clear h hE; exact ⟨k1, k2, k3, k9, kx, b2.1, nb_0, fun _ => rfl, fun f => absurd c50 (q49.2.mpr f)⟩
        · skip
          replace hE := rb_f5 hE c50
          refine isAt_g5 hC  ?_ (fun r51 q53 => ?_)
          · clear h hE; exact (aI_at b2.1).2.2.2  -- p28
          obtain ⟨q53, z9⟩ := q53
          replace hE := rb_p5 hE z9
          clear z9
          refine ⟨fun c54 => ?_, fun c54 => ?_⟩
          · skip
            replace hE := rb_t5 hE c54
            refine hj160 _ _ _ ?_
            · refine and_5 ?_ (fun o9 => hE)  -- k29
              clear h hE; refine ⟨k1, k2, k3, k9, kx, b2.1, nb_0, fun _ => rfl, fun f => ?_⟩
              obtain ⟨w1, w2, w3, w4⟩ := ny f
              refine ⟨w1, w2, w3, ⟨fun z => absurd rfl z, fun z => absurd c54 (q53.2.mpr ?_)⟩, w4⟩
              rw [← (aI_at b2.1).1, ← (aI_at b2.1).2.1] at z
              exact z
          · skip
            replace hE := rb_f5 hE c54
            refine hj160 _ _ _ ?_
            · refine and_5 ?_ (fun o9 => hE)  -- k30
              clear h hE; refine ⟨k1, k2, k3, k9, kx, b2.1, nb_1, fun z => absurd (q49.2.mp c50) z, fun f => ?_⟩
              obtain ⟨w1, w2, w3, w4⟩ := ny f
              refine ⟨w1, w2, w3, ⟨fun _ => ?_, fun _ => by decide⟩, w4⟩
              rw [← (aI_at b2.1).1, ← (aI_at b2.1).2.1]
              exact q53.2.mp c54
      refine isRight_g5 hC  (fun r55 q57 => ?_)
      obtain ⟨q57, z9⟩ := q57
      replace hE := rb_p5 hE z9
      clear z9
      refine ⟨fun c58 => ?_, fun c58 => ?_⟩
      · skip
        replace hE := rb_t5 hE c58
        refine hj172 _ ?_
        · refine and_5 ?_ (fun o9 => hE)  -- k31
          clear h hE; exact ⟨i77.1, fun f => absurd c58 (q57.2.mpr f)⟩
      · skip
        replace hE := rb_f5 hE c58
        refine ⟨fun c59 => ?_, fun c59 => ?_⟩
        · skip
          replace hE := rb_t5 hE c59
          refine hj172 _ ?_
          · refine and_5 ?_ (fun o9 => hE)  -- k32
            clear h hE; exact ⟨i77.1, fun f => ⟨(i77.2.2.2 f).1, (i77.2.2.2 f).2.2.2 c59⟩⟩
        · skip
          replace hE := rb_f5 hE c59
          have e11 : σ77.1 11 = 0 := q57.2.mp c58
          have i3 := i77.2.2.2 e11
          refine expr0_g5 hC B T ?_ (fun r60 σ_61 q62 => ?_)
          · clear h hE; exact ⟨i77.1.2.1, fun _ => by have z := hO i3.1.1; rw [i3.1.2.2.2.1]; exact oc_up z.1 z.2 i3.1.2.2.1⟩  -- p33
          obtain ⟨q62, z9⟩ := q62
          replace hE := rb_m5 hE z9
          clear z9
          have b := aI_expr i77.1 q62 (fun _ => Int32.le_of_lt i3.1.2.1)
          obtain ⟨p, hp1, hp2, hp3⟩ := i3.2.2.1 c59
          have ny : σ_61.1 11 = 0 → dB0 σ σ_61 ∧ σ77.1 10 ≤ σ_61.1 10 ∧ ∃ p, prP (σ.2.2.1 5) (σ.2.2.1 7) (σ_61.2.2.1 39) (σ.1 10) x77_1.toNatClampNeg p ∧ p < p + 1 ∧ σ77.1 10 = p + 1 ∧ ePa (σ.2.2.1 5) (σ.2.2.1 7) (σ_61.2.2.1 39) (p + 1) (σ_61.1 10) := fun f => by
            obtain ⟨g1, g2, g3, g4⟩ := b.2.2 f
            refine ⟨⟨i3.1.1, Int32.lt_of_lt_of_le i3.1.2.1 g2, i3.1.2.2.1, by rw [g3]; exact i3.1.2.2.2.1, i3.1.2.2.2.2⟩, g2, p, ?_, hp3, hp2, by rw [← hp2]; exact g4⟩
            exact prP_R (aI_at hS).2.2.2.1 hp1 (fun t ht ht2 => b.2.1 t ht (Int32.lt_trans ht2 (by rw [hp2]; exact hp3)))
          refine isRight_g5 hC  (fun r63 q65 => ?_)
          obtain ⟨q65, z9⟩ := q65
          replace hE := rb_p5 hE z9
          clear z9
          refine ⟨fun c66 => ?_, fun c66 => ?_⟩
          · skip
            replace hE := rb_t5 hE c66
            refine hj125 _ _ ?_
            · refine and_5 ?_ (fun o9 => hE)  -- k34
              clear h hE; exact ⟨e11, c59, i77.2.2.1, i3.2.1, rfl, b.1, fun f => absurd c66 (q65.2.mpr f)⟩
          · skip
            replace hE := rb_f5 hE c66
            refine isAt_g5 hC  ?_ (fun r67 q69 => ?_)
            · clear h hE; exact (aI_at b.1).2.2.2  -- p35
            obtain ⟨q69, z9⟩ := q69
            replace hE := rb_p5 hE z9
            clear z9
            refine ⟨fun c70 => ?_, fun c70 => ?_⟩
            · skip
              replace hE := rb_t5 hE c70
              refine hj125 _ _ ?_
              · refine and_5 ?_ (fun o9 => hE)  -- k36
                clear h hE; refine ⟨e11, c59, i77.2.2.1, i3.2.1, rfl, b.1, fun f => ?_⟩
                obtain ⟨w1, w2, w3⟩ := ny f
                refine ⟨w1, w2, fun z => absurd c70 (q69.2.mpr ?_), w3⟩
                rw [← (aI_at b.1).1, ← (aI_at b.1).2.1] at z
                exact z
            · skip
              replace hE := rb_f5 hE c70
              refine ⟨fun c71 => ?_, fun c71 => ?_⟩
              · skip
                replace hE := rb_f5 hE c71
                refine hj125 _ _ ?_
                · refine and_5 ?_ (fun o9 => hE)  -- k37
                  clear h hE; refine ⟨e11, c59, i77.2.2.1, i3.2.1, rfl, b.1, fun f => ?_⟩
                  obtain ⟨w1, w2, w3⟩ := ny f
                  exact ⟨w1, w2, fun _ => ne8 i3.2.1 c71, w3⟩
              · skip
                replace hE := rb_t5 hE c71
                refine flaw_g5 hC  ?_ (fun σ_72 q73 => ?_)
                · clear h hE; exact ⟨(aI_at b.1).2.2.2.1, (aI_at b.1).2.2.2.2, by decide⟩  -- p38
                obtain ⟨q73, z9⟩ := q73
                replace hE := rb_p5 hE z9.symm
                clear z9
                refine hj125 _ _ ?_
                · refine and_5 ?_ (fun o9 => hE)  -- k39
                  clear h hE; have b' := aI_flaw b.1 q73
                  exact ⟨e11, c59, i77.2.2.1, i3.2.1, rfl, b'.1, fun f => absurd f b'.2.2⟩
    · skip
      replace hE := rb_f5 hE c32
      refine hj18 _ ?_
      · refine and_5 ?_ (fun o9 => hE)  -- k40
        clear h hE; exact ⟨rfl, (q31.2.mp c32).1, Or.inr (q31.2.mp c32).2⟩

theorem tellNamed_g5 {C : rCx} (hC : cOK C) (B T : Int32) {σ : rS}  {Q : rS → Prop} (hp : p0 σ B T ∧ tS σ ∧ 1 ≤ σ.1 42 ∧ σ.1 42 ≤ 64 ∧ 0 ≤ σ.1 13 ∧ σ.1 13 ≤ 40 ∧ rd σ 5 (σ.1 10) = 1) (h : ∀ (σ' : rS), ((sT σ σ' B T) ∧ g5_tellNamed σ = σ') → Q σ') : cV C 8 m_tellNamed [.ref (co C)] σ Q := by
  refine m_tellNamed_run hC ?_
  unfold w_tellNamed_0
  obtain ⟨hP, hS, hb1, hb2, ho1, ho2, hn⟩ := hp
  have hA := aI_at (aI_refl hP)
  have hj295 : ∀  (τ : rS), ((∃ s c, mSR9 σ τ s B T ∧ tN3 σ τ s c B ∧ (τ.1 11 = 0 → rd τ 32 s = τ.1 10)) ∧ g5_tellNamed σ = g5_tellNamed_295 τ) → w_tellNamed_295 C Q   τ := by
    rintro  τ295 ⟨j295, hE⟩
    unfold w_tellNamed_295
    obtain ⟨s, c, m, n, x⟩ := j295
    refine expr0_g5 hC B T ?_ (fun r1 σ_2 q3 => ?_)
    · clear h hE; exact ⟨m.2.1, fun f => by rw [(n f).2.1]; exact ⟨ho1, ho2⟩⟩  -- p1
    obtain ⟨q3, z9⟩ := q3
    replace hE := rb_m5 hE z9
    clear z9
    refine sign_g5 hC B T ?_ (fun σ_4 q5 => ?_)
    · clear h hE; exact q3.2.1.1  -- p2
    obtain ⟨q5, z9⟩ := q5
    replace hE := rb_p5 hE z9.symm
    clear z9
    refine h _ ?_
    · refine and_5 ?_ (fun o9 => hE)  -- q3
      clear h hE; have b1 := mS_expr m q3
      have b2 := mS_sign b1.1 q5
      refine ⟨s, b2.1, fun f => ?_⟩
      obtain ⟨f1, l1, e1, o1, -⟩ := b2.2.2 f
      obtain ⟨f0, l0, o0, z0⟩ := b1.2.2.2.2 f1
      obtain ⟨n1, n2, n3, n4, n5⟩ := n f0
      have k30 : rd σ_4 30 s = 2 := by rw [rd, b2.2.1]; exact b1.2.2.1.trans n3
      have k32 : rd σ_4 32 s = τ295.1 10 := by rw [rd, b2.2.1]; exact b1.2.2.2.1.trans (x f0)
      rw [k30, k32, b2.2.1]
      have lP := Int32.le_trans l0 (Int32.le_of_lt l1)
      exact ⟨Int32.lt_of_lt_of_le n1 lP, by rw [o1, o0]; exact n2, Or.inr (Or.inl ⟨rfl, tgO_up hP.1.1 n4 b1.2.1 lP, (mS_rows m).2.2.1.2.2.2.2.1, σ_2.1 10, z0, l0, l1⟩)⟩
  have hj244 : ∀ (l1 : Int32) (l3 : Int32) (τ : rS), ((mSR9 σ τ l1 B T ∧ tN3 σ τ l1 l3 B ∧ (τ.1 11 = 0 → rd τ 32 l1 = τ.1 10)) ∧ g5_tellNamed σ = g5_tellNamed_244 l1 l3 τ) → w_tellNamed_244 C Q  l1 l3 τ := by
    rintro y244_1 y244_3 τ244 ⟨j244, hE⟩
    unfold w_tellNamed_244
    refine isRight_g5 hC  (fun r6 q8 => ?_)
    obtain ⟨q8, z9⟩ := q8
    replace hE := rb_p5 hE z9
    clear z9
    refine ⟨fun c9 => ?_, fun c9 => ?_⟩
    · skip
      replace hE := rb_t5 hE c9
      refine hj295 _ ?_
      · refine and_5 ?_ (fun o9 => hE)  -- k4
        clear h hE; exact ⟨y244_1, y244_3, j244.1, j244.2.1, j244.2.2⟩
    · skip
      replace hE := rb_f5 hE c9
      refine ⟨fun c10 => ?_, fun c10 => ?_⟩
      · skip
        replace hE := rb_f5 hE c10
        refine hj295 _ ?_
        · refine and_5 ?_ (fun o9 => hE)  -- k5
          clear h hE; exact ⟨y244_1, y244_3, j244.1, j244.2.1, j244.2.2⟩
      · skip
        replace hE := rb_t5 hE c10
        refine ⟨ib_131074.mpr ?_, ?_⟩
        · clear h hE; exact (mS_rows j244.1).2.2.2  -- b6
        refine ⟨fun c11 => ?_, fun c11 => ?_⟩
        · skip
          replace hE := rb_f5 hE c11
          refine hj295 _ ?_
          · refine and_5 ?_ (fun o9 => hE)  -- k7
            clear h hE; exact ⟨y244_1, y244_3, j244.1, j244.2.1, j244.2.2⟩
        · skip
          replace hE := rb_t5 hE c11
          refine isNext_g5 hC  ?_ (fun r12 q14 => ?_)
          · clear h hE; exact ⟨(mS_rows j244.1).2.2.2.1, lt_T j244.1.2.1.1.2.2.2.2.2 (fun e => by have z := j244.1.2.1.1.2.2.2.1.1; rw [← e] at z; exact absurd (c11.symm.trans z) (by decide)) j244.1.2.1.1.2.2.1⟩  -- p8
          obtain ⟨q14, z9⟩ := q14
          replace hE := rb_p5 hE z9
          clear z9
          refine ⟨fun c15 => ?_, fun c15 => ?_⟩
          · skip
            replace hE := rb_t5 hE c15
            refine hj295 _ ?_
            · refine and_5 ?_ (fun o9 => hE)  -- k9
              clear h hE; exact ⟨y244_1, y244_3, j244.1, j244.2.1, j244.2.2⟩
          · skip
            replace hE := rb_f5 hE c15
            refine ⟨ib_150.mpr ?_, ?_⟩
            · clear h hE; exact ⟨j244.1.2.2.2.2.1, j244.1.2.2.2.2.2.1⟩  -- b10
            intro σ_16 hσ_16
            replace hE := rb_p5 hE hσ_16
            have m' : mSR9 σ σ_16 y244_1 B T := by rw [hσ_16]; exact mS_ri j244.1 (Or.inl rfl)
            have e16 : ∀ k, σ_16.1 k = τ244.1 k := fun k => by rw [hσ_16, ri1]
            have r16 : ∀ k, k ≠ 30 → σ_16.2.2.1 k = τ244.2.2.1 k := fun k hk => by rw [hσ_16, ri3 hk]
            have v30 : rd σ_16 30 y244_1 = 5 := by rw [rd, hσ_16, ri4, if_pos rfl]
            refine go_g5 hC B T ?_ (fun σ_17 q18 => ?_)
            · clear h hE; exact ⟨m'.2.1.1, fun _ => by rw [rd, r16 5 (by decide), e16, c11]; decide⟩  -- p11
            obtain ⟨q18, z9⟩ := q18
            replace hE := rb_p5 hE z9.symm
            clear z9
            have b1 := mS_go m' q18
            refine arguments_g5 hC B T ?_ (fun σ_19 q20 => ?_)
            · clear h hE; exact ⟨b1.1.2.1, fun f => by obtain ⟨f0, l0, e0, o0⟩ := b1.2.2 f; rw [e16] at f0 o0; rw [o0, (j244.2.1 f0).2.1]; exact ⟨ho1, ho2⟩⟩  -- p12
            obtain ⟨q20, z9⟩ := q20
            replace hE := rb_p5 hE z9.symm
            clear z9
            refine h _ ?_
            · refine and_5 ?_ (fun o9 => hE)  -- q13
              clear h hE; have m2 := mS_aI b1.1 q20.1 (fun f => Int32.le_of_lt (q20.2 f).2.1)
              refine ⟨y244_1, m2, fun f => ?_⟩
              obtain ⟨f1, l1, o1, s40, n, hg⟩ := q20.2 f
              obtain ⟨f0, l0, e0, o0⟩ := b1.2.2 f1
              rw [e16] at f0 l0 e0 o0
              obtain ⟨n1, n2, n3, n4, n5⟩ := j244.2.1 f0
              have rB := mS_rows b1.1
              have k30 : rd σ_19 30 y244_1 = 5 := by rw [rd, q20.1.1.2.2.1 30 (by decide) (by decide) (by decide) (by decide), b1.2.1]; exact v30
              have k32 : rd σ_19 32 y244_1 = τ244.1 10 := by rw [rd, q20.1.1.2.2.1 32 (by decide) (by decide) (by decide) (by decide), b1.2.1, r16 32 (by decide)]; exact j244.2.2 f0
              have R39 : σ_17.2.2.1 39 = τ244.2.2.1 39 := by rw [b1.2.1, r16 39 (by decide)]
              have lP := Int32.lt_trans l0 l1
              rw [rB.1, rB.2.1, e0] at s40
              rw [rB.1, rB.2.1, e0, up_2] at hg
              rw [k30, k32]
              refine ⟨Int32.lt_trans n1 lP, by rw [o1, o0]; exact n2, Or.inr (Or.inr (Or.inr (Or.inr (Or.inl ⟨rfl, ⟨j244.1.2.1.1.2.2.2.2.1, lP, ?_, s40, n, hg⟩, fun _ => ⟨n4.1, Int32.lt_trans n1 lP, n4.2.2.1, ?_⟩⟩))))⟩
              · rw [← (mS_rows j244.1).1]; exact c11
              · have := q20.1.2.2.1 (σ.1 10) hA.2.2.2.1 (Int32.lt_trans n1 l0)
                rw [this, R39]; exact n5 c10
  have hj175 : ∀ (l1 : Int32) (l3 : Int32) (τ : rS), ((mSR9 σ τ l1 B T ∧ tN3 σ τ l1 l3 B) ∧ g5_tellNamed σ = g5_tellNamed_175 l1 l3 τ) → w_tellNamed_175 C Q  l1 l3 τ := by
    rintro y175_1 y175_3 τ175 ⟨j175, hE⟩
    unfold w_tellNamed_175
    refine sign_g5 hC B T ?_ (fun σ_21 q22 => ?_)
    · clear h hE; exact j175.1.2.1.1  -- p14
    obtain ⟨q22, z9⟩ := q22
    replace hE := rb_p5 hE z9.symm
    clear z9
    refine ⟨ib_150.mpr ?_, ?_⟩
    · clear h hE; exact ⟨j175.1.2.2.2.2.1, j175.1.2.2.2.2.2.1⟩  -- b15
    intro σ_23 hσ_23
    replace hE := rb_p5 hE hσ_23
    have b1 := mS_sign j175.1 q22
    have m' : mSR9 σ σ_23 y175_1 B T := by rw [hσ_23]; exact mS_ri b1.1 (Or.inr rfl)
    have e23 : ∀ k, σ_23.1 k = σ_21.1 k := fun k => by rw [hσ_23, ri1]
    have r23 : ∀ k, k ≠ 32 → σ_23.2.2.1 k = σ_21.2.2.1 k := fun k hk => by rw [hσ_23, ri3 hk]
    have v32 : rd σ_23 32 y175_1 = σ_23.1 10 := by rw [rd, e23, hσ_23, ri4, if_pos rfl]
    have n' : tN3 σ σ_23 y175_1 y175_3 B := by
      intro f
      rw [e23] at f
      obtain ⟨f0, l0, e0, o0, -⟩ := b1.2.2 f
      obtain ⟨n1, n2, n3, n4, n5⟩ := j175.2 f0
      have R39 : σ_23.2.2.1 39 = τ175.2.2.1 39 := by rw [r23 39 (by decide), b1.2.1]
      have R30 : σ_23.2.2.1 30 = τ175.2.2.1 30 := by rw [r23 30 (by decide), b1.2.1]
      refine ⟨by rw [e23]; exact Int32.lt_trans n1 l0, by rw [e23, o0]; exact n2, by rw [rd, R30]; exact n3, ?_, fun z => by rw [rd, R39]; exact n5 z⟩
      rw [R39, e23]; exact tgO_up hP.1.1 n4 rLo_refl (Int32.le_of_lt l0)
    refine isRight_g5 hC  (fun r24 q26 => ?_)
    obtain ⟨q26, z9⟩ := q26
    replace hE := rb_p5 hE z9
    clear z9
    refine ⟨fun c27 => ?_, fun c27 => ?_⟩
    · skip
      replace hE := rb_t5 hE c27
      refine hj244 _ _ _ ?_
      · refine and_5 ?_ (fun o9 => hE)  -- k16
        clear h hE; exact ⟨m', n', fun _ => v32⟩
    · skip
      replace hE := rb_f5 hE c27
      refine isWord_g5 hC  ?_ (fun r28 q30 => ?_)
      · clear h hE; exact (mS_rows m').2.2.2  -- p17
      obtain ⟨q30, z9⟩ := q30
      replace hE := rb_p5 hE z9
      clear z9
      refine ⟨fun c31 => ?_, fun c31 => ?_⟩
      · skip
        replace hE := rb_t5 hE c31
        refine hj244 _ _ _ ?_
        · refine and_5 ?_ (fun o9 => hE)  -- k18
          clear h hE; exact ⟨m', n', fun _ => v32⟩
      · skip
        replace hE := rb_f5 hE c31
        refine ⟨ib_150.mpr ?_, ?_⟩
        · clear h hE; exact ⟨j175.1.2.2.2.2.1, j175.1.2.2.2.2.2.1⟩  -- b19
        intro σ_32 hσ_32
        replace hE := rb_p5 hE hσ_32
        have m2 : mSR9 σ σ_32 y175_1 B T := by rw [hσ_32]; exact mS_ri m' (Or.inl rfl)
        have e32 : ∀ k, σ_32.1 k = σ_23.1 k := fun k => by rw [hσ_32, ri1]
        have r32 : ∀ k, k ≠ 30 → σ_32.2.2.1 k = σ_23.2.2.1 k := fun k hk => by rw [hσ_32, ri3 hk]
        have v30 : rd σ_32 30 y175_1 = 4 := by rw [rd, hσ_32, ri4, if_pos rfl]
        have v32' : rd σ_32 32 y175_1 = σ_23.1 10 := by rw [rd, r32 32 (by decide)]; exact v32
        refine go_g5 hC B T ?_ (fun σ_33 q34 => ?_)
        · clear h hE; exact ⟨m2.2.1.1, fun _ => by rw [rd, r32 5 (by decide), e32]; show rd σ_23 5 (σ_23.1 10) ≠ 5; rw [(q30.2.mp c31).1]; decide⟩  -- p20
        obtain ⟨q34, z9⟩ := q34
        replace hE := rb_p5 hE z9.symm
        clear z9
        refine open_g5 hC B T ?_ (fun σ_35 q36 => ?_)
        · clear h hE; exact q34.2.1  -- p21
        obtain ⟨q36, z9⟩ := q36
        replace hE := rb_p5 hE z9.symm
        clear z9
        have b2 := mS_go m2 q34
        have b3 := mS_open b2.1 q36
        refine expr0_g5 hC B T ?_ (fun r37 σ_38 q39 => ?_)
        · clear h hE; exact ⟨b3.1.2.1, fun f => by obtain ⟨f1, l1, e1, o1, s1, o2⟩ := b3.2.2 f; obtain ⟨f0, l0, e0, o0⟩ := b2.2.2 f1; rw [e32] at f0 o0; rw [o0, (n' f0).2.1] at o2 o1; rw [o1]; exact oc_up ho1 ho2 o2⟩  -- p22
        obtain ⟨q39, z9⟩ := q39
        replace hE := rb_m5 hE z9
        clear z9
        refine close_g5 hC B T ?_ (fun σ_40 q41 => ?_)
        · clear h hE; exact q39.2.1.1  -- p23
        obtain ⟨q41, z9⟩ := q41
        replace hE := rb_p5 hE z9.symm
        clear z9
        refine sign_g5 hC B T ?_ (fun σ_42 q43 => ?_)
        · clear h hE; exact q41.2.1  -- p24
        obtain ⟨q43, z9⟩ := q43
        replace hE := rb_p5 hE z9.symm
        clear z9
        refine h _ ?_
        · refine and_5 ?_ (fun o9 => hE)  -- q25
          clear h hE; have b4 := mS_expr b3.1 q39
          have b5 := mS_close b4.1 q41
          have b6 := mS_sign b5.1 q43
          refine ⟨y175_1, b6.1, fun f => ?_⟩
          obtain ⟨f5, l5, e5, o5, -⟩ := b6.2.2 f
          obtain ⟨f4, l4, e4, o4, -⟩ := b5.2.2 f5
          obtain ⟨f3, l3, o3, z3⟩ := b4.2.2.2.2 f4
          obtain ⟨f2, l2, e2, o2, s2, ox⟩ := b3.2.2 f3
          obtain ⟨f1, l1, e1, o1⟩ := b2.2.2 f2
          rw [e32] at f1 l1 e1 o1
          obtain ⟨n1, n2, n3, n4, n5⟩ := n' f1
          have k30 : rd σ_42 30 y175_1 = 4 := by
            have : rd σ_42 30 y175_1 = rd σ_38 30 y175_1 := by rw [rd, b6.2.1, b5.2.1]
            rw [this, b4.2.2.1, rd, b3.2.1, b2.2.1]; exact v30
          have k32 : rd σ_42 32 y175_1 = σ_23.1 10 := by
            have : rd σ_42 32 y175_1 = rd σ_38 32 y175_1 := by rw [rd, b6.2.1, b5.2.1]
            rw [this, b4.2.2.2.1, rd, b3.2.1, b2.2.1]; exact v32'
          have R0 : σ_35.2.2.1 39 = σ_23.2.2.1 39 := by rw [b3.2.1, b2.2.1, r32 39 (by decide)]
          have R1 : σ_42.2.2.1 39 = σ_38.2.2.1 39 := by rw [b6.2.1, b5.2.1]
          have hR := b4.2.1
          rw [R0] at hR
          have x2 : σ_35.1 10 = σ_23.1 10 + 2 := by rw [e2, e1]; exact up_2
          have lx : σ_23.1 10 < σ_35.1 10 := Int32.lt_trans l1 l2
          have lP := Int32.lt_trans l4 l5
          have lQ := Int32.lt_of_le_of_lt l3 lP
          rw [k30, k32, R1]
          refine ⟨Int32.lt_trans n1 (Int32.lt_trans lx lQ), by rw [o5, o4, o3, o2, o1, n2]; exact oc_dn, Or.inr (Or.inr (Or.inr (Or.inl ⟨rfl, ?_, m'.2.1.1.2.2.2.2.1, Int32.lt_trans lx lQ, ?_⟩)))⟩
          · exact tgO_up hP.1.1 n4 (fun t ht ht2 => hR t ht (Int32.lt_trans ht2 lx)) (Int32.le_of_lt (Int32.lt_trans lx lQ))
          · rw [← x2]; exact ⟨b3.1.2.1.1.2.2.2.2.1, σ_38.1 10, z3, l3, lP⟩
  have hj133 : ∀ (l1 : Int32) (l3 : Int32) (τ : rS), ((mSR9 σ τ l1 B T ∧ tN3 σ τ l1 l3 B) ∧ g5_tellNamed σ = g5_tellNamed_133 l1 l3 τ) → w_tellNamed_133 C Q  l1 l3 τ := by
    rintro y133_1 y133_3 τ133 ⟨j133, hE⟩
    unfold w_tellNamed_133
    refine isRight_g5 hC  (fun r44 q46 => ?_)
    obtain ⟨q46, z9⟩ := q46
    replace hE := rb_p5 hE z9
    clear z9
    refine ⟨fun c47 => ?_, fun c47 => ?_⟩
    · skip
      replace hE := rb_t5 hE c47
      refine hj175 _ _ _ ?_
      · refine and_5 ?_ (fun o9 => hE)  -- k26
        clear h hE; exact ⟨j133.1, j133.2⟩
    · skip
      replace hE := rb_f5 hE c47
      refine isAt_g5 hC  ?_ (fun r48 q50 => ?_)
      · clear h hE; exact (mS_rows j133.1).2.2.2  -- p27
      obtain ⟨q50, z9⟩ := q50
      replace hE := rb_p5 hE z9
      clear z9
      refine ⟨fun c51 => ?_, fun c51 => ?_⟩
      · skip
        replace hE := rb_t5 hE c51
        refine hj175 _ _ _ ?_
        · refine and_5 ?_ (fun o9 => hE)  -- k28
          clear h hE; exact ⟨j133.1, j133.2⟩
      · skip
        replace hE := rb_f5 hE c51
        refine go_g5 hC B T ?_ (fun σ_52 q53 => ?_)
        · clear h hE; exact ⟨j133.1.2.1.1, fun _ => by rw [(q50.2.mp c51).1]; decide⟩  -- p29
        obtain ⟨q53, z9⟩ := q53
        replace hE := rb_p5 hE z9.symm
        clear z9
        refine ⟨ib_150.mpr ?_, ?_⟩
        · clear h hE; exact ⟨j133.1.2.2.2.2.1, j133.1.2.2.2.2.2.1⟩  -- b30
        intro σ_54 hσ_54
        replace hE := rb_p5 hE hσ_54
        refine ⟨ib_150.mpr ?_, ?_⟩
        · clear h hE; exact ⟨j133.1.2.2.2.2.1, j133.1.2.2.2.2.2.1⟩  -- b31
        intro σ_55 hσ_55
        replace hE := rb_p5 hE hσ_55
        have b1 := mS_go j133.1 q53
        have m2 : mSR9 σ σ_54 y133_1 B T := by rw [hσ_54]; exact mS_ri b1.1 (Or.inl rfl)
        have m3 : mSR9 σ σ_55 y133_1 B T := by rw [hσ_55]; exact mS_ri m2 (Or.inr rfl)
        have e55 : ∀ k, σ_55.1 k = σ_52.1 k := fun k => by rw [hσ_55, ri1, hσ_54, ri1]
        have r55 : ∀ k, k ≠ 30 → k ≠ 32 → σ_55.2.2.1 k = σ_52.2.2.1 k := fun k h1 h2 => by rw [hσ_55, ri3 h2, hσ_54, ri3 h1]
        have v30 : rd σ_55 30 y133_1 = 3 := by rw [rd, hσ_55, ri3 (by decide), hσ_54, ri4, if_pos rfl]
        have v32 : rd σ_55 32 y133_1 = σ_55.1 10 := by rw [rd, e55, hσ_55, ri4, if_pos rfl, hσ_54, ri1]
        refine tellDraw_g5 hC B T ?_ (fun σ_56 q57 => ?_)
        · clear h hE; exact ⟨m3.2.1, fun f => by rw [e55] at f; obtain ⟨f0, l0, e0, o0⟩ := b1.2.2 f; rw [e55, o0, (j133.2 f0).2.1]; exact ⟨ho1, ho2⟩⟩  -- p32
        obtain ⟨q57, z9⟩ := q57
        replace hE := rb_p5 hE z9.symm
        clear z9
        refine h _ ?_
        · refine and_5 ?_ (fun o9 => hE)  -- q33
          clear h hE; have m4 := mS_aI m3 q57.1 (fun f => Int32.le_of_lt (q57.2 f).2.1)
          refine ⟨y133_1, m4, fun f => ?_⟩
          obtain ⟨f1, l1, o1, hd⟩ := q57.2 f
          have rB := mS_rows m3
          rw [e55] at f1
          obtain ⟨f0, l0, e0, o0⟩ := b1.2.2 f1
          obtain ⟨n1, n2, n3, n4, n5⟩ := j133.2 f0
          have k30 : rd σ_56 30 y133_1 = 3 := by rw [rd, q57.1.1.2.2.1 30 (by decide) (by decide) (by decide) (by decide)]; exact v30
          have k32 : rd σ_56 32 y133_1 = σ_55.1 10 := by rw [rd, q57.1.1.2.2.1 32 (by decide) (by decide) (by decide) (by decide)]; exact v32
          have R0 : σ_55.2.2.1 39 = τ133.2.2.1 39 := by rw [r55 39 (by decide) (by decide), b1.2.1]
          have hR := q57.1.2.2.1
          rw [R0] at hR
          have lx : τ133.1 10 < σ_55.1 10 := by rw [e55]; exact l0
          rw [rB.1, rB.2.1] at hd
          rw [k30, k32]
          refine ⟨Int32.lt_trans n1 (Int32.lt_trans lx l1), by rw [o1, e55, o0]; exact n2, Or.inr (Or.inr (Or.inl ⟨rfl, ?_, m3.2.1.1.2.2.2.2.1, l1, hd⟩))⟩
          exact tgO_up hP.1.1 n4 (fun t ht ht2 => hR t ht (Int32.lt_trans ht2 lx)) (Int32.le_of_lt (Int32.lt_trans lx l1))
  have hj109 : ∀ (l1 : Int32) (l3 : Int32) (s1 : Int32) (s2 : Int32) (τ : rS), ((mSR9 σ τ l1 B T ∧ s1 = σ.1 10 ∧ τ.1 11 = 0 ∧ τ.1 10 = σ.1 10 + 1 ∧ τ.1 13 = σ.1 13 ∧ rd τ 30 l1 = 2 ∧ ¬ sg (σ.2.2.1 5) (σ.2.2.1 7) (σ.1 10 + 1) 40 ∧ (l3 = 0 → s2 = -1 ∨ validV s2) ∧ (l3 ≠ 0 → s2 = -1 ∨ validC s2)) ∧ g5_tellNamed σ = g5_tellNamed_109 l1 l3 s1 s2 τ) → w_tellNamed_109 C Q  l1 l3 s1 s2 τ := by
    rintro y109_1 y109_3 y109_s1 y109_s2 τ109 ⟨j109, hE⟩
    unfold w_tellNamed_109
    refine look_g5 hC  ?_ (fun σ_58 q59 => ?_)
    · clear h hE; rw [j109.2.1]; exact hA.2.2.2  -- p34
    obtain ⟨q59, z9⟩ := q59
    replace hE := rb_p5 hE z9.symm
    clear z9
    have qq := q59
    rw [j109.2.1] at qq
    obtain ⟨w1, w2, w3, w4, w5, w6, w7, w8, w9⟩ := j109
    have m' := mS_look w1 hP.1.2.2.2.2.1 hP.1.2.2.2.2.2 hA.2.2.2.1 qq
    have e58 : σ_58.1 10 = σ.1 10 + 1 ∧ σ_58.1 13 = σ.1 13 ∧ rd σ_58 30 y109_1 = 2 := ⟨by rw [qq.1.1 10 (by decide) (by decide)]; exact w4, by rw [qq.1.1 13 (by decide) (by decide)]; exact w5, by rw [rd, qq.1.2.2.1 30 (by decide)]; exact w6⟩
    have ltb : σ.1 10 < σ_58.1 10 := at_up hP.1 m'.2.1.1.2.2.2.2.2 e58.1
    refine ⟨fun c60 => ?_, fun c60 => ?_⟩
    · skip
      replace hE := rb_t5 hE c60
      refine hj133 _ _ _ ?_
      · refine and_5 ?_ (fun o9 => hE)  -- k35
        clear h hE; refine ⟨m', fun f => ?_⟩
        have nv : validV (rd σ_58 39 (σ.1 10)) := by
          rw [qq.2.2.1]
          rcases w8 c60 with z | z
          · exact absurd z (qq.2.2.2.1 f).2
          · exact z
        exact ⟨ltb, e58.2.1, e58.2.2, ⟨hP.1.2.2.2.2.1, ltb, w7, Or.inl nv⟩, fun _ => nv⟩
    · skip
      replace hE := rb_f5 hE c60
      refine open_g5 hC B T ?_ (fun σ_61 q62 => ?_)
      · clear h hE; exact m'.2.1.1  -- p36
      obtain ⟨q62, z9⟩ := q62
      replace hE := rb_p5 hE z9.symm
      clear z9
      have b1 := mS_open m' q62
      refine expr0_g5 hC B T ?_ (fun r63 σ_64 q65 => ?_)
      · clear h hE; exact ⟨b1.1.2.1, fun f => by obtain ⟨f1, l1, e1, o1, s1, o2⟩ := b1.2.2 f; rw [e58.2.1] at o2 o1; rw [o1]; exact oc_up ho1 ho2 o2⟩  -- p37
      obtain ⟨q65, z9⟩ := q65
      replace hE := rb_m5 hE z9
      clear z9
      refine close_g5 hC B T ?_ (fun σ_66 q67 => ?_)
      · clear h hE; exact q65.2.1.1  -- p38
      obtain ⟨q67, z9⟩ := q67
      replace hE := rb_p5 hE z9.symm
      clear z9
      refine hj133 _ _ _ ?_
      · refine and_5 ?_ (fun o9 => hE)  -- k39
        clear h hE; have b2 := mS_expr b1.1 q65
        have b3 := mS_close b2.1 q67
        refine ⟨b3.1, fun f => ?_⟩
        obtain ⟨f2, l2, e2, o2, -⟩ := b3.2.2 f
        obtain ⟨f1, l1, o1, z1⟩ := b2.2.2.2.2 f2
        obtain ⟨f0, l0, e0, o0, s0, ox⟩ := b1.2.2 f1
        have nv : validC (rd σ_58 39 (σ.1 10)) := by
          rw [qq.2.2.1]
          rcases w9 c60 with z | z
          · exact absurd z (qq.2.2.2.1 f0).2
          · exact z
        have hR := b2.2.1
        rw [b1.2.1] at hR
        have l01 := Int32.lt_trans ltb l0
        have lP := Int32.lt_of_lt_of_le l01 (Int32.le_trans l1 (Int32.le_of_lt l2))
        have k30 : rd σ_66 30 y109_1 = 2 := by
          have : rd σ_66 30 y109_1 = rd σ_64 30 y109_1 := by rw [rd, b3.2.1]
          rw [this, b2.2.2.1, rd, b1.2.1]; exact e58.2.2
        have x2 : σ_61.1 10 = σ.1 10 + 2 := by rw [e0, e58.1]; exact up_2
        rw [b3.2.1]
        refine ⟨lP, by rw [o2, o1, o0, e58.2.1]; exact oc_dn, k30, ⟨hP.1.2.2.2.2.1, lP, w7, Or.inr ⟨?_, ?_⟩⟩, fun z => absurd z c60⟩
        · rw [hR (σ.1 10) hA.2.2.2.1 l01]; exact nv
        · rw [← x2]; exact ⟨b1.1.2.1.1.2.2.2.2.1, σ_64.1 10, z1, l1, l2⟩
  have hj90 : ∀ (l1 : Int32) (l2 : Int32) (l3 : Int32) (τ : rS), ((mSR9 σ τ l1 B T ∧ l2 = σ.1 10 ∧ τ.1 11 = 0 ∧ τ.1 10 = σ.1 10 + 1 ∧ τ.1 13 = σ.1 13 ∧ rd τ 30 l1 = 2 ∧ ¬ sg (σ.2.2.1 5) (σ.2.2.1 7) (σ.1 10 + 1) 40) ∧ g5_tellNamed σ = g5_tellNamed_90 l1 l2 l3 τ) → w_tellNamed_90 C Q  l1 l2 l3 τ := by
    rintro y90_1 y90_2 y90_3 τ90 ⟨j90, hE⟩
    unfold w_tellNamed_90
    refine ⟨fun c68 => ?_, fun c68 => ?_⟩
    · skip
      replace hE := rb_t5 hE c68
      refine variableOf_g5 hC  ?_ (fun r69 q71 => ?_)
      · clear h hE; rw [j90.2.1]; exact ⟨j90.1.2.1.2.2.1, j90.1.2.1.2.2.2.1, hA.2.2.2⟩  -- p40
      obtain ⟨q71, z9⟩ := q71
      replace hE := rb_p5 hE z9
      clear z9
      refine hj109 _ _ _ _ _ ?_
      · refine and_5 ?_ (fun o9 => hE)  -- k41
        clear h hE; obtain ⟨w1, w2, w3, w4, w5, w6, w7⟩ := j90
        refine ⟨w1, w2, w3, w4, w5, w6, w7, fun _ => ?_, fun z => absurd c68 z⟩
        have t1 := w1.2.1.2.2.1
        have t2 := w1.2.1.2.2.2.1.2.2.2.2.2 (τ90.1 41).toNatClampNeg
        clear w1 hP hS
        grind [validV, tyF]
    · skip
      replace hE := rb_f5 hE c68
      refine arrayOf_g5 hC  ?_ (fun r72 q74 => ?_)
      · clear h hE; rw [j90.2.1]; exact ⟨j90.1.2.1.2.2.1, j90.1.2.1.2.2.2.1, hA.2.2.2⟩  -- p42
      obtain ⟨q74, z9⟩ := q74
      replace hE := rb_p5 hE z9
      clear z9
      refine hj109 _ _ _ _ _ ?_
      · refine and_5 ?_ (fun o9 => hE)  -- k43
        clear h hE; obtain ⟨w1, w2, w3, w4, w5, w6, w7⟩ := j90
        refine ⟨w1, w2, w3, w4, w5, w6, w7, fun z => absurd z c68, fun _ => ?_⟩
        have t1 := w1.2.1.2.2.1
        clear w1 hP hS
        grind [validC, tyF]
  have hE : g5_tellNamed σ = g5_tellNamed σ := rfl
  refine newStatement_g5 hC B T ?_ (fun r75 σ_76 q77 => ?_)
  · clear h hE; exact ⟨hP.1, hP.2.2.1, hS, hb1, hb2, by rw [hn]; decide⟩  -- p44
  obtain ⟨q77, z9⟩ := q77
  replace hE := rb_m5 hE z9
  clear z9
  intro x78 hx78
  replace hE := rb_p5 hE hx78
  have m0 := mS_new hP q77
  have g5 : rd σ_76 5 (σ_76.1 10) = 1 := by rw [rd, (mS_rows m0.1).1, m0.2.2.1]; exact hn
  refine go_g5 hC B T ?_ (fun σ_79 q80 => ?_)
  · clear h hE; exact ⟨m0.1.2.1.1, fun _ => by rw [g5]; decide⟩  -- p45
  obtain ⟨q80, z9⟩ := q80
  replace hE := rb_p5 hE z9.symm
  clear z9
  have b1 := mS_go m0.1 q80
  have g : σ_79.1 11 = 0 → σ_79.1 10 = σ.1 10 + 1 ∧ σ_79.1 13 = σ.1 13 ∧ rd σ_79 30 r75 = 2 := fun f => by
    obtain ⟨f0, l0, e0, o0⟩ := b1.2.2 f
    exact ⟨by rw [e0, m0.2.2.1], by rw [o0, m0.2.2.2.1], by rw [rd, b1.2.1]; exact m0.2.1 f0⟩
  have gx : x78 = σ.1 10 := by rw [hx78, m0.2.2.1]
  have ga : ∀ v c, (v ≠ 0 ↔ rd σ_79 5 (σ_79.1 10) = 3 ∧ rd σ_79 7 (σ_79.1 10) = c) → σ_79.1 11 = 0 → (v ≠ (0 : Int32) ↔ sg (σ.2.2.1 5) (σ.2.2.1 7) (σ.1 10 + 1) c) := fun v c hv f => by
    rw [hv, rd, rd, (mS_rows b1.1).1, (mS_rows b1.1).2.1, (g f).1]; rfl
  refine isRight_g5 hC  (fun r81 q83 => ?_)
  obtain ⟨q83, z9⟩ := q83
  replace hE := rb_p5 hE z9
  clear z9
  refine ⟨fun c84 => ?_, fun c84 => ?_⟩
  · skip
    replace hE := rb_f5 hE c84
    refine isAt_g5 hC  ?_ (fun r85 q87 => ?_)
    · clear h hE; exact (mS_rows b1.1).2.2.2  -- p46
    obtain ⟨q87, z9⟩ := q87
    replace hE := rb_p5 hE z9
    clear z9
    refine ⟨fun c88 => ?_, fun c88 => ?_⟩
    · skip
      replace hE := rb_t5 hE c88
      refine isAt_g5 hC  ?_ (fun r89 q91 => ?_)
      · clear h hE; exact (mS_rows b1.1).2.2.2  -- p47
      obtain ⟨q91, z9⟩ := q91
      replace hE := rb_p5 hE z9
      clear z9
      refine ⟨fun c92 => ?_, fun c92 => ?_⟩
      · skip
        replace hE := rb_f5 hE c92
        refine hj90 _ _ _ _ ?_
        · refine and_5 ?_ (fun o9 => hE)  -- k48
          clear h hE; have f := q83.2.mp c84
          exact ⟨b1.1, gx, f, (g f).1, (g f).2.1, (g f).2.2, fun z => (ga r85 40 q87.2 f).mpr z c88⟩
      · skip
        replace hE := rb_t5 hE c92
        refine isAt_g5 hC  ?_ (fun r93 q95 => ?_)
        · clear h hE; exact (mS_rows b1.1).2.2.2  -- p49
        obtain ⟨q95, z9⟩ := q95
        replace hE := rb_p5 hE z9
        clear z9
        refine ⟨fun c96 => ?_, fun c96 => ?_⟩
        · skip
          replace hE := rb_f5 hE c96
          refine hj90 _ _ _ _ ?_
          · refine and_5 ?_ (fun o9 => hE)  -- k50
            clear h hE; have f := q83.2.mp c84
            exact ⟨b1.1, gx, f, (g f).1, (g f).2.1, (g f).2.2, fun z => (ga r85 40 q87.2 f).mpr z c88⟩
        · skip
          replace hE := rb_t5 hE c96
          refine isAt_g5 hC  ?_ (fun r97 q99 => ?_)
          · clear h hE; exact (mS_rows b1.1).2.2.2  -- p51
          obtain ⟨q99, z9⟩ := q99
          replace hE := rb_p5 hE z9
          clear z9
          refine ⟨fun c100 => ?_, fun c100 => ?_⟩
          · skip
            replace hE := rb_f5 hE c100
            refine hj90 _ _ _ _ ?_
            · refine and_5 ?_ (fun o9 => hE)  -- k52
              clear h hE; have f := q83.2.mp c84
              exact ⟨b1.1, gx, f, (g f).1, (g f).2.1, (g f).2.2, fun z => (ga r85 40 q87.2 f).mpr z c88⟩
          · skip
            replace hE := rb_t5 hE c100
            refine flaw_g5 hC  ?_ (fun σ_101 q102 => ?_)
            · clear h hE; exact ⟨(mS_rows b1.1).2.2.2.1, (mS_rows b1.1).2.2.2.2, by decide⟩  -- p53
            obtain ⟨q102, z9⟩ := q102
            replace hE := rb_p5 hE z9.symm
            clear z9
            refine h _ ?_
            · refine and_5 ?_ (fun o9 => hE)  -- q54
              clear h hE; have b := mS_flaw b1.1 q102
              exact ⟨r75, b.1, fun f => absurd f b.2⟩
    · skip
      replace hE := rb_f5 hE c88
      refine ⟨ib_150.mpr ?_, ?_⟩
      · clear h hE; exact ⟨b1.1.2.2.2.2.1, b1.1.2.2.2.2.2.1⟩  -- b55
      intro σ_103 hσ_103
      replace hE := rb_p5 hE hσ_103
      refine ⟨ib_150.mpr ?_, ?_⟩
      · clear h hE; exact ⟨b1.1.2.2.2.2.1, b1.1.2.2.2.2.2.1⟩  -- b56
      intro σ_104 hσ_104
      replace hE := rb_p5 hE hσ_104
      have f := q83.2.mp c84
      have m2 : mSR9 σ σ_103 r75 B T := by rw [hσ_103]; exact mS_ri b1.1 (Or.inl rfl)
      have m3 : mSR9 σ σ_104 r75 B T := by rw [hσ_104]; exact mS_ri m2 (Or.inr rfl)
      have e104 : ∀ k, σ_104.1 k = σ_79.1 k := fun k => by rw [hσ_104, ri1, hσ_103, ri1]
      have v30 : rd σ_104 30 r75 = 5 := by rw [rd, hσ_104, ri3 (by decide), hσ_103, ri4, if_pos rfl]
      have v32 : rd σ_104 32 r75 = σ.1 10 := by rw [rd, hσ_104, ri4, if_pos rfl]; exact gx
      refine arguments_g5 hC B T ?_ (fun σ_105 q106 => ?_)
      · clear h hE; exact ⟨m3.2.1, fun _ => by rw [e104, (g f).2.1]; exact ⟨ho1, ho2⟩⟩  -- p57
      obtain ⟨q106, z9⟩ := q106
      replace hE := rb_p5 hE z9.symm
      clear z9
      refine h _ ?_
      · refine and_5 ?_ (fun o9 => hE)  -- q58
        clear h hE; have m4 := mS_aI m3 q106.1 (fun f => Int32.le_of_lt (q106.2 f).2.1)
        refine ⟨r75, m4, fun f' => ?_⟩
        obtain ⟨f1, l1, o1, s40, n, hg⟩ := q106.2 f'
        have rB := mS_rows m3
        rw [rB.1, rB.2.1, e104, (g f).1] at s40
        rw [rB.1, rB.2.1, e104, (g f).1, up_2] at hg
        have k30 : rd σ_105 30 r75 = 5 := by rw [rd, q106.1.1.2.2.1 30 (by decide) (by decide) (by decide) (by decide)]; exact v30
        have k32 : rd σ_105 32 r75 = σ.1 10 := by rw [rd, q106.1.1.2.2.1 32 (by decide) (by decide) (by decide) (by decide)]; exact v32
        have lt1 : σ.1 10 < σ_105.1 10 := Int32.lt_trans (at_up hP.1 m3.2.1.1.2.2.2.2.2 (by rw [e104]; exact (g f).1)) l1
        rw [k30, k32]
        exact ⟨lt1, by rw [o1, e104]; exact (g f).2.1, Or.inr (Or.inr (Or.inr (Or.inr (Or.inl ⟨rfl, ⟨hP.1.2.2.2.2.1, lt1, hn, s40, n, hg⟩, fun z => absurd rfl z⟩))))⟩
  · skip
    replace hE := rb_t5 hE c84
    refine h _ ?_
    · refine and_5 ?_ (fun o9 => hE)  -- q59
      clear h hE; exact ⟨r75, b1.1, fun f => absurd c84 (q83.2.mpr f)⟩

theorem tellLocal_g5 {C : rCx} (hC : cOK C) (B T : Int32) {σ : rS}  {Q : rS → Prop} (hp : p0 σ B T ∧ tS σ ∧ 1 ≤ σ.1 42 ∧ σ.1 42 ≤ 64 ∧ 0 ≤ σ.1 13 ∧ σ.1 13 ≤ 40 ∧ rd σ 5 (σ.1 10) ≠ 5) (h : ∀ (σ' : rS), ((sU σ σ' B T ∧ (σ'.1 11 = 0 → σ'.1 13 = σ.1 13 ∧ σ'.1 42 = σ.1 42 ∧ σ'.2.2.1 43 = σ.2.2.1 43 ∧ sN σ σ' B)) ∧ g5_tellLocal σ = σ') → Q σ') : cV C 7 m_tellLocal [.ref (co C)] σ Q := by
  refine m_tellLocal_run hC ?_
  unfold w_tellLocal_0
  obtain ⟨hP, hS, hb1, hb2, ho1, ho2, hn⟩ := hp
  have hA := aI_at (aI_refl hP)
  have hE : g5_tellLocal σ = g5_tellLocal σ := rfl
  refine newStatement_g5 hC B T ?_ (fun r1 σ_2 q3 => ?_)
  · clear h hE; exact ⟨hP.1, hP.2.2.1, hS, hb1, hb2, hn⟩  -- p1
  obtain ⟨q3, z9⟩ := q3
  replace hE := rb_m5 hE z9
  clear z9
  have m0 := mS_new hP q3
  refine go_g5 hC B T ?_ (fun σ_4 q5 => ?_)
  · clear h hE; exact ⟨m0.1.2.1.1, fun _ => by rw [rd, (mS_rows m0.1).1, m0.2.2.1]; exact hn⟩  -- p2
  obtain ⟨q5, z9⟩ := q5
  replace hE := rb_p5 hE z9.symm
  clear z9
  have b1 := mS_go m0.1 q5
  refine ⟨ib_10.mpr ?_, ?_⟩
  · clear h hE; exact fn_b b1.1.2.1  -- b3
  refine fresh_g5 hC B T ?_ (fun r6 σ_7 q8 => ?_)
  · clear h hE; exact ⟨b1.1.2.1.1, b1.1.2.1.2.2.1, b1.1.2.1.2.2.2.1⟩  -- p4
  obtain ⟨q8, z9⟩ := q8
  replace hE := rb_m5 hE z9
  clear z9
  refine sign_g5 hC B T ?_ (fun σ_9 q10 => ?_)
  · clear h hE; exact q8.2.1  -- p5
  obtain ⟨q10, z9⟩ := q10
  replace hE := rb_p5 hE z9.symm
  clear z9
  have b2 : mSR9 σ σ_7 r1 B T := mS_aI b1.1 (aI_fr (aI_refl b1.1.2.1) q8.2.1 ⟨fun k z1 z2 z3 _ => q8.1.1 k z1 z2 z3, q8.1.2⟩ (fun z e => z (q8.2.2.2.2 e).1)) (fun f => Int32.le_of_lt (at_up b1.1.2.1.1 q8.2.1.2.2.2.2.2 (q8.2.2.2.2 f).2.2.2.1))
  have b3 := mS_sign b2 q10
  refine ⟨ib_150.mpr ?_, ?_⟩
  · clear h hE; exact ⟨b2.2.2.2.2.1, b2.2.2.2.2.2.1⟩  -- b6
  intro σ_11 hσ_11
  replace hE := rb_p5 hE hσ_11
  have m' : mSR9 σ σ_11 r1 B T := by rw [hσ_11]; exact mS_ri b3.1 (Or.inr rfl)
  have e11 : ∀ k, σ_11.1 k = σ_9.1 k := fun k => by rw [hσ_11, ri1]
  have r11 : ∀ k, k ≠ 32 → σ_11.2.2.1 k = σ_9.2.2.1 k := fun k hk => by rw [hσ_11, ri3 hk]
  have v32 : rd σ_11 32 r1 = σ_11.1 10 := by rw [rd, e11, hσ_11, ri4, if_pos rfl]
  have gf : σ_11.1 11 = 0 → σ_4.1 10 = σ.1 10 + 1 ∧ σ.1 10 < σ_4.1 10 ∧ σ_4.1 10 < σ_11.1 10 ∧ σ_11.1 13 = σ.1 13 ∧ sg (σ.2.2.1 5) (σ.2.2.1 7) (σ.1 10 + 2) 61 ∧ rd σ_4 27 (σ_4.1 41) < 8 ∧ rd σ_2 30 r1 = 1 := fun f => by
    rw [e11] at f
    obtain ⟨f7, l7, e7, o7, s7⟩ := b3.2.2 f
    obtain ⟨f4, s4, lt4, e4, -⟩ := q8.2.2.2.2 f7
    obtain ⟨f2, l2, e2, o2⟩ := b1.2.2 f4
    have l4 := at_up b1.1.2.1.1 q8.2.1.2.2.2.2.2 e4
    rw [m0.2.2.1] at e2 l2
    rw [e4, e2, up_2] at s7
    exact ⟨e2, l2, by rw [e11]; exact Int32.lt_trans l4 l7, by rw [e11, o7, q8.1.1 13 (by decide) (by decide) (by decide), o2, m0.2.2.2.1], s7, lt4, m0.2.1 f2⟩
  refine expr0_g5 hC B T ?_ (fun r12 σ_13 q14 => ?_)
  · clear h hE; exact ⟨m'.2.1, fun f => by rw [(gf f).2.2.2.1]; exact ⟨ho1, ho2⟩⟩  -- p7
  obtain ⟨q14, z9⟩ := q14
  replace hE := rb_m5 hE z9
  clear z9
  refine sign_g5 hC B T ?_ (fun σ_15 q16 => ?_)
  · clear h hE; exact q14.2.1.1  -- p8
  obtain ⟨q16, z9⟩ := q16
  replace hE := rb_p5 hE z9.symm
  clear z9
  have b4 := mS_expr m' q14
  have b5 := mS_sign b4.1 q16
  refine isRight_g5 hC  (fun r17 q19 => ?_)
  obtain ⟨q19, z9⟩ := q19
  replace hE := rb_p5 hE z9
  clear z9
  refine ⟨fun c20 => ?_, fun c20 => ?_⟩
  · skip
    replace hE := rb_t5 hE c20
    refine h _ ?_
    · refine and_5 ?_ (fun o9 => hE)  -- q9
      clear h hE; exact sT_U ⟨r1, b5.1, fun f => absurd c20 (q19.2.mpr f)⟩
  · skip
    replace hE := rb_f5 hE c20
    have f15 : σ_15.1 11 = 0 := q19.2.mp c20
    obtain ⟨f13, l13, e13, o13, -⟩ := b5.2.2 f15
    obtain ⟨fE, lE, oE, zE⟩ := b4.2.2.2.2 f13
    obtain ⟨g1, g2, g3, g4, g5, g6, g7⟩ := gf fE
    have r27 : σ_15.2.2.1 27 = σ_4.2.2.1 27 := by rw [b5.2.1, q14.1.2.2.1 27 (by decide) (by decide) (by decide) (by decide), r11 27 (by decide), b3.2.1, q8.1.2]
    have e41 : σ_15.1 41 = σ_4.1 41 := by rw [q16.1.1 41 (by decide) (by decide) (by decide), q14.1.1 41 (by decide) (by decide) (by decide) (by decide) (by decide) (by decide), e11, q10.1.1 41 (by decide) (by decide) (by decide), q8.1.1 41 (by decide) (by decide) (by decide)]
    have hv8 : rd σ_15 27 (σ_15.1 41) < 8 := by rw [rd, r27, e41]; exact g6
    have hv0 : 0 ≤ rd σ_15 27 (σ_15.1 41) := (vr_b b5.1.2.1 _).1
    have hfn := fn_b b5.1.2.1
    have h6 : 0 ≤ r6 ∧ r6 < 131074 := by rw [q8.2.2.1]; exact (mS_rows b1.1).2.2.2
    refine ⟨ib_10.mpr ?_, ?_⟩
    · clear h hE; exact hfn  -- b10
    refine ⟨ib_131074.mpr ?_, ?_⟩
    · clear h hE; exact h6  -- b11
    intro σ_21 hσ_21
    replace hE := rb_p5 hE hσ_21
    refine ⟨ib_10.mpr ?_, ?_⟩
    · clear h hE; rw [hσ_21, ri1]; exact hfn  -- b12
    refine ⟨ib_80.mpr ?_, ?_⟩
    · clear h hE; rw [hσ_21, ri1, ri3 (by decide)]; exact ix_b hfn.1 hfn.2 hv0 hv8  -- b13
    intro σ_22 hσ_22
    replace hE := rb_p5 hE hσ_22
    refine ⟨ib_10.mpr ?_, ?_⟩
    · clear h hE; rw [hσ_22, ri1, hσ_21, ri1]; exact hfn  -- b14
    refine ⟨ib_10.mpr ?_, ?_⟩
    · clear h hE; rw [hσ_22, ri1, hσ_21, ri1]; exact hfn  -- b15
    intro σ_23 hσ_23
    replace hE := rb_p5 hE hσ_23
    refine h _ ?_
    · refine and_5 ?_ (fun o9 => hE)  -- q16
      clear h hE; have ff : ∀ k, σ_23.1 k = σ_15.1 k := fun k => by rw [hσ_23, ri1, hσ_22, ri1, hσ_21, ri1]
      have rr : ∀ k, k ≠ 27 → k ≠ 28 → k ≠ 39 → σ_23.2.2.1 k = σ_15.2.2.1 k := fun k z1 z2 z3 => by rw [hσ_23, ri3 z1, hσ_22, ri3 z2, hσ_21, ri3 z3]
      have R39 : σ_23.2.2.1 39 = upd (σ_15.2.2.1 39) r6.toNatClampNeg (100 + rd σ_15 27 (σ_15.1 41)) := by rw [hσ_23, ri3 (by decide), hσ_22, ri3 (by decide), hσ_21, ri_row]
      have R28 : ∃ i, σ_23.2.2.1 28 = upd (σ_15.2.2.1 28) i r6 := ⟨_, by rw [hσ_23, ri3 (by decide), hσ_22, ri_row, hσ_21, ri3 (by decide)]⟩
      have R27 : ∃ i, σ_23.2.2.1 27 = upd (σ_15.2.2.1 27) i (rd σ_15 27 (σ_15.1 41) + 1) := ⟨_, by rw [hσ_23, ri_row, hσ_22, ri3 (by decide), ri1, hσ_21, ri3 (by decide), ri1]⟩
      have lg1 : ∀ k j, σ_23.2.2.2 k j = σ_15.2.2.2 k j := fun k j => by rw [hσ_23, ri5, hσ_22, ri5, hσ_21, ri5]
      have lg2 : ∀ k, σ_23.2.1 k = σ_15.2.1 k := fun k => by rw [hσ_23, ri2, hσ_22, ri2, hσ_21, ri2]
      have e6 : r6 = σ.1 10 + 1 := q8.2.2.1.trans g1
      have l6 : σ.1 10 < r6 := by rw [q8.2.2.1]; exact g2
      have l6x : r6 < σ_11.1 10 := by rw [q8.2.2.1]; exact g3
      have lxP : σ_11.1 10 < σ_15.1 10 := Int32.lt_of_le_of_lt lE l13
      have lbP : σ.1 10 < σ_15.1 10 := Int32.lt_trans l6 (Int32.lt_trans l6x lxP)
      have h6T : r6 ≤ T := Int32.le_of_lt (Int32.lt_of_lt_of_le (Int32.lt_trans l6x lxP) b5.1.2.1.1.2.2.2.2.2)
      have hB := hP.1.2.2.2.2.1
      have lo : ∀ a, a ≤ r6 → rLo (σ_15.2.2.1 39) (σ_23.2.2.1 39) a := fun a ha t ht ht2 => by rw [R39]; exact upd_ne (cn_ne ht (Int32.lt_of_lt_of_le ht2 ha))
      have hi : rHi (σ_15.2.2.1 39) (σ_23.2.2.1 39) T := fun t ht => by rw [R39]; exact upd_ne (cn_ne h6.1 (Int32.lt_of_le_of_lt h6T ht)).symm
      obtain ⟨w1, w2, w3, w4, w5, w6, w7, w8⟩ := b5.1
      obtain ⟨m1, m2, m3, m4, m5, m6⟩ := w8 f15
      have pP : p0 σ_23 B T := by
        obtain ⟨t1, t2, t3, t4, t5, t6, t7⟩ := w2
        refine ⟨?_, t2, ?_, ?_, ?_, by rw [ff]; exact t6, by rw [ff]; exact t7⟩
        · obtain ⟨u1, u2, u3, u4, u5, u6⟩ := t1
          exact ⟨u1, u2, u3, ⟨by rw [rd, rr 5 (by decide) (by decide) (by decide)]; exact u4.1, by rw [ff]; exact u4.2.1, by rw [ff]; exact u4.2.2⟩, by rw [ff]; exact u5, by rw [ff]; exact u6⟩
        · show tyF _ _ _ _ _ _ _ _
          simp only [ff]; exact t3
        · show tyN _ _ _ _ _ _
          obtain ⟨i1, z1⟩ := R28
          obtain ⟨i2, z2⟩ := R27
          rw [rr 20 (by decide) (by decide) (by decide), rr 22 (by decide) (by decide) (by decide), rr 25 (by decide) (by decide) (by decide), rr 26 (by decide) (by decide) (by decide), z1, z2]
          obtain ⟨u1, u2, u3, u4, u5, u6⟩ := t4
          exact ⟨u1, u2, u3, eB_upd u4 h6.1 h6.2, u5, eB_upd u6 (up9 hv0 hv8).1 (up9 hv0 hv8).2⟩
        · show tyA _ _
          rw [rr 23 (by decide) (by decide) (by decide), rr 24 (by decide) (by decide) (by decide)]; exact t5
      refine ⟨⟨?_, pP, ?_, rHi_tr w4.1 hi, rLo_tr w4.2 (lo B (Int32.le_trans hB (Int32.le_of_lt l6))) (Int32.le_refl _), fun z => by rw [ff]; exact w7 z, fun _ => ⟨Decidable.byContradiction (fun z => w7 z f15), by rw [ff]; exact lbP, rLo_tr m2.2 (lo _ (Int32.le_of_lt l6)) (Int32.le_refl _)⟩⟩, fun _ => ⟨by rw [ff, o13, oE, g4], by rw [ff]; exact w1.1 42 (by decide) (by decide) (by decide) (by decide) (by decide) (by decide) (by decide), ?_, by rw [ff]; exact m3, ?_, fun j hj => ?_, ?_, lkN_o m6.2 (rr 29 (by decide) (by decide) (by decide)) (rr 33 (by decide) (by decide) (by decide)) (rr 34 (by decide) (by decide) (by decide)) (rr 35 (by decide) (by decide) (by decide)) (ff 19)⟩⟩
      · refine ⟨fun k z1 z2 z3 z4 z5 z6 z7 z8 => by rw [ff]; exact w1.1 k z1 z2 z3 z4 z5 z7 z8, fun k => by rw [lg2]; exact w1.2.1 k, ?_, ?_, fun k j => by rw [lg1]; exact w1.2.2.2.2 k j⟩
        · intro k z1 z2 z3 z4 z5 z6 z7 z8 z9 za zb zc zd ze zf zg zh zi
          rw [rr k z1 z2 zc]; exact w1.2.2.1 k z3 z4 z5 z6 z7 z8 z9 za zb zc ze zg zh zi
        · intro k j z1 z2 z3 z4 z5 z6 z7 z8 z9 za zb zc zd ze zf zg zh zi
          rw [rr k z1 z2 zc]; exact w1.2.2.2.1 k j z3 z4 z5 z6 z7 z8 z9 za zb zc ze zg zh zi
      · show tyS _ _ _ _ _ _ _ _
        rw [rr 29 (by decide) (by decide) (by decide), rr 33 (by decide) (by decide) (by decide), rr 34 (by decide) (by decide) (by decide), rr 35 (by decide) (by decide) (by decide), rr 36 (by decide) (by decide) (by decide), rr 38 (by decide) (by decide) (by decide), rr 43 (by decide) (by decide) (by decide), rr 44 (by decide) (by decide) (by decide)]
        exact w3
      · rw [rr 43 (by decide) (by decide) (by decide)]; exact w1.2.2.1 43 (by decide) (by decide) (by decide) (by decide) (by decide) (by decide) (by decide) (by decide) (by decide) (by decide) (by decide) (by decide) (by decide) (by decide)
      · rw [← m1, rd, rr 36 (by decide) (by decide) (by decide)]; exact m4
      · rw [← m1] at hj
        rw [rr 30 (by decide) (by decide) (by decide), rr 31 (by decide) (by decide) (by decide), rr 32 (by decide) (by decide) (by decide), rr 36 (by decide) (by decide) (by decide)]
        exact m6.1 j hj
      · have k30 : rd σ_23 30 (σ.1 19) = 1 := by
          rw [← m1, rd, rr 30 (by decide) (by decide) (by decide), b5.2.1]
          refine b4.2.2.1.trans ?_
          rw [rd, r11 30 (by decide), b3.2.1, q8.1.2, b1.2.1]; exact g7
        have k31 : rd σ_23 31 (σ.1 19) = σ.1 10 := by rw [← m1, rd, rr 31 (by decide) (by decide) (by decide)]; exact m5
        have k32 : rd σ_23 32 (σ.1 19) = σ_11.1 10 := by
          rw [← m1, rd, rr 32 (by decide) (by decide) (by decide), b5.2.1]
          exact b4.2.2.2.1.trans v32
        rw [k30, k31, k32, ff]
        refine Or.inl ⟨rfl, hB, by rw [← e6]; exact l6, by rw [← e6]; exact Int32.lt_trans l6x lxP, fun z => absurd (g5.2.symm.trans z.2) (by decide), ?_, m'.2.1.1.2.2.2.2.1, σ_13.1 10, ?_, lE, l13⟩
        · rw [← e6, R39, upd_eq]
          exact Or.inr (v100 hv0 hv8)
        · refine ePa_R zE (fun t ht ht2 _ => ?_)
          rw [R39, upd_ne (cn_ne h6.1 (Int32.lt_of_lt_of_le l6x ht)).symm, b5.2.1]

theorem tellStatement_g5 {C : rCx} (hC : cOK C) (B T : Int32) {σ : rS}  {Q : rS → Prop} (hp : p0 σ B T ∧ tS σ ∧ σ.1 11 = 0 ∧ 1 ≤ σ.1 42 ∧ σ.1 42 ≤ 40 ∧ σ.1 13 = σ.1 42) (h : ∀ (σ' : rS), ((sU σ σ' B T ∧ (σ'.1 11 = 0 → sN σ σ' B ∧ σ'.1 13 = σ'.1 42 ∧ ((σ'.1 42 = σ.1 42 ∧ σ'.2.2.1 43 = σ.2.2.1 43) ∨ (σ'.1 42 = σ.1 42 + 1 ∧ σ.1 42 ≠ 40 ∧ rd σ' 43 (σ.1 42) = σ.1 19 ∧ ∀ i : Int32, 0 ≤ i → i < σ.1 42 → rd σ' 43 i = rd σ 43 i)))) ∧ g5_tellStatement σ = σ') → Q σ') : cV C 9 m_tellStatement [.ref (co C)] σ Q := by
  refine m_tellStatement_run hC ?_
  unfold w_tellStatement_0
  obtain ⟨hP, hS, h11, hb1, hb2, ho⟩ := hp
  have hA := aI_at (aI_refl hP)
  have hbb := ob_b hb1 hb2
  have o0 : 0 ≤ σ.1 13 ∧ σ.1 13 ≤ 40 := by rw [ho]; exact ⟨hbb.1, hb2⟩
  have hj164 : ∀ (s1 : Int32) (τ : rS), ((σ = τ ∧ (s1 = 8 ∨ s1 = 9 ∨ s1 = 10) ∧ rd σ 5 (σ.1 10) = 6) ∧ g5_tellStatement σ = g5_tellStatement_164 s1 τ) → w_tellStatement_164 C Q  s1 τ := by
    rintro y164_s1 _ ⟨⟨rfl, j164⟩, hE⟩
    unfold w_tellStatement_164
    refine newStatement_g5 hC B T ?_ (fun r1 σ_2 q3 => ?_)
    · clear h hE; exact ⟨hP.1, hP.2.2.1, hS, hb1, hbb.2.2.1, by rw [j164.2]; decide⟩  -- p1
    obtain ⟨q3, z9⟩ := q3
    replace hE := rb_m5 hE z9
    clear z9
    have m0 := mS_new hP q3
    refine go_g5 hC B T ?_ (fun σ_4 q5 => ?_)
    · clear h hE; exact ⟨m0.1.2.1.1, fun _ => by rw [rd, (mS_rows m0.1).1, m0.2.2.1]; show rd σ 5 (σ.1 10) ≠ 5; rw [j164.2]; decide⟩  -- p2
    obtain ⟨q5, z9⟩ := q5
    replace hE := rb_p5 hE z9.symm
    clear z9
    have b1 := mS_go m0.1 q5
    refine ⟨ib_150.mpr ?_, ?_⟩
    · clear h hE; exact ⟨b1.1.2.2.2.2.1, b1.1.2.2.2.2.2.1⟩  -- b3
    intro σ_6 hσ_6
    replace hE := rb_p5 hE hσ_6
    have m' : mSR9 σ σ_6 r1 B T := by rw [hσ_6]; exact mS_ri b1.1 (Or.inr rfl)
    have e6 : ∀ k, σ_6.1 k = σ_4.1 k := fun k => by rw [hσ_6, ri1]
    have r6 : ∀ k, k ≠ 32 → σ_6.2.2.1 k = σ_4.2.2.1 k := fun k hk => by rw [hσ_6, ri3 hk]
    have v32 : rd σ_6 32 r1 = σ_6.1 10 := by rw [rd, e6, hσ_6, ri4, if_pos rfl]
    have gf : σ_6.1 11 = 0 → σ.1 10 < σ_6.1 10 ∧ σ_6.1 13 = σ.1 13 ∧ rd σ_6 30 r1 = y164_s1 := fun f => by
      rw [e6] at f
      obtain ⟨f2, l2, e2, o2⟩ := b1.2.2 f
      rw [m0.2.2.1] at l2
      exact ⟨by rw [e6]; exact l2, by rw [e6, o2, m0.2.2.2.1], by rw [rd, r6 30 (by decide), b1.2.1]; exact m0.2.1 f2⟩
    refine expr0_g5 hC B T ?_ (fun r7 σ_8 q9 => ?_)
    · clear h hE; exact ⟨m'.2.1, fun f => by rw [(gf f).2.1]; exact o0⟩  -- p4
    obtain ⟨q9, z9⟩ := q9
    replace hE := rb_m5 hE z9
    clear z9
    refine sign_g5 hC B T ?_ (fun σ_10 q11 => ?_)
    · clear h hE; exact q9.2.1.1  -- p5
    obtain ⟨q11, z9⟩ := q11
    replace hE := rb_p5 hE z9.symm
    clear z9
    refine h _ ?_
    · refine and_5 ?_ (fun o9 => hE)  -- q6
      clear h hE; have b4 := mS_expr m' q9
      have b5 := mS_sign b4.1 q11
      have u := mS_U b5.1 (fun f => by
        obtain ⟨f8, l8, e8, o8, -⟩ := b5.2.2 f
        obtain ⟨f6, l6, o6, z6⟩ := b4.2.2.2.2 f8
        have g := gf f6
        have k30 : rd σ_10 30 r1 = y164_s1 := by rw [rd, b5.2.1]; exact b4.2.2.1.trans g.2.2
        have k32 : rd σ_10 32 r1 = σ_6.1 10 := by rw [rd, b5.2.1]; exact b4.2.2.2.1.trans v32
        rw [k30, k32, b5.2.1]
        exact ⟨Int32.lt_of_lt_of_le g.1 (Int32.le_trans l6 (Int32.le_of_lt l8)), Or.inr (Or.inr (Or.inr (Or.inr (Or.inr ⟨Or.inr (Or.inr j164.1), m'.2.1.1.2.2.2.2.1, σ_8.1 10, z6, l6, l8⟩))))⟩)
      refine ⟨u.1, fun f => ⟨(u.2 f).2.2.2, ?_, Or.inl ⟨(u.2 f).1, (u.2 f).2.1⟩⟩⟩
      obtain ⟨f8, l8, e8, o8, -⟩ := b5.2.2 f
      obtain ⟨f6, l6, o6, z6⟩ := b4.2.2.2.2 f8
      rw [o8, o6, (gf f6).2.1, (u.2 f).1]; exact ho
  have hj133 : ∀  (τ : rS), ((σ = τ ∧ rd σ 5 (σ.1 10) = 6) ∧ g5_tellStatement σ = g5_tellStatement_133 τ) → w_tellStatement_133 C Q   τ := by
    rintro  _ ⟨⟨rfl, j133⟩, hE⟩
    unfold w_tellStatement_133
    refine isWord_g5 hC  ?_ (fun r12 q14 => ?_)
    · clear h hE; exact hA.2.2.2  -- p7
    obtain ⟨q14, z9⟩ := q14
    replace hE := rb_p5 hE z9
    clear z9
    refine ⟨fun c15 => ?_, fun c15 => ?_⟩
    · skip
      replace hE := rb_t5 hE c15
      refine isWord_g5 hC  ?_ (fun r16 q18 => ?_)
      · clear h hE; exact hA.2.2.2  -- p8
      obtain ⟨q18, z9⟩ := q18
      replace hE := rb_p5 hE z9
      clear z9
      refine ⟨fun c19 => ?_, fun c19 => ?_⟩
      · skip
        replace hE := rb_t5 hE c19
        refine hj164 _ _ ?_
        · refine and_5 ?_ (fun o9 => hE)  -- k9
          clear h hE; exact ⟨rfl, Or.inr (Or.inr rfl), j133⟩
      · skip
        replace hE := rb_f5 hE c19
        refine hj164 _ _ ?_
        · refine and_5 ?_ (fun o9 => hE)  -- k10
          clear h hE; exact ⟨rfl, Or.inr (Or.inl rfl), j133⟩
    · skip
      replace hE := rb_f5 hE c15
      refine hj164 _ _ ?_
      · refine and_5 ?_ (fun o9 => hE)  -- k11
        clear h hE; exact ⟨rfl, Or.inl rfl, j133⟩
  have hj68 : ∀ (s1 : Int32) (τ : rS), ((σ = τ ∧ (s1 = 6 ∨ s1 = 7) ∧ rd σ 5 (σ.1 10) = 6) ∧ g5_tellStatement σ = g5_tellStatement_68 s1 τ) → w_tellStatement_68 C Q  s1 τ := by
    rintro y68_s1 _ ⟨⟨rfl, j68⟩, hE⟩
    unfold w_tellStatement_68
    refine newStatement_g5 hC B T ?_ (fun r20 σ_21 q22 => ?_)
    · clear h hE; exact ⟨hP.1, hP.2.2.1, hS, hb1, hbb.2.2.1, by rw [j68.2]; decide⟩  -- p12
    obtain ⟨q22, z9⟩ := q22
    replace hE := rb_m5 hE z9
    clear z9
    have m0 := mS_new hP q22
    refine go_g5 hC B T ?_ (fun σ_23 q24 => ?_)
    · clear h hE; exact ⟨m0.1.2.1.1, fun _ => by rw [rd, (mS_rows m0.1).1, m0.2.2.1]; show rd σ 5 (σ.1 10) ≠ 5; rw [j68.2]; decide⟩  -- p13
    obtain ⟨q24, z9⟩ := q24
    replace hE := rb_p5 hE z9.symm
    clear z9
    have b1 := mS_go m0.1 q24
    refine ⟨ib_150.mpr ?_, ?_⟩
    · clear h hE; exact ⟨b1.1.2.2.2.2.1, b1.1.2.2.2.2.2.1⟩  -- b14
    intro σ_25 hσ_25
    replace hE := rb_p5 hE hσ_25
    have m' : mSR9 σ σ_25 r20 B T := by rw [hσ_25]; exact mS_ri b1.1 (Or.inr rfl)
    have e6 : ∀ k, σ_25.1 k = σ_23.1 k := fun k => by rw [hσ_25, ri1]
    have r6 : ∀ k, k ≠ 32 → σ_25.2.2.1 k = σ_23.2.2.1 k := fun k hk => by rw [hσ_25, ri3 hk]
    have v32 : rd σ_25 32 r20 = σ_25.1 10 := by rw [rd, e6, hσ_25, ri4, if_pos rfl]
    have gf : σ_25.1 11 = 0 → σ.1 10 < σ_25.1 10 ∧ σ_25.1 13 = σ.1 13 ∧ rd σ_25 30 r20 = y68_s1 := fun f => by
      rw [e6] at f
      obtain ⟨f2, l2, e2, o2⟩ := b1.2.2 f
      rw [m0.2.2.1] at l2
      exact ⟨by rw [e6]; exact l2, by rw [e6, o2, m0.2.2.2.1], by rw [rd, r6 30 (by decide), b1.2.1]; exact m0.2.1 f2⟩
    refine expr0_g5 hC B T ?_ (fun r26 σ_27 q28 => ?_)
    · clear h hE; exact ⟨m'.2.1, fun f => by rw [(gf f).2.1]; exact o0⟩  -- p15
    obtain ⟨q28, z9⟩ := q28
    replace hE := rb_m5 hE z9
    clear z9
    refine open_g5 hC B T ?_ (fun σ_29 q30 => ?_)
    · clear h hE; exact q28.2.1.1  -- p16
    obtain ⟨q30, z9⟩ := q30
    replace hE := rb_p5 hE z9.symm
    clear z9
    have b4 := mS_expr m' q28
    have b5 := mS_open b4.1 q30
    have e42 : σ_29.1 42 = σ.1 42 := b5.1.1.1 42 (by decide) (by decide) (by decide) (by decide) (by decide) (by decide) (by decide)
    refine openBlock_g5 hC  ?_ (fun σ_31 q32 => ?_)
    · clear h hE; exact ⟨by rw [e42]; exact hbb.1, by rw [e42]; exact hbb.2.1, Int32.le_trans (by decide) b5.1.2.2.2.2.1, b5.1.2.2.2.2.2.1, b5.1.2.2.1⟩  -- p17
    obtain ⟨q32, z9⟩ := q32
    replace hE := rb_p5 hE z9.symm
    clear z9
    refine h _ ?_
    · refine and_5 ?_ (fun o9 => hE)  -- q18
      clear h hE; have u := mS_U b5.1 (fun f => by
        obtain ⟨f8, l8, e8, o8, -⟩ := b5.2.2 f
        obtain ⟨f6, l6, o6, z6⟩ := b4.2.2.2.2 f8
        have g := gf f6
        have k30 : rd σ_29 30 r20 = y68_s1 := by rw [rd, b5.2.1]; exact b4.2.2.1.trans g.2.2
        have k32 : rd σ_29 32 r20 = σ_25.1 10 := by rw [rd, b5.2.1]; exact b4.2.2.2.1.trans v32
        rw [k30, k32, b5.2.1]
        exact ⟨Int32.lt_of_lt_of_le g.1 (Int32.le_trans l6 (Int32.le_of_lt l8)), Or.inr (Or.inr (Or.inr (Or.inr (Or.inr ⟨by rcases j68.1 with z | z; exact Or.inl z; exact Or.inr (Or.inl z), m'.2.1.1.2.2.2.2.1, σ_27.1 10, z6, l6, l8⟩))))⟩)
      have e11 : σ_31.1 11 = σ_29.1 11 := q32.1.1 11 (by decide)
      refine ⟨sU_ob u.1 q32 (by rw [e42]; exact hbb.1) (by rw [e42]; exact hbb.2.1), fun f => ?_⟩
      rw [e11] at f
      obtain ⟨f8, l8, e8, o8, s8, ox⟩ := b5.2.2 f
      obtain ⟨f6, l6, o6, z6⟩ := b4.2.2.2.2 f8
      have w := u.2 f
      have oc1 : σ_27.1 13 = σ.1 13 := by rw [o6, (gf f6).2.1]
      refine ⟨sN_ob w.2.2.2 q32, ?_, Or.inr ⟨by rw [q32.2.2.1, e42], by rw [← ho, ← oc1]; exact ox, ?_, fun i hi hj => ?_⟩⟩
      · rw [q32.1.1 13 (by decide), o8, oc1, ho, q32.2.2.1, e42]
      · have := q32.2.2.2.1
        rw [e42] at this
        rw [this]; exact w.2.2.1
      · have := q32.2.2.2.2 i hi (by rw [e42]; exact hj)
        rw [this, rd, w.2.1]
  have hj52 : ∀  (τ : rS), ((σ = τ ∧ rd σ 5 (σ.1 10) = 6) ∧ g5_tellStatement σ = g5_tellStatement_52 τ) → w_tellStatement_52 C Q   τ := by
    rintro  _ ⟨⟨rfl, j52⟩, hE⟩
    unfold w_tellStatement_52
    refine isWord_g5 hC  ?_ (fun r33 q35 => ?_)
    · clear h hE; exact hA.2.2.2  -- p19
    obtain ⟨q35, z9⟩ := q35
    replace hE := rb_p5 hE z9
    clear z9
    refine ⟨fun c36 => ?_, fun c36 => ?_⟩
    · skip
      replace hE := rb_t5 hE c36
      refine hj68 _ _ ?_
      · refine and_5 ?_ (fun o9 => hE)  -- k20
        clear h hE; exact ⟨rfl, Or.inr rfl, j52⟩
    · skip
      replace hE := rb_f5 hE c36
      refine hj68 _ _ ?_
      · refine and_5 ?_ (fun o9 => hE)  -- k21
        clear h hE; exact ⟨rfl, Or.inl rfl, j52⟩
  have hE : g5_tellStatement σ = g5_tellStatement σ := rfl
  refine ⟨ib_131074.mpr ?_, ?_⟩
  · clear h hE; exact hA.2.2.2  -- b22
  refine ⟨fun c37 => ?_, fun c37 => ?_⟩
  · skip
    replace hE := rb_f5 hE c37
    refine isWord_g5 hC  ?_ (fun r38 q40 => ?_)
    · clear h hE; exact hA.2.2.2  -- p23
    obtain ⟨q40, z9⟩ := q40
    replace hE := rb_p5 hE z9
    clear z9
    refine ⟨fun c41 => ?_, fun c41 => ?_⟩
    · skip
      replace hE := rb_t5 hE c41
      refine isWord_g5 hC  ?_ (fun r42 q44 => ?_)
      · clear h hE; exact hA.2.2.2  -- p24
      obtain ⟨q44, z9⟩ := q44
      replace hE := rb_p5 hE z9
      clear z9
      refine ⟨fun c45 => ?_, fun c45 => ?_⟩
      · skip
        replace hE := rb_f5 hE c45
        refine hj52 _ ?_
        · refine and_5 ?_ (fun o9 => hE)  -- k25
          clear h hE; exact ⟨rfl, (q44.2.mp c45).1⟩
      · skip
        replace hE := rb_t5 hE c45
        refine isWord_g5 hC  ?_ (fun r46 q48 => ?_)
        · clear h hE; exact hA.2.2.2  -- p26
        obtain ⟨q48, z9⟩ := q48
        replace hE := rb_p5 hE z9
        clear z9
        refine ⟨fun c49 => ?_, fun c49 => ?_⟩
        · skip
          replace hE := rb_t5 hE c49
          refine isWord_g5 hC  ?_ (fun r50 q52 => ?_)
          · clear h hE; exact hA.2.2.2  -- p27
          obtain ⟨q52, z9⟩ := q52
          replace hE := rb_p5 hE z9
          clear z9
          refine ⟨fun c53 => ?_, fun c53 => ?_⟩
          · skip
            replace hE := rb_f5 hE c53
            refine hj133 _ ?_
            · refine and_5 ?_ (fun o9 => hE)  -- k28
              clear h hE; exact ⟨rfl, (q52.2.mp c53).1⟩
          · skip
            replace hE := rb_t5 hE c53
            refine isWord_g5 hC  ?_ (fun r54 q56 => ?_)
            · clear h hE; exact hA.2.2.2  -- p29
            obtain ⟨q56, z9⟩ := q56
            replace hE := rb_p5 hE z9
            clear z9
            refine ⟨fun c57 => ?_, fun c57 => ?_⟩
            · skip
              replace hE := rb_f5 hE c57
              refine hj133 _ ?_
              · refine and_5 ?_ (fun o9 => hE)  -- k30
                clear h hE; exact ⟨rfl, (q56.2.mp c57).1⟩
            · skip
              replace hE := rb_t5 hE c57
              refine isWord_g5 hC  ?_ (fun r58 q60 => ?_)
              · clear h hE; exact hA.2.2.2  -- p31
              obtain ⟨q60, z9⟩ := q60
              replace hE := rb_p5 hE z9
              clear z9
              refine ⟨fun c61 => ?_, fun c61 => ?_⟩
              · skip
                replace hE := rb_t5 hE c61
                refine flaw_g5 hC  ?_ (fun σ_62 q63 => ?_)
                · clear h hE; exact ⟨hA.2.2.2.1, hA.2.2.2.2, by decide⟩  -- p32
                obtain ⟨q63, z9⟩ := q63
                replace hE := rb_p5 hE z9.symm
                clear z9
                refine h _ ?_
                · refine and_5 ?_ (fun o9 => hE)  -- q33
                  clear h hE; have a := aI_flaw (aI_refl hP) q63
                  refine ⟨⟨?_, a.1.2.1, by show tyS _ _ _ _ _ _ _ _; rw [a.2.1]; exact hS, by rw [a.2.1]; exact rHi_refl, by rw [a.2.1]; exact rLo_refl, fun _ => a.2.2, fun f => absurd f a.2.2⟩, fun f => absurd f a.2.2⟩
                  exact ⟨fun k _ z2 z3 _ _ _ _ _ => q63.1.1 k z2 z3, fun k => by rw [a.2.1], fun k _ _ _ _ _ _ _ _ _ _ _ _ _ _ _ _ _ _ => by rw [a.2.1], fun k j _ _ _ _ _ _ _ _ _ _ _ _ _ _ _ _ _ _ => by rw [a.2.1], fun k j => by rw [a.2.1]⟩
              · skip
                replace hE := rb_f5 hE c61
                refine hj133 _ ?_
                · refine and_5 ?_ (fun o9 => hE)  -- k34
                  clear h hE; exact ⟨rfl, (q60.2.mp c61).1⟩
        · skip
          replace hE := rb_f5 hE c49
          refine hj52 _ ?_
          · refine and_5 ?_ (fun o9 => hE)  -- k35
            clear h hE; exact ⟨rfl, (q48.2.mp c49).1⟩
    · skip
      replace hE := rb_f5 hE c41
      refine tellLocal_g5 hC B T ?_ (fun σ_64 q65 => ?_)
      · clear h hE; exact ⟨hP, hS, hb1, hbb.2.2.1, o0.1, o0.2, by rw [(q40.2.mp c41).1]; decide⟩  -- p36
      obtain ⟨q65, z9⟩ := q65
      replace hE := rb_p5 hE z9.symm
      clear z9
      refine h _ ?_
      · refine and_5 ?_ (fun o9 => hE)  -- q37
        clear h hE; refine ⟨q65.1, fun f => ?_⟩
        obtain ⟨a, b, c, d⟩ := q65.2 f
        exact ⟨d, by rw [a, b]; exact ho, Or.inl ⟨b, c⟩⟩
  · skip
    replace hE := rb_t5 hE c37
    refine tellNamed_g5 hC B T ?_ (fun σ_66 q67 => ?_)
    · clear h hE; exact ⟨hP, hS, hb1, hbb.2.2.1, o0.1, o0.2, c37⟩  -- p38
    obtain ⟨q67, z9⟩ := q67
    replace hE := rb_p5 hE z9.symm
    clear z9
    refine h _ ?_
    · refine and_5 ?_ (fun o9 => hE)  -- q39
      clear h hE; have u := sT_U q67
      refine ⟨u.1, fun f => ?_⟩
      obtain ⟨a, b, c, d⟩ := u.2 f
      exact ⟨d, by rw [a, b]; exact ho, Or.inl ⟨b, c⟩⟩

theorem endBlock_g5 {C : rCx} (hC : cOK C) (B T : Int32) {σ : rS}  {Q : rS → Prop} (hp : p0 σ B T ∧ tS σ ∧ σ.1 11 = 0 ∧ 2 ≤ σ.1 42 ∧ σ.1 42 ≤ 40 ∧ σ.1 13 = σ.1 42 ∧ 0 ≤ rd σ 43 (σ.1 42 - 1)) (h : ∀ (σ' : rS), ((((∀ k, k ≠ 10 → k ≠ 11 → k ≠ 12 → k ≠ 13 → k ≠ 42 → σ'.1 k = σ.1 k) ∧ (∀ k,  σ'.2.1 k = σ.2.1 k) ∧ (∀ k, k ≠ 43 → k ≠ 44 → k ≠ 45 → σ'.2.2.1 k = σ.2.2.1 k) ∧ (∀ k j, k ≠ 43 → k ≠ 44 → k ≠ 45 → σ'.2.2.1 k j = σ.2.2.1 k j) ∧ (∀ k j,  σ'.2.2.2 k j = σ.2.2.2 k j)) ∧ p0 σ' B T ∧ tS σ' ∧ (σ'.1 11 = 0 → σ.1 10 < σ'.1 10 ∧ σ'.1 13 = σ'.1 42 ∧ 1 ≤ σ'.1 42 ∧ σ'.1 42 ≤ σ.1 42 ∧ ∀ i : Int32, 0 ≤ i → i < σ'.1 42 → rd σ' 43 i = rd σ 43 i)) ∧ g5_endBlock σ = σ') → Q σ') : cV C 5 m_endBlock [.ref (co C)] σ Q := by
  refine m_endBlock_run hC ?_
  unfold w_endBlock_0
  obtain ⟨hP, hS, h11, hb1, hb2, ho, hw⟩ := hp
  have hA := aI_at (aI_refl hP)
  have hE : g5_endBlock σ = g5_endBlock σ := rfl
  refine ⟨ib_64.mpr ?_, ?_⟩
  · clear h hE; exact ⟨(bl_b hb1 hb2).1, (bl_b hb1 hb2).2.1⟩  -- b1
  intro x1 hx1
  replace hE := rb_p5 hE hx1
  refine ⟨ib_64.mpr ?_, ?_⟩
  · clear h hE; exact ⟨(bl_b hb1 hb2).1, (bl_b hb1 hb2).2.1⟩  -- b2
  intro x2 hx2
  replace hE := rb_p5 hE hx2
  intro σ_3 hσ_3
  replace hE := rb_p5 hE hσ_3
  have bb := bl_b hb1 hb2
  have pp : p0 σ_3 B T := by rw [hσ_3]; exact p0_b42 hP bb.1 bb.2.2.1
  have e3 : ∀ k, k ≠ 42 → σ_3.1 k = σ.1 k := fun k hk => by rw [hσ_3, si1, if_neg hk]
  have s3 : σ_3.2 = σ.2 := by rw [hσ_3, si2]
  have b3 : σ_3.1 42 = σ.1 42 - 1 := by rw [hσ_3, si1, if_pos rfl]
  refine close_g5 hC B T ?_ (fun σ_4 q5 => ?_)
  · clear h hE; exact pp.1  -- p3
  obtain ⟨q5, z9⟩ := q5
  replace hE := rb_p5 hE z9.symm
  clear z9
  have a1 := aI_close (aI_refl pp) q5
  have s4 : σ_4.2 = σ.2 := a1.2.1.trans s3
  have b4 : σ_4.1 42 = σ.1 42 - 1 := (q5.1.1 42 (by decide) (by decide) (by decide) (by decide)).trans b3
  have fF : ((∀ k, k ≠ 10 → k ≠ 11 → k ≠ 12 → k ≠ 13 → k ≠ 42 → σ_4.1 k = σ.1 k) ∧ (∀ k,  σ_4.2.1 k = σ.2.1 k) ∧ (∀ k, k ≠ 43 → k ≠ 44 → k ≠ 45 → σ_4.2.2.1 k = σ.2.2.1 k) ∧ (∀ k j, k ≠ 43 → k ≠ 44 → k ≠ 45 → σ_4.2.2.1 k j = σ.2.2.1 k j) ∧ (∀ k j,  σ_4.2.2.2 k j = σ.2.2.2 k j)) := ⟨fun k z1 z2 z3 z4 z5 => (q5.1.1 k z1 z2 z3 z4).trans (e3 k z5), fun k => by rw [s4], fun k _ _ _ => by rw [s4], fun k j _ _ _ => by rw [s4], fun k j => by rw [s4]⟩
  have tS4 : tS σ_4 := by show tyS _ _ _ _ _ _ _ _; rw [s4]; exact hS
  have o4 : σ_4.1 11 = 0 → σ.1 10 < σ_4.1 10 ∧ σ_4.1 13 = σ_4.1 42 := fun f => by
    obtain ⟨f0, l0, e0, o0, -⟩ := a1.2.2 f
    rw [e3 10 (by decide)] at l0
    exact ⟨l0, by rw [o0, e3 13 (by decide), ho, b4]⟩
  have fin : ((∀ k, k ≠ 10 → k ≠ 11 → k ≠ 12 → k ≠ 13 → k ≠ 42 → σ_4.1 k = σ.1 k) ∧ (∀ k,  σ_4.2.1 k = σ.2.1 k) ∧ (∀ k, k ≠ 43 → k ≠ 44 → k ≠ 45 → σ_4.2.2.1 k = σ.2.2.1 k) ∧ (∀ k j, k ≠ 43 → k ≠ 44 → k ≠ 45 → σ_4.2.2.1 k j = σ.2.2.1 k j) ∧ (∀ k j,  σ_4.2.2.2 k j = σ.2.2.2 k j)) ∧ p0 σ_4 B T ∧ tS σ_4 ∧ (σ_4.1 11 = 0 → σ.1 10 < σ_4.1 10 ∧ σ_4.1 13 = σ_4.1 42 ∧ 1 ≤ σ_4.1 42 ∧ σ_4.1 42 ≤ σ.1 42 ∧ ∀ i : Int32, 0 ≤ i → i < σ_4.1 42 → rd σ_4 43 i = rd σ 43 i) := ⟨fF, a1.1.2.1, tS4, fun f => ⟨(o4 f).1, (o4 f).2, by rw [b4]; exact bb.2.2.2.1, by rw [b4]; exact bb.2.2.2.2.1, fun i _ _ => by rw [rd, s4]⟩⟩
  refine isRight_g5 hC  (fun r6 q8 => ?_)
  obtain ⟨q8, z9⟩ := q8
  replace hE := rb_p5 hE z9
  clear z9
  refine ⟨fun c9 => ?_, fun c9 => ?_⟩
  · skip
    replace hE := rb_t5 hE c9
    refine h _ ?_
    · refine and_5 ?_ (fun o9 => hE)  -- q4
      clear h hE; exact fin
  · skip
    replace hE := rb_f5 hE c9
    refine ⟨fun c10 => ?_, fun c10 => ?_⟩
    · skip
      replace hE := rb_f5 hE c10
      refine h _ ?_
      · refine and_5 ?_ (fun o9 => hE)  -- q5
        clear h hE; exact fin
    · skip
      replace hE := rb_t5 hE c10
      refine ⟨ib_150.mpr ?_, ?_⟩
      · clear h hE; exact ⟨by rw [hx1]; exact hw, by rw [hx1]; exact (hS.2.2.2.2.2.2.1 _).2⟩  -- b6
      refine ⟨fun c11 => ?_, fun c11 => ?_⟩
      · skip
        replace hE := rb_f5 hE c11
        refine h _ ?_
        · refine and_5 ?_ (fun o9 => hE)  -- q7
          clear h hE; exact fin
      · skip
        replace hE := rb_t5 hE c11
        refine isWord_g5 hC  ?_ (fun r12 q14 => ?_)
        · clear h hE; exact (aI_at a1.1).2.2.2  -- p8
        obtain ⟨q14, z9⟩ := q14
        replace hE := rb_p5 hE z9
        clear z9
        refine ⟨fun c15 => ?_, fun c15 => ?_⟩
        · skip
          replace hE := rb_t5 hE c15
          refine h _ ?_
          · refine and_5 ?_ (fun o9 => hE)  -- q9
            clear h hE; exact fin
        · skip
          replace hE := rb_f5 hE c15
          refine go_g5 hC B T ?_ (fun σ_16 q17 => ?_)
          · clear h hE; exact ⟨a1.1.2.1.1, fun _ => by rw [(q14.2.mp c15).1]; decide⟩  -- p10
          obtain ⟨q17, z9⟩ := q17
          replace hE := rb_p5 hE z9.symm
          clear z9
          refine open_g5 hC B T ?_ (fun σ_18 q19 => ?_)
          · clear h hE; exact q17.2.1  -- p11
          obtain ⟨q19, z9⟩ := q19
          replace hE := rb_p5 hE z9.symm
          clear z9
          have a2 := aI_go a1.1 q17
          have a3 := aI_open a2.1 q19
          have b18 : σ_18.1 42 = σ.1 42 - 1 := by rw [q19.1.1 42 (by decide) (by decide) (by decide) (by decide), q17.1.1 42 (by decide) (by decide) (by decide), b4]
          have s18 : σ_18.2 = σ.2 := a3.2.1.trans (a2.2.1.trans s4)
          refine openBlock_g5 hC  ?_ (fun σ_20 q21 => ?_)
          · clear h hE; exact ⟨by rw [b18]; exact bb.1, by rw [b18]; exact bb.2.1, by rw [hx1]; exact Int32.le_trans (by decide) hw, by rw [hx1]; exact (hS.2.2.2.2.2.2.1 _).2, by show tyS _ _ _ _ _ _ _ _; rw [s18]; exact hS⟩  -- p12
          obtain ⟨q21, z9⟩ := q21
          replace hE := rb_p5 hE z9.symm
          clear z9
          refine h _ ?_
          · refine and_5 ?_ (fun o9 => hE)  -- q13
            clear h hE; have pO := p0_ob a3.1.2.1 q21 (by rw [b18]; exact bb.1) (by rw [b18]; exact bb.2.1)
            refine ⟨⟨fun k z1 z2 z3 z4 z5 => ?_, fun k => ?_, fun k z1 z2 z3 => ?_, fun k j z1 z2 z3 => ?_, fun k j => ?_⟩, pO, q21.2.1, fun f => ?_⟩
            · rw [q21.1.1 k z5, q19.1.1 k z1 z2 z3 z4, q17.1.1 k z1 z2 z3]; exact fF.1 k z1 z2 z3 z4 z5
            · rw [q21.1.2.1 k, s18]
            · rw [q21.1.2.2.1 k z1 z2 z3, s18]
            · rw [q21.1.2.2.2.1 k j z1 z2 z3, s18]
            · rw [q21.1.2.2.2.2 k j, s18]
            · rw [q21.1.1 11 (by decide)] at f
              obtain ⟨f2, l2, e2, o2, -, -⟩ := a3.2.2 f
              obtain ⟨f1, l1, e1, o1⟩ := a2.2.2 f2
              have w := o4 f1
              have b20 : σ_20.1 42 = σ.1 42 := by rw [q21.2.2.1, b18]; exact bb.2.2.2.2.2.1
              refine ⟨by rw [q21.1.1 10 (by decide)]; exact Int32.lt_trans w.1 (Int32.lt_trans l1 l2), ?_, by rw [b20]; exact bb.2.2.2.2.2.2, by rw [b20]; exact Int32.le_refl _, fun i hi hj => ?_⟩
              · rw [q21.1.1 13 (by decide), o2, o1, w.2, b4, b20]; exact bb.2.2.2.2.2.1
              · rw [b20] at hj
                rcases bl_i hi hj with e | e
                · subst e
                  have := q21.2.2.2.1
                  rw [b18] at this
                  rw [this, hx1]
                · have := q21.2.2.2.2 i hi (by rw [b18]; exact e)
                  rw [this, rd, s18]

theorem tellStatements_g5 {C : rCx} (hC : cOK C) (B T : Int32) {σ : rS}  {Q : rS → Prop} (hp : p0 σ B T ∧ tS σ ∧ (σ.1 11 = 0 → σ.1 13 = 1 ∧ stA σ B (σ.1 10))) (h : ∀ (σ' : rS), ((frB σ σ' ∧ p0 σ' B T ∧ tS σ' ∧ rHi (σ.2.2.1 39) (σ'.2.2.1 39) T ∧ rLo (σ.2.2.1 39) (σ'.2.2.1 39) B ∧ (σ.1 11 ≠ 0 → σ'.1 11 ≠ 0) ∧ (σ'.1 11 = 0 → σ.1 11 = 0 ∧ σ.1 10 ≤ σ'.1 10 ∧ rLo (σ.2.2.1 39) (σ'.2.2.1 39) (σ.1 10) ∧ stA σ' B (σ'.1 10) ∧ σ'.1 13 = 1 ∧ lkF σ σ')) ∧ g5_tellStatements σ = σ') → Q σ') : cV C 10 m_tellStatements [.ref (co C)] σ Q := by
  refine m_tellStatements_run hC ?_
  unfold w_tellStatements_0
  obtain ⟨hP, hS, hf⟩ := hp
  have hA := aI_at (aI_refl hP)
  have hE : g5_tellStatements σ = g5_tellStatements σ := rfl
  intro σ_1 hσ_1
  replace hE := rb_p5 hE hσ_1
  refine openBlock_g5 hC  ?_ (fun σ_2 q3 => ?_)
  · clear h hE; exact ⟨by rw [hσ_1, si1, if_pos rfl]; decide, by rw [hσ_1, si1, if_pos rfl]; decide, by decide, by decide, by show tyS _ _ _ _ _ _ _ _; rw [hσ_1, si2]; exact hS⟩  -- p1
  obtain ⟨q3, z9⟩ := q3
  replace hE := rb_p5 hE z9.symm
  clear z9
  unfold w_tellStatements_11
  refine ⟨fun n  τ => n = eMs (τ.1 11) 0 (if τ.1 42 ≤ 0 then 2 else 0) (τ.1 10) T ∧ ((sW σ τ B T) ∧ ∃ m5, n < m5 ∧ g5_tellStatements σ = g5_tellStatements_11 m5 τ), ⟨_, rfl, ?_⟩, ?_⟩
  · refine and_5 ?_ (fun o9 => ⟨fu5, by first | exact eMs_5 | (clear h hE; unfold fu5; omega), hE⟩)  -- j2
    clear h hE; have pp : p0 σ_1 B T := by rw [hσ_1]; exact p0_b42 hP (by decide) (by decide)
    have e1 : ∀ k, k ≠ 42 → σ_1.1 k = σ.1 k := fun k hk => by rw [hσ_1, si1, if_neg hk]
    have s1 : σ_1.2 = σ.2 := by rw [hσ_1, si2]
    have b1 : σ_1.1 42 = 0 := by rw [hσ_1, si1, if_pos rfl]
    have p2 := p0_ob pp q3 (by rw [b1]; decide) (by rw [b1]; decide)
    have b2 : σ_2.1 42 = 1 := by rw [q3.2.2.1, b1]; rfl
    have ee : ∀ k, k ≠ 42 → σ_2.1 k = σ.1 k := fun k hk => (q3.1.1 k hk).trans (e1 k hk)
    have rr : ∀ k, k ≠ 43 → k ≠ 44 → k ≠ 45 → σ_2.2.2.1 k = σ.2.2.1 k := fun k z1 z2 z3 => (q3.1.2.2.1 k z1 z2 z3).trans (by rw [s1])
    have r39 := rr 39 (by decide) (by decide) (by decide)
    refine ⟨⟨fun k _ _ _ _ _ z6 _ _ => ee k z6, fun k => (q3.1.2.1 k).trans (by rw [s1]), fun k _ _ _ _ _ _ _ _ _ _ _ _ zd ze zf _ _ _ => rr k zd ze zf, fun k j _ _ _ _ _ _ _ _ _ _ _ _ zd ze zf _ _ _ => congrFun (rr k zd ze zf) j, fun k j => (q3.1.2.2.2.2 k j).trans (by rw [s1])⟩, p2, q3.2.1, by rw [r39]; exact rHi_refl, by rw [r39]; exact rLo_refl, fun z => by rw [ee 11 (by decide)]; exact z, fun f => ?_⟩
    rw [ee 11 (by decide)] at f
    have w := hf f
    refine ⟨f, by rw [ee 10 (by decide)]; exact Int32.le_refl _, by rw [r39]; exact rLo_refl, ?_, by rw [b2]; decide, by rw [b2]; decide, fun _ => by rw [b2, ee 13 (by decide)]; exact w.1, fun z => by rw [b2] at z; exact absurd z (by decide), fun i hi hj => ?_, lkF_o (rr 29 (by decide) (by decide) (by decide)) (ee 19 (by decide))⟩
    · rw [ee 10 (by decide)]
      exact stA_up hP.1.1 hA.2.2.2.2 w.2 (rr 5 (by decide) (by decide) (by decide)) (rr 7 (by decide) (by decide) (by decide)) (ee 19 (by decide)) ⟨rr 30 (by decide) (by decide) (by decide), rr 31 (by decide) (by decide) (by decide), rr 32 (by decide) (by decide) (by decide), rr 36 (by decide) (by decide) (by decide), rr 33 (by decide) (by decide) (by decide), rr 34 (by decide) (by decide) (by decide), rr 35 (by decide) (by decide) (by decide)⟩ (by rw [r39]; exact rLo_refl) (Int32.le_refl _)
    · rw [b2] at hj
      have z := i0n hi hj
      refine ⟨fun y => absurd y z.2, ?_⟩
      rw [z.1]
      have y := q3.2.2.2.1
      rw [b1] at y
      rw [y, ee 19 (by decide)]
      exact Int32.lt_of_lt_of_le (by decide) (st_b hP).1
  rintro n11  σ11 ⟨hn11, i11, m11, hm11, hE⟩
  obtain ⟨m11, rfl⟩ : ∃ m9, m11 = m9 + 1 := ⟨m11 - 1, by clear h hE; omega⟩
  refine isRight_g5 hC  (fun r4 q6 => ?_)
  obtain ⟨q6, z9⟩ := q6
  replace hE := rb_p5 hE z9
  clear z9
  refine ⟨fun c7 => ?_, fun c7 => ?_⟩
  · skip
    replace hE := rb_t5 hE c7
    refine h _ ?_
    · refine and_5 ?_ (fun o9 => hE)  -- q3
      clear h hE; obtain ⟨w1, w2, w3, w4, w5, w6, w7⟩ := i11
      exact ⟨w1, w2, w3, w4, w5, w6, fun f => absurd c7 (q6.2.mpr f)⟩
  · skip
    replace hE := rb_f5 hE c7
    refine ⟨fun c8 => ?_, fun c8 => ?_⟩
    · skip
      replace hE := rb_t5 hE c8
      refine h _ ?_
      · refine and_5 ?_ (fun o9 => hE)  -- q4
        clear h hE; obtain ⟨w1, w2, w3, w4, w5, w6, w7⟩ := i11
        refine ⟨w1, w2, w3, w4, w5, w6, fun f => ?_⟩
        obtain ⟨m1, m2, m3, m4, m5, m6, m7, m8, m9, mk⟩ := w7 f
        exact ⟨m1, m2, m3, m4, m8 (b0n c8 m5), mk⟩
    · skip
      replace hE := rb_f5 hE c8
      refine isAt_g5 hC  ?_ (fun r9 q11 => ?_)
      · clear h hE; exact (aI_at (aI_refl i11.2.1)).2.2.2  -- p5
      obtain ⟨q11, z9⟩ := q11
      replace hE := rb_p5 hE z9
      clear z9
      have f := q6.2.mp c7
      obtain ⟨w1, w2, w3, w4, w5, w6, w7⟩ := i11
      obtain ⟨m1, m2, m3, m4, m5, m6, m7, m8, m9, mk⟩ := w7 f
      have hb := b2n c8
      have hA2 := aI_at (aI_refl w2)
      have sb := st_b w2
      refine ⟨fun c12 => ?_, fun c12 => ?_⟩
      · skip
        replace hE := rb_f5 hE c12
        refine ⟨fun c13 => ?_, fun c13 => ?_⟩
        · skip
          replace hE := rb_f5 hE c13
          refine endBlock_g5 hC B T ?_ (fun σ_14 q15 => ?_)
          · clear h hE; have z := b3n c8 c13 m6
            exact ⟨w2, w3, f, z.1, m6, m7 hb, (m9 _ z.2.1 z.2.2.1).1 z.2.2.2⟩
          obtain ⟨q15, z9⟩ := q15
          replace hE := rb_p5 hE z9.symm
          clear z9
          refine lp_b5 ?_ (fun d9 => ⟨rfl, ?_⟩)
          · clear h hE; show eMs (σ_14.1 11) 0 (if σ_14.1 42 ≤ 0 then 2 else 0) (σ_14.1 10) T < n11
            rw [hn11, f, if_neg c8]
            exact eMs_lt (by decide) (fun f' _ _ => (q15.2.2.2 f').1) hA2.2.2.2.1 q15.2.1.1.2.2.2.2.2
          · refine and_5 ?_ (fun o9 => ⟨m11, Nat.lt_of_lt_of_le d9 (Nat.le_of_lt_succ hm11), hE⟩)  -- i8
            clear h hE d9 hm11; have rr := q15.1.2.2.1
            have r39 := rr 39 (by decide) (by decide) (by decide)
            have fr : frB σ11 σ_14 := ⟨fun k z1 z2 z3 z4 _ z6 _ _ => q15.1.1 k z1 z2 z3 z4 z6, q15.1.2.1, fun k _ _ _ _ _ _ _ _ _ _ _ _ zd ze zf _ _ _ => rr k zd ze zf, fun k j _ _ _ _ _ _ _ _ _ _ _ _ zd ze zf _ _ _ => q15.1.2.2.2.1 k j zd ze zf, q15.1.2.2.2.2⟩
            have e19 : σ_14.1 19 = σ11.1 19 := q15.1.1 19 (by decide) (by decide) (by decide) (by decide) (by decide)
            refine ⟨frB_tr w1 fr, q15.2.1, q15.2.2.1, by rw [r39]; exact w4, by rw [r39]; exact w5, fun z => absurd m1 z, fun f' => ?_⟩
            obtain ⟨n1, n2, n3, n4, n5⟩ := q15.2.2.2 f'
            have nz := b1n n3
            refine ⟨m1, Int32.le_trans m2 (Int32.le_of_lt n1), by rw [r39]; exact m3, ?_, nz.1, Int32.le_trans n4 m6, fun _ => n2, fun z => absurd z nz.2, fun i hi hj => ?_, lkF_tr mk (lkF_o (rr 29 (by decide) (by decide) (by decide)) e19)⟩
            · exact stA_up w2.1.1 hA2.2.2.2.2 m4 (rr 5 (by decide) (by decide) (by decide)) (rr 7 (by decide) (by decide) (by decide)) e19 ⟨rr 30 (by decide) (by decide) (by decide), rr 31 (by decide) (by decide) (by decide), rr 32 (by decide) (by decide) (by decide), rr 36 (by decide) (by decide) (by decide), rr 33 (by decide) (by decide) (by decide), rr 34 (by decide) (by decide) (by decide), rr 35 (by decide) (by decide) (by decide)⟩ (by rw [r39]; exact rLo_refl) (Int32.le_of_lt n1)
            · rw [n5 i hi hj, e19]; exact m9 i hi (Int32.lt_of_lt_of_le hj n4)
        · skip
          replace hE := rb_t5 hE c13
          intro σ_16 hσ_16
          replace hE := rb_p5 hE hσ_16
          refine lp_b5 ?_ (fun d9 => ⟨rfl, ?_⟩)
          · clear h hE; show eMs (σ_16.1 11) 0 (if σ_16.1 42 ≤ 0 then 2 else 0) (σ_16.1 10) T < n11
            have z42 : σ_16.1 42 ≤ 0 := by rw [hσ_16, si1, if_pos rfl]; decide
            rw [hn11, f, if_neg c8, if_pos z42]
            exact eMs_lt (by decide) (fun _ _ z => absurd rfl z) hA2.2.2.2.1 (by rw [hσ_16, si1, if_neg (by decide)]; exact w2.1.2.2.2.2.2)
          · refine and_5 ?_ (fun o9 => ⟨m11, Nat.lt_of_lt_of_le d9 (Nat.le_of_lt_succ hm11), hE⟩)  -- i10
            clear h hE d9 hm11; have ee : ∀ k, k ≠ 42 → σ_16.1 k = σ11.1 k := fun k hk => by rw [hσ_16, si1, if_neg hk]
            have s16 : σ_16.2 = σ11.2 := by rw [hσ_16, si2]
            have b16 : σ_16.1 42 = 0 := by rw [hσ_16, si1, if_pos rfl]
            have p16 : p0 σ_16 B T := by rw [hσ_16]; exact p0_b42 w2 (by decide) (by decide)
            have fr : frB σ11 σ_16 := ⟨fun k _ _ _ _ _ z6 _ _ => ee k z6, fun k => by rw [s16], fun k _ _ _ _ _ _ _ _ _ _ _ _ _ _ _ _ _ _ => by rw [s16], fun k j _ _ _ _ _ _ _ _ _ _ _ _ _ _ _ _ _ _ => by rw [s16], fun k j => by rw [s16]⟩
            refine ⟨frB_tr w1 fr, p16, by show tyS _ _ _ _ _ _ _ _; rw [s16]; exact w3, by rw [s16]; exact w4, by rw [s16]; exact w5, fun z => absurd m1 z, fun f' => ?_⟩
            refine ⟨m1, by rw [ee 10 (by decide)]; exact m2, by rw [s16]; exact m3, ?_, by rw [b16]; decide, by rw [b16]; decide, fun z => by rw [b16] at z; exact absurd z (by decide), fun _ => by rw [ee 13 (by decide), m7 hb]; exact c13, fun i hi hj => by rw [b16] at hj; exact absurd hj (Int32.not_lt.mpr hi), lkF_tr mk (lkF_o (by rw [s16]) (ee 19 (by decide)))⟩
            rw [ee 10 (by decide)]
            exact stA_up w2.1.1 hA2.2.2.2.2 m4 (by rw [s16]) (by rw [s16]) (ee 19 (by decide)) ⟨by rw [s16], by rw [s16], by rw [s16], by rw [s16], by rw [s16], by rw [s16], by rw [s16]⟩ (by rw [s16]; exact rLo_refl) (Int32.le_refl _)
      · skip
        replace hE := rb_t5 hE c12
        refine tellStatement_g5 hC B T ?_ (fun σ_17 q18 => ?_)
        · clear h hE; exact ⟨w2, w3, f, hb, m6, m7 hb⟩  -- p11
        obtain ⟨q18, z9⟩ := q18
        replace hE := rb_p5 hE z9.symm
        clear z9
        refine lp_b5 ?_ (fun d9 => ⟨rfl, ?_⟩)
        · clear h hE; show eMs (σ_17.1 11) 0 (if σ_17.1 42 ≤ 0 then 2 else 0) (σ_17.1 10) T < n11
          rw [hn11, f, if_neg c8]
          exact eMs_lt (by decide) (fun f' _ _ => (q18.1.2.2.2.2.2.2 f').2.1) hA2.2.2.2.1 q18.1.2.1.1.2.2.2.2.2
        · refine and_5 ?_ (fun o9 => ⟨m11, Nat.lt_of_lt_of_le d9 (Nat.le_of_lt_succ hm11), hE⟩)  -- i13
          clear h hE d9 hm11; obtain ⟨u1, u2, u3, u4, u5, u6, u7⟩ := q18.1
          refine ⟨frB_tr w1 u1, u2, u3, rHi_tr w4 u4, rLo_tr w5 u5 (Int32.le_refl _), fun z => absurd m1 z, fun f' => ?_⟩
          obtain ⟨v1, v2, v3⟩ := u7 f'
          obtain ⟨n1, n2, n3⟩ := q18.2 f'
          have bm := b1m hb m6
          have own := (m9 _ bm.1 bm.2).2
          have e19 := n1.1
          have stn := stA_N w2 m4 q18.1 f' n1 own
          have mk' := lkF_tr mk n1.2.2.2.2.2.2
          rcases n3 with ⟨n4, n5⟩ | ⟨n4, n5, n6, n7⟩
          · have nz := b1n hb
            refine ⟨m1, Int32.le_trans m2 (Int32.le_of_lt v2), rLo_tr m3 v3 m2, stn, by rw [n4]; exact m5, by rw [n4]; exact m6, fun _ => n2, fun z => absurd (n4.symm.trans z) nz.2, fun i hi hj => ?_, mk'⟩
            rw [n4] at hj
            have z := m9 i hi hj
            rw [rd, n5, e19]
            exact ⟨z.1, lt_sn sb.1 sb.2 z.2⟩
          · have nz := b40 hb m6 n5
            refine ⟨m1, Int32.le_trans m2 (Int32.le_of_lt v2), rLo_tr m3 v3 m2, stn, by rw [n4]; exact nz.1, by rw [n4]; exact nz.2.1, fun _ => n2, fun z => absurd (n4.symm.trans z) nz.2.2, fun i hi hj => ?_, mk'⟩
            rw [n4] at hj
            rw [e19]
            rcases bi_c hi hb m6 hj with e | e
            · subst e
              rw [n6]
              exact ⟨fun _ => sb.1, lt_s2 sb.1 sb.2⟩
            · have z := m9 i hi e
              rw [n7 i hi e]
              exact ⟨z.1, lt_sn sb.1 sb.2 z.2⟩

theorem tellFunc_g5 {C : rCx} (hC : cOK C) (B T : Int32) {σ : rS}  {Q : rS → Prop} (hp : p0 σ B T ∧ tS σ ∧ σ.1 11 = 0 ∧ σ.1 13 = 0 ∧ stA σ B (σ.1 10) ∧ rd σ 5 (σ.1 10) ≠ 5 ∧ fA σ (σ.1 18)) (h : ∀ (σ' : rS), ((fI σ σ' B T ∧ (σ'.1 11 = 0 → σ'.1 13 = 0 ∧ fA σ' (σ'.1 18))) ∧ g5_tellFunc σ = σ') → Q σ') : cV C 11 m_tellFunc [.ref (co C)] σ Q := by
  refine m_tellFunc_run hC ?_
  unfold w_tellFunc_0
  obtain ⟨hP, hS, h11, ho, hst, hn, hfa⟩ := hp
  have hA := aI_at (aI_refl hP)
  have hj218 : ∀ (l1 : Int32) (τ : rS), ((fI σ τ B T ∧ 0 ≤ l1 ∧ l1 < 131074 ∧ (τ.1 11 = 0 → (τ.1 18 < 10 ∧ τ.1 18 = σ.1 18 ∧ rd τ 29 (σ.1 18) < τ.1 19) ∧ τ.1 13 = 1)) ∧ g5_tellFunc σ = g5_tellFunc_218 l1 τ) → w_tellFunc_218 C Q  l1 τ := by
    rintro y218_1 τ218 ⟨j218, hE⟩
    unfold w_tellFunc_218
    refine close_g5 hC B T ?_ (fun σ_1 q2 => ?_)
    · clear h hE; exact j218.1.2.1.1  -- p1
    obtain ⟨q2, z9⟩ := q2
    replace hE := rb_p5 hE z9.symm
    clear z9
    refine open_g5 hC B T ?_ (fun σ_3 q4 => ?_)
    · clear h hE; exact q2.2.1  -- p2
    obtain ⟨q4, z9⟩ := q4
    replace hE := rb_p5 hE z9.symm
    clear z9
    have a1 := fI_close j218.1 q2
    have a2 := fI_open a1.1 q4
    refine tellStatements_g5 hC B T ?_ (fun σ_5 q6 => ?_)
    · clear h hE; exact ⟨a2.1.2.1, a2.1.2.2.1, fun f => ⟨by obtain ⟨f1, l1, o1⟩ := a2.2.2 f; obtain ⟨f0, l0, o0⟩ := a1.2.2 f1; rw [o1, o0, (j218.2.2.2 f0).2]; rfl, (a2.1.2.2.2.2.2 f).2.1⟩⟩  -- p3
    obtain ⟨q6, z9⟩ := q6
    replace hE := rb_p5 hE z9.symm
    clear z9
    have a3 := fI_ts a2.1 q6
    refine close_g5 hC B T ?_ (fun σ_7 q8 => ?_)
    · clear h hE; exact a3.2.1.1  -- p4
    obtain ⟨q8, z9⟩ := q8
    replace hE := rb_p5 hE z9.symm
    clear z9
    have a4 := fI_close a3 q8
    refine isRight_g5 hC  (fun r9 q11 => ?_)
    obtain ⟨q11, z9⟩ := q11
    replace hE := rb_p5 hE z9
    clear z9
    refine ⟨fun c12 => ?_, fun c12 => ?_⟩
    · skip
      replace hE := rb_t5 hE c12
      refine h _ ?_
      · refine and_5 ?_ (fun o9 => hE)  -- q5
        clear h hE; exact ⟨a4.1, fun f => absurd c12 (q11.2.mpr f)⟩
    · skip
      replace hE := rb_f5 hE c12
      have f7 := q11.2.mp c12
      obtain ⟨f5, l5, o5⟩ := a4.2.2 f7
      obtain ⟨f3, -, -, -, o13, lf6⟩ := q6.2.2.2.2.2.2 f5
      obtain ⟨f1, l1, o1⟩ := a2.2.2 f3
      obtain ⟨f0, l0, o0⟩ := a1.2.2 f1
      have e18 : σ_7.1 18 = τ218.1 18 := by rw [q8.1.1 18 (by decide) (by decide) (by decide) (by decide), q6.1.1 18 (by decide) (by decide) (by decide) (by decide) (by decide) (by decide) (by decide) (by decide), q4.1.1 18 (by decide) (by decide) (by decide) (by decide), q2.1.1 18 (by decide) (by decide) (by decide) (by decide)]
      have l18 : σ_7.1 18 < 10 := by rw [e18]; exact (j218.2.2.2 f0).1.1
      have z18 := (f_b a4.1.2.1).1
      refine ⟨ib_10.mpr ?_, ?_⟩
      · clear h hE; exact ⟨z18, l18⟩  -- b6
      intro σ_13 hσ_13
      replace hE := rb_p5 hE hσ_13
      intro σ_14 hσ_14
      replace hE := rb_p5 hE hσ_14
      refine h _ ?_
      · refine and_5 ?_ (fun o9 => hE)  -- q7
        clear h hE; have a5 : fI σ σ_13 B T := by rw [hσ_13]; exact fI_nr a4.1 (Or.inr (Or.inr (Or.inr (Or.inl ⟨rfl, j218.2.1, j218.2.2.1⟩))))
        have e13 : σ_13.1 18 = σ_7.1 18 := by rw [hσ_13, ri1]
        have u := f_up z18 l18
        have a6 : fI σ σ_14 B T := by rw [hσ_14, e13]; exact fI_si a5 (Or.inl rfl) (p0_f18 a5.2.1 u.1 u.2)
        have g1 : rd σ_1 29 (σ.1 18) < σ_1.1 19 := by rw [rd, a1.2.1, q2.1.1 19 (by decide) (by decide) (by decide) (by decide)]; exact (j218.2.2.2 f0).1.2.2
        have g3 : rd σ_3 29 (σ.1 18) < σ_3.1 19 := by rw [rd, a2.2.1, q4.1.1 19 (by decide) (by decide) (by decide) (by decide)]; exact g1
        have g5 : rd σ_5 29 (σ.1 18) < σ_5.1 19 := lf6 _ g3
        have g7 : rd σ_7 29 (σ.1 18) < σ_7.1 19 := by rw [rd, a4.2.1, q8.1.1 19 (by decide) (by decide) (by decide) (by decide)]; exact g5
        have e14 : σ_14.2.2.1 29 = σ_7.2.2.1 29 ∧ σ_14.1 19 = σ_7.1 19 ∧ σ_14.1 18 = σ.1 18 + 1 := ⟨by rw [hσ_14, si2, hσ_13, ri3 (by decide)], by rw [hσ_14, si1, if_neg (by decide), hσ_13, ri1], by rw [hσ_14, si1, if_pos rfl, e13, e18, (j218.2.2.2 f0).1.2.1]⟩
        have s18 : σ_7.1 18 = σ.1 18 := by rw [e18, (j218.2.2.2 f0).1.2.1]
        refine ⟨a6, fun _ => ⟨?_, fun f f0 f1 => ?_⟩⟩
        · rw [hσ_14, si1, if_neg (by decide), hσ_13, ri1, o5, o13]; rfl
        · rw [rd, e14.1, e14.2.1]
          rw [e14.2.2] at f1
          rcases s_cs (s18 ▸ z18) (Int32.le_of_lt (Int32.lt_of_lt_of_le (s18 ▸ l18) (by decide))) f1 with e | e
          · rw [e]; exact g7
          · exact (a4.1.2.2.2.2.2 f7).2.2 f f0 e
  have hh102 : ∀ (l1 : Int32) (l2 : Int32) (τ : rS), ((fI σ τ B T ∧ 0 ≤ l1 ∧ l1 < 131074 ∧ nb l2 ∧ (τ.1 11 = 0 → (τ.1 18 < 10 ∧ τ.1 18 = σ.1 18 ∧ rd τ 29 (σ.1 18) < τ.1 19) ∧ τ.1 13 = 1 ∧ rd τ 26 (τ.1 41) = rd τ 27 (τ.1 41))) ∧ ∃ m5, eMs (τ.1 11) 0 (if l2 = 0 then 2 else 0) (τ.1 10) T < m5 ∧ g5_tellFunc σ = g5_tellFunc_102 m5 l1 l2 τ) → w_tellFunc_102 C Q  l1 l2 τ := by
    intro z1 z2 τi hinit
    unfold w_tellFunc_102
    refine ⟨fun n l1 l2 τ => n = eMs (τ.1 11) 0 (if l2 = 0 then 2 else 0) (τ.1 10) T ∧ ((fI σ τ B T ∧ 0 ≤ l1 ∧ l1 < 131074 ∧ nb l2 ∧ (τ.1 11 = 0 → (τ.1 18 < 10 ∧ τ.1 18 = σ.1 18 ∧ rd τ 29 (σ.1 18) < τ.1 19) ∧ τ.1 13 = 1 ∧ rd τ 26 (τ.1 41) = rd τ 27 (τ.1 41))) ∧ ∃ m5, n < m5 ∧ g5_tellFunc σ = g5_tellFunc_102 m5 l1 l2 τ), ⟨_, rfl, hinit⟩, ?_⟩
    clear hinit
    rintro n102 x102_1 x102_2 σ102 ⟨hn102, i102, m102, hm102, hE⟩
    obtain ⟨m102, rfl⟩ : ∃ m9, m102 = m9 + 1 := ⟨m102 - 1, by clear h hE; omega⟩
    have hj206 : ∀ (l1 : Int32) (s0 : Int32) (τ : rS), ((σ102.1 11 = 0 ∧ x102_2 ≠ 0 ∧ fI σ τ B T ∧ 0 ≤ l1 ∧ l1 < 131074 ∧ nb s0 ∧ (τ.1 11 ≠ 0 → s0 = 0) ∧ (τ.1 11 = 0 → σ102.1 10 < τ.1 10 ∧ (s0 ≠ 0 → rd τ 5 (τ.1 10) = 3) ∧ (τ.1 18 < 10 ∧ τ.1 18 = σ.1 18 ∧ rd τ 29 (σ.1 18) < τ.1 19) ∧ τ.1 13 = 1 ∧ rd τ 26 (τ.1 41) = rd τ 27 (τ.1 41))) ∧ g5_tellFunc σ = g5_tellFunc_206 (g5_tellFunc_102 m102) l1 s0 τ) → w_tellFunc_206 C Q (fun l1' l2' τ => ∃ k < n102, (fun n l1 l2 τ => n = eMs (τ.1 11) 0 (if l2 = 0 then 2 else 0) (τ.1 10) T ∧ ((fI σ τ B T ∧ 0 ≤ l1 ∧ l1 < 131074 ∧ nb l2 ∧ (τ.1 11 = 0 → (τ.1 18 < 10 ∧ τ.1 18 = σ.1 18 ∧ rd τ 29 (σ.1 18) < τ.1 19) ∧ τ.1 13 = 1 ∧ rd τ 26 (τ.1 41) = rd τ 27 (τ.1 41))) ∧ ∃ m5, n < m5 ∧ g5_tellFunc σ = g5_tellFunc_102 m5 l1 l2 τ)) k l1' l2' τ) l1 s0 τ := by
      clear hE
      rintro y206_1 y206_s0 τ206 ⟨j206, hE⟩
      unfold w_tellFunc_206
      refine ⟨fun c15 => ?_, fun c15 => ?_⟩
      · skip
        replace hE := rb_t5 hE c15
        refine lp_b5 ?_ (fun d9 => ⟨rfl, ?_⟩)
        · clear h hE; obtain ⟨k1, k2, k3, k4, k5, k6, k7, k8⟩ := j206
          show eMs (τ206.1 11) 0 (if y206_s0 = 0 then 2 else 0) (τ206.1 10) T < n102
          rw [if_pos c15, hn102, k1, if_neg k2]
          exact eMs_lt (by decide) (fun _ _ z => absurd rfl z) (aI_at (aI_refl i102.1.2.1)).2.2.2.1 k3.2.1.1.2.2.2.2.2
        · refine and_5 ?_ (fun o9 => ⟨m102, Nat.lt_of_lt_of_le d9 (Nat.le_of_lt_succ hm102), hE⟩)  -- i9
          clear h hE d9 hm102; obtain ⟨k1, k2, k3, k4, k5, k6, k7, k8⟩ := j206
          exact ⟨k3, k4, k5, k6, fun f => (k8 f).2.2⟩
      · skip
        replace hE := rb_f5 hE c15
        refine go_g5 hC B T ?_ (fun σ_16 q17 => ?_)
        · clear h hE; obtain ⟨k1, k2, k3, k4, k5, k6, k7, k8⟩ := j206
          exact ⟨k3.2.1.1, fun f => by rw [(k8 f).2.1 c15]; decide⟩
        obtain ⟨q17, z9⟩ := q17
        replace hE := rb_p5 hE z9.symm
        clear z9
        refine lp_b5 ?_ (fun d9 => ⟨rfl, ?_⟩)
        · clear h hE; obtain ⟨k1, k2, k3, k4, k5, k6, k7, k8⟩ := j206
          have b := fI_go k3 q17
          have f0 : τ206.1 11 = 0 := Decidable.byContradiction (fun z => c15 (k7 z))
          show eMs (σ_16.1 11) 0 (if y206_s0 = 0 then 2 else 0) (σ_16.1 10) T < n102
          rw [if_neg c15, hn102, k1, if_neg k2]
          exact eMs_lt (by decide) (fun f _ _ => Int32.lt_trans (k8 f0).1 (b.2.2 f).2) (aI_at (aI_refl i102.1.2.1)).2.2.2.1 b.1.2.1.1.2.2.2.2.2
        · refine and_5 ?_ (fun o9 => ⟨m102, Nat.lt_of_lt_of_le d9 (Nat.le_of_lt_succ hm102), hE⟩)  -- i12
          clear h hE d9 hm102; obtain ⟨k1, k2, k3, k4, k5, k6, k7, k8⟩ := j206
          have b := fI_go k3 q17
          refine ⟨b.1, k4, k5, k6, fun f => ?_⟩
          have w := k8 (b.2.2 f).1
          have g := fun k (z1 : k ≠ 10) (z2 : k ≠ 11) (z3 : k ≠ 12) => q17.1.1 k z1 z2 z3
          exact ⟨⟨by rw [g 18 (by decide) (by decide) (by decide)]; exact w.2.2.1.1, by rw [g 18 (by decide) (by decide) (by decide)]; exact w.2.2.1.2.1, by rw [rd, b.2.1, g 19 (by decide) (by decide) (by decide)]; exact w.2.2.1.2.2⟩, by rw [g 13 (by decide) (by decide) (by decide)]; exact w.2.2.2.1, by simp only [rd]; rw [b.2.1, g 41 (by decide) (by decide) (by decide)]; exact w.2.2.2.2⟩
    have hj185 : ∀ (l1 : Int32) (τ : rS), ((σ102.1 11 = 0 ∧ x102_2 ≠ 0 ∧ fI σ τ B T ∧ 0 ≤ l1 ∧ l1 < 131074 ∧ (τ.1 11 = 0 → σ102.1 10 < τ.1 10 ∧ (τ.1 18 < 10 ∧ τ.1 18 = σ.1 18 ∧ rd τ 29 (σ.1 18) < τ.1 19) ∧ τ.1 13 = 1 ∧ rd τ 26 (τ.1 41) = rd τ 27 (τ.1 41))) ∧ g5_tellFunc σ = g5_tellFunc_185 (g5_tellFunc_102 m102) l1 τ) → w_tellFunc_185 C Q (fun l1' l2' τ => ∃ k < n102, (fun n l1 l2 τ => n = eMs (τ.1 11) 0 (if l2 = 0 then 2 else 0) (τ.1 10) T ∧ ((fI σ τ B T ∧ 0 ≤ l1 ∧ l1 < 131074 ∧ nb l2 ∧ (τ.1 11 = 0 → (τ.1 18 < 10 ∧ τ.1 18 = σ.1 18 ∧ rd τ 29 (σ.1 18) < τ.1 19) ∧ τ.1 13 = 1 ∧ rd τ 26 (τ.1 41) = rd τ 27 (τ.1 41))) ∧ ∃ m5, n < m5 ∧ g5_tellFunc σ = g5_tellFunc_102 m5 l1 l2 τ)) k l1' l2' τ) l1 τ := by
      clear hE
      rintro y185_1 τ185 ⟨j185, hE⟩
      unfold w_tellFunc_185
      obtain ⟨k1, k2, k3, k4, k5, k6⟩ := j185
      refine isRight_g5 hC  (fun r18 q20 => ?_)
      obtain ⟨q20, z9⟩ := q20
      replace hE := rb_p5 hE z9
      clear z9
      refine ⟨fun c21 => ?_, fun c21 => ?_⟩
      · skip
        replace hE := rb_t5 hE c21
        refine hj206 _ _ _ ?_
        · refine and_5 ?_ (fun o9 => hE)  -- k13
          clear h hE; exact ⟨k1, k2, k3, k4, k5, nb_0, fun _ => rfl, fun f => absurd c21 (q20.2.mpr f)⟩
      · skip
        replace hE := rb_f5 hE c21
        refine isAt_g5 hC  ?_ (fun r22 q24 => ?_)
        · clear h hE; exact (aI_at (aI_refl k3.2.1)).2.2.2  -- p14
        obtain ⟨q24, z9⟩ := q24
        replace hE := rb_p5 hE z9
        clear z9
        refine ⟨fun c25 => ?_, fun c25 => ?_⟩
        · skip
          replace hE := rb_t5 hE c25
          refine hj206 _ _ _ ?_
          · refine and_5 ?_ (fun o9 => hE)  -- k15
            clear h hE; exact ⟨k1, k2, k3, k4, k5, nb_0, fun _ => rfl, fun f => ⟨(k6 f).1, fun z => absurd rfl z, (k6 f).2⟩⟩
        · skip
          replace hE := rb_f5 hE c25
          refine hj206 _ _ _ ?_
          · refine and_5 ?_ (fun o9 => hE)  -- k16
            clear h hE; exact ⟨k1, k2, k3, k4, k5, nb_1, fun z => absurd (q20.2.mp c21) z, fun f => ⟨(k6 f).1, fun _ => (q24.2.mp c25).1, (k6 f).2⟩⟩
    refine isRight_g5 hC  (fun r26 q28 => ?_)
    obtain ⟨q28, z9⟩ := q28
    replace hE := rb_p5 hE z9
    clear z9
    refine ⟨fun c29 => ?_, fun c29 => ?_⟩
    · skip
      replace hE := rb_t5 hE c29
      refine hj218 _ _ ?_
      · refine and_5 ?_ (fun o9 => hE)  -- k17
        clear h hE; exact ⟨i102.1, i102.2.1, i102.2.2.1, fun f => absurd c29 (q28.2.mpr f)⟩
    · skip
      replace hE := rb_f5 hE c29
      refine ⟨fun c30 => ?_, fun c30 => ?_⟩
      · skip
        replace hE := rb_t5 hE c30
        refine hj218 _ _ ?_
        · refine and_5 ?_ (fun o9 => hE)  -- k18
          clear h hE; exact ⟨i102.1, i102.2.1, i102.2.2.1, fun f => ⟨(i102.2.2.2.2 f).1, (i102.2.2.2.2 f).2.1⟩⟩
      · skip
        replace hE := rb_f5 hE c30
        refine ⟨ib_10.mpr ?_, ?_⟩
        · clear h hE; exact fn_b i102.1.2.1  -- b19
        refine fresh_g5 hC B T ?_ (fun r31 σ_32 q33 => ?_)
        · clear h hE; exact ⟨i102.1.2.1.1, i102.1.2.1.2.2.1, i102.1.2.1.2.2.2.1⟩  -- p20
        obtain ⟨q33, z9⟩ := q33
        replace hE := rb_m5 hE z9
        clear z9
        have f := q28.2.mp c29
        have b := fI_fresh i102.1 q33
        have w := i102.2.2.2.2 f
        have g := fun k (z1 : k ≠ 10) (z2 : k ≠ 11) (z3 : k ≠ 12) => q33.1.1 k z1 z2 z3
        refine isRight_g5 hC  (fun r34 q36 => ?_)
        obtain ⟨q36, z9⟩ := q36
        replace hE := rb_p5 hE z9
        clear z9
        refine ⟨fun c37 => ?_, fun c37 => ?_⟩
        · skip
          replace hE := rb_t5 hE c37
          refine hj185 _ _ ?_
          · refine and_5 ?_ (fun o9 => hE)  -- k21
            clear h hE; exact ⟨f, c30, b.1, i102.2.1, i102.2.2.1, fun f' => absurd c37 (q36.2.mpr f')⟩
        · skip
          replace hE := rb_f5 hE c37
          have f' := q36.2.mp c37
          have hv : rd σ_32 27 (σ_32.1 41) < 4 := by simp only [rd]; rw [b.2.1, g 41 (by decide) (by decide) (by decide)]; exact (b.2.2.1 f').2.2
          have v0 : 0 ≤ rd σ_32 27 (σ_32.1 41) := (vr_b b.1.2.1 _).1
          have hfn := fn_b b.1.2.1
          have gu := g_up v0 hv
          have w2 : rd σ_32 26 (σ_32.1 41) = rd σ_32 27 (σ_32.1 41) := by simp only [rd]; rw [b.2.1, g 41 (by decide) (by decide) (by decide)]; exact w.2.2
          refine ⟨ib_10.mpr ?_, ?_⟩
          · clear h hE; exact hfn  -- b22
          refine ⟨ib_80.mpr ?_, ?_⟩
          · clear h hE; exact ix_b hfn.1 hfn.2 v0 gu.2.2.2  -- b23
          intro σ_38 hσ_38
          replace hE := rb_p5 hE hσ_38
          refine ⟨ib_10.mpr ?_, ?_⟩
          · clear h hE; rw [hσ_38, ri1]; exact hfn  -- b24
          refine ⟨ib_10.mpr ?_, ?_⟩
          · clear h hE; rw [hσ_38, ri1]; exact hfn  -- b25
          intro σ_39 hσ_39
          replace hE := rb_p5 hE hσ_39
          refine ⟨ib_10.mpr ?_, ?_⟩
          · clear h hE; rw [hσ_39, ri1, hσ_38, ri1]; exact hfn  -- b26
          refine ⟨ib_10.mpr ?_, ?_⟩
          · clear h hE; rw [hσ_39, ri1, hσ_38, ri1]; exact hfn  -- b27
          intro σ_40 hσ_40
          replace hE := rb_p5 hE hσ_40
          refine hj185 _ _ ?_
          · refine and_5 ?_ (fun o9 => hE)  -- k28
            clear h hE; have e38 : ∀ k, σ_38.1 k = σ_32.1 k := fun k => by rw [hσ_38, ri1]
            have e39 : ∀ k, σ_39.1 k = σ_32.1 k := fun k => by rw [hσ_39, ri1, e38]
            have e40 : ∀ k, σ_40.1 k = σ_32.1 k := fun k => by rw [hσ_40, ri1, e39]
            have x27 : σ_38.2.2.1 27 (σ_38.1 41).toNatClampNeg = rd σ_32 27 (σ_32.1 41) := by rw [e38, hσ_38, ri3 (by decide)]
            have x26 : σ_39.2.2.1 26 (σ_39.1 41).toNatClampNeg = rd σ_32 27 (σ_32.1 41) := by rw [e39, hσ_39, ri3 (by decide), hσ_38, ri3 (by decide)]; exact w2
            have c1 : fI σ σ_38 B T := by rw [hσ_38]; exact fI_nr b.1 (Or.inr (Or.inr (Or.inl ⟨rfl, b.2.2.2⟩)))
            have c2 : fI σ σ_39 B T := by rw [hσ_39, x27]; exact fI_nr c1 (Or.inr (Or.inl ⟨rfl, gu.1, gu.2.2.1⟩))
            have c3 : fI σ σ_40 B T := by rw [hσ_40, x26]; exact fI_nr c2 (Or.inl ⟨rfl, gu.1, gu.2.1⟩)
            refine ⟨f, c30, c3, i102.2.1, i102.2.2.1, fun _ => ⟨by rw [e40]; exact (b.2.2.1 f').2.1, ⟨by rw [e40, g 18 (by decide) (by decide) (by decide)]; exact w.1.1, by rw [e40, g 18 (by decide) (by decide) (by decide)]; exact w.1.2.1, by rw [rd, e40, hσ_40, ri3 (by decide), hσ_39, ri3 (by decide), hσ_38, ri3 (by decide), b.2.1, g 19 (by decide) (by decide) (by decide)]; exact w.1.2.2⟩, by rw [e40, g 13 (by decide) (by decide) (by decide)]; exact w.2.1, ?_⟩⟩
            have y26 : rd σ_40 26 (σ_40.1 41) = rd σ_32 27 (σ_32.1 41) + 1 := by rw [rd, e40, hσ_40, x26, e39, ri4, if_pos rfl]
            have y27 : rd σ_40 27 (σ_40.1 41) = rd σ_32 27 (σ_32.1 41) + 1 := by rw [rd, e40, hσ_40, ri3 (by decide), hσ_39, x27, e38, ri4, if_pos rfl]
            rw [y26, y27]
  have hj74 : ∀ (l1 : Int32) (τ : rS), ((fI σ τ B T ∧ 0 ≤ l1 ∧ l1 < 131074 ∧ (τ.1 11 = 0 → (τ.1 18 < 10 ∧ τ.1 18 = σ.1 18 ∧ rd τ 29 (σ.1 18) < τ.1 19) ∧ τ.1 13 = 0 ∧ rd τ 26 (τ.1 41) = rd τ 27 (τ.1 41))) ∧ g5_tellFunc σ = g5_tellFunc_74 l1 τ) → w_tellFunc_74 C Q  l1 τ := by
    rintro y74_1 τ74 ⟨j74, hE⟩
    unfold w_tellFunc_74
    refine open_g5 hC B T ?_ (fun σ_41 q42 => ?_)
    · clear h hE; exact j74.1.2.1.1  -- p29
    obtain ⟨q42, z9⟩ := q42
    replace hE := rb_p5 hE z9.symm
    clear z9
    have a1 := fI_open j74.1 q42
    have aw : σ_41.1 11 = 0 → (σ_41.1 18 < 10 ∧ σ_41.1 18 = σ.1 18 ∧ rd σ_41 29 (σ.1 18) < σ_41.1 19) ∧ σ_41.1 13 = 1 ∧ rd σ_41 26 (σ_41.1 41) = rd σ_41 27 (σ_41.1 41) := fun f => by
      obtain ⟨f0, l0, o0⟩ := a1.2.2 f
      obtain ⟨w1, w2, w3⟩ := j74.2.2.2 f0
      refine ⟨⟨by rw [q42.1.1 18 (by decide) (by decide) (by decide) (by decide)]; exact w1.1, by rw [q42.1.1 18 (by decide) (by decide) (by decide) (by decide)]; exact w1.2.1, by rw [rd, a1.2.1, q42.1.1 19 (by decide) (by decide) (by decide) (by decide)]; exact w1.2.2⟩, by rw [o0, w2]; rfl, ?_⟩
      simp only [rd]; rw [a1.2.1, q42.1.1 41 (by decide) (by decide) (by decide) (by decide)]; exact w3
    refine isRight_g5 hC  (fun r43 q45 => ?_)
    obtain ⟨q45, z9⟩ := q45
    replace hE := rb_p5 hE z9
    clear z9
    refine ⟨fun c46 => ?_, fun c46 => ?_⟩
    · skip
      replace hE := rb_t5 hE c46
      refine hh102 _ _ _ ?_
      · refine and_5 ?_ (fun o9 => ⟨fu5, by first | exact eMs_5 | (clear h hE; unfold fu5; omega), hE⟩)  -- j30
        clear h hE; exact ⟨a1.1, j74.2.1, j74.2.2.1, nb_0, aw⟩
    · skip
      replace hE := rb_f5 hE c46
      refine isAt_g5 hC  ?_ (fun r47 q49 => ?_)
      · clear h hE; exact (aI_at (aI_refl a1.1.2.1)).2.2.2  -- p31
      obtain ⟨q49, z9⟩ := q49
      replace hE := rb_p5 hE z9
      clear z9
      refine ⟨fun c50 => ?_, fun c50 => ?_⟩
      · skip
        replace hE := rb_f5 hE c50
        refine hh102 _ _ _ ?_
        · refine and_5 ?_ (fun o9 => ⟨fu5, by first | exact eMs_5 | (clear h hE; unfold fu5; omega), hE⟩)  -- j32
          clear h hE; exact ⟨a1.1, j74.2.1, j74.2.2.1, nb_0, aw⟩
      · skip
        replace hE := rb_t5 hE c50
        refine hh102 _ _ _ ?_
        · refine and_5 ?_ (fun o9 => ⟨fu5, by first | exact eMs_5 | (clear h hE; unfold fu5; omega), hE⟩)  -- j33
          clear h hE; exact ⟨a1.1, j74.2.1, j74.2.2.1, nb_1, aw⟩
  have hj34 : ∀ (l1 : Int32) (s1 : Int32) (τ : rS), ((fI σ τ B T ∧ 0 ≤ l1 ∧ l1 < 131074 ∧ 0 ≤ s1 ∧ s1 < 10 ∧ (τ.1 11 = 0 → (τ.1 18 < 10 ∧ τ.1 18 = σ.1 18 ∧ s1 = σ.1 18) ∧ τ.1 13 = 0)) ∧ g5_tellFunc σ = g5_tellFunc_34 l1 s1 τ) → w_tellFunc_34 C Q  l1 s1 τ := by
    rintro y34_1 y34_s1 τ34 ⟨j34, hE⟩
    unfold w_tellFunc_34
    intro σ_51 hσ_51
    replace hE := rb_p5 hE hσ_51
    have a1 : fI σ σ_51 B T := by rw [hσ_51]; exact fI_si j34.1 (Or.inr rfl) (p0_f41 j34.1.2.1 j34.2.2.2.1 j34.2.2.2.2.1)
    have e51 : ∀ k, k ≠ 41 → σ_51.1 k = τ34.1 k := fun k hk => by rw [hσ_51, si1, if_neg hk]
    refine isRight_g5 hC  (fun r52 q54 => ?_)
    obtain ⟨q54, z9⟩ := q54
    replace hE := rb_p5 hE z9
    clear z9
    refine ⟨fun c55 => ?_, fun c55 => ?_⟩
    · skip
      replace hE := rb_t5 hE c55
      refine hj74 _ _ ?_
      · refine and_5 ?_ (fun o9 => hE)  -- k34
        clear h hE; exact ⟨a1, j34.2.1, j34.2.2.1, fun f => absurd c55 (q54.2.mpr f)⟩
    · skip
      replace hE := rb_f5 hE c55
      refine ⟨ib_10.mpr ?_, ?_⟩
      · clear h hE; exact fn_b a1.2.1  -- b35
      intro σ_56 hσ_56
      replace hE := rb_p5 hE hσ_56
      refine ⟨ib_10.mpr ?_, ?_⟩
      · clear h hE; rw [hσ_56, ri1]; exact fn_b a1.2.1  -- b36
      intro σ_57 hσ_57
      replace hE := rb_p5 hE hσ_57
      refine ⟨ib_10.mpr ?_, ?_⟩
      · clear h hE; rw [hσ_57, ri1, hσ_56, ri1]; exact fn_b a1.2.1  -- b37
      intro σ_58 hσ_58
      replace hE := rb_p5 hE hσ_58
      refine hj74 _ _ ?_
      · refine and_5 ?_ (fun o9 => hE)  -- k38
        clear h hE; have c1 : fI σ σ_56 B T := by rw [hσ_56]; exact fI_nr a1 (Or.inr (Or.inl ⟨rfl, by decide, by decide⟩))
        have c2 : fI σ σ_57 B T := by rw [hσ_57]; exact fI_nr c1 (Or.inl ⟨rfl, by decide, by decide⟩)
        have c3 : fI σ σ_58 B T := by rw [hσ_58]; exact fI_nr c2 (Or.inr (Or.inr (Or.inr (Or.inr ⟨rfl, rfl⟩))))
        have e58 : ∀ k, σ_58.1 k = σ_51.1 k := fun k => by rw [hσ_58, ri1, hσ_57, ri1, hσ_56, ri1]
        refine ⟨c3, j34.2.1, j34.2.2.1, fun f => ?_⟩
        have f0 : τ34.1 11 = 0 := by rw [← e51 11 (by decide), ← e58]; exact f
        have w := j34.2.2.2.2.2 f0
        refine ⟨⟨by rw [e58, e51 18 (by decide)]; exact w.1.1, by rw [e58, e51 18 (by decide)]; exact w.1.2.1, ?_⟩, by rw [e58, e51 13 (by decide)]; exact w.2, ?_⟩
        · have y41 : σ_57.1 41 = σ.1 18 := by rw [hσ_57, ri1, hσ_56, ri1, hσ_51, si1, if_pos rfl]; exact w.1.2.2
          rw [rd, hσ_58, ri1, y41, ri4, if_pos rfl]
          exact Int32.lt_of_lt_of_le (by decide) (st_b c2.2.1).1
        have y26 : rd σ_58 26 (σ_58.1 41) = 0 := by rw [rd, e58, hσ_58, ri3 (by decide), hσ_57, hσ_56, ri1, ri4, if_pos rfl]
        have y27 : rd σ_58 27 (σ_58.1 41) = 0 := by rw [rd, e58, hσ_58, ri3 (by decide), hσ_57, ri3 (by decide), hσ_56, ri4, if_pos rfl]
        rw [y26, y27]
  have hE : g5_tellFunc σ = g5_tellFunc σ := rfl
  refine go_g5 hC B T ?_ (fun σ_59 q60 => ?_)
  · clear h hE; exact ⟨hP.1, fun _ => hn⟩  -- p39
  obtain ⟨q60, z9⟩ := q60
  replace hE := rb_p5 hE z9.symm
  clear z9
  have aa := aI_go (aI_refl hP) q60
  have a0 : fI σ σ_59 B T := ⟨frG_3 q60.1, aa.1.2.1, tS_2 hS aa.2.1, by rw [aa.2.1]; exact rHi_refl, by rw [aa.2.1]; exact rLo_refl, fun f => ⟨(aa.2.2 f).2.1, stA_up hP.1.1 hA.2.2.2.2 hst (by rw [aa.2.1]) (by rw [aa.2.1]) (q60.1.1 19 (by decide) (by decide) (by decide)) ⟨by rw [aa.2.1], by rw [aa.2.1], by rw [aa.2.1], by rw [aa.2.1], by rw [aa.2.1], by rw [aa.2.1], by rw [aa.2.1]⟩ (by rw [aa.2.1]; exact rLo_refl) (Int32.le_of_lt (aa.2.2 f).2.1), fA_lk hfa (lkF_o (by rw [aa.2.1]) (q60.1.1 19 (by decide) (by decide) (by decide)))⟩⟩
  refine fresh_g5 hC B T ?_ (fun r61 σ_62 q63 => ?_)
  · clear h hE; exact ⟨a0.2.1.1, a0.2.1.2.2.1, a0.2.1.2.2.2.1⟩  -- p40
  obtain ⟨q63, z9⟩ := q63
  replace hE := rb_m5 hE z9
  clear z9
  have b := fI_fresh a0 q63
  have e62 : σ_62.1 18 = σ.1 18 := by rw [q63.1.1 18 (by decide) (by decide) (by decide), q60.1.1 18 (by decide) (by decide) (by decide)]
  have bw : σ_62.1 11 = 0 → (σ_62.1 18 < 10 ∧ σ_62.1 18 = σ.1 18) ∧ σ_62.1 13 = 0 := fun f => ⟨⟨by rw [q63.1.1 18 (by decide) (by decide) (by decide)]; exact (b.2.2.1 f).2.2, e62⟩, by rw [q63.1.1 13 (by decide) (by decide) (by decide), q60.1.1 13 (by decide) (by decide) (by decide)]; exact ho⟩
  refine ⟨fun c64 => ?_, fun c64 => ?_⟩
  · skip
    replace hE := rb_t5 hE c64
    refine hj34 _ _ _ ?_
    · refine and_5 ?_ (fun o9 => hE)  -- k41
      clear h hE; exact ⟨b.1, b.2.2.2.1, b.2.2.2.2, by decide, by decide, fun f => absurd (bw f).1.1 (Int32.not_lt.mpr c64)⟩
  · skip
    replace hE := rb_f5 hE c64
    refine hj34 _ _ _ ?_
    · refine and_5 ?_ (fun o9 => hE)  -- k42
      clear h hE; exact ⟨b.1, b.2.2.2.1, b.2.2.2.2, (f_b b.1.2.1).1, g_nl c64, fun f => ⟨⟨(bw f).1.1, (bw f).1.2, e62⟩, (bw f).2⟩⟩
