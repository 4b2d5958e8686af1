set_option maxHeartbeats 1600000
/-! the reference: calls, the whole text -/
def g5_countArguments_184 (B45 : Int32 → Int32 → Int32 → rS → Int32) (a2 : Int32) (a4 : Int32) (s0 : Int32) (s1 : Int32) (σ : rS) : Int32 := pb5 ((s0 + s1)) (fun v5_1 => pb5 (a2 + (1 : Int32)) (fun v2_2 => (B45 (v2_2) (a4) (v5_1) (σ))))
def g5_countArguments_153 (B45 : Int32 → Int32 → Int32 → rS → Int32) (a2 : Int32) (a5 : Int32) (a6 : Int32) (s0 : Int32) (s1 : Int32) (σ : rS) : Int32 := pb5 ((s0 + s1)) (fun v4_1 => (if v4_1 = 0 then (if a6 = 0 then (g5_countArguments_184 B45 (a2) (v4_1) (a5) ((0 : Int32)) (σ)) else (if (σ.2.2.1 7 (a2).toNatClampNeg) = (44 : Int32) then (g5_countArguments_184 B45 (a2) (v4_1) (a5) ((1 : Int32)) (σ)) else (g5_countArguments_184 B45 (a2) (v4_1) (a5) ((0 : Int32)) (σ)))) else (g5_countArguments_184 B45 (a2) (v4_1) (a5) ((0 : Int32)) (σ))))
def g5_countArguments_121 (B45 : Int32 → Int32 → Int32 → rS → Int32) (a2 : Int32) (a5 : Int32) (a6 : Int32) (s0 : Int32) (σ : rS) : Int32 := (if a6 = 0 then (g5_countArguments_153 B45 (a2) (a5) (a6) (s0) ((0 : Int32)) (σ)) else (if (σ.2.2.1 7 (a2).toNatClampNeg) = (41 : Int32) then (g5_countArguments_153 B45 (a2) (a5) (a6) (s0) ((-1 : Int32)) (σ)) else (if (σ.2.2.1 7 (a2).toNatClampNeg) = (93 : Int32) then (g5_countArguments_153 B45 (a2) (a5) (a6) (s0) ((-1 : Int32)) (σ)) else (g5_countArguments_153 B45 (a2) (a5) (a6) (s0) ((0 : Int32)) (σ)))))
def g5_countArguments_86 (B45 : Int32 → Int32 → Int32 → rS → Int32) (a2 : Int32) (a4 : Int32) (a5 : Int32) (s0 : Int32) (σ : rS) : Int32 := (if s0 = 0 then (g5_countArguments_121 B45 (a2) (a5) (s0) (a4) (σ)) else (if (σ.2.2.1 7 (a2).toNatClampNeg) = (40 : Int32) then (g5_countArguments_153 B45 (a2) (a5) (s0) (a4) ((1 : Int32)) (σ)) else (if (σ.2.2.1 7 (a2).toNatClampNeg) = (91 : Int32) then (g5_countArguments_153 B45 (a2) (a5) (s0) (a4) ((1 : Int32)) (σ)) else (g5_countArguments_121 B45 (a2) (a5) (s0) (a4) (σ)))))
def g5_countArguments_71 (B45 : Int32 → Int32 → Int32 → rS → Int32) (a2 : Int32) (a4 : Int32) (a5 : Int32) (σ : rS) : Int32 := (if (σ.2.2.1 5 (a2).toNatClampNeg) = (3 : Int32) then (g5_countArguments_86 B45 (a2) (a4) (a5) ((1 : Int32)) (σ)) else (g5_countArguments_86 B45 (a2) (a4) (a5) ((0 : Int32)) (σ)))
def g5_countArguments_45  : Nat → Int32 → Int32 → Int32 → rS → Int32
  | 0, _, _, _, σ => 0
  | m5 + 1, a2, a4, a5, σ => (if 0 < a4 then (g5_countArguments_71 (g5_countArguments_45 m5) (a2) (a4) (a5) (σ)) else (if (σ.2.2.1 5 (a2).toNatClampNeg) = (3 : Int32) then (if (σ.2.2.1 7 (a2).toNatClampNeg) = (41 : Int32) then a5 else (g5_countArguments_71 (g5_countArguments_45 m5) (a2) (a4) (a5) (σ))) else (g5_countArguments_71 (g5_countArguments_45 m5) (a2) (a4) (a5) (σ))))
def g5_countArguments_30 (a2 : Int32) (s0 : Int32) (σ : rS) : Int32 := (if s0 = 0 then (g5_countArguments_45 fu5 (a2) ((0 : Int32)) ((1 : Int32)) (σ)) else (g5_countArguments_45 fu5 (a2) ((0 : Int32)) ((0 : Int32)) (σ)))
def g5_countArguments (a1 : Int32) (σ : rS) : Int32 := pb5 ((a1 + (2 : Int32))) (fun v2_1 => (if (σ.2.2.1 5 (v2_1).toNatClampNeg) = (3 : Int32) then (if (σ.2.2.1 7 (v2_1).toNatClampNeg) = (41 : Int32) then (g5_countArguments_30 (v2_1) ((1 : Int32)) (σ)) else (g5_countArguments_30 (v2_1) ((0 : Int32)) (σ))) else (g5_countArguments_30 (v2_1) ((0 : Int32)) (σ))))

def g5_calledBy (a1 : Int32) (σ : rS) : Int32 := (σ.2.2.1 32 (a1).toNatClampNeg)

def g5_lookAtCalls_74 (B2 : Int32 → rS → rS) (a1 : Int32) (a2 : Int32) (a3 : Int32) (σ : rS) : rS := pb5 (riU σ 39 (a2).toNatClampNeg ((300 : Int32) + a3)) (fun σ1 => pb5 (a1 + (1 : Int32)) (fun v1_2 => (B2 (v1_2) (σ1))))
def g5_lookAtCalls_58 (B2 : Int32 → rS → rS) (a1 : Int32) (a2 : Int32) (a3 : Int32) (σ : rS) : rS := pb5 (siU σ 11 (16 : Int32)) (fun σ1 => pb5 (siU σ1 12 (σ1.2.2.1 6 (a2).toNatClampNeg)) (fun σ2 => (g5_lookAtCalls_74 B2 (a1) (a2) (a3) (σ2))))
def g5_lookAtCalls_164 (B98 : Int32 → rS → rS) (a1 : Int32) (s1 : Int32) (σ : rS) : rS := pb5 (siU σ 40 s1) (fun σ1 => pb5 (a1 + (1 : Int32)) (fun v1_2 => (B98 (v1_2) (σ1))))
def g5_lookAtCalls_290 (B204 : Int32 → rS → rS) (a1 : Int32) (s1 : Int32) (s2 : Int32) (σ : rS) : rS := pb5 (riU σ 37 (s1).toNatClampNeg s2) (fun σ1 => pb5 (a1 + (1 : Int32)) (fun v1_2 => (B204 (v1_2) (σ1))))
def g5_lookAtCalls_260 (B204 : Int32 → rS → rS) (a1 : Int32) (a2 : Int32) (σ : rS) : rS := (if (σ.2.2.1 35 (a2).toNatClampNeg) = (-1 : Int32) then (g5_lookAtCalls_290 B204 (a1) (a1) ((σ.2.2.1 36 (a2).toNatClampNeg)) (σ)) else (g5_lookAtCalls_290 B204 (a1) (a1) ((σ.2.2.1 35 (a2).toNatClampNeg)) (σ)))
def g5_lookAtCalls_214 (B204 : Int32 → rS → rS) : Nat → Int32 → Int32 → rS → rS
  | 0, _, _, σ => σ
  | m5 + 1, a1, a2, σ => (if (σ.2.2.1 35 (a2).toNatClampNeg) = (-1 : Int32) then (if (σ.2.2.1 36 (a2).toNatClampNeg) = (-1 : Int32) then (g5_lookAtCalls_260 B204 (a1) (a2) (σ)) else (if (σ.2.2.1 30 ((σ.2.2.1 36 (a2).toNatClampNeg)).toNatClampNeg) = (6 : Int32) then pb5 ((σ.2.2.1 36 (a2).toNatClampNeg)) (fun v2_1 => (g5_lookAtCalls_214 B204 m5 (a1) (v2_1) (σ))) else (g5_lookAtCalls_260 B204 (a1) (a2) (σ)))) else (g5_lookAtCalls_260 B204 (a1) (a2) (σ)))
def g5_lookAtCalls_204  : Nat → Int32 → rS → rS
  | 0, _, σ => σ
  | m5 + 1, a1, σ => (if (σ.1 19) ≤ a1 then σ else (g5_lookAtCalls_214 (g5_lookAtCalls_204 m5) fu5 (a1) (a1) (σ)))
def g5_lookAtCalls_98  : Nat → Int32 → rS → rS
  | 0, _, σ => σ
  | m5 + 1, a1, σ => (if (σ.1 18) ≤ a1 then pb5 (g5_isRight σ) (fun r2 => (if r2 = 0 then (g5_lookAtCalls_204 fu5 ((0 : Int32)) (σ)) else (if (σ.1 40) = (-1 : Int32) then pb5 (siU σ 11 (17 : Int32)) (fun σ3 => pb5 (siU σ3 12 (σ3.1 2)) (fun σ4 => (g5_lookAtCalls_204 fu5 ((0 : Int32)) (σ4)))) else (g5_lookAtCalls_204 fu5 ((0 : Int32)) (σ))))) else pb5 ((σ.2.2.1 25 (a1).toNatClampNeg)) (fun v2_5 => pb5 (g5_word ((109 : Int32)) ((97 : Int32)) ((105 : Int32)) ((110 : Int32)) ((0 : Int32)) ((0 : Int32)) ((0 : Int32)) σ) (fun r7 => (if (lg_cmp (σ.2.2.2 8 (v2_5).toNatClampNeg) r7) = 0 then (if (σ.2.2.1 9 (v2_5).toNatClampNeg) = 0 then (if (σ.2.2.1 26 (a1).toNatClampNeg) = 0 then (g5_lookAtCalls_164 (g5_lookAtCalls_98 m5) (a1) (a1) (σ)) else (g5_lookAtCalls_164 (g5_lookAtCalls_98 m5) (a1) ((σ.1 40)) (σ))) else (g5_lookAtCalls_164 (g5_lookAtCalls_98 m5) (a1) ((σ.1 40)) (σ))) else (g5_lookAtCalls_164 (g5_lookAtCalls_98 m5) (a1) ((σ.1 40)) (σ))))))
def g5_lookAtCalls_2  : Nat → Int32 → rS → rS
  | 0, _, σ => σ
  | m5 + 1, a1, σ => (if (σ.1 19) ≤ a1 then pb5 (siU σ 40 (-1 : Int32)) (fun σ1 => (g5_lookAtCalls_98 fu5 ((0 : Int32)) (σ1))) else (if (σ.2.2.1 30 (a1).toNatClampNeg) = (5 : Int32) then pb5 (g5_isRight σ) (fun r4 => (if r4 = 0 then pb5 (a1 + (1 : Int32)) (fun v1_5 => (g5_lookAtCalls_2 m5 (v1_5) (σ))) else pb5 (g5_calledBy (a1) σ) (fun r7 => pb5 (g5_functionOf (r7) σ) (fun r9 => (if r9 = (-1 : Int32) then (g5_lookAtCalls_58 (g5_lookAtCalls_2 m5) (a1) (r7) (r9) (σ)) else pb5 (g5_countArguments (r7) σ) (fun r11 => (if (σ.2.2.1 26 (r9).toNatClampNeg) = r11 then (g5_lookAtCalls_74 (g5_lookAtCalls_2 m5) (a1) (r7) (r9) (σ)) else (g5_lookAtCalls_58 (g5_lookAtCalls_2 m5) (a1) (r7) (r9) (σ))))))))) else pb5 (a1 + (1 : Int32)) (fun v1_2 => (g5_lookAtCalls_2 m5 (v1_2) (σ)))))
def g5_lookAtCalls  (σ : rS) : rS := (g5_lookAtCalls_2 fu5 ((0 : Int32)) (σ))

def g5_tellProgram_161  (σ : rS) : rS := pb5 (g5_isRight σ) (fun r2 => (if r2 = 0 then σ else pb5 (g5_lookAtCalls σ) (fun σ3 => σ3)))
def g5_tellProgram_84  : Nat → rS → rS
  | 0, σ => σ
  | m5 + 1, σ => pb5 (g5_isRight σ) (fun r2 => (if r2 = 0 then (g5_tellProgram_161 (σ)) else (if (σ.2.2.1 5 ((σ.1 10)).toNatClampNeg) = (5 : Int32) then (g5_tellProgram_161 (σ)) else pb5 (g5_isWord ((1 : Int32)) σ) (fun r4 => (if r4 = 0 then pb5 (g5_isWord ((2 : Int32)) σ) (fun r6 => (if r6 = 0 then pb5 (g5_isWord ((3 : Int32)) σ) (fun r8 => (if r8 = 0 then pb5 (g5_flaw ((2 : Int32)) ((σ.1 10)) σ) (fun σ9 => (g5_tellProgram_84 m5 (σ9))) else pb5 (g5_tellFunc σ) (fun σ11 => (g5_tellProgram_84 m5 (σ11))))) else pb5 (g5_tellArr σ) (fun σ13 => (g5_tellProgram_84 m5 (σ13))))) else pb5 (g5_tellVar σ) (fun σ15 => (g5_tellProgram_84 m5 (σ15))))))))
def g5_tellProgram_65 (s1 : Int32) (σ : rS) : rS := pb5 (siU σ 3 s1) (fun σ1 => pb5 (g5_cutTape σ1) (fun σ2 => pb5 (siU σ2 10 (σ2.1 3)) (fun σ4 => pb5 (g5_readNext σ4) (fun σ5 => (g5_tellProgram_84 fu5 (σ5))))))
def g5_tellProgram  (σ : rS) : rS := pb5 (siU σ 46 (0 : Int32)) (fun σ1 => pb5 (siU σ1 47 (0 : Int32)) (fun σ2 => pb5 (siU σ2 11 (0 : Int32)) (fun σ3 => pb5 (siU σ3 12 (0 : Int32)) (fun σ4 => pb5 (siU σ4 13 (0 : Int32)) (fun σ5 => pb5 (siU σ5 15 (0 : Int32)) (fun σ6 => pb5 (siU σ6 16 (0 : Int32)) (fun σ7 => pb5 (siU σ7 17 (0 : Int32)) (fun σ8 => pb5 (siU σ8 18 (0 : Int32)) (fun σ9 => pb5 (siU σ9 19 (0 : Int32)) (fun σ10 => (if (σ10.1 3) = 0 then (g5_tellProgram_65 ((65537 : Int32)) (σ10)) else (g5_tellProgram_65 ((0 : Int32)) (σ10)))))))))))))

theorem countArguments_g5 {C : rCx} (hC : cOK C) (P : Int32) (tot : Nat) (R : Nat → Int32) {σ : rS} {a1 : Int32} {Q : Int32 → rS → Prop} (hp : 0 ≤ a1 ∧ a1 < P ∧ P < 131074 ∧ gN (σ.2.2.1 5) (σ.2.2.1 7) R P tot (a1 + 2) ∧ tot < 131074 ∧ a1 + 2 < P) (h : ∀ (v : Int32), ((0 ≤ v ∧ v.toNatClampNeg = tot) ∧ v = g5_countArguments a1 σ) → Q v σ) : cI C 0 m_countArguments [.ref (co C), .int a1] σ Q := by
  refine m_countArguments_run hC ?_
  unfold w_countArguments_0
  obtain ⟨h0, h1, hP, hg, hnn, h2⟩ := hp
  have h20 : 0 ≤ a1 + 2 := by clear hg; grind
  have hh45 : ∀ (l2 : Int32) (l4 : Int32) (l5 : Int32) (τ : rS), ((σ = τ ∧ cI5 (σ.2.2.1 5) (σ.2.2.1 7) P l2 l4 l5 tot) ∧ ∃ m5, (P - l2).toNatClampNeg < m5 ∧ g5_countArguments a1 σ = g5_countArguments_45 m5 l2 l4 l5 τ) → w_countArguments_45 C Q  l2 l4 l5 τ := by
    intro z2 z4 z5 τi hinit
    unfold w_countArguments_45
    refine ⟨fun n l2 l4 l5 τ => n = (P - l2).toNatClampNeg ∧ ((σ = τ ∧ cI5 (σ.2.2.1 5) (σ.2.2.1 7) P l2 l4 l5 tot) ∧ ∃ m5, n < m5 ∧ g5_countArguments a1 σ = g5_countArguments_45 m5 l2 l4 l5 τ), ⟨_, rfl, hinit⟩, ?_⟩
    clear hinit
    rintro n45 x45_2 x45_4 x45_5 _ ⟨hn45, ⟨rfl, i45⟩, mF45, hmF45, hE⟩
    obtain ⟨mF45, rfl⟩ : ∃ m9, mF45 = m9 + 1 := ⟨mF45 - 1, by clear h hE; omega⟩
    have bb := cI5_b hP hnn i45
    have hj184 : ∀ (l2 : Int32) (l4 : Int32) (s0 : Int32) (s1 : Int32) (τ : rS), ((σ = τ ∧ l2 = x45_2 ∧ ¬ (x45_4.toNatClampNeg = 0 ∧ sg (σ.2.2.1 5) (σ.2.2.1 7) l2 41) ∧ 0 ≤ l4 ∧ sD (σ.2.2.1 5) (σ.2.2.1 7) l2 x45_4.toNatClampNeg l4.toNatClampNeg ∧ s0 = x45_5 ∧ s1 = (if l4 = 0 ∧ rd σ 5 l2 = 3 ∧ rd σ 7 l2 = 44 then 1 else 0)) ∧ g5_countArguments a1 σ = g5_countArguments_184 (g5_countArguments_45 mF45) l2 l4 s0 s1 τ) → w_countArguments_184 C Q (fun l2' l4' l5' τ => ∃ k < n45, (fun n l2 l4 l5 τ => n = (P - l2).toNatClampNeg ∧ ((σ = τ ∧ cI5 (σ.2.2.1 5) (σ.2.2.1 7) P l2 l4 l5 tot) ∧ ∃ m5, n < m5 ∧ g5_countArguments a1 σ = g5_countArguments_45 m5 l2 l4 l5 τ)) k l2' l4' l5' τ) l2 l4 s0 s1 τ := by
      clear hE
      rintro y184_2 y184_4 y184_s0 y184_s1 _ ⟨⟨rfl, j184⟩, hE⟩
      unfold w_countArguments_184
      intro x1 hx1
      replace hE := rb_p5 hE hx1
      intro x2 hx2
      replace hE := rb_p5 hE hx2
      refine lp_b5 (cn_lt2 hn45 ?_ ?_) (fun d9 => ⟨rfl, ?_⟩)
      · clear h hE; have st := cI5_st hP hnn i45 (d' := y184_4) (n' := x1) (by rw [← j184.1]; exact j184.2.1) j184.2.2.1 (by rw [← j184.1]; exact j184.2.2.2.1) (by rw [hx1, j184.2.2.2.2.1, j184.2.2.2.2.2, j184.1])
        rw [hx2, j184.1]; exact st.2.2
      · clear h hE; have st := cI5_st hP hnn i45 (d' := y184_4) (n' := x1) (by rw [← j184.1]; exact j184.2.1) j184.2.2.1 (by rw [← j184.1]; exact j184.2.2.2.1) (by rw [hx1, j184.2.2.2.2.1, j184.2.2.2.2.2, j184.1])
        rw [hx2, j184.1]; exact st.2.1
      · refine and_5 ?_ (fun o9 => ⟨mF45, Nat.lt_of_lt_of_le d9 (Nat.le_of_lt_succ hmF45), hE⟩)  -- i3
        clear h hE d9 hmF45; have st := cI5_st hP hnn i45 (d' := y184_4) (n' := x1) (by rw [← j184.1]; exact j184.2.1) j184.2.2.1 (by rw [← j184.1]; exact j184.2.2.2.1) (by rw [hx1, j184.2.2.2.2.1, j184.2.2.2.2.2, j184.1])
        refine ⟨rfl, ?_⟩
        rw [hx2, j184.1]; exact st.1
    have hj153 : ∀ (l2 : Int32) (l5 : Int32) (l6 : Int32) (s0 : Int32) (s1 : Int32) (τ : rS), ((σ = τ ∧ l2 = x45_2 ∧ l5 = x45_5 ∧ ¬ (x45_4.toNatClampNeg = 0 ∧ sg (σ.2.2.1 5) (σ.2.2.1 7) l2 41) ∧ (l6 ≠ 0 ↔ rd σ 5 l2 = 3) ∧ 0 ≤ s0 + s1 ∧ sD (σ.2.2.1 5) (σ.2.2.1 7) l2 x45_4.toNatClampNeg (s0 + s1).toNatClampNeg) ∧ g5_countArguments a1 σ = g5_countArguments_153 (g5_countArguments_45 mF45) l2 l5 l6 s0 s1 τ) → w_countArguments_153 C Q (fun l2' l4' l5' τ => ∃ k < n45, (fun n l2 l4 l5 τ => n = (P - l2).toNatClampNeg ∧ ((σ = τ ∧ cI5 (σ.2.2.1 5) (σ.2.2.1 7) P l2 l4 l5 tot) ∧ ∃ m5, n < m5 ∧ g5_countArguments a1 σ = g5_countArguments_45 m5 l2 l4 l5 τ)) k l2' l4' l5' τ) l2 l5 l6 s0 s1 τ := by
      clear hE
      rintro y153_2 y153_5 y153_6 y153_s0 y153_s1 _ ⟨⟨rfl, j153⟩, hE⟩
      unfold w_countArguments_153
      intro x3 hx3
      replace hE := rb_p5 hE hx3
      obtain ⟨e2, e5, hs, h6, hge, hD⟩ := j153
      rw [← hx3] at hge hD
      refine ⟨fun c4 => ?_, fun c4 => ?_⟩
      · skip
        replace hE := rb_f5 hE c4
        refine hj184 _ _ _ _ _ ?_
        · refine and_5 ?_ (fun o9 => hE)  -- k4
          clear h hE; exact ⟨rfl, e2, hs, hge, hD, e5, (if_neg (fun z => c4 z.1)).symm⟩
      · skip
        replace hE := rb_t5 hE c4
        refine ⟨fun c5 => ?_, fun c5 => ?_⟩
        · skip
          replace hE := rb_t5 hE c5
          refine hj184 _ _ _ _ _ ?_
          · refine and_5 ?_ (fun o9 => hE)  -- k5
            clear h hE; exact ⟨rfl, e2, hs, hge, hD, e5, (if_neg (fun z => (h6.mpr z.2.1) c5)).symm⟩
        · skip
          replace hE := rb_f5 hE c5
          refine ⟨ib_131074.mpr ?_, ?_⟩
          · clear h hE; rw [e2]; exact ⟨bb.1, bb.2.1⟩  -- b6
          refine ⟨fun c6 => ?_, fun c6 => ?_⟩
          · skip
            replace hE := rb_f5 hE c6
            refine hj184 _ _ _ _ _ ?_
            · refine and_5 ?_ (fun o9 => hE)  -- k7
              clear h hE; exact ⟨rfl, e2, hs, hge, hD, e5, (if_neg (fun z => c6 z.2.2)).symm⟩
          · skip
            replace hE := rb_t5 hE c6
            refine hj184 _ _ _ _ _ ?_
            · refine and_5 ?_ (fun o9 => hE)  -- k8
              clear h hE; exact ⟨rfl, e2, hs, hge, hD, e5, (if_pos ⟨c4, h6.mp c5, c6⟩).symm⟩
    have hj121 : ∀ (l2 : Int32) (l5 : Int32) (l6 : Int32) (s0 : Int32) (τ : rS), ((σ = τ ∧ l2 = x45_2 ∧ l5 = x45_5 ∧ s0 = x45_4 ∧ ¬ (x45_4.toNatClampNeg = 0 ∧ sg (σ.2.2.1 5) (σ.2.2.1 7) l2 41) ∧ (l6 ≠ 0 ↔ rd σ 5 l2 = 3) ∧ ¬ (sg (σ.2.2.1 5) (σ.2.2.1 7) l2 40 ∨ sg (σ.2.2.1 5) (σ.2.2.1 7) l2 91)) ∧ g5_countArguments a1 σ = g5_countArguments_121 (g5_countArguments_45 mF45) l2 l5 l6 s0 τ) → w_countArguments_121 C Q (fun l2' l4' l5' τ => ∃ k < n45, (fun n l2 l4 l5 τ => n = (P - l2).toNatClampNeg ∧ ((σ = τ ∧ cI5 (σ.2.2.1 5) (σ.2.2.1 7) P l2 l4 l5 tot) ∧ ∃ m5, n < m5 ∧ g5_countArguments a1 σ = g5_countArguments_45 m5 l2 l4 l5 τ)) k l2' l4' l5' τ) l2 l5 l6 s0 τ := by
      clear hE
      rintro y121_2 y121_5 y121_6 y121_s0 _ ⟨⟨rfl, j121⟩, hE⟩
      unfold w_countArguments_121
      obtain ⟨e2, e5, e0, hs, h6, hb⟩ := j121
      refine ⟨fun c7 => ?_, fun c7 => ?_⟩
      · skip
        replace hE := rb_t5 hE c7
        refine hj153 _ _ _ _ _ _ ?_
        · refine and_5 ?_ (fun o9 => hE)  -- k9
          clear h hE; refine ⟨rfl, e2, e5, hs, h6, by rw [Int32.add_zero, e0]; exact bb.2.2.2.1, ?_⟩
          rw [Int32.add_zero, e0]
          refine Or.inr (Or.inr ⟨?_, rfl⟩)
          rintro (z | z | z | z) <;> exact (h6.mpr z.1) c7
      · skip
        replace hE := rb_f5 hE c7
        refine ⟨ib_131074.mpr ?_, ?_⟩
        · clear h hE; rw [e2]; exact ⟨bb.1, bb.2.1⟩  -- b10
        refine ⟨fun c8 => ?_, fun c8 => ?_⟩
        · skip
          replace hE := rb_t5 hE c8
          refine hj153 _ _ _ _ _ _ ?_
          · refine and_5 ?_ (fun o9 => hE)  -- k11
            clear h hE; have s41 : sg (σ.2.2.1 5) (σ.2.2.1 7) y121_2 41 := ⟨h6.mp c7, c8⟩
            have u := dn_cR9 bb.2.2.2.1 (fun z => hs ⟨z, s41⟩) bb.2.2.2.2.1
            refine ⟨rfl, e2, e5, hs, h6, by rw [e0]; exact u.1, ?_⟩
            rw [e0]
            exact Or.inr (Or.inl ⟨Or.inl s41, u.2⟩)
        · skip
          replace hE := rb_f5 hE c8
          refine ⟨ib_131074.mpr ?_, ?_⟩
          · clear h hE; rw [e2]; exact ⟨bb.1, bb.2.1⟩  -- b12
          refine ⟨fun c9 => ?_, fun c9 => ?_⟩
          · skip
            replace hE := rb_f5 hE c9
            refine hj153 _ _ _ _ _ _ ?_
            · refine and_5 ?_ (fun o9 => hE)  -- k13
              clear h hE; refine ⟨rfl, e2, e5, hs, h6, by rw [Int32.add_zero, e0]; exact bb.2.2.2.1, ?_⟩
              rw [Int32.add_zero, e0]
              refine Or.inr (Or.inr ⟨?_, rfl⟩)
              rintro (z | z | z | z)
              · exact hb (Or.inl z)
              · exact hb (Or.inr z)
              · exact c8 z.2
              · exact c9 z.2
          · skip
            replace hE := rb_t5 hE c9
            refine hj153 _ _ _ _ _ _ ?_
            · refine and_5 ?_ (fun o9 => hE)  -- k14
              clear h hE; have s93 : sg (σ.2.2.1 5) (σ.2.2.1 7) y121_2 93 := ⟨h6.mp c7, c9⟩
              have u := dn_cR9 bb.2.2.2.1 (cI5_93 i45 (by rw [← e2]; exact s93)) bb.2.2.2.2.1
              refine ⟨rfl, e2, e5, hs, h6, by rw [e0]; exact u.1, ?_⟩
              rw [e0]
              exact Or.inr (Or.inl ⟨Or.inr s93, u.2⟩)
    have hj86 : ∀ (l2 : Int32) (l4 : Int32) (l5 : Int32) (s0 : Int32) (τ : rS), ((σ = τ ∧ l2 = x45_2 ∧ l4 = x45_4 ∧ l5 = x45_5 ∧ ¬ (x45_4.toNatClampNeg = 0 ∧ sg (σ.2.2.1 5) (σ.2.2.1 7) l2 41) ∧ (s0 ≠ 0 ↔ rd σ 5 l2 = 3)) ∧ g5_countArguments a1 σ = g5_countArguments_86 (g5_countArguments_45 mF45) l2 l4 l5 s0 τ) → w_countArguments_86 C Q (fun l2' l4' l5' τ => ∃ k < n45, (fun n l2 l4 l5 τ => n = (P - l2).toNatClampNeg ∧ ((σ = τ ∧ cI5 (σ.2.2.1 5) (σ.2.2.1 7) P l2 l4 l5 tot) ∧ ∃ m5, n < m5 ∧ g5_countArguments a1 σ = g5_countArguments_45 m5 l2 l4 l5 τ)) k l2' l4' l5' τ) l2 l4 l5 s0 τ := by
      clear hE
      rintro y86_2 y86_4 y86_5 y86_s0 _ ⟨⟨rfl, j86⟩, hE⟩
      unfold w_countArguments_86
      obtain ⟨e2, e4, e5, hs, h6⟩ := j86
      have cs := cn_succ bb.2.2.2.1 (Int32.lt_trans bb.2.2.2.2.1 (by decide))
      have c0 : 0 ≤ x45_4 + 1 := by clear h hE; clear hs h6 i45 cs hg; grind
      refine ⟨fun c10 => ?_, fun c10 => ?_⟩
      · skip
        replace hE := rb_t5 hE c10
        refine hj121 _ _ _ _ _ ?_
        · refine and_5 ?_ (fun o9 => hE)  -- k15
          clear h hE; exact ⟨rfl, e2, e5, e4, hs, h6, fun z => by rcases z with z | z <;> exact (h6.mpr z.1) c10⟩
      · skip
        replace hE := rb_f5 hE c10
        refine ⟨ib_131074.mpr ?_, ?_⟩
        · clear h hE; rw [e2]; exact ⟨bb.1, bb.2.1⟩  -- b16
        refine ⟨fun c11 => ?_, fun c11 => ?_⟩
        · skip
          replace hE := rb_t5 hE c11
          refine hj153 _ _ _ _ _ _ ?_
          · refine and_5 ?_ (fun o9 => hE)  -- k17
            clear h hE; refine ⟨rfl, e2, e5, hs, h6, by rw [e4]; exact c0, ?_⟩
            rw [e4]
            exact Or.inl ⟨Or.inl ⟨h6.mp c10, c11⟩, cs⟩
        · skip
          replace hE := rb_f5 hE c11
          refine ⟨ib_131074.mpr ?_, ?_⟩
          · clear h hE; rw [e2]; exact ⟨bb.1, bb.2.1⟩  -- b18
          refine ⟨fun c12 => ?_, fun c12 => ?_⟩
          · skip
            replace hE := rb_f5 hE c12
            refine hj121 _ _ _ _ _ ?_
            · refine and_5 ?_ (fun o9 => hE)  -- k19
              clear h hE; exact ⟨rfl, e2, e5, e4, hs, h6, fun z => by rcases z with z | z; exact c11 z.2; exact c12 z.2⟩
          · skip
            replace hE := rb_t5 hE c12
            refine hj153 _ _ _ _ _ _ ?_
            · refine and_5 ?_ (fun o9 => hE)  -- k20
              clear h hE; refine ⟨rfl, e2, e5, hs, h6, by rw [e4]; exact c0, ?_⟩
              rw [e4]
              exact Or.inl ⟨Or.inr ⟨h6.mp c10, c12⟩, cs⟩
    have hj71 : ∀ (l2 : Int32) (l4 : Int32) (l5 : Int32) (τ : rS), ((σ = τ ∧ l2 = x45_2 ∧ l4 = x45_4 ∧ l5 = x45_5 ∧ ¬ (x45_4.toNatClampNeg = 0 ∧ sg (σ.2.2.1 5) (σ.2.2.1 7) l2 41)) ∧ g5_countArguments a1 σ = g5_countArguments_71 (g5_countArguments_45 mF45) l2 l4 l5 τ) → w_countArguments_71 C Q (fun l2' l4' l5' τ => ∃ k < n45, (fun n l2 l4 l5 τ => n = (P - l2).toNatClampNeg ∧ ((σ = τ ∧ cI5 (σ.2.2.1 5) (σ.2.2.1 7) P l2 l4 l5 tot) ∧ ∃ m5, n < m5 ∧ g5_countArguments a1 σ = g5_countArguments_45 m5 l2 l4 l5 τ)) k l2' l4' l5' τ) l2 l4 l5 τ := by
      clear hE
      rintro y71_2 y71_4 y71_5 _ ⟨⟨rfl, j71⟩, hE⟩
      unfold w_countArguments_71
      refine ⟨ib_131074.mpr ?_, ?_⟩
      · clear h hE; rw [j71.1]; exact ⟨bb.1, bb.2.1⟩  -- b21
      refine ⟨fun c13 => ?_, fun c13 => ?_⟩
      · skip
        replace hE := rb_f5 hE c13
        refine hj86 _ _ _ _ _ ?_
        · refine and_5 ?_ (fun o9 => hE)  -- k22
          clear h hE; exact ⟨rfl, j71.1, j71.2.1, j71.2.2.1, j71.2.2.2, ⟨fun z => absurd rfl z, fun z => absurd z c13⟩⟩
      · skip
        replace hE := rb_t5 hE c13
        refine hj86 _ _ _ _ _ ?_
        · refine and_5 ?_ (fun o9 => hE)  -- k23
          clear h hE; exact ⟨rfl, j71.1, j71.2.1, j71.2.2.1, j71.2.2.2, ⟨fun _ => c13, fun _ => by decide⟩⟩
    refine ⟨fun c14 => ?_, fun c14 => ?_⟩
    · skip
      replace hE := rb_t5 hE c14
      refine hj71 _ _ _ _ ?_
      · refine and_5 ?_ (fun o9 => hE)  -- k24
        clear h hE; refine ⟨rfl, rfl, rfl, rfl, fun z => ?_⟩
        have := cn_pred c14 (Int32.lt_trans bb.2.2.2.2.1 (by decide))
        omega
    · skip
      replace hE := rb_f5 hE c14
      refine ⟨ib_131074.mpr ?_, ?_⟩
      · clear h hE; exact ⟨bb.1, bb.2.1⟩  -- b25
      refine ⟨fun c15 => ?_, fun c15 => ?_⟩
      · skip
        replace hE := rb_f5 hE c15
        refine hj71 _ _ _ _ ?_
        · refine and_5 ?_ (fun o9 => hE)  -- k26
          clear h hE; exact ⟨rfl, rfl, rfl, rfl, fun z => c15 z.2.1⟩
      · skip
        replace hE := rb_t5 hE c15
        refine ⟨ib_131074.mpr ?_, ?_⟩
        · clear h hE; exact ⟨bb.1, bb.2.1⟩  -- b27
        refine ⟨fun c16 => ?_, fun c16 => ?_⟩
        · skip
          replace hE := rb_t5 hE c16
          refine h _ ?_
          · refine and_5 ?_ (fun o9 => hE.symm)  -- q28
            clear h hE; refine ⟨bb.2.2.2.2.2.1, cI5_41 i45 ⟨c15, c16⟩ (cn_zero (Int32.not_lt.mp c14))⟩
        · skip
          replace hE := rb_f5 hE c16
          refine hj71 _ _ _ _ ?_
          · refine and_5 ?_ (fun o9 => hE)  -- k29
            clear h hE; exact ⟨rfl, rfl, rfl, rfl, fun z => c16 z.2.2⟩
  have hj30 : ∀ (l2 : Int32) (s0 : Int32) (τ : rS), ((σ = τ ∧ l2 = a1 + 2 ∧ (s0 ≠ 0 ↔ sg (σ.2.2.1 5) (σ.2.2.1 7) (a1 + 2) 41)) ∧ g5_countArguments a1 σ = g5_countArguments_30 l2 s0 τ) → w_countArguments_30 C Q  l2 s0 τ := by
    rintro y30_2 y30_s0 _ ⟨⟨rfl, j30⟩, hE⟩
    unfold w_countArguments_30
    refine ⟨fun c17 => ?_, fun c17 => ?_⟩
    · skip
      replace hE := rb_t5 hE c17
      refine hh45 _ _ _ _ ?_
      · refine and_5 ?_ (fun o9 => ⟨fu5, cnb5, hE⟩)  -- j30
        clear h hE; refine ⟨rfl, by rw [j30.1]; exact h20, by decide, by decide, ?_⟩
        rw [j30.1]
        cases tot with
        | zero => exact absurd c17 (j30.2.mpr hg.1)
        | succ q =>
          obtain ⟨m, hm⟩ := rm_B hg
          exact ⟨m, q, hm, Nat.add_comm _ _⟩
    · skip
      replace hE := rb_f5 hE c17
      refine hh45 _ _ _ _ ?_
      · refine and_5 ?_ (fun o9 => ⟨fu5, cnb5, hE⟩)  -- j31
        clear h hE; refine ⟨rfl, by rw [j30.1]; exact h20, by decide, by decide, ?_⟩
        rw [j30.1]
        have s41 := j30.2.mp c17
        cases tot with
        | zero => exact ⟨0, 0, ⟨rfl, rfl, s41, h2⟩, rfl⟩
        | succ q =>
          exfalso
          cases q with
          | zero => obtain ⟨e, z, -⟩ := hg; exact ePa_first z s41
          | succ q => obtain ⟨e, z, -⟩ := hg; exact ePa_first z s41
  have hE : g5_countArguments a1 σ = g5_countArguments a1 σ := rfl
  intro x18 hx18
  replace hE := rb_p5 hE hx18
  refine ⟨ib_131074.mpr ?_, ?_⟩
  · clear h hE; rw [hx18]; exact ⟨h20, Int32.lt_trans h2 hP⟩  -- b32
  refine ⟨fun c19 => ?_, fun c19 => ?_⟩
  · skip
    replace hE := rb_f5 hE c19
    refine hj30 _ _ _ ?_
    · refine and_5 ?_ (fun o9 => hE)  -- k33
      clear h hE; exact ⟨rfl, hx18, ⟨fun z => absurd rfl z, fun z => absurd (by rw [hx18]; exact z.1) c19⟩⟩
  · skip
    replace hE := rb_t5 hE c19
    refine ⟨ib_131074.mpr ?_, ?_⟩
    · clear h hE; rw [hx18]; exact ⟨h20, Int32.lt_trans h2 hP⟩  -- b34
    refine ⟨fun c20 => ?_, fun c20 => ?_⟩
    · skip
      replace hE := rb_f5 hE c20
      refine hj30 _ _ _ ?_
      · refine and_5 ?_ (fun o9 => hE)  -- k35
        clear h hE; exact ⟨rfl, hx18, ⟨fun z => absurd rfl z, fun z => absurd (by rw [hx18]; exact z.2) c20⟩⟩
    · skip
      replace hE := rb_t5 hE c20
      refine hj30 _ _ _ ?_
      · refine and_5 ?_ (fun o9 => hE)  -- k36
        clear h hE; exact ⟨rfl, hx18, ⟨fun _ => by rw [hx18] at c19 c20; exact ⟨c19, c20⟩, fun _ => by decide⟩⟩

theorem calledBy_g5 {C : rCx} (hC : cOK C)  {σ : rS} {a1 : Int32} {Q : Int32 → rS → Prop} (hp : 0 ≤ a1 ∧ a1 < 150) (h : ∀ (v : Int32), ((v = rd σ 32 a1) ∧ v = g5_calledBy a1 σ) → Q v σ) : cI C 0 m_calledBy [.ref (co C), .int a1] σ Q := by
  refine m_calledBy_run hC ?_
  unfold w_calledBy_0
  have hE : g5_calledBy a1 σ = g5_calledBy a1 σ := rfl
  refine ⟨ib_150.mpr ?_, ?_⟩
  · clear h hE; exact hp  -- b1
  refine h _ ?_
  · refine and_5 ?_ (fun o9 => hE.symm)  -- q2
    clear h hE; rfl

theorem lookAtCalls_g5 {C : rCx} (hC : cOK C) (B P : Int32) {σ : rS}  {Q : rS → Prop} (hp : tF σ ∧ tN σ ∧ tS σ ∧ eB (σ.2.2.1 37) (-1) 150 ∧ stA σ B P ∧ 0 ≤ B ∧ P < 131074 ∧ σ.1 11 = 0) (h : ∀ (σ' : rS), ((((∀ k, k ≠ 11 → k ≠ 12 → k ≠ 40 → σ'.1 k = σ.1 k) ∧ (∀ k,  σ'.2.1 k = σ.2.1 k) ∧ (∀ k, k ≠ 37 → k ≠ 39 → σ'.2.2.1 k = σ.2.2.1 k) ∧ (∀ k j, k ≠ 37 → k ≠ 39 → σ'.2.2.1 k j = σ.2.2.1 k j) ∧ (∀ k j,  σ'.2.2.2 k j = σ.2.2.2 k j)) ∧ -1 ≤ σ'.1 40 ∧ σ'.1 40 < 10 ∧ (eB (σ'.2.2.1 37) (-1) 150 ∧ ∀ s : Int32, 0 ≤ s → s < σ.1 19 → rd σ' 37 s < σ.1 19) ∧ (outR (σ.2.2.1 39) (σ'.2.2.1 39) B P ∧ 0 ≤ σ'.1 11) ∧ (σ'.1 11 = 0 → rC (σ.2.2.1 5) (σ.2.2.1 7) (σ.2.2.1 39) (σ'.2.2.1 39) ∧ 0 ≤ σ'.1 40 ∧ σ'.1 40 < σ.1 18 ∧ kAll σ σ' P (σ.1 19))) ∧ g5_lookAtCalls σ = σ') → Q σ') : cV C 2 m_lookAtCalls [.ref (co C)] σ Q := by
  refine m_lookAtCalls_run hC ?_
  unfold w_lookAtCalls_0
  obtain ⟨hF, hN, hS, h37, hst, hB, hP, h11⟩ := hp
  have fb : 0 ≤ σ.1 18 ∧ σ.1 18 ≤ 10 ∧ 0 ≤ σ.1 19 ∧ σ.1 19 ≤ 150 := by clear hst; grind [tyF]
  have hh204 : ∀ (l1 : Int32) (τ : rS), ((((∀ k, k ≠ 11 → k ≠ 12 → k ≠ 40 → τ.1 k = σ.1 k) ∧ (∀ k,  τ.2.1 k = σ.2.1 k) ∧ (∀ k, k ≠ 37 → k ≠ 39 → τ.2.2.1 k = σ.2.2.1 k) ∧ (∀ k j, k ≠ 37 → k ≠ 39 → τ.2.2.1 k j = σ.2.2.1 k j) ∧ (∀ k j,  τ.2.2.2 k j = σ.2.2.2 k j)) ∧ 0 ≤ l1 ∧ l1 ≤ σ.1 19 ∧ -1 ≤ τ.1 40 ∧ τ.1 40 < σ.1 18 ∧ (eB (τ.2.2.1 37) (-1) 150 ∧ ∀ s : Int32, 0 ≤ s → s < l1 → rd τ 37 s < σ.1 19) ∧ (outR (σ.2.2.1 39) (τ.2.2.1 39) B P ∧ 0 ≤ τ.1 11) ∧ rC (σ.2.2.1 5) (σ.2.2.1 7) (σ.2.2.1 39) (τ.2.2.1 39) ∧ (τ.1 11 = 0 → kAll σ τ P (σ.1 19) ∧ τ.1 40 ≠ -1)) ∧ ∃ m5, (σ.1 19 - l1).toNatClampNeg < m5 ∧ g5_lookAtCalls σ = g5_lookAtCalls_204 m5 l1 τ) → w_lookAtCalls_204 C Q  l1 τ := by
    intro z1 τi hinit
    unfold w_lookAtCalls_204
    refine ⟨fun n l1 τ => n = (σ.1 19 - l1).toNatClampNeg ∧ ((((∀ k, k ≠ 11 → k ≠ 12 → k ≠ 40 → τ.1 k = σ.1 k) ∧ (∀ k,  τ.2.1 k = σ.2.1 k) ∧ (∀ k, k ≠ 37 → k ≠ 39 → τ.2.2.1 k = σ.2.2.1 k) ∧ (∀ k j, k ≠ 37 → k ≠ 39 → τ.2.2.1 k j = σ.2.2.1 k j) ∧ (∀ k j,  τ.2.2.2 k j = σ.2.2.2 k j)) ∧ 0 ≤ l1 ∧ l1 ≤ σ.1 19 ∧ -1 ≤ τ.1 40 ∧ τ.1 40 < σ.1 18 ∧ (eB (τ.2.2.1 37) (-1) 150 ∧ ∀ s : Int32, 0 ≤ s → s < l1 → rd τ 37 s < σ.1 19) ∧ (outR (σ.2.2.1 39) (τ.2.2.1 39) B P ∧ 0 ≤ τ.1 11) ∧ rC (σ.2.2.1 5) (σ.2.2.1 7) (σ.2.2.1 39) (τ.2.2.1 39) ∧ (τ.1 11 = 0 → kAll σ τ P (σ.1 19) ∧ τ.1 40 ≠ -1)) ∧ ∃ m5, n < m5 ∧ g5_lookAtCalls σ = g5_lookAtCalls_204 m5 l1 τ), ⟨_, rfl, hinit⟩, ?_⟩
    clear hinit
    rintro n204 x204_1 σ204 ⟨hn204, i204, mF204, hmF204, hE⟩
    obtain ⟨mF204, rfl⟩ : ∃ m9, mF204 = m9 + 1 := ⟨mF204 - 1, by clear h hE; omega⟩
    obtain ⟨g1, g2, g3, g4, g5, g6, g7, g8, g9⟩ := i204
    have rr := g1.2.2.1
    have hj290 : ∀ (l1 : Int32) (s1 : Int32) (s2 : Int32) (τ : rS), ((σ204 = τ ∧ ¬ σ.1 19 ≤ x204_1 ∧ l1 = x204_1 ∧ s1 = x204_1 ∧ -1 ≤ s2 ∧ s2 < σ.1 19) ∧ g5_lookAtCalls σ = g5_lookAtCalls_290 (g5_lookAtCalls_204 mF204) l1 s1 s2 τ) → w_lookAtCalls_290 C Q (fun l1' τ => ∃ k < n204, (fun n l1 τ => n = (σ.1 19 - l1).toNatClampNeg ∧ ((((∀ k, k ≠ 11 → k ≠ 12 → k ≠ 40 → τ.1 k = σ.1 k) ∧ (∀ k,  τ.2.1 k = σ.2.1 k) ∧ (∀ k, k ≠ 37 → k ≠ 39 → τ.2.2.1 k = σ.2.2.1 k) ∧ (∀ k j, k ≠ 37 → k ≠ 39 → τ.2.2.1 k j = σ.2.2.1 k j) ∧ (∀ k j,  τ.2.2.2 k j = σ.2.2.2 k j)) ∧ 0 ≤ l1 ∧ l1 ≤ σ.1 19 ∧ -1 ≤ τ.1 40 ∧ τ.1 40 < σ.1 18 ∧ (eB (τ.2.2.1 37) (-1) 150 ∧ ∀ s : Int32, 0 ≤ s → s < l1 → rd τ 37 s < σ.1 19) ∧ (outR (σ.2.2.1 39) (τ.2.2.1 39) B P ∧ 0 ≤ τ.1 11) ∧ rC (σ.2.2.1 5) (σ.2.2.1 7) (σ.2.2.1 39) (τ.2.2.1 39) ∧ (τ.1 11 = 0 → kAll σ τ P (σ.1 19) ∧ τ.1 40 ≠ -1)) ∧ ∃ m5, n < m5 ∧ g5_lookAtCalls σ = g5_lookAtCalls_204 m5 l1 τ)) k l1' τ) l1 s1 s2 τ := by
      clear hE
      rintro y290_1 y290_s1 y290_s2 τ290 ⟨j290, hE⟩
      unfold w_lookAtCalls_290
      obtain ⟨e, hn', e1, es, l, u⟩ := j290
      have su := s_up g2 hn' fb.2.2.2
      refine ⟨ib_150.mpr ?_, ?_⟩
      · clear h hE; rw [es]; exact ⟨g2, su.2.2.2.2.2⟩  -- b1
      intro σ_1 hσ_1
      replace hE := rb_p5 hE hσ_1
      intro x2 hx2
      replace hE := rb_p5 hE hx2
      refine lp_b5 (cn_lt2 hn204 ?_ ?_) (fun d9 => ⟨rfl, ?_⟩)
      · clear h hE; rw [hx2, e1]; exact su.2.2.2.1  -- d2
      · clear h hE; rw [hx2, e1]; exact su.2.2.1  -- d3
      · refine and_5 ?_ (fun o9 => ⟨mF204, Nat.lt_of_lt_of_le d9 (Nat.le_of_lt_succ hmF204), hE⟩)  -- i4
        clear h hE d9 hmF204; have ff : ∀ k, σ_1.1 k = σ204.1 k := fun k => by rw [hσ_1, ri1, ← e]
        have r' : ∀ k, k ≠ 37 → σ_1.2.2.1 k = σ204.2.2.1 k := fun k hk => by rw [hσ_1, ri3 hk, ← e]
        have r39 := r' 39 (by decide)
        refine ⟨⟨fun k z1 z2 z3 => (ff k).trans (g1.1 k z1 z2 z3), fun k => by rw [hσ_1, ri2, ← e]; exact g1.2.1 k, fun k z1 z2 => (r' k z1).trans (g1.2.2.1 k z1 z2), fun k j z1 z2 => (congrFun (r' k z1) j).trans (g1.2.2.2.1 k j z1 z2), fun k j => by rw [hσ_1, ri5, ← e]; exact g1.2.2.2.2 k j⟩, by rw [hx2, e1]; exact su.1, by rw [hx2, e1]; exact su.2.1, by rw [ff]; exact g4, by rw [ff]; exact g5, ⟨by rw [hσ_1, ri_row, ← e]; exact eB_upd g6.1 l (Int32.lt_of_lt_of_le u fb.2.2.2), ?_⟩, ⟨by rw [r39]; exact g7.1, by rw [ff]; exact g7.2⟩, by rw [r39]; exact g8, fun f => ?_⟩
        · intro s s0 s1
          rw [hx2, e1] at s1
          rw [rd, hσ_1, ri_row, ← e, es]
          by_cases ee : s.toNatClampNeg = x204_1.toNatClampNeg
          · rw [ee, upd_eq]; exact u
          · rw [upd_ne ee]
            refine g6.2 s s0 ?_
            rcases s_lt1 g2 su.2.2.2.2.2 s1 with z | z
            · exact absurd (by rw [z]) ee
            · exact z
        rw [ff] at f
        exact ⟨by simp only [kAll]; rw [r39]; exact (g9 f).1, by rw [ff]; exact (g9 f).2⟩
    have hj260 : ∀ (l1 : Int32) (l2 : Int32) (τ : rS), ((σ204 = τ ∧ ¬ σ.1 19 ≤ x204_1 ∧ l1 = x204_1 ∧ 0 ≤ l2 ∧ l2 < σ.1 19) ∧ g5_lookAtCalls σ = g5_lookAtCalls_260 (g5_lookAtCalls_204 mF204) l1 l2 τ) → w_lookAtCalls_260 C Q (fun l1' τ => ∃ k < n204, (fun n l1 τ => n = (σ.1 19 - l1).toNatClampNeg ∧ ((((∀ k, k ≠ 11 → k ≠ 12 → k ≠ 40 → τ.1 k = σ.1 k) ∧ (∀ k,  τ.2.1 k = σ.2.1 k) ∧ (∀ k, k ≠ 37 → k ≠ 39 → τ.2.2.1 k = σ.2.2.1 k) ∧ (∀ k j, k ≠ 37 → k ≠ 39 → τ.2.2.1 k j = σ.2.2.1 k j) ∧ (∀ k j,  τ.2.2.2 k j = σ.2.2.2 k j)) ∧ 0 ≤ l1 ∧ l1 ≤ σ.1 19 ∧ -1 ≤ τ.1 40 ∧ τ.1 40 < σ.1 18 ∧ (eB (τ.2.2.1 37) (-1) 150 ∧ ∀ s : Int32, 0 ≤ s → s < l1 → rd τ 37 s < σ.1 19) ∧ (outR (σ.2.2.1 39) (τ.2.2.1 39) B P ∧ 0 ≤ τ.1 11) ∧ rC (σ.2.2.1 5) (σ.2.2.1 7) (σ.2.2.1 39) (τ.2.2.1 39) ∧ (τ.1 11 = 0 → kAll σ τ P (σ.1 19) ∧ τ.1 40 ≠ -1)) ∧ ∃ m5, n < m5 ∧ g5_lookAtCalls σ = g5_lookAtCalls_204 m5 l1 τ)) k l1' τ) l1 l2 τ := by
      clear hE
      rintro y260_1 y260_2 τ260 ⟨j260, hE⟩
      unfold w_lookAtCalls_260
      obtain ⟨e, hn', e1, l0, l1⟩ := j260
      have lt150 : y260_2 < 150 := Int32.lt_of_lt_of_le l1 fb.2.2.2
      refine ⟨ib_150.mpr ?_, ?_⟩
      · clear h hE; exact ⟨l0, lt150⟩  -- b5
      refine ⟨fun c3 => ?_, fun c3 => ?_⟩
      · skip
        replace hE := rb_t5 hE c3
        refine ⟨ib_150.mpr ?_, ?_⟩
        · clear h hE; exact ⟨l0, lt150⟩  -- b6
        refine hj290 _ _ _ _ ?_
        · refine and_5 ?_ (fun o9 => hE)  -- k7
          clear h hE; exact ⟨e, hn', e1, e1, by rw [← e, rr 36 (by decide) (by decide)]; exact (hS.2.2.2.2.1 _).1, by rw [← e, rr 36 (by decide) (by decide)]; exact Int32.lt_trans (hst y260_2 l0 l1).2.1 l1⟩
      · skip
        replace hE := rb_f5 hE c3
        refine ⟨ib_150.mpr ?_, ?_⟩
        · clear h hE; exact ⟨l0, lt150⟩  -- b8
        refine hj290 _ _ _ _ ?_
        · refine and_5 ?_ (fun o9 => hE)  -- k9
          clear h hE; exact ⟨e, hn', e1, e1, by rw [← e, rr 35 (by decide) (by decide)]; exact (hS.2.2.2.1 _).1, by rw [← e, rr 35 (by decide) (by decide)]; exact (hst y260_2 l0 l1).2.2.2.2⟩
    refine ⟨fun c4 => ?_, fun c4 => ?_⟩
    · skip
      replace hE := rb_t5 hE c4
      refine h _ ?_
      · refine and_5 ?_ (fun o9 => hE)  -- q10
        clear h hE; exact ⟨g1, g4, Int32.lt_of_lt_of_le g5 fb.2.1, ⟨g6.1, fun s s0 s1 => g6.2 s s0 (Int32.lt_of_lt_of_le s1 (by rw [← g1.1 19 (by decide) (by decide) (by decide)]; exact c4))⟩, g7, fun f => ⟨g8, m1_0 g4 (g9 f).2, g5, (g9 f).1⟩⟩
    · skip
      replace hE := rb_f5 hE c4
      have c4' : ¬ σ.1 19 ≤ x204_1 := by rw [← g1.1 19 (by decide) (by decide) (by decide)]; exact c4
      unfold w_lookAtCalls_214
      refine ⟨fun n l1 l2 τ => n = (l2).toNatClampNeg ∧ ((σ204 = τ ∧ l1 = x204_1 ∧ 0 ≤ l2 ∧ l2 < σ.1 19) ∧ ∃ m5, n < m5 ∧ g5_lookAtCalls σ = g5_lookAtCalls_214 (g5_lookAtCalls_204 mF204) m5 l1 l2 τ), ⟨_, rfl, ?_⟩, ?_⟩
      · refine and_5 ?_ (fun o9 => ⟨fu5, cnb5, hE⟩)  -- j11
        clear h hE; exact ⟨rfl, rfl, g2, Int32.not_le.mp c4'⟩
      rintro n214 x214_1 x214_2 σ214 ⟨hn214, i214, mF214, hmF214, hE⟩
      obtain ⟨mF214, rfl⟩ : ∃ m9, mF214 = m9 + 1 := ⟨mF214 - 1, by clear h hE; omega⟩
      obtain ⟨e214, i214⟩ := i214
      have r36 : σ214.2.2.1 36 = σ.2.2.1 36 := by rw [← e214]; exact rr 36 (by decide) (by decide)
      have lt150 : x214_2 < 150 := Int32.lt_of_lt_of_le i214.2.2 fb.2.2.2
      refine ⟨ib_150.mpr ?_, ?_⟩
      · clear h hE; exact ⟨i214.2.1, lt150⟩  -- b12
      refine ⟨fun c5 => ?_, fun c5 => ?_⟩
      · skip
        replace hE := rb_f5 hE c5
        refine hj260 _ _ _ ?_
        · refine and_5 ?_ (fun o9 => hE)  -- k13
          clear h hE; exact ⟨e214, c4', i214.1, i214.2.1, i214.2.2⟩
      · skip
        replace hE := rb_t5 hE c5
        refine ⟨ib_150.mpr ?_, ?_⟩
        · clear h hE; exact ⟨i214.2.1, lt150⟩  -- b14
        refine ⟨fun c6 => ?_, fun c6 => ?_⟩
        · skip
          replace hE := rb_t5 hE c6
          refine hj260 _ _ _ ?_
          · refine and_5 ?_ (fun o9 => hE)  -- k15
            clear h hE; exact ⟨e214, c4', i214.1, i214.2.1, i214.2.2⟩
        · skip
          replace hE := rb_f5 hE c6
          refine ⟨ib_150.mpr ?_, ?_⟩
          · clear h hE; exact ⟨i214.2.1, lt150⟩  -- b16
          have p36 : 0 ≤ σ214.2.2.1 36 x214_2.toNatClampNeg := m1_0 (by rw [r36]; exact (hS.2.2.2.2.1 _).1) c6
          have q36 : σ214.2.2.1 36 x214_2.toNatClampNeg < x214_2 := by rw [r36]; exact (hst x214_2 i214.2.1 i214.2.2).2.1
          refine ⟨ib_150.mpr ?_, ?_⟩
          · clear h hE; exact ⟨p36, Int32.lt_trans q36 lt150⟩  -- b17
          refine ⟨fun c7 => ?_, fun c7 => ?_⟩
          · skip
            replace hE := rb_f5 hE c7
            refine hj260 _ _ _ ?_
            · refine and_5 ?_ (fun o9 => hE)  -- k18
              clear h hE; exact ⟨e214, c4', i214.1, i214.2.1, i214.2.2⟩
          · skip
            replace hE := rb_t5 hE c7
            refine ⟨ib_150.mpr ?_, ?_⟩
            · clear h hE; exact ⟨i214.2.1, lt150⟩  -- b19
            intro x8 hx8
            replace hE := rb_p5 hE hx8
            refine lp_b5 (cn_lt2 hn214 ?_ ?_) (fun d9 => ⟨rfl, ?_⟩)
            · clear h hE; rw [hx8]; exact p36  -- d20
            · clear h hE; rw [hx8]; exact q36  -- d21
            · refine and_5 ?_ (fun o9 => ⟨mF214, Nat.lt_of_lt_of_le d9 (Nat.le_of_lt_succ hmF214), hE⟩)  -- i22
              clear h hE d9 hmF214; exact ⟨e214, i214.1, by rw [hx8]; exact p36, by rw [hx8]; exact Int32.lt_trans q36 i214.2.2⟩
  have hE : g5_lookAtCalls σ = g5_lookAtCalls σ := rfl
  unfold w_lookAtCalls_2
  refine ⟨fun n l1 τ => n = (σ.1 19 - l1).toNatClampNeg ∧ ((((∀ k, k ≠ 11 → k ≠ 12 → τ.1 k = σ.1 k) ∧ (∀ k,  τ.2.1 k = σ.2.1 k) ∧ (∀ k, k ≠ 39 → τ.2.2.1 k = σ.2.2.1 k) ∧ (∀ k j, k ≠ 39 → τ.2.2.1 k j = σ.2.2.1 k j) ∧ (∀ k j,  τ.2.2.2 k j = σ.2.2.2 k j)) ∧ 0 ≤ l1 ∧ l1 ≤ σ.1 19 ∧ (outR (σ.2.2.1 39) (τ.2.2.1 39) B P ∧ 0 ≤ τ.1 11) ∧ rC (σ.2.2.1 5) (σ.2.2.1 7) (σ.2.2.1 39) (τ.2.2.1 39) ∧ (τ.1 11 = 0 → kAll σ τ P l1)) ∧ ∃ m5, n < m5 ∧ g5_lookAtCalls σ = g5_lookAtCalls_2 m5 l1 τ), ⟨_, rfl, ?_⟩, ?_⟩
  · refine and_5 ?_ (fun o9 => ⟨fu5, cnb5, hE⟩)  -- j23
    clear h hE; exact ⟨⟨fun _ _ _ => rfl, fun _ => rfl, fun _ _ => rfl, fun _ _ _ => rfl, fun _ _ => rfl⟩, by decide, fb.2.2.1, ⟨fun _ _ _ => rfl, by rw [h11]; decide⟩, rC_refl, fun _ s s0 s1 => absurd s1 (Int32.not_lt.mpr s0)⟩
  rintro n2 x2_1 σ2 ⟨hn2, i2, mF2, hmF2, hE⟩
  obtain ⟨mF2, rfl⟩ : ∃ m9, mF2 = m9 + 1 := ⟨mF2 - 1, by clear h hE; omega⟩
  obtain ⟨g1, g2, g3, g4, g5, g6⟩ := i2
  have rr := g1.2.2.1
  have e19 : σ2.1 19 = σ.1 19 := g1.1 19 (by decide) (by decide)
  have hj74 : ∀ (l1 : Int32) (l2 : Int32) (l3 : Int32) (τ : rS), ((((∀ k, k ≠ 11 → k ≠ 12 → τ.1 k = σ.1 k) ∧ (∀ k,  τ.2.1 k = σ.2.1 k) ∧ (∀ k, k ≠ 39 → τ.2.2.1 k = σ.2.2.1 k) ∧ (∀ k j, k ≠ 39 → τ.2.2.1 k j = σ.2.2.1 k j) ∧ (∀ k j,  τ.2.2.2 k j = σ.2.2.2 k j)) ∧ l1 = x2_1 ∧ ¬ σ.1 19 ≤ x2_1 ∧ l2 = rd σ 32 x2_1 ∧ rd σ 30 x2_1 = 5 ∧ cO (σ.2.2.1 5) (σ.2.2.1 7) (σ.2.2.1 39) B P l2 ∧ (outR (σ.2.2.1 39) (τ.2.2.1 39) B P ∧ 0 ≤ τ.1 11) ∧ rC (σ.2.2.1 5) (σ.2.2.1 7) (σ.2.2.1 39) (τ.2.2.1 39) ∧ (τ.1 11 = 0 → kAll σ τ P x2_1 ∧ 0 ≤ l3 ∧ l3 < σ.1 18 ∧ gN (σ.2.2.1 5) (σ.2.2.1 7) (τ.2.2.1 39) P (rd σ 26 l3).toNatClampNeg (l2 + 2))) ∧ g5_lookAtCalls σ = g5_lookAtCalls_74 (g5_lookAtCalls_2 mF2) l1 l2 l3 τ) → w_lookAtCalls_74 C Q (fun l1' τ => ∃ k < n2, (fun n l1 τ => n = (σ.1 19 - l1).toNatClampNeg ∧ ((((∀ k, k ≠ 11 → k ≠ 12 → τ.1 k = σ.1 k) ∧ (∀ k,  τ.2.1 k = σ.2.1 k) ∧ (∀ k, k ≠ 39 → τ.2.2.1 k = σ.2.2.1 k) ∧ (∀ k j, k ≠ 39 → τ.2.2.1 k j = σ.2.2.1 k j) ∧ (∀ k j,  τ.2.2.2 k j = σ.2.2.2 k j)) ∧ 0 ≤ l1 ∧ l1 ≤ σ.1 19 ∧ (outR (σ.2.2.1 39) (τ.2.2.1 39) B P ∧ 0 ≤ τ.1 11) ∧ rC (σ.2.2.1 5) (σ.2.2.1 7) (σ.2.2.1 39) (τ.2.2.1 39) ∧ (τ.1 11 = 0 → kAll σ τ P l1)) ∧ ∃ m5, n < m5 ∧ g5_lookAtCalls σ = g5_lookAtCalls_2 m5 l1 τ)) k l1' τ) l1 l2 l3 τ := by
    clear hE
    rintro y74_1 y74_2 y74_3 τ74 ⟨j74, hE⟩
    unfold w_lookAtCalls_74
    obtain ⟨m1, m2, m3, m4, m5, m6, m7, m8, m9⟩ := j74
    have su := s_up g2 m3 fb.2.2.2
    obtain ⟨o1, o2, o3, o4, -⟩ := m6
    have x0 : 0 ≤ y74_2 := Int32.le_trans hB o1
    have x2' := (lt2 x0 o2 hP).1
    refine ⟨ib_131074.mpr ?_, ?_⟩
    · clear h hE; exact ⟨x0, Int32.lt_trans o2 hP⟩  -- b24
    intro σ_9 hσ_9
    replace hE := rb_p5 hE hσ_9
    intro x10 hx10
    replace hE := rb_p5 hE hx10
    refine lp_b5 (cn_lt2 hn2 ?_ ?_) (fun d9 => ⟨rfl, ?_⟩)
    · clear h hE; rw [hx10, m2]; exact su.2.2.2.1  -- d25
    · clear h hE; rw [hx10, m2]; exact su.2.2.1  -- d26
    · refine and_5 ?_ (fun o9 => ⟨mF2, Nat.lt_of_lt_of_le d9 (Nat.le_of_lt_succ hmF2), hE⟩)  -- i27
      clear h hE d9 hmF2; have ff : ∀ k, σ_9.1 k = τ74.1 k := fun k => by rw [hσ_9, ri1]
      have r' : ∀ k, k ≠ 39 → σ_9.2.2.1 k = τ74.2.2.1 k := fun k hk => by rw [hσ_9, ri3 hk]
      have r39 : σ_9.2.2.1 39 = upd (τ74.2.2.1 39) y74_2.toNatClampNeg (300 + y74_3) := by rw [hσ_9, ri_row]
      refine ⟨⟨fun k z1 z2 => (ff k).trans (m1.1 k z1 z2), fun k => by rw [hσ_9, ri2]; exact m1.2.1 k, fun k z1 => (r' k z1).trans (m1.2.2.1 k z1), fun k j z1 => (congrFun (r' k z1) j).trans (m1.2.2.2.1 k j z1), fun k j => by rw [hσ_9, ri5]; exact m1.2.2.2.2 k j⟩, by rw [hx10, m2]; exact su.1, by rw [hx10, m2]; exact su.2.1, ⟨fun t t0 ht => ?_, by rw [ff]; exact m7.2⟩, ?_, fun f => ?_⟩
      · rw [r39, upd_ne ?_]
        · exact m7.1 t t0 ht
        · rcases ht with z | z
          · exact cn_ne t0 (Int32.lt_of_lt_of_le z o1)
          · exact (cn_ne x0 (Int32.lt_of_lt_of_le o2 z)).symm
      · rw [r39]; exact rC_tr m8 (rC_upd x0 o4)
      · rw [ff] at f
        obtain ⟨n1, n2, n3, n4⟩ := m9 f
        rw [hx10, m2]
        intro s s0 s1 s5
        rw [r39]
        rcases s_lt1 g2 su.2.2.2.2.2 s1 with e | e
        · rw [e, ← m4]
          exact kO_new x0 o4 hP x2' n2 n3 fb.2.1 n4
        · obtain ⟨y1, y2, -⟩ := stK_call (hst s s0 (Int32.lt_trans e su.2.2.2.2.1)).1 s5
          have y0 := Int32.le_trans hB y1
          exact kO_old x0 o4 hP x2' n2 n3 fb.2.1 n4 y0 (lt2 y0 y2 hP).1 (n1 s s0 e s5)
  have hj58 : ∀ (l1 : Int32) (l2 : Int32) (l3 : Int32) (τ : rS), ((((∀ k, k ≠ 11 → k ≠ 12 → τ.1 k = σ.1 k) ∧ (∀ k,  τ.2.1 k = σ.2.1 k) ∧ (∀ k, k ≠ 39 → τ.2.2.1 k = σ.2.2.1 k) ∧ (∀ k j, k ≠ 39 → τ.2.2.1 k j = σ.2.2.1 k j) ∧ (∀ k j,  τ.2.2.2 k j = σ.2.2.2 k j)) ∧ l1 = x2_1 ∧ ¬ σ.1 19 ≤ x2_1 ∧ l2 = rd σ 32 x2_1 ∧ rd σ 30 x2_1 = 5 ∧ cO (σ.2.2.1 5) (σ.2.2.1 7) (σ.2.2.1 39) B P l2 ∧ (outR (σ.2.2.1 39) (τ.2.2.1 39) B P ∧ 0 ≤ τ.1 11) ∧ rC (σ.2.2.1 5) (σ.2.2.1 7) (σ.2.2.1 39) (τ.2.2.1 39)) ∧ g5_lookAtCalls σ = g5_lookAtCalls_58 (g5_lookAtCalls_2 mF2) l1 l2 l3 τ) → w_lookAtCalls_58 C Q (fun l1' τ => ∃ k < n2, (fun n l1 τ => n = (σ.1 19 - l1).toNatClampNeg ∧ ((((∀ k, k ≠ 11 → k ≠ 12 → τ.1 k = σ.1 k) ∧ (∀ k,  τ.2.1 k = σ.2.1 k) ∧ (∀ k, k ≠ 39 → τ.2.2.1 k = σ.2.2.1 k) ∧ (∀ k j, k ≠ 39 → τ.2.2.1 k j = σ.2.2.1 k j) ∧ (∀ k j,  τ.2.2.2 k j = σ.2.2.2 k j)) ∧ 0 ≤ l1 ∧ l1 ≤ σ.1 19 ∧ (outR (σ.2.2.1 39) (τ.2.2.1 39) B P ∧ 0 ≤ τ.1 11) ∧ rC (σ.2.2.1 5) (σ.2.2.1 7) (σ.2.2.1 39) (τ.2.2.1 39) ∧ (τ.1 11 = 0 → kAll σ τ P l1)) ∧ ∃ m5, n < m5 ∧ g5_lookAtCalls σ = g5_lookAtCalls_2 m5 l1 τ)) k l1' τ) l1 l2 l3 τ := by
    clear hE
    rintro y58_1 y58_2 y58_3 τ58 ⟨j58, hE⟩
    unfold w_lookAtCalls_58
    intro σ_11 hσ_11
    replace hE := rb_p5 hE hσ_11
    obtain ⟨m1, m2, m3, m4, m5, m6, m7, m8⟩ := j58
    refine ⟨ib_131074.mpr ?_, ?_⟩
    · clear h hE; exact ⟨Int32.le_trans hB m6.1, Int32.lt_trans m6.2.1 hP⟩  -- b28
    intro σ_12 hσ_12
    replace hE := rb_p5 hE hσ_12
    refine hj74 _ _ _ _ ?_
    · refine and_5 ?_ (fun o9 => hE)  -- k29
      clear h hE; have e11 : σ_12.1 11 = 16 := by rw [hσ_12, si1, if_neg (by decide), hσ_11, si1, if_pos rfl]
      have s12 : σ_12.2 = τ58.2 := by rw [hσ_12, si2, hσ_11, si2]
      refine ⟨⟨fun k z1 z2 => by rw [hσ_12, si1, if_neg z2, hσ_11, si1, if_neg z1]; exact m1.1 k z1 z2, fun k => by rw [s12]; exact m1.2.1 k, fun k z => by rw [s12]; exact m1.2.2.1 k z, fun k j z => by rw [s12]; exact m1.2.2.2.1 k j z, fun k j => by rw [s12]; exact m1.2.2.2.2 k j⟩, m2, m3, m4, m5, m6, ⟨by rw [s12]; exact m7.1, by rw [e11]; decide⟩, by rw [s12]; exact m8, fun f => ?_⟩
      rw [e11] at f; exact absurd f (by decide)
  refine ⟨fun c13 => ?_, fun c13 => ?_⟩
  · skip
    replace hE := rb_t5 hE c13
    intro σ_14 hσ_14
    replace hE := rb_p5 hE hσ_14
    unfold w_lookAtCalls_98
    refine ⟨fun n l1 τ => n = (σ.1 18 - l1).toNatClampNeg ∧ ((((∀ k, k ≠ 11 → k ≠ 12 → k ≠ 40 → τ.1 k = σ.1 k) ∧ (∀ k,  τ.2.1 k = σ.2.1 k) ∧ (∀ k, k ≠ 39 → τ.2.2.1 k = σ.2.2.1 k) ∧ (∀ k j, k ≠ 39 → τ.2.2.1 k j = σ.2.2.1 k j) ∧ (∀ k j,  τ.2.2.2 k j = σ.2.2.2 k j)) ∧ 0 ≤ l1 ∧ l1 ≤ σ.1 18 ∧ -1 ≤ τ.1 40 ∧ τ.1 40 < σ.1 18 ∧ (outR (σ.2.2.1 39) (τ.2.2.1 39) B P ∧ 0 ≤ τ.1 11) ∧ rC (σ.2.2.1 5) (σ.2.2.1 7) (σ.2.2.1 39) (τ.2.2.1 39) ∧ (τ.1 11 = 0 → kAll σ τ P (σ.1 19))) ∧ ∃ m5, n < m5 ∧ g5_lookAtCalls σ = g5_lookAtCalls_98 m5 l1 τ), ⟨_, rfl, ?_⟩, ?_⟩
    · refine and_5 ?_ (fun o9 => ⟨fu5, cnb5, hE⟩)  -- j30
      clear h hE; have s14 : σ_14.2 = σ2.2 := by rw [hσ_14, si2]
      have ee : ∀ k, k ≠ 40 → σ_14.1 k = σ2.1 k := fun k hk => by rw [hσ_14, si1, if_neg hk]
      have e40 : σ_14.1 40 = -1 := by rw [hσ_14, si1, if_pos rfl]
      refine ⟨⟨fun k z1 z2 z3 => (ee k z3).trans (g1.1 k z1 z2), fun k => by rw [s14]; exact g1.2.1 k, fun k z => by rw [s14]; exact g1.2.2.1 k z, fun k j z => by rw [s14]; exact g1.2.2.2.1 k j z, fun k j => by rw [s14]; exact g1.2.2.2.2 k j⟩, by decide, fb.1, by rw [e40]; decide, by rw [e40]; exact Int32.lt_of_lt_of_le (by decide) fb.1, ⟨by rw [s14]; exact g4.1, by rw [ee 11 (by decide)]; exact g4.2⟩, by rw [s14]; exact g5, fun f s s0 s1 s5 => ?_⟩
      rw [ee 11 (by decide)] at f
      rw [s14]
      exact g6 f s s0 (Int32.lt_of_lt_of_le s1 (by rw [← e19]; exact c13)) s5
    rintro n98 x98_1 σ98 ⟨hn98, i98, mF98, hmF98, hE⟩
    obtain ⟨mF98, rfl⟩ : ∃ m9, mF98 = m9 + 1 := ⟨mF98 - 1, by clear h hE; omega⟩
    obtain ⟨k1, k2, k3, k4, k5, k6, k7, k8⟩ := i98
    have e18 : σ98.1 18 = σ.1 18 := k1.1 18 (by decide) (by decide) (by decide)
    have hj164 : ∀ (l1 : Int32) (s1 : Int32) (τ : rS), ((τ = σ98 ∧ l1 = x98_1 ∧ ¬ σ.1 18 ≤ x98_1 ∧ -1 ≤ s1 ∧ s1 < σ.1 18) ∧ g5_lookAtCalls σ = g5_lookAtCalls_164 (g5_lookAtCalls_98 mF98) l1 s1 τ) → w_lookAtCalls_164 C Q (fun l1' τ => ∃ k < n98, (fun n l1 τ => n = (σ.1 18 - l1).toNatClampNeg ∧ ((((∀ k, k ≠ 11 → k ≠ 12 → k ≠ 40 → τ.1 k = σ.1 k) ∧ (∀ k,  τ.2.1 k = σ.2.1 k) ∧ (∀ k, k ≠ 39 → τ.2.2.1 k = σ.2.2.1 k) ∧ (∀ k j, k ≠ 39 → τ.2.2.1 k j = σ.2.2.1 k j) ∧ (∀ k j,  τ.2.2.2 k j = σ.2.2.2 k j)) ∧ 0 ≤ l1 ∧ l1 ≤ σ.1 18 ∧ -1 ≤ τ.1 40 ∧ τ.1 40 < σ.1 18 ∧ (outR (σ.2.2.1 39) (τ.2.2.1 39) B P ∧ 0 ≤ τ.1 11) ∧ rC (σ.2.2.1 5) (σ.2.2.1 7) (σ.2.2.1 39) (τ.2.2.1 39) ∧ (τ.1 11 = 0 → kAll σ τ P (σ.1 19))) ∧ ∃ m5, n < m5 ∧ g5_lookAtCalls σ = g5_lookAtCalls_98 m5 l1 τ)) k l1' τ) l1 s1 τ := by
      clear hE
      rintro y164_1 y164_s1 τ164 ⟨j164, hE⟩
      unfold w_lookAtCalls_164
      intro σ_15 hσ_15
      replace hE := rb_p5 hE hσ_15
      intro x16 hx16
      replace hE := rb_p5 hE hx16
      obtain ⟨e, m2, m3, m4, m5⟩ := j164
      have su := f_up2 k2 m3 fb.2.1
      refine lp_b5 (cn_lt2 hn98 ?_ ?_) (fun d9 => ⟨rfl, ?_⟩)
      · clear h hE; rw [hx16, m2]; exact su.2.2.2.1  -- d31
      · clear h hE; rw [hx16, m2]; exact su.2.2.1  -- d32
      · refine and_5 ?_ (fun o9 => ⟨mF98, Nat.lt_of_lt_of_le d9 (Nat.le_of_lt_succ hmF98), hE⟩)  -- i33
        clear h hE d9 hmF98; have s15 : σ_15.2 = σ98.2 := by rw [hσ_15, si2, e]
        have ee : ∀ k, k ≠ 40 → σ_15.1 k = σ98.1 k := fun k hk => by rw [hσ_15, si1, if_neg hk, e]
        have e40 : σ_15.1 40 = y164_s1 := by rw [hσ_15, si1, if_pos rfl]
        refine ⟨⟨fun k z1 z2 z3 => (ee k z3).trans (k1.1 k z1 z2 z3), fun k => by rw [s15]; exact k1.2.1 k, fun k z => by rw [s15]; exact k1.2.2.1 k z, fun k j z => by rw [s15]; exact k1.2.2.2.1 k j z, fun k j => by rw [s15]; exact k1.2.2.2.2 k j⟩, by rw [hx16, m2]; exact su.1, by rw [hx16, m2]; exact su.2.1, by rw [e40]; exact m4, by rw [e40]; exact m5, ⟨by rw [s15]; exact k6.1, by rw [ee 11 (by decide)]; exact k6.2⟩, by rw [s15]; exact k7, fun f => ?_⟩
        rw [ee 11 (by decide)] at f
        simp only [kAll]; rw [s15]; exact k8 f
    have fr : ((∀ k, k ≠ 11 → k ≠ 12 → k ≠ 40 → σ98.1 k = σ.1 k) ∧ (∀ k,  σ98.2.1 k = σ.2.1 k) ∧ (∀ k, k ≠ 37 → k ≠ 39 → σ98.2.2.1 k = σ.2.2.1 k) ∧ (∀ k j, k ≠ 37 → k ≠ 39 → σ98.2.2.1 k j = σ.2.2.1 k j) ∧ (∀ k j,  σ98.2.2.2 k j = σ.2.2.2 k j)) := ⟨k1.1, k1.2.1, fun k _ z => k1.2.2.1 k z, fun k j _ z => k1.2.2.2.1 k j z, k1.2.2.2.2⟩
    have e37 : eB (σ98.2.2.1 37) (-1) 150 ∧ ∀ s : Int32, 0 ≤ s → s < 0 → rd σ98 37 s < σ.1 19 := ⟨by rw [k1.2.2.1 37 (by decide)]; exact h37, fun s s0 s1 => absurd s1 (Int32.not_lt.mpr s0)⟩
    refine ⟨fun c17 => ?_, fun c17 => ?_⟩
    · skip
      replace hE := rb_t5 hE c17
      refine isRight_g5 hC  (fun r18 q20 => ?_)
      obtain ⟨q20, z9⟩ := q20
      replace hE := rb_p5 hE z9
      clear z9
      refine ⟨fun c21 => ?_, fun c21 => ?_⟩
      · skip
        replace hE := rb_t5 hE c21
        refine hh204 _ _ ?_
        · refine and_5 ?_ (fun o9 => ⟨fu5, cnb5, hE⟩)  -- j34
          clear h hE; exact ⟨fr, by decide, fb.2.2.1, k4, k5, e37, k6, k7, fun f => absurd c21 (q20.2.mpr f)⟩
      · skip
        replace hE := rb_f5 hE c21
        refine ⟨fun c22 => ?_, fun c22 => ?_⟩
        · skip
          replace hE := rb_f5 hE c22
          refine hh204 _ _ ?_
          · refine and_5 ?_ (fun o9 => ⟨fu5, cnb5, hE⟩)  -- j35
            clear h hE; exact ⟨fr, by decide, fb.2.2.1, k4, k5, e37, k6, k7, fun f => ⟨k8 f, c22⟩⟩
        · skip
          replace hE := rb_t5 hE c22
          intro σ_23 hσ_23
          replace hE := rb_p5 hE hσ_23
          intro σ_24 hσ_24
          replace hE := rb_p5 hE hσ_24
          refine hh204 _ _ ?_
          · refine and_5 ?_ (fun o9 => ⟨fu5, cnb5, hE⟩)  -- j36
            clear h hE; have s24 : σ_24.2 = σ98.2 := by rw [hσ_24, si2, hσ_23, si2]
            have ee : ∀ k, k ≠ 11 → k ≠ 12 → σ_24.1 k = σ98.1 k := fun k z1 z2 => by rw [hσ_24, si1, if_neg z2, hσ_23, si1, if_neg z1]
            have e11 : σ_24.1 11 = 17 := by rw [hσ_24, si1, if_neg (by decide), hσ_23, si1, if_pos rfl]
            refine ⟨⟨fun k z1 z2 z3 => (ee k z1 z2).trans (k1.1 k z1 z2 z3), fun k => by rw [s24]; exact k1.2.1 k, fun k _ z => by rw [s24]; exact k1.2.2.1 k z, fun k j _ z => by rw [s24]; exact k1.2.2.2.1 k j z, fun k j => by rw [s24]; exact k1.2.2.2.2 k j⟩, by decide, fb.2.2.1, by rw [ee 40 (by decide) (by decide)]; exact k4, by rw [ee 40 (by decide) (by decide)]; exact k5, ⟨by rw [s24]; exact e37.1, fun s s0 s1 => absurd s1 (Int32.not_lt.mpr s0)⟩, ⟨by rw [s24]; exact k6.1, by rw [e11]; decide⟩, by rw [s24]; exact k7, fun f => ?_⟩
            rw [e11] at f; exact absurd f (by decide)
    · skip
      replace hE := rb_f5 hE c17
      have c17' : ¬ σ.1 18 ≤ x98_1 := by rw [← e18]; exact c17
      have su := f_up2 k2 c17' fb.2.1
      refine ⟨ib_10.mpr ?_, ?_⟩
      · clear h hE; exact ⟨k2, su.2.2.2.2.2⟩  -- b37
      intro x25 hx25
      replace hE := rb_p5 hE hx25
      have t25 : 0 ≤ x25 ∧ x25 < 131074 := by rw [hx25, k1.2.2.1 25 (by decide)]; exact hN.2.2.1 _
      refine ⟨ib_131074.mpr ?_, ?_⟩
      · clear h hE; exact t25  -- b38
      refine word_g5 hC  (fun r26 q28 => ?_)
      obtain ⟨q28, z9⟩ := q28
      replace hE := rb_p5 hE z9
      clear z9
      refine ⟨fun c29 => ?_, fun c29 => ?_⟩
      · skip
        replace hE := rb_f5 hE c29
        refine hj164 _ _ _ ?_
        · refine and_5 ?_ (fun o9 => hE)  -- k39
          clear h hE; exact ⟨rfl, rfl, c17', k4, k5⟩
      · skip
        replace hE := rb_t5 hE c29
        refine ⟨ib_131074.mpr ?_, ?_⟩
        · clear h hE; exact t25  -- b40
        refine ⟨fun c30 => ?_, fun c30 => ?_⟩
        · skip
          replace hE := rb_f5 hE c30
          refine hj164 _ _ _ ?_
          · refine and_5 ?_ (fun o9 => hE)  -- k41
            clear h hE; exact ⟨rfl, rfl, c17', k4, k5⟩
        · skip
          replace hE := rb_t5 hE c30
          refine ⟨ib_10.mpr ?_, ?_⟩
          · clear h hE; exact ⟨k2, su.2.2.2.2.2⟩  -- b42
          refine ⟨fun c31 => ?_, fun c31 => ?_⟩
          · skip
            replace hE := rb_f5 hE c31
            refine hj164 _ _ _ ?_
            · refine and_5 ?_ (fun o9 => hE)  -- k43
              clear h hE; exact ⟨rfl, rfl, c17', k4, k5⟩
          · skip
            replace hE := rb_t5 hE c31
            refine hj164 _ _ _ ?_
            · refine and_5 ?_ (fun o9 => hE)  -- k44
              clear h hE; exact ⟨rfl, rfl, c17', m1_f k2, su.2.2.2.2.1⟩
  · skip
    replace hE := rb_f5 hE c13
    have c13' : ¬ σ.1 19 ≤ x2_1 := by rw [← e19]; exact c13
    have su := s_up g2 c13' fb.2.2.2
    refine ⟨ib_150.mpr ?_, ?_⟩
    · clear h hE; exact ⟨g2, su.2.2.2.2.2⟩  -- b45
    refine ⟨fun c32 => ?_, fun c32 => ?_⟩
    · skip
      replace hE := rb_f5 hE c32
      intro x33 hx33
      replace hE := rb_p5 hE hx33
      refine lp_b5 (cn_lt2 hn2 ?_ ?_) (fun d9 => ⟨rfl, ?_⟩)
      · clear h hE; rw [hx33]; exact su.2.2.2.1  -- d46
      · clear h hE; rw [hx33]; exact su.2.2.1  -- d47
      · refine and_5 ?_ (fun o9 => ⟨mF2, Nat.lt_of_lt_of_le d9 (Nat.le_of_lt_succ hmF2), hE⟩)  -- i48
        clear h hE d9 hmF2; refine ⟨g1, by rw [hx33]; exact su.1, by rw [hx33]; exact su.2.1, g4, g5, fun f s s0 s1 s5 => ?_⟩
        rw [hx33] at s1
        rcases s_lt1 g2 su.2.2.2.2.2 s1 with e | e
        · rw [e, rd, ← rr 30 (by decide)] at s5
          exact absurd s5 c32
        · exact g6 f s s0 e s5
    · skip
      replace hE := rb_t5 hE c32
      refine isRight_g5 hC  (fun r34 q36 => ?_)
      obtain ⟨q36, z9⟩ := q36
      replace hE := rb_p5 hE z9
      clear z9
      refine ⟨fun c37 => ?_, fun c37 => ?_⟩
      · skip
        replace hE := rb_t5 hE c37
        intro x38 hx38
        replace hE := rb_p5 hE hx38
        refine lp_b5 (cn_lt2 hn2 ?_ ?_) (fun d9 => ⟨rfl, ?_⟩)
        · clear h hE; rw [hx38]; exact su.2.2.2.1  -- d49
        · clear h hE; rw [hx38]; exact su.2.2.1  -- d50
        · refine and_5 ?_ (fun o9 => ⟨mF2, Nat.lt_of_lt_of_le d9 (Nat.le_of_lt_succ hmF2), hE⟩)  -- i51
          clear h hE d9 hmF2; exact ⟨g1, by rw [hx38]; exact su.1, by rw [hx38]; exact su.2.1, g4, g5, fun f => absurd c37 (q36.2.mpr f)⟩
      · skip
        replace hE := rb_f5 hE c37
        refine calledBy_g5 hC  ?_ (fun r39 q41 => ?_)
        · clear h hE; exact ⟨g2, su.2.2.2.2.2⟩  -- p52
        obtain ⟨q41, z9⟩ := q41
        replace hE := rb_p5 hE z9
        clear z9
        have f2 := q36.2.mp c37
        have k5' : rd σ 30 x2_1 = 5 := by rw [rd, ← rr 30 (by decide)]; exact c32
        have er : r39 = rd σ 32 x2_1 := by rw [q41, rd, rr 32 (by decide)]
        have hc : cO (σ.2.2.1 5) (σ.2.2.1 7) (σ.2.2.1 39) B P r39 := by rw [er]; exact stK_call (hst x2_1 g2 su.2.2.2.2.1).1 k5'
        have x0 := Int32.le_trans hB hc.1
        refine functionOf_g5 hC  ?_ (fun r42 q44 => ?_)
        · clear h hE; refine ⟨?_, ?_, x0, Int32.lt_trans hc.2.1 hP⟩
          · show tyF _ _ _ _ _ _ _ _
            rw [g1.1 15 (by decide) (by decide), g1.1 16 (by decide) (by decide), g1.1 17 (by decide) (by decide), g1.1 18 (by decide) (by decide), g1.1 19 (by decide) (by decide), g1.1 40 (by decide) (by decide), g1.1 41 (by decide) (by decide), g1.1 42 (by decide) (by decide)]
            exact hF
          · show tyN _ _ _ _ _ _
            rw [rr 20 (by decide), rr 22 (by decide), rr 25 (by decide), rr 28 (by decide), rr 26 (by decide), rr 27 (by decide)]
            exact hN
        obtain ⟨q44, z9⟩ := q44
        replace hE := rb_p5 hE z9
        clear z9
        refine ⟨fun c45 => ?_, fun c45 => ?_⟩
        · skip
          replace hE := rb_t5 hE c45
          refine hj58 _ _ _ _ ?_
          · refine and_5 ?_ (fun o9 => hE)  -- k54
            clear h hE; exact ⟨g1, rfl, c13', er, k5', hc, g4, g5⟩
        · skip
          replace hE := rb_f5 hE c45
          have fr : 0 ≤ r42 ∧ r42 < σ.1 18 := by
            rw [g1.1 18 (by decide) (by decide)] at q44
            rcases q44 with z | z
            · exact absurd z c45
            · exact z
          refine ⟨ib_10.mpr ?_, ?_⟩
          · clear h hE; exact ⟨fr.1, Int32.lt_of_lt_of_le fr.2 fb.2.1⟩  -- b55
          obtain ⟨nn, hg⟩ := hc.2.2.2.2
          have xp := (lt2 x0 hc.2.1 hP).1
          have hb := gN_b hP xp hg
          have hg2 := gN_C hP xp hg g5
          refine countArguments_g5 hC P nn (σ2.2.2.1 39) ?_ (fun r46 q48 => ?_)
          · clear h hE; exact ⟨x0, hc.2.1, hP, by rw [rr 5 (by decide), rr 7 (by decide)]; exact hg2, hb.2, hb.1⟩  -- p56
          obtain ⟨q48, z9⟩ := q48
          replace hE := rb_p5 hE z9
          clear z9
          refine ⟨fun c49 => ?_, fun c49 => ?_⟩
          · skip
            replace hE := rb_t5 hE c49
            refine hj74 _ _ _ _ ?_
            · refine and_5 ?_ (fun o9 => hE)  -- k57
              clear h hE; refine ⟨g1, rfl, c13', er, k5', hc, g4, g5, fun f => ⟨g6 f, fr.1, fr.2, ?_⟩⟩
              have e26 : rd σ 26 r42 = r46 := by rw [rd, ← rr 26 (by decide)]; exact c49
              rw [e26, q48.2]; exact hg2
          · skip
            replace hE := rb_f5 hE c49
            refine hj58 _ _ _ _ ?_
            · refine and_5 ?_ (fun o9 => hE)  -- k58
              clear h hE; exact ⟨g1, rfl, c13', er, k5', hc, g4, g5⟩

theorem tellProgram_g5 {C : rCx} (hC : cOK C)  {σ : rS}  {Q : rS → Prop} (hp : (σ.1 3 = 0 ∨ σ.1 3 = 65537) ∧ 0 ≤ σ.1 2 ∧ σ.1 2 ≤ 65536 ∧ tyAll σ) (h : ∀ (σ' : rS), ((frH qFF qRR σ σ' ∧ tyAll σ' ∧ (σ'.1 3 = 0 ∨ σ'.1 3 = 65537) ∧ σ'.1 3 ≠ σ.1 3 ∧ (∀ k, (k = 5 ∨ k = 6 ∨ k = 7 ∨ k = 9 ∨ k = 39) → ∀ t : Int32, 0 ≤ t → (t < σ'.1 3 ∨ σ'.1 3 + 65536 < t) → rd σ' k t = rd σ k t) ∧ (σ'.1 11 = 0 → ∃ T, progOK σ' (σ'.1 3) T) ∧ 0 ≤ σ'.1 11) ∧ g5_tellProgram σ = σ') → Q σ') : cV C 12 m_tellProgram [.ref (co C)] σ Q := by
  refine m_tellProgram_run hC ?_
  unfold w_tellProgram_0
  obtain ⟨hb, hs0, hs1, hF, hN, hA, hS, h37⟩ := hp
  have hj161 : ∀  (τ : rS), ((∃ SS BB TT, LK σ SS BB TT ∧ dI SS τ BB TT) ∧ g5_tellProgram σ = g5_tellProgram_161 τ) → w_tellProgram_161 C Q   τ := by
    rintro  τ161 ⟨j161, hE⟩
    unfold w_tellProgram_161
    obtain ⟨SS, BB, TT, lk, di⟩ := j161
    have dA := dI_all lk di h37
    refine isRight_g5 hC  (fun r1 q3 => ?_)
    obtain ⟨q3, z9⟩ := q3
    replace hE := rb_p5 hE z9
    clear z9
    refine ⟨fun c4 => ?_, fun c4 => ?_⟩
    · skip
      replace hE := rb_t5 hE c4
      refine h _ ?_
      · refine and_5 ?_ (fun o9 => hE)  -- q1
        clear h hE; refine ⟨dA.1, dA.2.1, dA.2.2.1, dA.2.2.2.1, by rw [dA.2.2.2.2.1]; exact dA.2.2.2.2.2, fun f => absurd c4 (q3.2.mpr f), di.2.1.1.2.2.2.1.2.1⟩
    · skip
      replace hE := rb_f5 hE c4
      have f := q3.2.mp c4
      have tk := di.2.1.1
      have TT2 : TT < 131074 := tk.2.2.1
      have st : stA τ161 BB TT := stA_up tk.1 (Int32.lt_of_le_of_lt tk.2.2.2.2.2 TT2) (di.2.2.2.2.2 f).2.1 rfl rfl rfl ⟨rfl, rfl, rfl, rfl, rfl, rfl, rfl⟩ rLo_refl tk.2.2.2.2.2
      refine lookAtCalls_g5 hC BB TT ?_ (fun σ_5 q6 => ?_)
      · clear h hE; exact ⟨dA.2.1.1, dA.2.1.2.1, dA.2.1.2.2.2.1, dA.2.1.2.2.2.2, st, tk.1, TT2, f⟩  -- p2
      obtain ⟨q6, z9⟩ := q6
      replace hE := rb_p5 hE z9.symm
      clear z9
      refine h _ ?_
      · refine and_5 ?_ (fun o9 => hE)  -- q3
        clear h hE; obtain ⟨r1, r2, r3, r4, r5, r6⟩ := q6
        have rr := r1.2.2.1
        have ff := r1.1
        have fH : frH qFF qRR τ161 σ_5 := ⟨fun k z => ff k (fun e => z (by rw [e]; decide)) (fun e => z (by rw [e]; decide)) (fun e => z (by rw [e]; decide)), r1.2.1, fun k z => rr k (fun e => z (by rw [e]; decide)) (fun e => z (by rw [e]; decide)), fun k j _ => r1.2.2.2.2 k j⟩
        have e3 : σ_5.1 3 = BB := (ff 3 (by decide) (by decide) (by decide)).trans dA.2.2.2.2.1
        refine ⟨frH_tr dA.1 fH, ⟨?_, ?_, ?_, ?_, r4.1⟩, by rw [e3, ← dA.2.2.2.2.1]; exact dA.2.2.1, by rw [e3, ← dA.2.2.2.2.1]; exact dA.2.2.2.1, ?_, fun f5 => ⟨TT, ?_⟩, r5.2⟩
        · show tyF _ _ _ _ _ _ _ _
          rw [ff 15 (by decide) (by decide) (by decide), ff 16 (by decide) (by decide) (by decide), ff 17 (by decide) (by decide) (by decide), ff 18 (by decide) (by decide) (by decide), ff 19 (by decide) (by decide) (by decide), ff 41 (by decide) (by decide) (by decide), ff 42 (by decide) (by decide) (by decide)]
          have t := dA.2.1.1
          clear dA di lk st r1 r4 r5 r6 rr ff fH hF hN hA hS h37 q3 tk
          grind [tyF]
        · show tyN _ _ _ _ _ _
          rw [rr 20 (by decide) (by decide), rr 22 (by decide) (by decide), rr 25 (by decide) (by decide), rr 28 (by decide) (by decide), rr 26 (by decide) (by decide), rr 27 (by decide) (by decide)]
          exact dA.2.1.2.1
        · show tyA _ _
          rw [rr 23 (by decide) (by decide), rr 24 (by decide) (by decide)]
          exact dA.2.1.2.2.1
        · show tyS _ _ _ _ _ _ _ _
          rw [rr 29 (by decide) (by decide), rr 33 (by decide) (by decide), rr 34 (by decide) (by decide), rr 35 (by decide) (by decide), rr 36 (by decide) (by decide), rr 38 (by decide) (by decide), rr 43 (by decide) (by decide), rr 44 (by decide) (by decide)]
          exact dA.2.1.2.2.2.1
        · intro k hk t ht hh
          rw [e3] at hh
          have base := dA.2.2.2.2.2 k hk t ht hh
          rcases hk with rfl | rfl | rfl | rfl | rfl
          · rw [rd, rr 5 (by decide) (by decide)]; exact base
          · rw [rd, rr 6 (by decide) (by decide)]; exact base
          · rw [rd, rr 7 (by decide) (by decide)]; exact base
          · rw [rd, rr 9 (by decide) (by decide)]; exact base
          · refine (r5.1 t ht ?_).trans base
            rcases hh with z | z
            · exact Or.inl z
            · exact Or.inr (Int32.le_of_lt (Int32.lt_of_le_of_lt lk.2.2.2.2.1 z))
        · obtain ⟨w1, w2, w3, w4⟩ := r6 f5
          rw [e3]
          refine ⟨tk.1, tk.2.1, tk.2.2.1, di.2.1.2.1, by rw [rd, rr 5 (by decide) (by decide)]; exact tk.2.2.2.1.1, ?_, w2, by rw [ff 18 (by decide) (by decide) (by decide)]; exact w3, ?_, by rw [ff 18 (by decide) (by decide) (by decide)]; exact fA_lk (di.2.2.2.2.2 f).2.2 (lkF_o (rr 29 (by decide) (by decide)) (ff 19 (by decide) (by decide) (by decide))), by rw [ff 19 (by decide) (by decide) (by decide)]; exact r4.2⟩
          · exact stA_C tk.1 TT2 st (rr 5 (by decide) (by decide)) (rr 7 (by decide) (by decide)) (ff 19 (by decide) (by decide) (by decide)) ⟨rr 30 (by decide) (by decide), rr 31 (by decide) (by decide), rr 32 (by decide) (by decide), rr 36 (by decide) (by decide), rr 33 (by decide) (by decide), rr 34 (by decide) (by decide), rr 35 (by decide) (by decide)⟩ w1
          · intro s s0 s1 s5
            rw [ff 19 (by decide) (by decide) (by decide)] at s1
            rw [rd, rr 30 (by decide) (by decide)] at s5
            have := w4 s s0 s1 s5
            simp only [rd] at this ⊢
            rw [rr 5 (by decide) (by decide), rr 7 (by decide) (by decide), rr 26 (by decide) (by decide), rr 32 (by decide) (by decide), ff 18 (by decide) (by decide) (by decide)]
            exact this
  have hj65 : ∀ (s1 : Int32) (τ : rS), ((frH qFF qRR σ τ ∧ τ.2 = σ.2 ∧ (s1 = 0 ∨ s1 = 65537) ∧ s1 ≠ σ.1 3 ∧ τ.1 11 = 0 ∧ τ.1 13 = 0 ∧ τ.1 46 = 0 ∧ τ.1 47 = 0 ∧ τ.1 19 = 0 ∧ tF τ ∧ τ.1 18 = 0) ∧ g5_tellProgram σ = g5_tellProgram_65 s1 τ) → w_tellProgram_65 C Q  s1 τ := by
    rintro y65_s1 τ65 ⟨j65, hE⟩
    unfold w_tellProgram_65
    intro σ_7 hσ_7
    replace hE := rb_p5 hE hσ_7
    obtain ⟨j1, j2, j3, j4, j5, j6, j7, j8, j9, j10, j11⟩ := j65
    have e7 : ∀ k, k ≠ 3 → σ_7.1 k = τ65.1 k := fun k hk => by rw [hσ_7, si1, if_neg hk]
    have e73 : σ_7.1 3 = y65_s1 := by rw [hσ_7, si1, if_pos rfl]
    have s7 : σ_7.2 = σ.2 := by rw [hσ_7, si2]; exact j2
    have e2 : σ_7.1 2 = σ.1 2 := (e7 2 (by decide)).trans (j1.1 2 (by decide))
    refine cutTape_g5 hC  ?_ (fun σ_8 q9 => ?_)
    · clear h hE; exact ⟨by rw [e73]; exact j3, by rw [e2]; exact hs0, by rw [e2]; exact hs1⟩  -- p4
    obtain ⟨q9, z9⟩ := q9
    replace hE := rb_p5 hE z9.symm
    clear z9
    intro σ_10 hσ_10
    replace hE := rb_p5 hE hσ_10
    obtain ⟨t1, t2, t3, t4, t5⟩ := q9
    rw [e73] at t2 t5
    have bk := bk_bR9 j3 t3 t4
    have e10 : ∀ k, k ≠ 10 → σ_10.1 k = σ_8.1 k := fun k hk => by rw [hσ_10, si1, if_neg hk]
    have e83 : σ_8.1 3 = y65_s1 := (t1.1 3 (by decide)).trans e73
    have e1010 : σ_10.1 10 = y65_s1 := by rw [hσ_10, si1, if_pos rfl, e83]
    have s10 : σ_10.2 = σ_8.2 := by rw [hσ_10, si2]
    refine readNext_g5 hC  ?_ (fun σ_11 q12 => ?_)
    · clear h hE; rw [e1010]; exact ⟨bk.1, bk.2.1⟩  -- p5
    obtain ⟨q12, z9⟩ := q12
    replace hE := rb_p5 hE z9.symm
    clear z9
    have fz : ∀ k, k ≠ 3 → k ≠ 4 → k ≠ 10 → k ≠ 11 → k ≠ 12 → σ_11.1 k = τ65.1 k := fun k z1 z2 z3 z4 z5 => (q12.1.1 k z4 z5).trans ((e10 k z3).trans ((t1.1 k z2).trans (e7 k z1)))
    have s11 : σ_11.2 = σ_8.2 := q12.1.2.trans s10
    have rz : ∀ k, k ≠ 5 → k ≠ 6 → k ≠ 7 → k ≠ 9 → σ_11.2.2.1 k = σ.2.2.1 k := fun k z1 z2 z3 z4 => by rw [s11, t1.2.2.1 k z1 z2 z3 z4, s7]
    have e3' : σ_11.1 3 = y65_s1 := (q12.1.1 3 (by decide) (by decide)).trans ((e10 3 (by decide)).trans e83)
    have at11 : σ_11.1 10 = y65_s1 := (q12.1.1 10 (by decide) (by decide)).trans e1010
    have lk : LK σ σ_11 y65_s1 (y65_s1 + σ_8.1 4) := by
      refine ⟨?_, e3', j3, j4, bk.2.2.2.2.1, rz 39 (by decide) (by decide) (by decide) (by decide), rz 37 (by decide) (by decide) (by decide) (by decide), fun k hk t ht hh => ?_⟩
      · have u1 : frH qFF qRR τ65 σ_7 := by rw [hσ_7]; exact frH_si (by decide)
        have u2 : frH qFF qRR σ_7 σ_8 := ⟨fun k z => t1.1 k (fun e => z (by rw [e]; decide)), t1.2.1, fun k z => t1.2.2.1 k (fun e => z (by rw [e]; decide)) (fun e => z (by rw [e]; decide)) (fun e => z (by rw [e]; decide)) (fun e => z (by rw [e]; decide)), t1.2.2.2.2⟩
        have u3 : frH qFF qRR σ_8 σ_10 := by rw [hσ_10]; exact frH_si (by decide)
        have u4 : frH qFF qRR σ_10 σ_11 := ⟨fun k z => q12.1.1 k (fun e => z (by rw [e]; decide)) (fun e => z (by rw [e]; decide)), fun k => by rw [q12.1.2], fun k _ => by rw [q12.1.2], fun k j _ => by rw [q12.1.2]⟩
        exact frH_tr j1 (frH_tr u1 (frH_tr u2 (frH_tr u3 u4)))
      · have z := t2.1 k t ht hh
        simp only [rd] at z ⊢
        rw [s11, z, s7]
    unfold w_tellProgram_84
    refine ⟨fun n  τ => n = eMs (τ.1 11) 0 0 (τ.1 10) (y65_s1 + σ_8.1 4) ∧ ((dI σ_11 τ y65_s1 (y65_s1 + σ_8.1 4)) ∧ ∃ m5, n < m5 ∧ g5_tellProgram σ = g5_tellProgram_84 m5 τ), ⟨_, rfl, ?_⟩, ?_⟩
    · refine and_5 ?_ (fun o9 => ⟨fu5, by first | exact eMs_5 | (clear h hE; unfold fu5; omega), hE⟩)  -- j6
      clear h hE; refine ⟨frG_refl, ⟨⟨bk.1, bk.2.2.1, bk.2.2.2.1, ⟨by rw [rd, s11]; exact t5, q12.2.2.2 (by rw [e10 11 (by decide), t1.1 11 (by decide), e7 11 (by decide), j5]; decide), by rw [fz 47 (by decide) (by decide) (by decide) (by decide) (by decide), j8]; decide⟩, by rw [at11]; exact Int32.le_refl _, by rw [at11]; exact bk.2.2.1⟩, bk.2.2.2.2.2, ?_, ?_, ?_, (fz 46 (by decide) (by decide) (by decide) (by decide) (by decide)).trans j7, (fz 47 (by decide) (by decide) (by decide) (by decide) (by decide)).trans j8⟩, ?_, rHi_refl, rLo_refl, fun f => ⟨(fz 13 (by decide) (by decide) (by decide) (by decide) (by decide)).trans j6, fun s s0 s1 => ?_, fun s s0 s1 => ?_⟩⟩
      · show tyF _ _ _ _ _ _ _ _
        rw [fz 15 (by decide) (by decide) (by decide) (by decide) (by decide), fz 16 (by decide) (by decide) (by decide) (by decide) (by decide), fz 17 (by decide) (by decide) (by decide) (by decide) (by decide), fz 18 (by decide) (by decide) (by decide) (by decide) (by decide), fz 19 (by decide) (by decide) (by decide) (by decide) (by decide), fz 40 (by decide) (by decide) (by decide) (by decide) (by decide), fz 41 (by decide) (by decide) (by decide) (by decide) (by decide), fz 42 (by decide) (by decide) (by decide) (by decide) (by decide)]
        exact j10
      · show tyN _ _ _ _ _ _
        rw [rz 20 (by decide) (by decide) (by decide) (by decide), rz 22 (by decide) (by decide) (by decide) (by decide), rz 25 (by decide) (by decide) (by decide) (by decide), rz 28 (by decide) (by decide) (by decide) (by decide), rz 26 (by decide) (by decide) (by decide) (by decide), rz 27 (by decide) (by decide) (by decide) (by decide)]
        exact hN
      · show tyA _ _
        rw [rz 23 (by decide) (by decide) (by decide) (by decide), rz 24 (by decide) (by decide) (by decide) (by decide)]
        exact hA
      · show tyS _ _ _ _ _ _ _ _
        rw [rz 29 (by decide) (by decide) (by decide) (by decide), rz 33 (by decide) (by decide) (by decide) (by decide), rz 34 (by decide) (by decide) (by decide) (by decide), rz 35 (by decide) (by decide) (by decide) (by decide), rz 36 (by decide) (by decide) (by decide) (by decide), rz 38 (by decide) (by decide) (by decide) (by decide), rz 43 (by decide) (by decide) (by decide) (by decide), rz 44 (by decide) (by decide) (by decide) (by decide)]
        exact hS
      · rw [fz 19 (by decide) (by decide) (by decide) (by decide) (by decide), j9] at s1
        exact absurd s1 (Int32.not_lt.mpr s0)
      · rw [fz 18 (by decide) (by decide) (by decide) (by decide) (by decide), j11] at s1
        exact absurd s1 (Int32.not_lt.mpr s0)
    rintro n84  σ84 ⟨hn84, i84, mF84, hmF84, hE⟩
    obtain ⟨mF84, rfl⟩ : ∃ m9, mF84 = m9 + 1 := ⟨mF84 - 1, by clear h hE; omega⟩
    refine isRight_g5 hC  (fun r13 q15 => ?_)
    obtain ⟨q15, z9⟩ := q15
    replace hE := rb_p5 hE z9
    clear z9
    refine ⟨fun c16 => ?_, fun c16 => ?_⟩
    · skip
      replace hE := rb_t5 hE c16
      refine hj161 _ ?_
      · refine and_5 ?_ (fun o9 => hE)  -- k7
        clear h hE; exact ⟨σ_11, y65_s1, _, lk, i84⟩
    · skip
      replace hE := rb_f5 hE c16
      refine ⟨ib_131074.mpr ?_, ?_⟩
      · clear h hE; exact (aI_at (aI_refl i84.2.1)).2.2.2  -- b8
      refine ⟨fun c17 => ?_, fun c17 => ?_⟩
      · skip
        replace hE := rb_t5 hE c17
        refine hj161 _ ?_
        · refine and_5 ?_ (fun o9 => hE)  -- k9
          clear h hE; exact ⟨σ_11, y65_s1, _, lk, i84⟩
      · skip
        replace hE := rb_f5 hE c17
        have f := q15.2.mp c16
        have hA4 := aI_at (aI_refl i84.2.1)
        refine isWord_g5 hC  ?_ (fun r18 q20 => ?_)
        · clear h hE; exact hA4.2.2.2  -- p10
        obtain ⟨q20, z9⟩ := q20
        replace hE := rb_p5 hE z9
        clear z9
        refine ⟨fun c21 => ?_, fun c21 => ?_⟩
        · skip
          replace hE := rb_t5 hE c21
          refine isWord_g5 hC  ?_ (fun r22 q24 => ?_)
          · clear h hE; exact hA4.2.2.2  -- p11
          obtain ⟨q24, z9⟩ := q24
          replace hE := rb_p5 hE z9
          clear z9
          refine ⟨fun c25 => ?_, fun c25 => ?_⟩
          · skip
            replace hE := rb_t5 hE c25
            refine isWord_g5 hC  ?_ (fun r26 q28 => ?_)
            · clear h hE; exact hA4.2.2.2  -- p12
            obtain ⟨q28, z9⟩ := q28
            replace hE := rb_p5 hE z9
            clear z9
            refine ⟨fun c29 => ?_, fun c29 => ?_⟩
            · skip
              replace hE := rb_t5 hE c29
              refine flaw_g5 hC  ?_ (fun σ_30 q31 => ?_)
              · clear h hE; exact ⟨hA4.2.2.2.1, hA4.2.2.2.2, by decide⟩  -- p13
              obtain ⟨q31, z9⟩ := q31
              replace hE := rb_p5 hE z9.symm
              clear z9
              refine lp_b5 ?_ (fun d9 => ⟨rfl, ?_⟩)
              · clear h hE; show eMs (σ_30.1 11) 0 0 (σ_30.1 10) (y65_s1 + σ_8.1 4) < n84
                rw [hn84, f]
                exact eMs_lt (by decide) (fun f1 _ _ => absurd f1 q31.2.2.1) hA4.2.2.2.1 (by rw [q31.1.1 10 (by decide) (by decide)]; exact i84.2.1.1.2.2.2.2.2)
              · refine and_5 ?_ (fun o9 => ⟨mF84, Nat.lt_of_lt_of_le d9 (Nat.le_of_lt_succ hmF84), hE⟩)  -- i15
                clear h hE d9 hmF84; have a := aI_flaw (aI_refl i84.2.1) q31
                exact dI_V i84 ⟨fun k z => q31.1.1 k (fun e => z (by rw [e]; decide)) (fun e => z (by rw [e]; decide)), fun k => by rw [q31.1.2], fun k _ => by rw [q31.1.2], fun k j => by rw [q31.1.2]⟩ a.1.2.1.1 a.1.2.1.2.2.1 a.1.2.1.2.2.2.1 a.1.2.1.2.2.2.2.1 (fun f' => absurd f' q31.2.2.1)
            · skip
              replace hE := rb_f5 hE c29
              refine tellFunc_g5 hC y65_s1 (y65_s1 + σ_8.1 4) ?_ (fun σ_32 q33 => ?_)
              · clear h hE; exact ⟨i84.2.1, i84.2.2.1, f, (i84.2.2.2.2.2 f).1, (i84.2.2.2.2.2 f).2.1, c17, (i84.2.2.2.2.2 f).2.2⟩  -- p16
              obtain ⟨q33, z9⟩ := q33
              replace hE := rb_p5 hE z9.symm
              clear z9
              refine lp_b5 ?_ (fun d9 => ⟨rfl, ?_⟩)
              · clear h hE; show eMs (σ_32.1 11) 0 0 (σ_32.1 10) (y65_s1 + σ_8.1 4) < n84
                rw [hn84, f]
                exact eMs_lt (by decide) (fun f' _ _ => (q33.1.2.2.2.2.2 f').1) hA4.2.2.2.1 q33.1.2.1.1.2.2.2.2.2
              · refine and_5 ?_ (fun o9 => ⟨mF84, Nat.lt_of_lt_of_le d9 (Nat.le_of_lt_succ hmF84), hE⟩)  -- i18
                clear h hE d9 hmF84; exact dI_F i84 q33.1 q33.2
          · skip
            replace hE := rb_f5 hE c25
            refine tellArr_g5 hC y65_s1 (y65_s1 + σ_8.1 4) ?_ (fun σ_34 q35 => ?_)
            · clear h hE; exact ⟨i84.2.1.1, i84.2.1.2.2.1, i84.2.1.2.2.2.1, i84.2.1.2.2.2.2.1, c17⟩  -- p19
            obtain ⟨q35, z9⟩ := q35
            replace hE := rb_p5 hE z9.symm
            clear z9
            refine lp_b5 ?_ (fun d9 => ⟨rfl, ?_⟩)
            · clear h hE; show eMs (σ_34.1 11) 0 0 (σ_34.1 10) (y65_s1 + σ_8.1 4) < n84
              rw [hn84, f]
              exact eMs_lt (by decide) (fun f' _ _ => (q35.2.2.2.2.2 f').2.1) hA4.2.2.2.1 q35.2.1.2.2.2.2.2
            · refine and_5 ?_ (fun o9 => ⟨mF84, Nat.lt_of_lt_of_le d9 (Nat.le_of_lt_succ hmF84), hE⟩)  -- i21
              clear h hE d9 hmF84; exact dI_V i84 ⟨fun k z => q35.1.1 k (fun e => z (by rw [e]; decide)) (fun e => z (by rw [e]; decide)) (fun e => z (by rw [e]; decide)) (fun e => z (by rw [e]; decide)) (fun e => z (by rw [e]; decide)) (fun e => z (by rw [e]; decide)), q35.1.2.1, fun k z => q35.1.2.2.1 k (fun e => z (by rw [e]; decide)) (fun e => z (by rw [e]; decide)) (fun e => z (by rw [e]; decide)), q35.1.2.2.2.2⟩ q35.2.1 q35.2.2.1 q35.2.2.2.1 q35.2.2.2.2.1 (fun f' => ⟨(q35.2.2.2.2.2 f').1, Int32.le_of_lt (q35.2.2.2.2.2 f').2.1, (q35.2.2.2.2.2 f').2.2⟩)
        · skip
          replace hE := rb_f5 hE c21
          refine tellVar_g5 hC y65_s1 (y65_s1 + σ_8.1 4) ?_ (fun σ_36 q37 => ?_)
          · clear h hE; exact ⟨i84.2.1.1, i84.2.1.2.2.1, i84.2.1.2.2.2.1, c17⟩  -- p22
          obtain ⟨q37, z9⟩ := q37
          replace hE := rb_p5 hE z9.symm
          clear z9
          refine lp_b5 ?_ (fun d9 => ⟨rfl, ?_⟩)
          · clear h hE; show eMs (σ_36.1 11) 0 0 (σ_36.1 10) (y65_s1 + σ_8.1 4) < n84
            rw [hn84, f]
            exact eMs_lt (by decide) (fun f' _ _ => (q37.2.2.2.2 f').2) hA4.2.2.2.1 q37.2.1.2.2.2.2.2
          · refine and_5 ?_ (fun o9 => ⟨mF84, Nat.lt_of_lt_of_le d9 (Nat.le_of_lt_succ hmF84), hE⟩)  -- i24
            clear h hE d9 hmF84; have ta : tA σ_36 := by
              show tyA _ _
              rw [q37.1.2.2.1 23 (by decide) (by decide), q37.1.2.2.1 24 (by decide) (by decide)]
              exact i84.2.1.2.2.2.2.1
            exact dI_V i84 ⟨fun k z => q37.1.1 k (fun e => z (by rw [e]; decide)) (fun e => z (by rw [e]; decide)) (fun e => z (by rw [e]; decide)) (fun e => z (by rw [e]; decide)), q37.1.2.1, fun k z => q37.1.2.2.1 k (fun e => z (by rw [e]; decide)) (fun e => z (by rw [e]; decide)), q37.1.2.2.2.2⟩ q37.2.1 q37.2.2.1 q37.2.2.2.1 ta (fun f' => ⟨(q37.2.2.2.2 f').1, Int32.le_of_lt (q37.2.2.2.2 f').2, q37.1.1 13 (by decide) (by decide) (by decide) (by decide)⟩)
  have hE : g5_tellProgram σ = g5_tellProgram σ := rfl
  intro σ_38 hσ_38
  replace hE := rb_p5 hE hσ_38
  intro σ_39 hσ_39
  replace hE := rb_p5 hE hσ_39
  intro σ_40 hσ_40
  replace hE := rb_p5 hE hσ_40
  intro σ_41 hσ_41
  replace hE := rb_p5 hE hσ_41
  intro σ_42 hσ_42
  replace hE := rb_p5 hE hσ_42
  intro σ_43 hσ_43
  replace hE := rb_p5 hE hσ_43
  intro σ_44 hσ_44
  replace hE := rb_p5 hE hσ_44
  intro σ_45 hσ_45
  replace hE := rb_p5 hE hσ_45
  intro σ_46 hσ_46
  replace hE := rb_p5 hE hσ_46
  intro σ_47 hσ_47
  replace hE := rb_p5 hE hσ_47
  refine ⟨fun c48 => ?_, fun c48 => ?_⟩
  · skip
    replace hE := rb_f5 hE c48
    refine hj65 _ _ ?_
    · refine and_5 ?_ (fun o9 => hE)  -- k25
      clear h hE; have fr : frH qFF qRR σ σ_47 := frH_tr (frH_tr (frH_tr (frH_tr (frH_tr (frH_tr (frH_tr (frH_tr (frH_tr (by rw [hσ_38]; exact frH_si (by decide) : frH qFF qRR σ σ_38) (by rw [hσ_39]; exact frH_si (by decide) : frH qFF qRR σ_38 σ_39)) (by rw [hσ_40]; exact frH_si (by decide) : frH qFF qRR σ_39 σ_40)) (by rw [hσ_41]; exact frH_si (by decide) : frH qFF qRR σ_40 σ_41)) (by rw [hσ_42]; exact frH_si (by decide) : frH qFF qRR σ_41 σ_42)) (by rw [hσ_43]; exact frH_si (by decide) : frH qFF qRR σ_42 σ_43)) (by rw [hσ_44]; exact frH_si (by decide) : frH qFF qRR σ_43 σ_44)) (by rw [hσ_45]; exact frH_si (by decide) : frH qFF qRR σ_44 σ_45)) (by rw [hσ_46]; exact frH_si (by decide) : frH qFF qRR σ_45 σ_46)) (by rw [hσ_47]; exact frH_si (by decide) : frH qFF qRR σ_46 σ_47)
      have s47 : σ_47.2 = σ.2 := by rw [hσ_47, si2, hσ_46, si2, hσ_45, si2, hσ_44, si2, hσ_43, si2, hσ_42, si2, hσ_41, si2, hσ_40, si2, hσ_39, si2, hσ_38, si2]
      have v11 : σ_47.1 11 = 0 := by rw [hσ_47, si1, if_neg (by decide), hσ_46, si1, if_neg (by decide), hσ_45, si1, if_neg (by decide), hσ_44, si1, if_neg (by decide), hσ_43, si1, if_neg (by decide), hσ_42, si1, if_neg (by decide), hσ_41, si1, if_neg (by decide), hσ_40, si1, if_pos rfl]
      have v13 : σ_47.1 13 = 0 := by rw [hσ_47, si1, if_neg (by decide), hσ_46, si1, if_neg (by decide), hσ_45, si1, if_neg (by decide), hσ_44, si1, if_neg (by decide), hσ_43, si1, if_neg (by decide), hσ_42, si1, if_pos rfl]
      have v46 : σ_47.1 46 = 0 := by rw [hσ_47, si1, if_neg (by decide), hσ_46, si1, if_neg (by decide), hσ_45, si1, if_neg (by decide), hσ_44, si1, if_neg (by decide), hσ_43, si1, if_neg (by decide), hσ_42, si1, if_neg (by decide), hσ_41, si1, if_neg (by decide), hσ_40, si1, if_neg (by decide), hσ_39, si1, if_neg (by decide), hσ_38, si1, if_pos rfl]
      have v47 : σ_47.1 47 = 0 := by rw [hσ_47, si1, if_neg (by decide), hσ_46, si1, if_neg (by decide), hσ_45, si1, if_neg (by decide), hσ_44, si1, if_neg (by decide), hσ_43, si1, if_neg (by decide), hσ_42, si1, if_neg (by decide), hσ_41, si1, if_neg (by decide), hσ_40, si1, if_neg (by decide), hσ_39, si1, if_pos rfl]
      have v15 : σ_47.1 15 = 0 := by rw [hσ_47, si1, if_neg (by decide), hσ_46, si1, if_neg (by decide), hσ_45, si1, if_neg (by decide), hσ_44, si1, if_neg (by decide), hσ_43, si1, if_pos rfl]
      have v16 : σ_47.1 16 = 0 := by rw [hσ_47, si1, if_neg (by decide), hσ_46, si1, if_neg (by decide), hσ_45, si1, if_neg (by decide), hσ_44, si1, if_pos rfl]
      have v17 : σ_47.1 17 = 0 := by rw [hσ_47, si1, if_neg (by decide), hσ_46, si1, if_neg (by decide), hσ_45, si1, if_pos rfl]
      have v18 : σ_47.1 18 = 0 := by rw [hσ_47, si1, if_neg (by decide), hσ_46, si1, if_pos rfl]
      have v19 : σ_47.1 19 = 0 := by rw [hσ_47, si1, if_pos rfl]
      have v40 : σ_47.1 40 = σ.1 40 := by rw [hσ_47, si1, if_neg (by decide), hσ_46, si1, if_neg (by decide), hσ_45, si1, if_neg (by decide), hσ_44, si1, if_neg (by decide), hσ_43, si1, if_neg (by decide), hσ_42, si1, if_neg (by decide), hσ_41, si1, if_neg (by decide), hσ_40, si1, if_neg (by decide), hσ_39, si1, if_neg (by decide), hσ_38, si1, if_neg (by decide)]
      have v41 : σ_47.1 41 = σ.1 41 := by rw [hσ_47, si1, if_neg (by decide), hσ_46, si1, if_neg (by decide), hσ_45, si1, if_neg (by decide), hσ_44, si1, if_neg (by decide), hσ_43, si1, if_neg (by decide), hσ_42, si1, if_neg (by decide), hσ_41, si1, if_neg (by decide), hσ_40, si1, if_neg (by decide), hσ_39, si1, if_neg (by decide), hσ_38, si1, if_neg (by decide)]
      have v42 : σ_47.1 42 = σ.1 42 := by rw [hσ_47, si1, if_neg (by decide), hσ_46, si1, if_neg (by decide), hσ_45, si1, if_neg (by decide), hσ_44, si1, if_neg (by decide), hσ_43, si1, if_neg (by decide), hσ_42, si1, if_neg (by decide), hσ_41, si1, if_neg (by decide), hσ_40, si1, if_neg (by decide), hσ_39, si1, if_neg (by decide), hσ_38, si1, if_neg (by decide)]
      have v3 : σ_47.1 3 = σ.1 3 := by rw [hσ_47, si1, if_neg (by decide), hσ_46, si1, if_neg (by decide), hσ_45, si1, if_neg (by decide), hσ_44, si1, if_neg (by decide), hσ_43, si1, if_neg (by decide), hσ_42, si1, if_neg (by decide), hσ_41, si1, if_neg (by decide), hσ_40, si1, if_neg (by decide), hσ_39, si1, if_neg (by decide), hσ_38, si1, if_neg (by decide)]
      have tf : tF σ_47 := by
        show tyF _ _ _ _ _ _ _ _
        rw [v15, v16, v17, v18, v19, v40, v41, v42]
        clear fr hS hN hA h37
        clear hσ_38 hσ_39 hσ_40 hσ_41 hσ_42 hσ_43 hσ_44 hσ_45 hσ_46 hσ_47
        grind [tyF]
      refine ⟨fr, s47, Or.inl rfl, ?_, v11, v13, v46, v47, v19, tf, v18⟩
      rw [v3] at c48
      exact fun e => c48 e.symm
  · skip
    replace hE := rb_t5 hE c48
    refine hj65 _ _ ?_
    · refine and_5 ?_ (fun o9 => hE)  -- k26
      clear h hE; have fr : frH qFF qRR σ σ_47 := frH_tr (frH_tr (frH_tr (frH_tr (frH_tr (frH_tr (frH_tr (frH_tr (frH_tr (by rw [hσ_38]; exact frH_si (by decide) : frH qFF qRR σ σ_38) (by rw [hσ_39]; exact frH_si (by decide) : frH qFF qRR σ_38 σ_39)) (by rw [hσ_40]; exact frH_si (by decide) : frH qFF qRR σ_39 σ_40)) (by rw [hσ_41]; exact frH_si (by decide) : frH qFF qRR σ_40 σ_41)) (by rw [hσ_42]; exact frH_si (by decide) : frH qFF qRR σ_41 σ_42)) (by rw [hσ_43]; exact frH_si (by decide) : frH qFF qRR σ_42 σ_43)) (by rw [hσ_44]; exact frH_si (by decide) : frH qFF qRR σ_43 σ_44)) (by rw [hσ_45]; exact frH_si (by decide) : frH qFF qRR σ_44 σ_45)) (by rw [hσ_46]; exact frH_si (by decide) : frH qFF qRR σ_45 σ_46)) (by rw [hσ_47]; exact frH_si (by decide) : frH qFF qRR σ_46 σ_47)
      have s47 : σ_47.2 = σ.2 := by rw [hσ_47, si2, hσ_46, si2, hσ_45, si2, hσ_44, si2, hσ_43, si2, hσ_42, si2, hσ_41, si2, hσ_40, si2, hσ_39, si2, hσ_38, si2]
      have v11 : σ_47.1 11 = 0 := by rw [hσ_47, si1, if_neg (by decide), hσ_46, si1, if_neg (by decide), hσ_45, si1, if_neg (by decide), hσ_44, si1, if_neg (by decide), hσ_43, si1, if_neg (by decide), hσ_42, si1, if_neg (by decide), hσ_41, si1, if_neg (by decide), hσ_40, si1, if_pos rfl]
      have v13 : σ_47.1 13 = 0 := by rw [hσ_47, si1, if_neg (by decide), hσ_46, si1, if_neg (by decide), hσ_45, si1, if_neg (by decide), hσ_44, si1, if_neg (by decide), hσ_43, si1, if_neg (by decide), hσ_42, si1, if_pos rfl]
      have v46 : σ_47.1 46 = 0 := by rw [hσ_47, si1, if_neg (by decide), hσ_46, si1, if_neg (by decide), hσ_45, si1, if_neg (by decide), hσ_44, si1, if_neg (by decide), hσ_43, si1, if_neg (by decide), hσ_42, si1, if_neg (by decide), hσ_41, si1, if_neg (by decide), hσ_40, si1, if_neg (by decide), hσ_39, si1, if_neg (by decide), hσ_38, si1, if_pos rfl]
      have v47 : σ_47.1 47 = 0 := by rw [hσ_47, si1, if_neg (by decide), hσ_46, si1, if_neg (by decide), hσ_45, si1, if_neg (by decide), hσ_44, si1, if_neg (by decide), hσ_43, si1, if_neg (by decide), hσ_42, si1, if_neg (by decide), hσ_41, si1, if_neg (by decide), hσ_40, si1, if_neg (by decide), hσ_39, si1, if_pos rfl]
      have v15 : σ_47.1 15 = 0 := by rw [hσ_47, si1, if_neg (by decide), hσ_46, si1, if_neg (by decide), hσ_45, si1, if_neg (by decide), hσ_44, si1, if_neg (by decide), hσ_43, si1, if_pos rfl]
      have v16 : σ_47.1 16 = 0 := by rw [hσ_47, si1, if_neg (by decide), hσ_46, si1, if_neg (by decide), hσ_45, si1, if_neg (by decide), hσ_44, si1, if_pos rfl]
      have v17 : σ_47.1 17 = 0 := by rw [hσ_47, si1, if_neg (by decide), hσ_46, si1, if_neg (by decide), hσ_45, si1, if_pos rfl]
      have v18 : σ_47.1 18 = 0 := by rw [hσ_47, si1, if_neg (by decide), hσ_46, si1, if_pos rfl]
      have v19 : σ_47.1 19 = 0 := by rw [hσ_47, si1, if_pos rfl]
      have v40 : σ_47.1 40 = σ.1 40 := by rw [hσ_47, si1, if_neg (by decide), hσ_46, si1, if_neg (by decide), hσ_45, si1, if_neg (by decide), hσ_44, si1, if_neg (by decide), hσ_43, si1, if_neg (by decide), hσ_42, si1, if_neg (by decide), hσ_41, si1, if_neg (by decide), hσ_40, si1, if_neg (by decide), hσ_39, si1, if_neg (by decide), hσ_38, si1, if_neg (by decide)]
      have v41 : σ_47.1 41 = σ.1 41 := by rw [hσ_47, si1, if_neg (by decide), hσ_46, si1, if_neg (by decide), hσ_45, si1, if_neg (by decide), hσ_44, si1, if_neg (by decide), hσ_43, si1, if_neg (by decide), hσ_42, si1, if_neg (by decide), hσ_41, si1, if_neg (by decide), hσ_40, si1, if_neg (by decide), hσ_39, si1, if_neg (by decide), hσ_38, si1, if_neg (by decide)]
      have v42 : σ_47.1 42 = σ.1 42 := by rw [hσ_47, si1, if_neg (by decide), hσ_46, si1, if_neg (by decide), hσ_45, si1, if_neg (by decide), hσ_44, si1, if_neg (by decide), hσ_43, si1, if_neg (by decide), hσ_42, si1, if_neg (by decide), hσ_41, si1, if_neg (by decide), hσ_40, si1, if_neg (by decide), hσ_39, si1, if_neg (by decide), hσ_38, si1, if_neg (by decide)]
      have v3 : σ_47.1 3 = σ.1 3 := by rw [hσ_47, si1, if_neg (by decide), hσ_46, si1, if_neg (by decide), hσ_45, si1, if_neg (by decide), hσ_44, si1, if_neg (by decide), hσ_43, si1, if_neg (by decide), hσ_42, si1, if_neg (by decide), hσ_41, si1, if_neg (by decide), hσ_40, si1, if_neg (by decide), hσ_39, si1, if_neg (by decide), hσ_38, si1, if_neg (by decide)]
      have tf : tF σ_47 := by
        show tyF _ _ _ _ _ _ _ _
        rw [v15, v16, v17, v18, v19, v40, v41, v42]
        clear fr hS hN hA h37
        clear hσ_38 hσ_39 hσ_40 hσ_41 hσ_42 hσ_43 hσ_44 hσ_45 hσ_46 hσ_47
        grind [tyF]
      refine ⟨fr, s47, Or.inr rfl, ?_, v11, v13, v46, v47, v19, tf, v18⟩
      rw [v3] at c48
      rw [c48]; decide
