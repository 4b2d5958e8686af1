set_option maxHeartbeats 1600000
/-! the reference: size, limb, told, findHeavy -/
theorem half {x : Int32} (h0 : 0 ≤ x) (h1 : x ≤ 40000) : (x + 1) / 2 ≤ 20000 := by
  have a := t0 h0
  have b := ti h1
  rw [show (40000 : Int32).toInt = 40000 from rfl] at b
  have e : (x + 1).toInt = x.toInt + 1 := by
    rw [Int32.toInt_add, show (1 : Int32).toInt = 1 from rfl]
    exact Int.bmod_eq_of_le (by omega) (by omega)
  rw [Int32.le_iff_toInt_le, Int32.toInt_div_of_ne_right _ _ (by decide), e, show (2 : Int32).toInt = 2 from rfl, show (20000 : Int32).toInt = 20000 from rfl, Int.tdiv_eq_ediv_of_nonneg (by omega)]
  omega
theorem i01 {a : Int32} (h0 : 0 ≤ a) (h1 : a ≤ 1) : a = 0 ∨ a = 1 := by grind
theorem lb0 {a : Int32} (h0 : 0 ≤ a) (h1 : a < 20000) : (0 ≤ 600000 + 2 * a ∧ 600000 + 2 * a < 1200000 ∧ 0 ≤ 600000 + 2 * a + 1 ∧ 600000 + 2 * a + 1 < 1200000) ∧ (0 ≤ 640000 + 2 * a ∧ 640000 + 2 * a < 1200000 ∧ 0 ≤ 640000 + 2 * a + 1 ∧ 640000 + 2 * a + 1 < 1200000) := by grind
theorem lb1 {a b v : Int32} (hb : b = 0 ∨ b = 1) (h0 : 0 ≤ a) (h1 : a < 20000) (hv : v = 40000 * (15 + b) + 2 * a) : 0 ≤ v ∧ v < 1200000 ∧ 0 ≤ v + 1 ∧ v + 1 < 1200000 := by
  have l := lb0 h0 h1
  rcases hb with e | e
  · rw [hv, e, show (40000 : Int32) * (15 + 0) = 600000 from rfl]; exact l.1
  · rw [hv, e, show (40000 : Int32) * (15 + 1) = 640000 from rfl]; exact l.2
theorem b01 {b : Int32} (hb : b = 0 ∨ b = 1) : 0 ≤ 15 + b ∧ 15 + b < 30 := by grind
theorem numbersOf_c {C : rCx} (hC : cOK C)  {σ : rS} {a1 : Int32} {Q : Int32 → rS → Prop} (hp : 0 ≤ a1 ∧ a1 ≤ 1 ∧ shO σ) (h : ∀ (v : Int32), (σ.1 103 ≠ 0 → v ≤ 20000) → Q v σ) : cI C 0 m_numbersOf [.ref (co C), .int a1] σ Q := by
  refine m_numbersOf_run hC ?_
  unfold w_numbersOf_0
  obtain ⟨h0, h1, hh⟩ := hp
  have e := i01 h0 h1
  refine ⟨fun c1 => ?_, fun c1 => ?_⟩
  · skip
    refine ⟨ib_30.mpr ?_, ?_⟩
    · clear h; exact b01 e  -- b1
    refine h _ ?_
    · clear h; have z := hh c1
      intro _
      rcases e with e | e
      · rw [e]; exact half z.1.1 z.1.2.1
      · rw [e]; exact half z.2.1 z.2.2.1
  · skip
    refine h _ ?_
    · clear h; exact fun z => absurd c1 z  -- q3

theorem size_c {C : rCx} (hC : cOK C)  {σ : rS} {a1 : Int32} {Q : Int32 → rS → Prop} (hp : shO σ) (h : ∀ (v : Int32) (σ' : rS), (frT [0] [] σ σ') → Q v σ') : cI C 1 m_size [.ref (co C), .int a1] σ Q := by
  refine m_size_run hC ?_
  unfold w_size_0
  have hh := hp
  have hj15 : ∀ (l1 : Int32) (s1 : Int32) (τ : rS), (l1 = a1 ∧ τ = σ ∧ (s1 ≤ 0 → 0 ≤ a1 ∧ a1 ≤ 1)) → w_size_15 C Q  l1 s1 τ := by
    rintro y15_1 y15_s1 τ15 j15
    unfold w_size_15
    intro σ_1 hσ_1
    obtain ⟨y1, y2, y3⟩ := j15
    have F : frT [0] [] σ σ_1 := by rw [hσ_1, y2]; exact frT_0 (by decide)
    rw [y1]
    refine ⟨fun c2 => ?_, fun c2 => ?_⟩
    · skip
      refine numbersOf_c hC  ?_ (fun r3 q5 => ?_)
      · clear h; have c := y3 (by rw [hσ_1] at c2; exact c2)
        exact ⟨c.1, c.2, by rw [hσ_1, y2]; exact shO_0 hh⟩
      refine h _ _ ?_
      · clear h; exact F  -- q2
    · skip
      refine h _ _ ?_
      · clear h; exact F  -- q3
  refine within_c hC  (fun r6 q8 => ?_)
  refine ⟨fun c9 => ?_, fun c9 => ?_⟩
  · skip
    refine hj15 _ _ _ ?_
    · clear h; exact ⟨rfl, rfl, fun z => absurd z (by decide)⟩  -- k4
  · skip
    refine hj15 _ _ _ ?_
    · clear h; exact ⟨rfl, rfl, fun _ => q8.2.mp c9⟩  -- k5

theorem limb_c {C : rCx} (hC : cOK C)  {σ : rS} {a1 : Int32} {a2 : Int32} {Q : Int32 → rS → Prop} (hp : shO σ) (h : ∀ (v : Int32) (σ' : rS), (frT [0] [] σ σ') → Q v σ') : cI C 1 m_limb [.ref (co C), .int a1, .int a2] σ Q := by
  refine m_limb_run hC ?_
  unfold w_limb_0
  have hh := hp
  have hj91 : ∀ (l3 : Int32) (s0 : Int32) (τ : rS), (frT [0] [] σ τ ∧ 0 ≤ l3 ∧ l3 < 1200000) → w_limb_91 C Q  l3 s0 τ := by
    rintro y91_3 y91_s0 τ91 j91
    unfold w_limb_91
    refine ⟨ib_1200000.mpr ?_, ?_⟩
    · clear h; exact j91.2  -- b1
    refine h _ _ ?_
    · clear h; exact j91.1  -- q2
  have hj28 : ∀ (l1 : Int32) (l2 : Int32) (s1 : Int32) (τ : rS), (l1 = a1 ∧ l2 = a2 ∧ τ = σ ∧ (s1 ≤ 0 → (a1 = 0 ∨ a1 = 1) ∧ 0 ≤ a2 ∧ (σ.1 103 ≠ 0 → a2 < 20000))) → w_limb_28 C Q  l1 l2 s1 τ := by
    rintro y28_1 y28_2 y28_s1 τ28 j28
    unfold w_limb_28
    intro σ_1 hσ_1
    obtain ⟨y1, y2, y3, y4⟩ := j28
    have F : frT [0] [] σ σ_1 := by rw [hσ_1, y3]; exact frT_0 (by decide)
    have e0 : σ_1.1 0 = y28_s1 := by rw [hσ_1]; rfl
    have e103 : σ_1.1 103 = σ.1 103 := by rw [hσ_1, y3]; rfl
    rw [y1, y2]
    refine ⟨fun c2 => ?_, fun c2 => ?_⟩
    · skip
      refine ⟨fun c3 => ?_, fun c3 => ?_⟩
      · skip
        intro x4 hx4
        refine ⟨ib_30.mpr ?_, ?_⟩
        · clear h; exact b01 (y4 (by rw [← e0]; exact c2)).1  -- b3
        refine ⟨fun c5 => ?_, fun c5 => ?_⟩
        · skip
          refine hj91 _ _ _ ?_
          · clear h; have c := y4 (by rw [← e0]; exact c2)
            have l := lb1 c.1 c.2.1 (c.2.2 (by rw [← e103]; exact c3)) hx4
            exact ⟨F, l.1, l.2.1⟩
        · skip
          refine ⟨ib_1200000.mpr ?_, ?_⟩
          · clear h; have c := y4 (by rw [← e0]; exact c2)
            have l := lb1 c.1 c.2.1 (c.2.2 (by rw [← e103]; exact c3)) hx4
            exact ⟨l.2.2.1, l.2.2.2⟩
          refine hj91 _ _ _ ?_
          · clear h; have c := y4 (by rw [← e0]; exact c2)
            have l := lb1 c.1 c.2.1 (c.2.2 (by rw [← e103]; exact c3)) hx4
            exact ⟨F, l.1, l.2.1⟩
      · skip
        refine h _ _ ?_
        · clear h; exact F  -- q7
    · skip
      refine h _ _ ?_
      · clear h; exact F  -- q8
  refine within_c hC  (fun r6 q8 => ?_)
  refine ⟨fun c9 => ?_, fun c9 => ?_⟩
  · skip
    refine hj28 _ _ _ _ ?_
    · clear h; exact ⟨rfl, rfl, rfl, fun z => absurd z (by decide)⟩  -- k9
  · skip
    refine ⟨fun c10 => ?_, fun c10 => ?_⟩
    · skip
      refine hj28 _ _ _ _ ?_
      · clear h; exact ⟨rfl, rfl, rfl, fun z => absurd z (by decide)⟩  -- k10
    · skip
      refine numbersOf_c hC  ?_ (fun r11 q13 => ?_)
      · clear h; exact ⟨(q8.2.mp c9).1, (q8.2.mp c9).2, hh⟩  -- p11
      refine ⟨fun c14 => ?_, fun c14 => ?_⟩
      · skip
        refine hj28 _ _ _ _ ?_
        · clear h; exact ⟨rfl, rfl, rfl, fun _ => ⟨i01 (q8.2.mp c9).1 (q8.2.mp c9).2, Int32.not_lt.mp c10, fun z => Int32.lt_of_lt_of_le c14 (q13 z)⟩⟩  -- k12
      · skip
        refine hj28 _ _ _ _ ?_
        · clear h; exact ⟨rfl, rfl, rfl, fun z => absurd z (by decide)⟩  -- k13

theorem told_c {C : rCx} (hC : cOK C)  {σ : rS} {a1 : Int32} {a2 : Int32} {Q : Int32 → rS → Prop} (hp : 0 ≤ a1 ∧ a1 < 1000 ∧ 0 ≤ a2 ∧ a2 < 34) (h : ∀ (v : Int32), (True) → Q v σ) : cI C 0 m_told [.ref (co C), .int a1, .int a2] σ Q := by
  refine m_told_run hC ?_
  unfold w_told_0
  refine ⟨ib_35000.mpr ?_, ?_⟩
  · clear h; exact (xe hp.1 hp.2.1 hp.2.2.1 hp.2.2.2).1  -- b1
  refine h _ ?_
  · clear h; trivial  -- q2

theorem findHeavy_c {C : rCx} (hC : cOK C)  {σ : rS}  {Q : rS → Prop} (hp : pOK σ) (h : ∀ (σ' : rS), (frX [120] σ σ') → Q σ') : cV C 1 m_findHeavy [.ref (co C)] σ Q := by
  refine m_findHeavy_run hC ?_
  unfold w_findHeavy_0
  have hO := hp
  have n1000 := hO.1.1.2
  unfold w_findHeavy_2
  refine ⟨fun n l1 τ => n = (σ.1 71 - l1).toNatClampNeg ∧ (frX [120] σ τ ∧ 0 ≤ l1 ∧ l1 ≤ σ.1 71), ⟨_, rfl, ?_⟩, ?_⟩
  · clear h; exact ⟨frX_rf, by decide, hO.1.2.1.1⟩  -- j1
  rintro n2 x2_1 σ2 ⟨hn2, i2⟩
  have hj27 : ∀ (l1 : Int32) (s1 : Int32) (s2 : Int32) (τ : rS), (l1 = x2_1 ∧ s1 = x2_1 ∧ ¬ σ.1 71 ≤ x2_1 ∧ τ = σ2) → w_findHeavy_27 C Q (fun l1' τ => ∃ k < n2, (fun n l1 τ => n = (σ.1 71 - l1).toNatClampNeg ∧ (frX [120] σ τ ∧ 0 ≤ l1 ∧ l1 ≤ σ.1 71)) k l1' τ) l1 s1 s2 τ := by
    rintro y27_1 y27_s1 y27_s2 τ27 j27
    unfold w_findHeavy_27
    obtain ⟨F, a0, a1⟩ := i2
    obtain ⟨y1, y2, y3, y4⟩ := j27
    have u := uk a0 y3 hO.1.2.1.2
    refine ⟨ib_1000.mpr ?_, ?_⟩
    · clear h; rw [y2]; exact ⟨a0, u.2.2.2.2.2⟩  -- b2
    intro σ_1 hσ_1
    intro x2 hx2
    refine ⟨_, cn_lt2 hn2 ?_ ?_, rfl, ?_⟩
    · clear h; rw [hx2, y1]; exact u.1  -- d3
    · clear h; rw [hx2, y1]; exact u.2.1  -- d4
    · clear h; rw [hx2, y1, hσ_1, y4]; exact ⟨frX_tr F (frX_1 (by decide)), u.2.2.1, u.2.2.2.1⟩  -- i5
  obtain ⟨F, a0, a1⟩ := i2
  have e71 : σ2.1 71 = σ.1 71 := by rw [F.1]
  rw [e71]
  refine ⟨fun c3 => ?_, fun c3 => ?_⟩
  · skip
    unfold w_findHeavy_36
    refine ⟨fun n l1 τ => n = (σ.1 70 - l1).toNatClampNeg ∧ (frX [120] σ τ ∧ 0 ≤ l1 ∧ l1 ≤ σ.1 70), ⟨_, rfl, ?_⟩, ?_⟩
    · clear h; exact ⟨F, by decide, hO.1.1.1⟩  -- j6
    rintro n36 x36_1 σ36 ⟨hn36, i36⟩
    obtain ⟨G, b0, b1⟩ := i36
    have e70 : σ36.1 70 = σ.1 70 := by rw [G.1]
    rw [e70]
    refine ⟨fun c4 => ?_, fun c4 => ?_⟩
    · skip
      refine h _ ?_
      · clear h; exact G  -- q7
    · skip
      have u := uk b0 c4 n1000
      have st := ex_st hO.1 b0 u.2.2.2.2.1
      have hi2 := Int32.le_trans st.2.2.1 hO.1.2.2.1.2
      refine ⟨ib_1001.mpr ?_, ?_⟩
      · clear h; exact ⟨b0, Int32.lt_trans u.2.2.2.2.2 (by decide)⟩  -- b8
      intro x5 hx5
      unfold w_findHeavy_51
      refine ⟨fun n l1 l2 τ => n = (σ.2.2.1 76 (x36_1.toNatClampNeg + 1) - l2).toNatClampNeg ∧ (l1 = x36_1 ∧ frX [120] σ τ ∧ σ.2.2.1 76 x36_1.toNatClampNeg ≤ l2 ∧ l2 ≤ σ.2.2.1 76 (x36_1.toNatClampNeg + 1)), ⟨_, rfl, ?_⟩, ?_⟩
      · clear h; rw [hx5, G.2.2.1 76 (by decide)]; exact ⟨rfl, G, Int32.le_refl _, st.2.1⟩  -- j9
      rintro n51 x51_1 x51_2 σ51 ⟨hn51, i51⟩
      obtain ⟨f1, H, w1, w2⟩ := i51
      have i0 := Int32.le_trans st.1.1 w1
      have h76 := H.2.2.1 76 (by decide)
      have h77 := H.2.2.1 77 (by decide)
      have h78 := H.2.2.1 78 (by decide)
      rw [f1]
      refine isVisited_c hC  ?_ (fun r6 q8 => ?_)
      · clear h; exact ⟨b0, u.2.2.2.2.2⟩  -- p10
      rw [h76, h77, st.2.2.2.1]
      refine ⟨fun c9 => ?_, fun c9 => ?_⟩
      · skip
        intro x10 hx10
        refine ⟨_, cn_lt2 hn36 ?_ ?_, rfl, ?_⟩
        · clear h; rw [hx10]; exact u.1  -- d11
        · clear h; rw [hx10]; exact u.2.1  -- d12
        · clear h; rw [hx10]; exact ⟨H, u.2.2.1, u.2.2.2.1⟩  -- i13
      · skip
        refine ⟨ib_1001.mpr ?_, ?_⟩
        · clear h; exact ⟨st.2.2.2.2.2.1, st.2.2.2.2.2.2⟩  -- b14
        refine ⟨fun c11 => ?_, fun c11 => ?_⟩
        · skip
          intro x12 hx12
          refine ⟨_, cn_lt2 hn36 ?_ ?_, rfl, ?_⟩
          · clear h; rw [hx12]; exact u.1  -- d15
          · clear h; rw [hx12]; exact u.2.1  -- d16
          · clear h; rw [hx12]; exact ⟨H, u.2.2.1, u.2.2.2.1⟩  -- i17
        · skip
          have z := u2 i0 c11 hi2
          refine ⟨ib_20000.mpr ?_, ?_⟩
          · clear h; exact ⟨i0, z.2.2.2.2.2.2⟩  -- b18
          refine ⟨fun c13 => ?_, fun c13 => ?_⟩
          · skip
            intro x14 hx14
            refine ⟨_, cn_lt2 hn51 ?_ ?_, rfl, ?_⟩
            · clear h; rw [hx14]; exact z.1  -- d19
            · clear h; rw [hx14]; exact z.2.1  -- d20
            · clear h; rw [hx14]; exact ⟨rfl, H, Int32.le_trans w1 z.2.2.2.1, z.2.2.2.2.1⟩  -- i21
          · skip
            refine isTaken_c hC  ?_ (fun r15 q17 => ?_)
            · clear h; exact ⟨b0, u.2.2.2.2.2⟩  -- p22
            refine ⟨fun c18 => ?_, fun c18 => ?_⟩
            · skip
              intro x19 hx19
              refine ⟨_, cn_lt2 hn51 ?_ ?_, rfl, ?_⟩
              · clear h; rw [hx19]; exact z.1  -- d23
              · clear h; rw [hx19]; exact z.2.1  -- d24
              · clear h; rw [hx19]; exact ⟨rfl, H, Int32.le_trans w1 z.2.2.2.1, z.2.2.2.2.1⟩  -- i25
            · skip
              refine ⟨ib_20000.mpr ?_, ?_⟩
              · clear h; exact ⟨i0, z.2.2.2.2.2.2⟩  -- b26
              refine ⟨ib_1000.mpr ?_, ?_⟩
              · clear h; have q := (hO.1.2.2.2.2 _ (cn_lt i0 (Int32.lt_of_lt_of_le z.2.2.2.2.2.1 st.2.2.1))).2.2 c13
                rw [h78]
                exact ⟨q.1, Int32.lt_of_lt_of_le q.2 hO.1.2.1.2⟩
              intro σ_20 hσ_20
              intro x21 hx21
              refine ⟨_, cn_lt2 hn51 ?_ ?_, rfl, ?_⟩
              · clear h; rw [hx21]; exact z.1  -- d28
              · clear h; rw [hx21]; exact z.2.1  -- d29
              · clear h; rw [hx21, hσ_20]; exact ⟨rfl, frX_tr H (frX_1 (by decide)), Int32.le_trans w1 z.2.2.2.1, z.2.2.2.2.1⟩  -- i30
  · skip
    refine ⟨fun c22 => ?_, fun c22 => ?_⟩
    · skip
      refine hj27 _ _ _ _ ?_
      · clear h; exact ⟨rfl, rfl, c3, rfl⟩  -- k31
    · skip
      refine hj27 _ _ _ _ ?_
      · clear h; exact ⟨rfl, rfl, c3, rfl⟩  -- k32

theorem isGlobal_c {C : rCx} (hC : cOK C)  {σ : rS} {a1 : Int32} {Q : Int32 → rS → Prop} (h : ∀ (v : Int32), (nb v ∧ (v ≠ 0 ↔ 0 ≤ a1 ∧ a1 < σ.1 15 + σ.1 17)) → Q v σ) : cI C 1 m_isGlobal [.ref (co C), .int a1] σ Q := by
  refine m_isGlobal_run hC ?_
  unfold w_isGlobal_0
  refine isSlot_c hC  (fun r1 q3 => ?_)
  refine ⟨?_, h _ ?_⟩
  · clear h; exact q3.1  -- b1
  · clear h; exact q3  -- q2
