set_option maxHeartbeats 1600000
/-! the reference: rows of states stay; a state that chooses has as many nexts as ways -/
def rk21 (σ σ' : rS) : Prop := ∀ j : Int32, 0 ≤ j → j < 143 * σ.1 70 → rd σ' 73 j = rd σ 73 j
def ot21 (σ τ : rS) (k : Nat) : Prop := (∀ j, j ≠ k → τ.2.2.1 81 j = σ.2.2.1 81 j) ∧ ∀ j, j ≠ k → j ≠ k + 1 → τ.2.2.1 76 j = σ.2.2.1 76 j
def gw21 (σ : rS) (a : Int32) : rS × Int32 := g5_act (g5_unpack a (riU σ 76 a.toNatClampNeg (σ.1 72)))
def XA21 (σ : rS) (a : Int32) (τ : rS) (h : Int32) : Prop := (∃ σ5, gw21 σ a = (σ5, h) ∧ τ.1 63 = σ5.1 63) ∧ rk21 σ τ ∧ ot21 σ τ a.toNatClampNeg
theorem XA_n21 {σ τ υ : rS} {a h : Int32} (x : XA21 σ a τ h) (e : υ.1 63 = τ.1 63) (k : rk21 σ υ) (h1 : υ.2.2.1 81 = τ.2.2.1 81) (h2 : υ.2.2.1 76 = τ.2.2.1 76) : XA21 σ a υ h := by
  obtain ⟨⟨σ5, w1, w2⟩, _, w4⟩ := x
  exact ⟨⟨σ5, w1, e.trans w2⟩, k, fun j hj => by rw [h1]; exact w4.1 j hj, fun j g1 g2 => by rw [h2]; exact w4.2 j g1 g2⟩
theorem XA_s21 {σ τ υ : rS} {a h : Int32} (x : XA21 σ a τ h) (e : υ.1 63 = τ.1 63) (h0 : υ.2.2.1 73 = τ.2.2.1 73) (h1 : υ.2.2.1 81 = τ.2.2.1 81) (h2 : υ.2.2.1 76 = τ.2.2.1 76) : XA21 σ a υ h := XA_n21 x e (fun j a b => by rw [rd, h0]; exact x.2.1 j a b) h1 h2
theorem m143_21 {x : Int32} (h0 : 0 ≤ x.toInt) (h1 : x.toInt ≤ 1000) : (143 * x).toInt = 143 * x.toInt := by
  have l : (143 : Int32).toInt = 143 := rfl
  rw [mul_i (by rw [l]; omega) (by rw [l]; omega), l]
theorem rk_t21 {σ τ υ : rS} (h : rk21 σ τ) (g : rk21 τ υ) (h0 : 0 ≤ σ.1 70) (h1 : σ.1 70 ≤ τ.1 70) (h2 : τ.1 70 ≤ 1000) : rk21 σ υ := fun j a b => by
  have l : (1000 : Int32).toInt = 1000 := rfl
  rw [lei, t0i] at h0
  rw [lei] at h1
  rw [lei, l] at h2
  refine (g j a ?_).trans (h j a b)
  rw [lti, m143_21 (by omega) (by omega)] at b ⊢
  omega
theorem stateNumber_n21 {C : rCx} (hC : cOK C)  {σ : rS}  {Q : Int32 → rS → Prop} (hp : csF σ ∧ 0 ≤ σ.1 70 ∧ σ.1 70 ≤ σ.1 85 ∧ σ.1 85 ≤ 1000) (h : ∀ (v : Int32) (σ' : rS), ((frG [70] [73, 74, 84] σ σ' ∧ (0 ≤ σ'.1 70 ∧ σ.1 70 ≤ σ'.1 70 ∧ σ'.1 70 ≤ σ.1 85) ∧ (v = -1 ∨ (0 ≤ v ∧ v < σ'.1 70)) ∧ (∀ k : Int32, 0 ≤ k → k < σ.1 70 → rowOK σ k → rowOK σ' k) ∧ (∀ k : Int32, 0 ≤ k → σ.1 70 ≤ k → k < σ'.1 70 → rowOK σ' k)) ∧ (rk21 σ σ')) → Q v σ') : cI C 2 m_stateNumber [.ref (co C)] σ Q := by
  refine m_stateNumber_run hC ?_
  unfold w_stateNumber_0
  obtain ⟨hc, h0, h1, h2⟩ := hp
  refine stateNow_c hC  ?_ (fun r1 σ_2 q3 => ?_)
  · clear h; exact ⟨hc, h0, Int32.le_trans h1 h2⟩  -- p1
  have e70 : σ_2.1 70 = σ.1 70 := q3.1.1 70 (by decide)
  have old : ∀ v : Int32, (v = -1 ∨ (0 ≤ v ∧ v < σ.1 70)) → frG [70] [73, 74, 84] σ σ_2 ∧ (0 ≤ σ_2.1 70 ∧ σ.1 70 ≤ σ_2.1 70 ∧ σ_2.1 70 ≤ σ.1 85) ∧ (v = -1 ∨ (0 ≤ v ∧ v < σ_2.1 70)) ∧ (∀ k : Int32, 0 ≤ k → k < σ.1 70 → rowOK σ k → rowOK σ_2 k) ∧ (∀ k : Int32, 0 ≤ k → σ.1 70 ≤ k → k < σ_2.1 70 → rowOK σ_2 k) := fun v hv => by
    rw [e70]
    exact ⟨frG_mono q3.1 (by decide) (by decide), ⟨h0, Int32.le_refl _, h1⟩, hv, fun k _ _ r => row_o r (q3.1.2.2.1 73 (by decide)) (q3.1.2.2.1 30 (by decide)) (q3.1.1 19 (by decide)), fun k _ k1 k2 => absurd k2 (Int32.not_lt.mpr k1)⟩
  refine ⟨fun c4 => ?_, fun c4 => ?_⟩
  · skip
    refine h _ _ ?_
    · refine and_5 ?_ (fun o9 => ?_)  -- q2
      · clear h; exact old _ q3.2.2
      · clear o9
        exact fun j _ _ => by rw [rd, rd, q3.1.2.2.1 73 (by decide)]
  · skip
    refine ⟨fun c5 => ?_, fun c5 => ?_⟩
    · skip
      refine pack_c hC  ?_ (fun r6 σ_7 q8 => ?_)
      · clear h; rw [q3.1.1 58 (by decide)]; exact ⟨Int32.le_trans (by decide) hc.1.1, hc.1.2⟩  -- p3
      have lt := lt_85 h0 h1 h2 (by rw [← e70, ← q3.1.1 85 (by decide)]; exact c5)
      refine ⟨ib_1000.mpr ?_, ?_⟩
      · clear h; rw [e70]; exact ⟨h0, lt.1⟩  -- b4
      intro σ_9 hσ_9
      unfold w_stateNumber_38
      refine ⟨fun n l2 τ => n = (143 - l2).toNatClampNeg ∧ ((frG [] [73, 74, 84] σ τ ∧ 0 ≤ l2 ∧ l2 ≤ 143 ∧ kyN τ (σ.1 58) ∧ (∀ j : Int32, 0 ≤ j → j < 143 * σ.1 70 → rd τ 73 j = rd σ 73 j) ∧ (∀ j : Int32, 0 ≤ j → j < l2 → rd τ 73 (143 * σ.1 70 + j) = rd τ 84 j)) ∧ True), ⟨_, rfl, ?_⟩, ?_⟩
      · refine and_5 ?_ (fun o9 => trivial)  -- j5
        clear h; have f9 : frG [] [73, 74, 84] σ σ_9 := frG_tr (frG_mono q3.1 (by decide) (by decide)) (frG_tr (frG_mono q8.1 (by decide) (by decide)) (by rw [hσ_9]; exact frG_1 (by decide)))
        have k7 := q8.2
        rw [q3.1.1 58 (by decide)] at k7
        have r73 : σ_9.2.2.1 73 = σ.2.2.1 73 := by rw [hσ_9, ri3 (by decide), q8.1.2.2.1 73 (by decide), q3.1.2.2.1 73 (by decide)]
        exact ⟨f9, by decide, by decide, ky_o k7 (by rw [hσ_9, ri1]) (by rw [hσ_9, ri3 (by decide)]) (by rw [hσ_9, ri3 (by decide)]), fun j _ _ => by rw [rd, r73], fun j j0 j1 => absurd j1 (Int32.not_lt.mpr j0)⟩
      rintro n38 x38_2 σ38 ⟨hn38, i38, hE⟩
      refine ⟨fun c10 => ?_, fun c10 => ?_⟩
      · skip
        intro σ_11 hσ_11
        refine h _ _ ?_
        · refine and_5 ?_ (fun o9 => ?_)  -- q6
          · clear h; obtain ⟨y1, y2, y3, y4, y5, y6⟩ := i38
            have e : x38_2 = 143 := Int32.le_antisymm y3 c10
            have s11 : σ_11.2 = σ38.2 := by rw [hσ_11, si2]
            have e11 : ∀ k, k ≠ 70 → σ_11.1 k = σ.1 k := fun k hk => by rw [hσ_11, si1, if_neg hk]; exact y1.1 k (by simp)
            have e70' : σ_11.1 70 = σ.1 70 + 1 := by rw [hσ_11, si1, if_pos rfl, y1.1 70 (by decide)]
            have r30 : σ_11.2.2.1 30 = σ.2.2.1 30 := by rw [s11]; exact y1.2.2.1 30 (by decide)
            rw [e70', lt.2.2.2.2.1]
            refine ⟨frG_tr (frG_mono y1 (by decide) (by decide)) (by rw [hσ_11]; exact frG_0 (by decide)), ⟨lt.2.2.1, lt.2.2.2.1, lt.2.1⟩, Or.inr ⟨h0, lt.2.2.2.2.2⟩, fun k k0 k1 r => ?_, fun k k0 k1 k2 => ?_⟩
            · exact row_old r k0 k1 lt.1 r30 (e11 19 (by decide)) (fun j j0 j1 => by rw [rd, s11]; exact y5 j j0 j1)
            · have ek : k = σ.1 70 := by
                rcases l1k h0 lt.1 k2 with z | z
                · exact z
                · exact absurd z (Int32.not_lt.mpr k1)
              rw [ek]
              have e58 : σ38.1 58 = σ.1 58 := y1.1 58 (by decide)
              refine row_new hc h0 lt.1 (ky_o y4 ((e11 58 (by decide)).trans e58.symm) (by rw [s11]) (by rw [s11])) (fun j j0 j1 => ?_) (e11 58 (by decide)) (by rw [s11]; exact y1.2.2.1 59 (by decide)) r30 (e11 19 (by decide))
              rw [rd, rd, s11]
              exact y6 j j0 (by rw [e]; exact j1)
          · clear o9
            obtain ⟨y1, y2, y3, y4, y5, y6⟩ := i38
            intro j j0 j1
            rw [rd, hσ_11, si2]
            exact y5 j j0 j1
      · skip
        obtain ⟨y1, y2, y3, y4, y5, y6⟩ := i38
        have u := u143 y2 c10
        have e70' : σ38.1 70 = σ.1 70 := y1.1 70 (by decide)
        refine ⟨ib_143.mpr ?_, ?_⟩
        · clear h; exact ⟨y2, u.2.2.2.2⟩  -- b7
        refine ⟨ib_143000.mpr ?_, ?_⟩
        · clear h; rw [e70']; exact (xr h0 lt.1 y2 u.2.2.2.2).1  -- b8
        intro σ_12 hσ_12
        intro x13 hx13
        refine lp_b5 (cn_lt2 hn38 ?_ ?_) (fun d9 => ⟨rfl, ?_⟩)
        · clear h; rw [hx13]; exact u.1  -- d9
        · clear h; rw [hx13]; exact u.2.1  -- d10
        · refine and_5 ?_ (fun o9 => trivial)  -- i11
          clear h; rw [hx13]
          rw [e70'] at hσ_12
          refine ⟨frG_tr y1 (by rw [hσ_12]; exact frG_1 (by decide)), u.2.2.1, u.2.2.2.1, ky_o y4 (by rw [hσ_12, ri1]) (by rw [hσ_12, ri3 (by decide)]) (by rw [hσ_12, ri3 (by decide)]), fun j j0 j1 => ?_, fun j j0 j1 => ?_⟩
          · rw [rd, hσ_12, ri4, if_neg (cn_ne j0 (xr_in h0 lt.1 y2 u.2.2.2.2 j0 j1))]
            exact y5 j j0 j1
          · rw [rd, rd, hσ_12, ri4, ri3 (by decide)]
            rcases l1s y2 u.2.2.2.2 j1 with z | z
            · rw [z, if_pos rfl]
            · have w := xr_jn h0 lt.1 u.2.2.2.2 j0 z
              rw [if_neg (cn_ne w.2 w.1)]
              exact y6 j j0 z
    · skip
      refine h _ _ ?_
      · refine and_5 ?_ (fun o9 => ?_)  -- q12
        · clear h; exact old _ (Or.inl c4)
        · clear o9
          exact fun j _ _ => by rw [rd, rd, q3.1.2.2.1 73 (by decide)]

theorem addNext_n21 {C : rCx} (hC : cOK C)  {σ : rS} {a1 : Int32} {a2 : Int32} {a3 : Int32} {a4 : Int32} {Q : Int32 → rS → Prop} (hp : exRR9 σ ∧ (a1 = 0 ∨ a1 = 1 ∨ a1 = 2 ∨ a1 = 3) ∧ (a1 = 0 → csF σ) ∧ 0 ≤ a4 ∧ a4 ≤ σ.1 72 ∧ 1 ≤ a2 ∧ (∀ i, a4.toNatClampNeg ≤ i → i < (σ.1 72).toNatClampNeg → 1 ≤ σ.2.2.1 79 i) ∧ wOf (σ.2.2.1 79) a4.toNatClampNeg ((σ.1 72).toNatClampNeg - a4.toNatClampNeg) + a2.toInt ≤ 8000000) (h : ∀ (v : Int32) (σ' : rS), ((frG anF anR σ σ' ∧ exRR9 σ' ∧ (σ.1 70 ≤ σ'.1 70 ∧ σ.1 71 ≤ σ'.1 71 ∧ σ.1 72 ≤ σ'.1 72) ∧ rwKR9 σ σ' ∧ nb v ∧ (v ≠ 0 → anQ σ σ' a4 a2 a3)) ∧ (rk21 σ σ')) → Q v σ') : cI C 3 m_addNext [.ref (co C), .int a1, .int a2, .int a3, .int a4] σ Q := by
  refine m_addNext_run hC ?_
  unfold w_addNext_0
  obtain ⟨hR, hh, hc, h0, h1, hw, hg, hs⟩ := hp
  have hj110 : ∀ (l1 : Int32) (l2 : Int32) (l5 : Int32) (τ : rS), ((l1 = a1 ∧ l2 = a2 ∧ anS σ τ a1 l5) ∧ rk21 σ τ) → w_addNext_110 C Q  l1 l2 l5 τ := by
    rintro y110_1 y110_2 y110_5 τ110 ⟨j110, hE⟩
    unfold w_addNext_110
    obtain ⟨z1, z2, z3⟩ := j110
    have b72 : 0 ≤ τ110.1 72 ∧ τ110.1 72 < 20000 → True := fun _ => trivial
    refine ⟨fun c1 => ?_, fun c1 => ?_⟩
    · skip
      refine ⟨ib_20000.mpr ?_, ?_⟩
      · clear h; exact ⟨z3.2.1.2.2.1, (le_ne z3.2.1.2.2.1 z3.2.1.2.2.2 (by decide) c1).1⟩  -- b1
      intro σ_2 hσ_2
      refine ⟨ib_20000.mpr ?_, ?_⟩
      · clear h; rw [hσ_2, ri1]; exact ⟨z3.2.1.2.2.1, (le_ne z3.2.1.2.2.1 z3.2.1.2.2.2 (by decide) c1).1⟩  -- b2
      intro σ_3 hσ_3
      refine ⟨ib_20000.mpr ?_, ?_⟩
      · clear h; rw [hσ_3, ri1, hσ_2, ri1]; exact ⟨z3.2.1.2.2.1, (le_ne z3.2.1.2.2.1 z3.2.1.2.2.2 (by decide) c1).1⟩  -- b3
      intro σ_4 hσ_4
      intro σ_5 hσ_5
      refine h _ _ ?_
      · refine and_5 ?_ (fun o9 => ?_)  -- q4
        · clear h; have e5 : ∀ k, k ≠ 72 → σ_5.1 k = τ110.1 k := fun k hk => by rw [hσ_5, si1, if_neg hk, hσ_4, ri1, hσ_3, ri1, hσ_2, ri1]
          have e72 : σ_5.1 72 = τ110.1 72 + 1 := by rw [hσ_5, si1, if_pos rfl, hσ_4, ri1, hσ_3, ri1, hσ_2, ri1]
          have r77 : σ_5.2.2.1 77 = upd (τ110.2.2.1 77) (τ110.1 72).toNatClampNeg a1 := by rw [hσ_5, si2, hσ_4, ri3 (by decide), hσ_3, ri3 (by decide), hσ_2, ri_row, z1]
          have r78 : σ_5.2.2.1 78 = upd (τ110.2.2.1 78) (τ110.1 72).toNatClampNeg y110_5 := by rw [hσ_5, si2, hσ_4, ri3 (by decide), hσ_3, ri_row, hσ_2, ri1, ri3 (by decide)]
          have r79 : σ_5.2.2.1 79 = upd (τ110.2.2.1 79) (τ110.1 72).toNatClampNeg a2 := by rw [hσ_5, si2, hσ_4, ri_row, hσ_3, ri1, ri3 (by decide), hσ_2, ri1, ri3 (by decide), z2]
          have w := an_app (j := a3) z3 hh h0 h1 hw hg c1 e5 e72 r77 r78 r79
          have fr : frG anF anR τ110 σ_5 := by rw [hσ_5, hσ_4, hσ_3, hσ_2]; exact frG_tr (frG_tr (frG_tr (frG_1 (by decide)) (frG_1 (by decide))) (frG_1 (by decide))) (frG_0 (by decide))
          exact ⟨frG_tr (frG_mono z3.1 (by decide) (by decide)) fr, w.1, ⟨by rw [e5 70 (by decide)]; exact z3.2.2.1.1, by rw [e5 71 (by decide)]; exact z3.2.2.1.2, w.2.1⟩, rw_o z3.2.2.2.1 (by rw [hσ_5, si2, hσ_4, ri3 (by decide), hσ_3, ri3 (by decide), hσ_2, ri3 (by decide)]) (by rw [hσ_5, si2, hσ_4, ri3 (by decide), hσ_3, ri3 (by decide), hσ_2, ri3 (by decide)]) (e5 19 (by decide)) (e5 70 (by decide)), nb_1, fun _ => w.2.2⟩
        · clear o9
          intro j j0 j1
          rw [rd, hσ_5, si2, hσ_4, ri3 (by decide), hσ_3, ri3 (by decide), hσ_2, ri3 (by decide)]
          exact hE j j0 j1
    · skip
      refine h _ _ ?_
      · refine and_5 ?_ (fun o9 => hE)  -- q5
        clear h; exact ⟨frG_mono z3.1 (by decide) (by decide), z3.2.1, ⟨z3.2.2.1.1, z3.2.2.1.2, by rw [z3.1.1 72 (by decide)]; exact Int32.le_refl _⟩, z3.2.2.2.1, nb_0, fun z => absurd rfl z⟩
  have hh55 : ∀ (l1 : Int32) (l2 : Int32) (l3 : Int32) (l5 : Int32) (l6 : Int32) (τ : rS), ((l1 = a1 ∧ l2 = a2 ∧ l3 = a3 ∧ anS σ τ a1 l5 ∧ a4 ≤ l6 ∧ l6 ≤ σ.1 72) ∧ rk21 σ τ) → w_addNext_55 C Q  l1 l2 l3 l5 l6 τ := by
    intro z1 z2 z3 z5 z6 τi hinit
    unfold w_addNext_55
    refine ⟨fun n l1 l2 l3 l5 l6 τ => n = (τ.1 72 - l6).toNatClampNeg ∧ ((l1 = a1 ∧ l2 = a2 ∧ l3 = a3 ∧ anS σ τ a1 l5 ∧ a4 ≤ l6 ∧ l6 ≤ σ.1 72) ∧ rk21 σ τ), ⟨_, rfl, hinit⟩, ?_⟩
    clear hinit
    rintro n55 x55_1 x55_2 x55_3 x55_5 x55_6 σ55 ⟨hn55, i55, hE⟩
    obtain ⟨z1, z2, z3, y1, y2, y3⟩ := i55
    have e72 : σ55.1 72 = σ.1 72 := y1.1.1 72 (by decide)
    have p0 : 0 ≤ x55_6 := Int32.le_trans h0 y2
    refine ⟨fun c6 => ?_, fun c6 => ?_⟩
    · skip
      refine hj110 _ _ _ _ ?_
      · refine and_5 ?_ (fun o9 => hE)  -- k6
        clear h; exact ⟨z1, z2, y1⟩
    · skip
      refine ⟨fun c7 => ?_, fun c7 => ?_⟩
      · skip
        refine hj110 _ _ _ _ ?_
        · refine and_5 ?_ (fun o9 => hE)  -- k7
          clear h; exact ⟨z1, z2, y1⟩
      · skip
        have u := u2 p0 c6 y1.2.1.2.2.2
        refine ⟨ib_20000.mpr ?_, ?_⟩
        · clear h; exact ⟨p0, u.2.2.2.2.2.2⟩  -- b8
        refine ⟨fun c8 => ?_, fun c8 => ?_⟩
        · skip
          intro x9 hx9
          refine lp_b5 (cn_lt2 hn55 ?_ ?_) (fun d9 => ⟨rfl, ?_⟩)
          · clear h; rw [hx9]; exact u.1  -- d9
          · clear h; rw [hx9]; exact u.2.1  -- d10
          · refine and_5 ?_ (fun o9 => hE)  -- i11
            clear h; rw [hx9]; exact ⟨z1, z2, z3, y1, Int32.le_trans y2 u.2.2.2.1, by rw [← e72]; exact u.2.2.2.2.1⟩
        · skip
          refine ⟨ib_20000.mpr ?_, ?_⟩
          · clear h; exact ⟨p0, u.2.2.2.2.2.2⟩  -- b12
          refine ⟨fun c10 => ?_, fun c10 => ?_⟩
          · skip
            intro x11 hx11
            refine lp_b5 (cn_lt2 hn55 ?_ ?_) (fun d9 => ⟨rfl, ?_⟩)
            · clear h; rw [hx11]; exact u.1  -- d13
            · clear h; rw [hx11]; exact u.2.1  -- d14
            · refine and_5 ?_ (fun o9 => hE)  -- i15
              clear h; rw [hx11]; exact ⟨z1, z2, z3, y1, Int32.le_trans y2 u.2.2.2.1, by rw [← e72]; exact u.2.2.2.2.1⟩
          · skip
            refine ⟨ib_20000.mpr ?_, ?_⟩
            · clear h; exact ⟨p0, u.2.2.2.2.2.2⟩  -- b16
            refine ⟨ib_20000.mpr ?_, ?_⟩
            · clear h; exact ⟨p0, u.2.2.2.2.2.2⟩  -- b17
            intro σ_12 hσ_12
            refine h _ _ ?_
            · refine and_5 ?_ (fun o9 => ?_)  -- q18
              · clear h; have e12 : ∀ k, σ_12.1 k = σ55.1 k := fun k => by rw [hσ_12, ri1]
                have w := an_join (j := a3) y1 h0 h1 hw hg hs y2 (by rw [← e72]; exact u.2.2.2.2.2.1) (by rw [← z3]; exact c7) e12 (by rw [hσ_12, ri3 (by decide)]) (by rw [hσ_12, ri3 (by decide)]) (by rw [hσ_12, ri_row, z2])
                exact ⟨frG_tr (frG_mono y1.1 (by decide) (by decide)) (by rw [hσ_12]; exact frG_1 (by decide)), w.1, ⟨by rw [e12]; exact y1.2.2.1.1, by rw [e12]; exact y1.2.2.1.2, w.2.1⟩, rw_o y1.2.2.2.1 (by rw [hσ_12, ri3 (by decide)]) (by rw [hσ_12, ri3 (by decide)]) (e12 19) (e12 70), nb_1, fun _ => w.2.2⟩
              · clear o9
                intro j j0 j1
                rw [rd, hσ_12, ri3 (by decide)]
                exact hE j j0 j1
  have hj36 : ∀ (l1 : Int32) (l2 : Int32) (l3 : Int32) (l4 : Int32) (s0 : Int32) (τ : rS), ((l1 = a1 ∧ l2 = a2 ∧ l3 = a3 ∧ l4 = a4 ∧ frG [70, 71] [73, 74, 75, 84] σ τ ∧ exRR9 τ ∧ (σ.1 70 ≤ τ.1 70 ∧ σ.1 71 ≤ τ.1 71) ∧ rwKR9 σ τ ∧ (a1 = 0 → s0 = -1 ∨ (0 ≤ s0 ∧ s0 < τ.1 70)) ∧ (a1 = 1 → s0 = -1 ∨ (0 ≤ s0 ∧ s0 < τ.1 71))) ∧ rk21 σ τ) → w_addNext_36 C Q  l1 l2 l3 l4 s0 τ := by
    rintro y36_1 y36_2 y36_3 y36_4 y36_s0 τ36 ⟨j36, hE⟩
    unfold w_addNext_36
    obtain ⟨z1, z2, z3, z4, y1, y2, y3, y4, y5, y6⟩ := j36
    refine ⟨fun c13 => ?_, fun c13 => ?_⟩
    · skip
      refine hh55 _ _ _ _ _ _ ?_
      · refine and_5 ?_ (fun o9 => hE)  -- j19
        clear h; exact ⟨z1, z2, z3, ⟨y1, y2, y3, y4, fun z => Or.resolve_left (y5 z) c13, fun z => Or.resolve_left (y6 z) c13⟩, by rw [z4]; exact Int32.le_refl _, by rw [z4]; exact h1⟩
    · skip
      refine ⟨fun c14 => ?_, fun c14 => ?_⟩
      · skip
        refine hh55 _ _ _ _ _ _ ?_
        · refine and_5 ?_ (fun o9 => hE)  -- j20
          clear h; rw [z1] at c14
          exact ⟨z1, z2, z3, ⟨y1, y2, y3, y4, fun z => absurd c14 (by rw [z]; decide), fun z => absurd c14 (by rw [z]; decide)⟩, by rw [z4]; exact Int32.le_refl _, by rw [z4]; exact h1⟩
      · skip
        refine h _ _ ?_
        · refine and_5 ?_ (fun o9 => hE)  -- q21
          clear h; exact ⟨frG_mono y1 (by decide) (by decide), y2, ⟨y3.1, y3.2, by rw [y1.1 72 (by decide)]; exact Int32.le_refl _⟩, y4, nb_0, fun z => absurd rfl z⟩
  have self : rwKR9 σ σ := ⟨fun _ _ _ r => r, fun k _ k1 k2 => absurd k2 (Int32.not_lt.mpr k1)⟩
  refine ⟨fun c15 => ?_, fun c15 => ?_⟩
  · skip
    refine ⟨fun c16 => ?_, fun c16 => ?_⟩
    · skip
      refine ⟨fun c17 => ?_, fun c17 => ?_⟩
      · skip
        refine hj36 _ _ _ _ _ _ ?_
        · refine and_5 ?_ (fun o9 => fun _ _ _ => rfl)  -- k22
          clear h; exact ⟨rfl, rfl, rfl, rfl, frG_refl, hR, ⟨Int32.le_refl _, Int32.le_refl _⟩, self, fun z => absurd z c15, fun z => absurd z c16⟩
      · skip
        refine hj36 _ _ _ _ _ _ ?_
        · refine and_5 ?_ (fun o9 => fun _ _ _ => rfl)  -- k23
          clear h; exact ⟨rfl, rfl, rfl, rfl, frG_refl, hR, ⟨Int32.le_refl _, Int32.le_refl _⟩, self, fun z => absurd z c15, fun z => absurd z c16⟩
    · skip
      refine endingNumber_c hC  ?_ (fun r18 σ_19 q20 => ?_)
      · clear h; exact hR.2.1  -- p24
      refine hj36 _ _ _ _ _ _ ?_
      · refine and_5 ?_ (fun o9 => ?_)  -- k25
        · clear h; have e := fun k hk => q20.1.1 k hk
          exact ⟨rfl, rfl, rfl, rfl, frG_mono q20.1 (by decide) (by decide), ⟨by rw [e 70 (by decide), e 85 (by decide)]; exact hR.1, ⟨q20.2.1.1, q20.2.1.2.2⟩, by rw [e 72 (by decide)]; exact hR.2.2⟩, ⟨by rw [e 70 (by decide)]; exact Int32.le_refl _, q20.2.1.2.1⟩, rw_o self (q20.1.2.2.1 73 (by decide)) (q20.1.2.2.1 30 (by decide)) (e 19 (by decide)) (e 70 (by decide)), fun z => absurd z c15, fun _ => q20.2.2⟩
        · clear o9
          exact fun j _ _ => by rw [rd, rd, q20.1.2.2.1 73 (by decide)]
  · skip
    refine stateNumber_n21 hC  ?_ (fun r21 σ_22 q23 => ?_)
    · clear h; exact ⟨hc c15, hR.1⟩  -- p26
    obtain ⟨q23, z9⟩ := q23
    refine hj36 _ _ _ _ _ _ ?_
    · refine and_5 ?_ (fun o9 => z9)  -- k27
      clear h; have e := fun k hk => q23.1.1 k hk
      exact ⟨rfl, rfl, rfl, rfl, frG_mono q23.1 (by decide) (by decide), ⟨⟨q23.2.1.1, by rw [e 85 (by decide)]; exact q23.2.1.2.2, by rw [e 85 (by decide)]; exact hR.1.2.2⟩, by rw [e 71 (by decide)]; exact hR.2.1, by rw [e 72 (by decide)]; exact hR.2.2⟩, ⟨q23.2.1.2.1, by rw [e 71 (by decide)]; exact Int32.le_refl _⟩, ⟨q23.2.2.2.1, q23.2.2.2.2⟩, fun _ => q23.2.2.1, fun z => absurd (c15.symm.trans z) (by decide)⟩

theorem expand_n21 {C : rCx} (hC : cOK C) (B T : Int32) {σ : rS} {a1 : Int32} {Q : Int32 → rS → Prop} (hp : exV σ B T a1 ∧ a1 < σ.1 70) (h : ∀ (v : Int32) (σ' : rS), ((frG exFR9 exRr σ σ' ∧ exKR9 σ σ' B T ∧ nb v ∧ (v ≠ 0 → exV σ' B T (a1 + 1))) ∧ (rk21 σ σ' ∧ ot21 σ σ' a1.toNatClampNeg ∧ (v ≠ 0 → σ'.2.2.1 76 a1.toNatClampNeg = σ.1 72 ∧ (σ'.2.2.1 81 a1.toNatClampNeg ≠ 0 → ∃ σ5, gw21 σ a1 = (σ5, 5) ∧ σ'.2.2.1 76 (a1.toNatClampNeg + 1) = σ.1 72 + σ5.1 63)))) → Q v σ') : cI C 10 m_expand [.ref (co C), .int a1] σ Q := by
  refine m_expand_run hC ?_
  unfold w_expand_0
  obtain ⟨⟨hI, hR, hrow, hnx, hk, hst, hz, hns⟩, hlt⟩ := hp
  have k1 : a1 < 1000 := Int32.lt_of_lt_of_le hlt (Int32.le_trans hR.1.2.1 hR.1.2.2)
  have hj176 : ∀ (l1 : Int32) (l4 : Int32) (τ : rS), ((l1 = a1 ∧ frG exFR9 exRr σ τ ∧ exKR9 σ τ B T ∧ nb l4 ∧ (l4 ≠ 0 → ∃ h, (h < 4 ∨ ouV h τ) ∧ (h < 4 ∨ h = 4 ∨ h = 5) ∧ exU τ a1 (σ.1 72) h (τ.1 63))) ∧ rk21 σ τ ∧ ot21 σ τ a1.toNatClampNeg ∧ (l4 ≠ 0 → rd τ 81 a1 ≠ 0 → ∃ σ5, gw21 σ a1 = (σ5, 5) ∧ τ.1 72 = σ.1 72 + σ5.1 63)) → w_expand_176 C Q  l1 l4 τ := by
    rintro y176_1 y176_4 τ176 ⟨j176, hE⟩
    unfold w_expand_176
    obtain ⟨e1, jf, jK, jn, jU⟩ := j176
    have kk := k1001 hk.1 k1
    refine ⟨ib_1001.mpr ?_, ?_⟩
    · clear h; rw [e1]; exact ⟨kk.1, kk.2.1⟩  -- b1
    intro σ_1 hσ_1
    refine ⟨?_, h _ _ ?_⟩
    · clear h; exact jn  -- b2
    · refine and_5 ?_ (fun o9 => ?_)  -- q3
      · clear h; have e11 : ∀ k, σ_1.1 k = τ176.1 k := fun k => by rw [hσ_1, ri1]
        have r11 : ∀ k, k ≠ 76 → σ_1.2.2.1 k = τ176.2.2.1 k := fun k hk => by rw [hσ_1, ri3 hk]
        have r76 : σ_1.2.2.1 76 = upd (τ176.2.2.1 76) (a1 + 1).toNatClampNeg (τ176.1 72) := by rw [hσ_1, ri_row, e1]
        have f1 : frG exFR9 exRr τ176 σ_1 := by rw [hσ_1]; exact frG_1 (by decide)
        have K1 : exKR9 σ σ_1 B T := exK_o jK f1 (e11 70) (e11 71) (e11 72) (r11 73 (by decide))
        refine ⟨frG_tr jf f1, K1, jn, fun z => ?_⟩
        obtain ⟨hw, ou, hh, U⟩ := jU z
        have U1 := U.1
        obtain ⟨w1, w2, w3, w4, w5, w6⟩ := U1
        have ra : ∀ j : Int32, 0 ≤ j → j ≠ a1 + 1 → rd σ_1 76 j = rd τ176 76 j := fun j j0 jn => by rw [rd, r76, upd_ne (cn_d j0 kk.1 jn)]
        have rb : rd σ_1 76 (a1 + 1) = τ176.1 72 := by rw [rd, r76, upd_eq]
        refine ⟨K1.1, K1.2.1, K1.2.2.2, fun i hi => ?_, ⟨kk.1, ?_⟩, fun j j0 j1 => ?_, fun y => absurd y kk.2.2.2.2.2, fun _ => by rw [rb, e11]⟩
        · rw [e11] at hi
          exact nx_mono (w1 i hi) (by rw [r11 77 (by decide)]) (by rw [r11 78 (by decide)]) (by rw [e11]; exact Int32.le_refl _) (by rw [e11]; exact Int32.le_refl _)
        · exact Int32.le_trans (k_s hk.1 hlt (Int32.le_trans hR.1.2.1 hR.1.2.2)) K1.2.2.1.1
        · rcases l1k hk.1 k1 j1 with y | y
          · rw [y]
            exact st_new U ou hh (by rw [ra a1 hk.1 kk.2.2.2.2.1]; exact w3) rb (e11 72) (r11 79 (by decide)) (by rw [rd, r11 80 (by decide)]) (by rw [rd, r11 81 (by decide)])
          · have x := j_kn j0 k1 y
            exact stOK_m (w2 j j0 y).1 (ra j j0 x.1) (ra (j + 1) x.2.2.1 x.2.1) (by rw [rd, r11 80 (by decide)]) (by rw [rd, r11 81 (by decide)]) (by rw [e11]; exact Int32.le_refl _) (fun i _ => by rw [r11 79 (by decide)])
      · clear o9
        obtain ⟨s3, s4, s5⟩ := hE
        have r11 : ∀ k, k ≠ 76 → σ_1.2.2.1 k = τ176.2.2.1 k := fun k hk => by rw [hσ_1, ri3 hk]
        have ks : (a1 + 1).toNatClampNeg = a1.toNatClampNeg + 1 := cn_succ hk.1 (Int32.lt_trans k1 (by decide))
        have r76 : ∀ j, σ_1.2.2.1 76 j = if j = a1.toNatClampNeg + 1 then τ176.1 72 else τ176.2.2.1 76 j := fun j => by rw [hσ_1, ri34, if_pos rfl, e1, ks]
        refine ⟨fun j a b => by rw [rd, r11 73 (by decide)]; exact s3 j a b, ⟨fun j hj => by rw [r11 81 (by decide)]; exact s4.1 j hj, fun j h1 h2 => by rw [r76, if_neg h2]; exact s4.2 j h1 h2⟩, fun z => ⟨?_, fun y => ?_⟩⟩
        · obtain ⟨_, _, _, U⟩ := jU z
          have f0 : τ176.2.2.1 76 a1.toNatClampNeg = σ.1 72 := U.1.2.2.1
          rw [r76, if_neg (by omega)]
          exact f0
        · rw [r11 81 (by decide)] at y
          obtain ⟨σ5, x1, x2⟩ := s5 z y
          exact ⟨σ5, x1, by rw [r76, if_pos rfl]; exact x2⟩
  have hh106 : ∀ (l1 : Int32) (l2 : Int32) (l3 : Int32) (l4 : Int32) (l5 : Int32) (τ : rS), ((l1 = a1 ∧ frG exFR9 exRr σ τ ∧ exKR9 σ τ B T ∧ l2 = σ.1 72 ∧ nb l4 ∧ 0 ≤ l5 ∧ l5 ≤ 64 ∧ (l3 < 4 ∨ l3 = 4 ∨ l3 = 5) ∧ (¬ l3 < 4 → ouV l3 τ ∧ l5 ≤ τ.1 63) ∧ (l4 ≠ 0 → exU τ a1 (σ.1 72) l3 l5)) ∧ XA21 σ a1 τ l3) → w_expand_106 C Q  l1 l2 l3 l4 l5 τ := by
    intro z1 z2 z3 z4 z5 τi hinit
    unfold w_expand_106
    refine ⟨fun n l1 l2 l3 l4 l5 τ => n = (64 - l5).toNatClampNeg ∧ ((l1 = a1 ∧ frG exFR9 exRr σ τ ∧ exKR9 σ τ B T ∧ l2 = σ.1 72 ∧ nb l4 ∧ 0 ≤ l5 ∧ l5 ≤ 64 ∧ (l3 < 4 ∨ l3 = 4 ∨ l3 = 5) ∧ (¬ l3 < 4 → ouV l3 τ ∧ l5 ≤ τ.1 63) ∧ (l4 ≠ 0 → exU τ a1 (σ.1 72) l3 l5)) ∧ XA21 σ a1 τ l3), ⟨_, rfl, hinit⟩, ?_⟩
    clear hinit
    rintro n106 x106_1 x106_2 x106_3 x106_4 x106_5 σ106 ⟨hn106, i106, hE⟩
    have hj164 : ∀ (l1 : Int32) (l2 : Int32) (l3 : Int32) (l5 : Int32) (s1 : Int32) (s2 : Int32) (s3 : Int32) (τ : rS), ((l1 = a1 ∧ frG exFR9 exRr σ τ ∧ exKR9 σ τ B T ∧ l2 = σ.1 72 ∧ l3 = x106_3 ∧ l5 = x106_5 ∧ ¬ x106_3 < 4 ∧ ouV x106_3 τ ∧ ¬ τ.1 63 ≤ x106_5 ∧ exU τ a1 (σ.1 72) x106_3 x106_5 ∧ ((s1 = 0 ∧ csF τ) ∨ s1 = 1) ∧ s2 = rd τ 65 x106_5 ∧ ¬ s2 ≤ 0 ∧ (x106_3 = 5 → s3 = 0)) ∧ XA21 σ a1 τ x106_3) → w_expand_164 C Q (fun l1' l2' l3' l4' l5' τ => ∃ k < n106, (fun n l1 l2 l3 l4 l5 τ => n = (64 - l5).toNatClampNeg ∧ ((l1 = a1 ∧ frG exFR9 exRr σ τ ∧ exKR9 σ τ B T ∧ l2 = σ.1 72 ∧ nb l4 ∧ 0 ≤ l5 ∧ l5 ≤ 64 ∧ (l3 < 4 ∨ l3 = 4 ∨ l3 = 5) ∧ (¬ l3 < 4 → ouV l3 τ ∧ l5 ≤ τ.1 63) ∧ (l4 ≠ 0 → exU τ a1 (σ.1 72) l3 l5)) ∧ XA21 σ a1 τ l3)) k l1' l2' l3' l4' l5' τ) l1 l2 l3 l5 s1 s2 s3 τ := by
      rintro y164_1 y164_2 y164_3 y164_5 y164_s1 y164_s2 y164_s3 τ164 ⟨j164, hE⟩
      unfold w_expand_164
      obtain ⟨e1, g1, g2, g3, g4, g5, g6, g7, g8, g9, ga, gb, gc, gd⟩ := j164
      have x50 : 0 ≤ x106_5 := i106.2.2.2.2.2.1
      have u := up_n x50 g8 g7.2.2.1
      have u64 := up_n x50 (Int32.not_le.mpr u.2.2.2.2.2) (by decide : (64 : Int32) ≤ 64)
      have x51 : x106_5 < 1000000 := Int32.lt_trans u.2.2.2.2.2 (by decide)
      have es : wsum (τ164.2.2.1 65) (x106_5 + 1).toNatClampNeg = wsum (τ164.2.2.1 65) x106_5.toNatClampNeg + y164_s2.toInt := by rw [cn_succ x50 x51, gb]; rfl
      have ws : wsum (τ164.2.2.1 65) (x106_5 + 1).toNatClampNeg ≤ 8000000 := Int.le_trans (wsum_mono (fun i hi => t0 (g7.2.2.2.1 i hi)) (cn_l u.2.2.2.1 u.2.2.1)) g7.2.2.2.2.2.1
      refine addNext_n21 hC  ?_ (fun r2 σ_3 q4 => ?_)
      · clear h; refine ⟨g2.2.1, ?_, fun z => ?_, by rw [g3]; exact g9.1.2.2.2.2.1, by rw [g3]; exact g9.1.2.2.2.1, pos1 gc, by rw [g3]; exact g9.1.2.2.2.2.2, by rw [g3, (g9.2.2.2 g6).1, ← es]; exact ws⟩
        · rcases ga with y | y
          · exact Or.inl y.1
          · exact Or.inr (Or.inl y)
        · rcases ga with y | y
          · exact y.2
          · exact absurd (z.symm.trans y) (by decide)
      obtain ⟨q4, z9⟩ := q4
      intro x5 hx5
      refine lp_b5 (cn_lt2 hn106 ?_ ?_) (fun d9 => ⟨rfl, ?_⟩)
      · clear h; rw [hx5, g5]; exact u64.1  -- d5
      · clear h; rw [hx5, g5]; exact u64.2.1  -- d6
      · refine and_5 ?_ (fun o9 => ?_)  -- i7
        · clear h; refine ⟨e1, frG_tr g1 (frG_mono q4.1 (by decide) (by decide)), exK_an g2 q4.1 q4.2.1 q4.2.2.1 q4.2.2.2.1, g3, q4.2.2.2.2.1, by rw [hx5, g5]; exact u64.2.2.1, by rw [hx5, g5]; exact u64.2.2.2.1, by rw [g4]; exact i106.2.2.2.2.2.2.2.1, fun z => ⟨by rw [g4]; exact ou_o g7 (q4.1.1 67 (by decide)) (q4.1.1 63 (by decide)) (q4.1.1 66 (by decide)) (q4.1.2.2.1 65 (by decide)), by rw [hx5, g5, q4.1.1 63 (by decide)]; exact u.2.2.2.1⟩, fun z => ?_⟩
          have A := q4.2.2.2.2.2 z
          rw [g3] at A
          rw [g4, hx5, g5]
          have U4 := g9.2.2.2 g6
          refine ⟨exW_an g9.1 q4.1 q4.2.2.1 A, by rw [rd, q4.1.2.2.1 81 (by decide)]; exact g9.2.1, fun y => absurd y g6, fun _ => ⟨?_, fun h4 => ?_, fun h5 => ?_⟩⟩
          · rw [A.2.2.2.2.1, U4.1, q4.1.2.2.1 65 (by decide), es]
          · rw [rd, q4.1.2.2.1 80 (by decide), q4.1.1 66 (by decide)]; exact U4.2.1 h4
          · rw [A.2.2.2.2.2.2 (gd h5)]; exact fx1 (U4.2.2 h5)
        · clear o9
          rw [g4]
          exact XA_n21 hE (q4.1.1 63 (by decide)) (rk_t21 hE.2.1 z9 hR.1.1 g2.2.2.1.1 (Int32.le_trans g2.2.1.1.2.1 g2.2.1.1.2.2)) (q4.1.2.2.1 81 (by decide)) (q4.1.2.2.1 76 (by decide))
    obtain ⟨e1, o1, o2, o3, o4, o5, o6, o7, o8, o9⟩ := i106
    refine ⟨fun c6 => ?_, fun c6 => ?_⟩
    · skip
      refine hj176 _ _ _ ?_
      · refine and_5 ?_ (fun o9 => ?_)  -- k8
        · clear h; exact ⟨e1, o1, o2, o4, fun z => ⟨x106_3, Or.inl c6, o7, exU_lt (o9 z) c6⟩⟩
        · clear o9
          obtain ⟨_, s3, s4⟩ := hE
          refine ⟨s3, s4, fun z y => ?_⟩
          have e := (o9 z).2.1
          rw [if_neg (fun q => by rw [q] at c6; exact absurd c6 (by decide))] at e
          exact absurd e y
    · skip
      refine ⟨fun c7 => ?_, fun c7 => ?_⟩
      · skip
        refine hj176 _ _ _ ?_
        · refine and_5 ?_ (fun o9 => ?_)  -- k9
          · clear h; have e : x106_5 = σ106.1 63 := Int32.le_antisymm (o8 c6).2 c7
            refine ⟨e1, o1, o2, o4, fun z => ⟨x106_3, Or.inr (o8 c6).1, o7, ?_⟩⟩
            have w := o9 z
            rw [e] at w
            exact w
          · clear o9
            obtain ⟨⟨σ5, s1, s2⟩, s3, s4⟩ := hE
            refine ⟨s3, s4, fun z y => ?_⟩
            have e := (o9 z).2.1
            have h5 : x106_3 = 5 := Decidable.byContradiction (fun q => y (by rw [e, if_neg q]))
            have e9 : x106_5 = σ106.1 63 := Int32.le_antisymm (o8 c6).2 c7
            have U4 := ((o9 z).2.2.2 c6).2.2 h5
            rw [h5] at s1
            exact ⟨σ5, s1, by rw [U4, e9, s2]⟩
      · skip
        refine ⟨fun c8 => ?_, fun c8 => ?_⟩
        · skip
          refine hj176 _ _ _ ?_
          · refine and_5 ?_ (fun o9 => ?_)  -- k10
            · clear h; exact ⟨e1, o1, o2, o4, fun z => absurd c8 z⟩
            · clear o9
              obtain ⟨_, s3, s4⟩ := hE
              exact ⟨s3, s4, fun z => absurd c8 z⟩
        · skip
          have ou := (o8 c6).1
          have u := up_n o5 c7 ou.2.2.1
          have u64 := up_n o5 (Int32.not_le.mpr u.2.2.2.2.2) (by decide : (64 : Int32) ≤ 64)
          have lt5 := cn_lt o5 u.2.2.2.2.1
          have U := o9 c8
          have U4 := U.2.2.2 c6
          refine ⟨ib_64.mpr ?_, ?_⟩
          · clear h; exact ⟨o5, u.2.2.2.2.2⟩  -- b11
          refine ⟨fun c9 => ?_, fun c9 => ?_⟩
          · skip
            intro x10 hx10
            refine lp_b5 (cn_lt2 hn106 ?_ ?_) (fun d9 => ⟨rfl, ?_⟩)
            · clear h; rw [hx10]; exact u64.1  -- d12
            · clear h; rw [hx10]; exact u64.2.1  -- d13
            · refine and_5 ?_ (fun o9 => hE)  -- i14
              clear h; rw [hx10]
              have w0 : σ106.2.2.1 65 x106_5.toNatClampNeg = 0 := le0 c9 (ou.2.2.2.1 _ lt5)
              refine ⟨e1, o1, o2, o3, o4, u64.2.2.1, u64.2.2.2.1, o7, fun z => ⟨ou, u.2.2.2.1⟩, fun z => ⟨U.1, U.2.1, fun y => absurd y c6, fun y => ⟨?_, U4.2.1, fun h5 => ?_⟩⟩⟩
              · rw [cn_succ o5 (Int32.lt_trans u.2.2.2.2.2 (by decide))]
                show _ = wsum (σ106.2.2.1 65) x106_5.toNatClampNeg + (σ106.2.2.1 65 x106_5.toNatClampNeg).toInt
                rw [w0, Int32.toInt_zero, Int.add_zero]
                exact U4.1
              · have := (ou.2.2.2.2.2.2.2 h5).2 _ lt5
                rw [w0] at this
                exact absurd this (by decide)
          · skip
            refine unpack_g5 hC  ?_ (fun σ_11 q12 => ?_)
            · clear h; rw [e1]; exact ⟨hk.1, k1, o2.2.2.2 a1 hk.1 (Int32.lt_of_lt_of_le hlt o2.2.2.1.1)⟩  -- p15
            obtain ⟨q12, z9⟩ := q12
            have zu := z9
            have f11 : frG exFR9 exRr σ106 σ_11 := frG_mono q12.1 (by decide) (by decide)
            have K11 : exKR9 σ σ_11 B T := exK_o o2 f11 (q12.1.1 70 (by decide)) (q12.1.1 71 (by decide)) (q12.1.1 72 (by decide)) (q12.1.2.2.1 73 (by decide))
            refine get_c hC B T ?_ (fun r13 σ_14 q15 => ?_)
            · clear h; exact ⟨K11.1, q12.2, by rw [q12.1.1 67 (by decide)]; exact ou.1, o5, u.2.2.2.2.2⟩  -- p16
            have f15 : frG exFR9 exRr σ_11 σ_14 := frG_mono q15.1 (by decide) (by decide)
            have K14 : exKR9 σ σ_14 B T := exK_o K11 f15 (q15.1.1 70 (by decide)) (q15.1.1 71 (by decide)) (q15.1.1 72 (by decide)) (q15.1.2.2.1 73 (by decide))
            have ff : ∀ k, k = 63 ∨ k = 66 ∨ k = 67 ∨ k = 70 ∨ k = 71 ∨ k = 72 → σ_14.1 k = σ106.1 k := fun k hk => by
              rw [q15.1.1 k (by rcases hk with rfl | rfl | rfl | rfl | rfl | rfl <;> decide), q12.1.1 k (by rcases hk with rfl | rfl | rfl | rfl | rfl | rfl <;> decide)]
            have rr : ∀ k, k = 65 ∨ k = 76 ∨ k = 77 ∨ k = 78 ∨ k = 79 ∨ k = 80 ∨ k = 81 → σ_14.2.2.1 k = σ106.2.2.1 k := fun k hk => by
              rw [q15.1.2.2.1 k (by rcases hk with rfl | rfl | rfl | rfl | rfl | rfl | rfl <;> decide), q12.1.2.2.1 k (by rcases hk with rfl | rfl | rfl | rfl | rfl | rfl | rfl <;> decide)]
            have fin : ∀ s3 : Int32, (x106_3 = 5 → s3 = 0) → x106_1 = a1 ∧ frG exFR9 exRr σ σ_14 ∧ exKR9 σ σ_14 B T ∧ x106_2 = σ.1 72 ∧ x106_3 = x106_3 ∧ x106_5 = x106_5 ∧ ¬ x106_3 < 4 ∧ ouV x106_3 σ_14 ∧ ¬ σ_14.1 63 ≤ x106_5 ∧ exU σ_14 a1 (σ.1 72) x106_3 x106_5 ∧ ((r13 = 0 ∧ csF σ_14) ∨ r13 = 1) ∧ σ_14.2.2.1 65 x106_5.toNatClampNeg = rd σ_14 65 x106_5 ∧ ¬ σ_14.2.2.1 65 x106_5.toNatClampNeg ≤ 0 ∧ (x106_3 = 5 → s3 = 0) := fun s3 h3 => ⟨e1, frG_tr o1 (frG_tr f11 f15), K14, o3, rfl, rfl, c6, ou_o ou (ff 67 (by decide)) (ff 63 (by decide)) (ff 66 (by decide)) (rr 65 (by decide)), by rw [ff 63 (by decide)]; exact c7, exU_o U k1 (ff 66 (by decide)) (ff 70 (by decide)) (ff 71 (by decide)) (ff 72 (by decide)) rr, q15.2, rfl, by rw [rr 65 (by decide)]; exact c9, h3⟩
            refine ⟨ib_64.mpr ?_, ?_⟩
            · clear h; exact ⟨o5, u.2.2.2.2.2⟩  -- b17
            refine ⟨fun c16 => ?_, fun c16 => ?_⟩
            · skip
              refine hj164 _ _ _ _ _ _ _ _ ?_
              · refine and_5 ?_ (fun o9 => XA_s21 hE (ff 63 (by decide)) ((q15.1.2.2.1 73 (by decide)).trans (q12.1.2.2.1 73 (by decide))) (rr 81 (by decide)) (rr 76 (by decide)))  -- k18
                clear h; exact fin _ (fun _ => rfl)
            · skip
              refine hj164 _ _ _ _ _ _ _ _ ?_
              · refine and_5 ?_ (fun o9 => XA_s21 hE (ff 63 (by decide)) ((q15.1.2.2.1 73 (by decide)).trans (q12.1.2.2.1 73 (by decide))) (rr 81 (by decide)) (rr 76 (by decide)))  -- k19
                clear h; exact fin _ (fun z => absurd (c16.symm.trans z) (by decide))
  have hj84 : ∀ (l1 : Int32) (l2 : Int32) (l3 : Int32) (s1 : Int32) (s2 : Int32) (τ : rS), ((l1 = a1 ∧ frG exFR9 exRr σ τ ∧ exKR9 σ τ B T ∧ l2 = σ.1 72 ∧ s1 = a1 ∧ acQ l3 τ ∧ exWR9 τ a1 (σ.1 72) ∧ τ.1 72 = σ.1 72 ∧ rd τ 81 a1 = (if l3 = 5 then 1 else 0) ∧ (l3 < 4 → s2 = 1) ∧ (l3 = 4 → s2 = τ.1 66)) ∧ XA21 σ a1 τ l3) → w_expand_84 C Q  l1 l2 l3 s1 s2 τ := by
    rintro y84_1 y84_2 y84_3 y84_s1 y84_s2 τ84 ⟨j84, hE⟩
    unfold w_expand_84
    obtain ⟨e1, g1, g2, g3, g4, g5, g6, g7, g8, g9, ga⟩ := j84
    refine ⟨ib_1000.mpr ?_, ?_⟩
    · clear h; rw [g4]; exact ⟨hk.1, k1⟩  -- b20
    intro σ_17 hσ_17
    have e17 : ∀ k, σ_17.1 k = τ84.1 k := fun k => by rw [hσ_17, ri1]
    have r17 : ∀ k, k ≠ 80 → σ_17.2.2.1 k = τ84.2.2.1 k := fun k hk => by rw [hσ_17, ri3 hk]
    have r80 : σ_17.2.2.1 80 = upd (τ84.2.2.1 80) a1.toNatClampNeg y84_s2 := by rw [hσ_17, ri_row, g4]
    have f17 : frG exFR9 exRr τ84 σ_17 := by rw [hσ_17]; exact frG_1 (by decide)
    have K17 : exKR9 σ σ_17 B T := exK_o g2 f17 (e17 70) (e17 71) (e17 72) (r17 73 (by decide))
    have W17 : exWR9 σ_17 a1 (σ.1 72) := exW_o g6 k1 (e17 70) (e17 71) (e17 72) (r17 76 (by decide)) (r17 77 (by decide)) (r17 78 (by decide)) (r17 79 (by decide)) (fun j j0 j1 => by rw [rd, r80, upd_ne (cn_d j0 hk.1 (j_k j0 j1 k1).2.2.1)]) (fun j _ _ => by rw [rd, r17 81 (by decide)])
    have v80 : rd σ_17 80 a1 = y84_s2 := by rw [rd, r80, upd_eq]
    have c72 : σ_17.1 72 = σ.1 72 := (e17 72).trans g7
    have v81 : rd σ_17 81 a1 = (if y84_3 = 5 then 1 else 0) := by rw [rd, r17 81 (by decide)]; exact g8
    have A17 : acQ y84_3 σ_17 := ac_o g5 (fun k _ => e17 k) (fun k hk => r17 k (by rcases hk with rfl | rfl | rfl <;> decide))
    have a3 := ac_3 A17
    refine ⟨fun c18 => ?_, fun c18 => ?_⟩
    · skip
      refine hh106 _ _ _ _ _ _ ?_
      · refine and_5 ?_ (fun o9 => XA_s21 hE (e17 63) (r17 73 (by decide)) (r17 81 (by decide)) (r17 76 (by decide)))  -- j21
        clear h; have n4 : ¬ y84_3 < 4 := Int32.not_lt.mpr c18
        refine ⟨e1, frG_tr g1 f17, K17, g3, nb_1, by decide, by decide, a3.1, fun z => ⟨ou_of A17 z, Int32.le_trans (by decide) (ou_of A17 z).2.1⟩, fun _ => ⟨W17, v81, fun y => absurd y n4, fun _ => ⟨by rw [wOf_0 (by rw [c72])]; rfl, fun h4 => by rw [v80, ga h4, e17], fun h5 => by rw [c72]; exact fx0⟩⟩⟩
    · skip
      refine addNext_n21 hC  ?_ (fun r19 σ_20 q21 => ?_)
      · clear h; refine ⟨K17.2.1, (a3.2 c18).1, (a3.2 c18).2, by rw [g3]; exact hR.2.2.1, by rw [g3, c72]; exact Int32.le_refl _, by decide, fun i a b => ?_, ?_⟩
        · rw [g3] at a
          rw [c72] at b
          omega
        · rw [g3, wOf_0 (by rw [c72])]; decide
      obtain ⟨q21, z9⟩ := q21
      refine hh106 _ _ _ _ _ _ ?_
      · refine and_5 ?_ (fun o9 => ?_)  -- j23
        · clear h; have lt4 : y84_3 < 4 := nle4.mp c18
          refine ⟨e1, frG_tr g1 (frG_tr f17 (frG_mono q21.1 (by decide) (by decide))), exK_an K17 q21.1 q21.2.1 q21.2.2.1 q21.2.2.2.1, g3, q21.2.2.2.2.1, by decide, by decide, a3.1, fun z => absurd lt4 z, fun z => ?_⟩
          have A := q21.2.2.2.2.2 z
          rw [g3] at A
          refine ⟨exW_an W17 q21.1 q21.2.2.1 A, by rw [rd, q21.1.2.2.1 81 (by decide)]; exact v81, fun _ => ⟨A.2.2.2.2.2.1, ?_, ?_⟩, fun y => absurd lt4 y⟩
          · rw [rd, q21.1.2.2.1 80 (by decide)]; exact v80.trans (g9 lt4)
          · rw [A.2.2.2.2.1, wOf_0 (by rw [c72])]; rfl
        · clear o9
          have x17 := XA_s21 (υ := σ_17) hE (e17 63) (r17 73 (by decide)) (r17 81 (by decide)) (r17 76 (by decide))
          exact XA_n21 x17 (q21.1.1 63 (by decide)) (rk_t21 x17.2.1 z9 hR.1.1 K17.2.2.1.1 (Int32.le_trans K17.2.1.1.2.1 K17.2.1.1.2.2)) (q21.1.2.2.1 81 (by decide)) (q21.1.2.2.1 76 (by decide))
  have hj56 : ∀ (l1 : Int32) (l2 : Int32) (l3 : Int32) (s1 : Int32) (s2 : Int32) (τ : rS), ((l1 = a1 ∧ frG exFR9 exRr σ τ ∧ exKR9 σ τ B T ∧ l2 = σ.1 72 ∧ s1 = a1 ∧ acQ l3 τ ∧ exWR9 τ a1 (σ.1 72) ∧ τ.1 72 = σ.1 72 ∧ rd τ 81 a1 = (if l3 = 5 then 1 else 0)) ∧ XA21 σ a1 τ l3) → w_expand_56 C Q  l1 l2 l3 s1 s2 τ := by
    rintro y56_1 y56_2 y56_3 y56_s1 y56_s2 τ56 ⟨j56, hE⟩
    unfold w_expand_56
    obtain ⟨e1, g1, g2, g3, g4, g5, g6, g7, g8⟩ := j56
    refine ⟨ib_1000.mpr ?_, ?_⟩
    · clear h; rw [g4]; exact ⟨hk.1, k1⟩  -- b24
    intro σ_22 hσ_22
    have e22 : ∀ k, σ_22.1 k = τ56.1 k := fun k => by rw [hσ_22, ri1]
    have r22 : ∀ k, k ≠ 82 → σ_22.2.2.1 k = τ56.2.2.1 k := fun k hk => by rw [hσ_22, ri3 hk]
    have f22 : frG exFR9 exRr τ56 σ_22 := by rw [hσ_22]; exact frG_1 (by decide)
    have fin : ∀ s2 : Int32, (y56_3 < 4 → s2 = 1) → (y56_3 = 4 → s2 = σ_22.1 66) → y56_1 = a1 ∧ frG exFR9 exRr σ σ_22 ∧ exKR9 σ σ_22 B T ∧ y56_2 = σ.1 72 ∧ y56_1 = a1 ∧ acQ y56_3 σ_22 ∧ exWR9 σ_22 a1 (σ.1 72) ∧ σ_22.1 72 = σ.1 72 ∧ rd σ_22 81 a1 = (if y56_3 = 5 then 1 else 0) ∧ (y56_3 < 4 → s2 = 1) ∧ (y56_3 = 4 → s2 = σ_22.1 66) := fun s2 h1 h2 => ⟨e1, frG_tr g1 f22, exK_o g2 f22 (e22 70) (e22 71) (e22 72) (r22 73 (by decide)), g3, e1, ac_o g5 (fun k _ => e22 k) (fun k hk => r22 k (by rcases hk with rfl | rfl | rfl <;> decide)), exW_o g6 k1 (e22 70) (e22 71) (e22 72) (r22 76 (by decide)) (r22 77 (by decide)) (r22 78 (by decide)) (r22 79 (by decide)) (fun j _ _ => by rw [rd, r22 80 (by decide)]) (fun j _ _ => by rw [rd, r22 81 (by decide)]), (e22 72).trans g7, by rw [rd, r22 81 (by decide)]; exact g8, h1, h2⟩
    refine ⟨fun c23 => ?_, fun c23 => ?_⟩
    · skip
      refine ⟨fun c24 => ?_, fun c24 => ?_⟩
      · skip
        refine hj84 _ _ _ _ _ _ ?_
        · refine and_5 ?_ (fun o9 => XA_s21 hE (e22 63) (r22 73 (by decide)) (r22 81 (by decide)) (r22 76 (by decide)))  -- k25
          clear h; exact fin _ (fun _ => rfl) (fun z => absurd z c23)
      · skip
        refine hj84 _ _ _ _ _ _ ?_
        · refine and_5 ?_ (fun o9 => XA_s21 hE (e22 63) (r22 73 (by decide)) (r22 81 (by decide)) (r22 76 (by decide)))  -- k26
          clear h; exact fin _ (fun z => by rw [c24] at z; exact absurd z (by decide)) (fun z => absurd z c23)
    · skip
      refine hj84 _ _ _ _ _ _ ?_
      · refine and_5 ?_ (fun o9 => XA_s21 hE (e22 63) (r22 73 (by decide)) (r22 81 (by decide)) (r22 76 (by decide)))  -- k27
        clear h; exact fin _ (fun z => by rw [c23] at z; exact absurd z (by decide)) (fun _ => rfl)
  have hj37 : ∀ (l1 : Int32) (l2 : Int32) (l3 : Int32) (s1 : Int32) (s2 : Int32) (τ : rS), ((l1 = a1 ∧ frG exFR9 exRr σ τ ∧ exKR9 σ τ B T ∧ l2 = σ.1 72 ∧ s1 = a1 ∧ acQ l3 τ ∧ exWR9 τ a1 (σ.1 72) ∧ τ.1 72 = σ.1 72 ∧ s2 = (if l3 = 5 then 1 else 0)) ∧ XA21 σ a1 τ l3) → w_expand_37 C Q  l1 l2 l3 s1 s2 τ := by
    rintro y37_1 y37_2 y37_3 y37_s1 y37_s2 τ37 ⟨j37, hE⟩
    unfold w_expand_37
    obtain ⟨e1, g1, g2, g3, g4, g5, g6, g7, g8⟩ := j37
    refine ⟨ib_1000.mpr ?_, ?_⟩
    · clear h; rw [g4]; exact ⟨hk.1, k1⟩  -- b28
    intro σ_25 hσ_25
    have e25 : ∀ k, σ_25.1 k = τ37.1 k := fun k => by rw [hσ_25, ri1]
    have r25 : ∀ k, k ≠ 81 → σ_25.2.2.1 k = τ37.2.2.1 k := fun k hk => by rw [hσ_25, ri3 hk]
    have r81 : σ_25.2.2.1 81 = upd (τ37.2.2.1 81) a1.toNatClampNeg (if y37_3 = 5 then 1 else 0) := by rw [hσ_25, ri_row, g4, g8, vbo]
    have f25 : frG exFR9 exRr τ37 σ_25 := by rw [hσ_25]; exact frG_1 (by decide)
    have fin : y37_1 = a1 ∧ frG exFR9 exRr σ σ_25 ∧ exKR9 σ σ_25 B T ∧ y37_2 = σ.1 72 ∧ y37_1 = a1 ∧ acQ y37_3 σ_25 ∧ exWR9 σ_25 a1 (σ.1 72) ∧ σ_25.1 72 = σ.1 72 ∧ rd σ_25 81 a1 = (if y37_3 = 5 then 1 else 0) := ⟨e1, frG_tr g1 f25, exK_o g2 f25 (e25 70) (e25 71) (e25 72) (r25 73 (by decide)), g3, e1, ac_o g5 (fun k _ => e25 k) (fun k hk => r25 k (by rcases hk with rfl | rfl | rfl <;> decide)), exW_o g6 k1 (e25 70) (e25 71) (e25 72) (r25 76 (by decide)) (r25 77 (by decide)) (r25 78 (by decide)) (r25 79 (by decide)) (fun j _ _ => by rw [rd, r25 80 (by decide)]) (fun j j0 j1 => by rw [rd, r81, upd_ne (cn_d j0 hk.1 (j_k j0 j1 k1).2.2.1)]), (e25 72).trans g7, by rw [rd, r81, upd_eq]⟩
    refine ⟨fun c26 => ?_, fun c26 => ?_⟩
    · skip
      refine hj56 _ _ _ _ _ _ ?_
      · refine and_5 ?_ (fun o9 => ?_)  -- k29
        · clear h; exact fin
        · clear o9
          obtain ⟨⟨σ5, s1, s2⟩, s3, s4⟩ := hE
          exact ⟨⟨σ5, s1, (e25 63).trans s2⟩, fun j a b => by rw [rd, r25 73 (by decide)]; exact s3 j a b, fun j hj => by rw [r81, upd_ne hj]; exact s4.1 j hj, fun j h1 h2 => by rw [r25 76 (by decide)]; exact s4.2 j h1 h2⟩
    · skip
      refine hj56 _ _ _ _ _ _ ?_
      · refine and_5 ?_ (fun o9 => ?_)  -- k30
        · clear h; exact fin
        · clear o9
          obtain ⟨⟨σ5, s1, s2⟩, s3, s4⟩ := hE
          exact ⟨⟨σ5, s1, (e25 63).trans s2⟩, fun j a b => by rw [rd, r25 73 (by decide)]; exact s3 j a b, fun j hj => by rw [r81, upd_ne hj]; exact s4.1 j hj, fun j h1 h2 => by rw [r25 76 (by decide)]; exact s4.2 j h1 h2⟩
  intro x27 hx27
  refine ⟨ib_1001.mpr ?_, ?_⟩
  · clear h; exact ⟨hk.1, (k1001 hk.1 k1).2.2.1⟩  -- b31
  intro σ_28 hσ_28
  have e28 : ∀ k, σ_28.1 k = σ.1 k := fun k => by rw [hσ_28, ri1]
  have r28 : ∀ k, k ≠ 76 → σ_28.2.2.1 k = σ.2.2.1 k := fun k hk => by rw [hσ_28, ri3 hk]
  have f28 : frG exFR9 exRr σ σ_28 := by rw [hσ_28]; exact frG_1 (by decide)
  have K0 : exKR9 σ σ B T := ⟨hI, hR, ⟨Int32.le_refl _, Int32.le_refl _, Int32.le_refl _⟩, hrow⟩
  have K28 : exKR9 σ σ_28 B T := exK_o K0 f28 (e28 70) (e28 71) (e28 72) (r28 73 (by decide))
  have W28 : exWR9 σ_28 a1 (σ.1 72) := exW_0 ⟨hI, hR, hrow, hnx, hk, hst, hz, hns⟩ k1 (e28 70) (e28 71) (e28 72) (by rw [hσ_28, ri_row, hx27]) (fun k hk => r28 k (by rcases hk with rfl | rfl | rfl | rfl | rfl <;> decide))
  refine unpack_g5 hC  ?_ (fun σ_29 q30 => ?_)
  · clear h; exact ⟨hk.1, k1, K28.2.2.2 a1 hk.1 (by rw [e28]; exact hlt)⟩  -- p32
  obtain ⟨q30, z9⟩ := q30
  have zu := z9
  have f29 : frG exFR9 exRr σ_28 σ_29 := frG_mono q30.1 (by decide) (by decide)
  have K29 : exKR9 σ σ_29 B T := exK_o K28 f29 (q30.1.1 70 (by decide)) (q30.1.1 71 (by decide)) (q30.1.1 72 (by decide)) (q30.1.2.2.1 73 (by decide))
  refine act_g5 hC B T ?_ (fun r31 σ_32 q33 => ?_)
  · clear h; exact ⟨K29.1, q30.2⟩  -- p33
  obtain ⟨q33, z9⟩ := q33
  have f32 : frG exFR9 exRr σ_29 σ_32 := frG_mono q33.1 (by decide) (by decide)
  have K32 : exKR9 σ σ_32 B T := exK_o K29 f32 (q33.1.1 70 (by decide)) (q33.1.1 71 (by decide)) (q33.1.1 72 (by decide)) (q33.1.2.2.1 73 (by decide))
  have ff : ∀ k, k = 70 ∨ k = 71 ∨ k = 72 → σ_32.1 k = σ_28.1 k := fun k hk => by
    rw [q33.1.1 k (by rcases hk with rfl | rfl | rfl <;> decide), q30.1.1 k (by rcases hk with rfl | rfl | rfl <;> decide)]
  have rr : ∀ k, k = 76 ∨ k = 77 ∨ k = 78 ∨ k = 79 ∨ k = 80 ∨ k = 81 → σ_32.2.2.1 k = σ_28.2.2.1 k := fun k hk => by
    rw [q33.1.2.2.1 k (by rcases hk with rfl | rfl | rfl | rfl | rfl | rfl <;> decide), q30.1.2.2.1 k (by rcases hk with rfl | rfl | rfl | rfl | rfl | rfl <;> decide)]
  have W32 : exWR9 σ_32 a1 (σ.1 72) := exW_o W28 k1 (ff 70 (by decide)) (ff 71 (by decide)) (ff 72 (by decide)) (rr 76 (by decide)) (rr 77 (by decide)) (rr 78 (by decide)) (rr 79 (by decide)) (fun j _ _ => by rw [rd, rr 80 (by decide)]) (fun j _ _ => by rw [rd, rr 81 (by decide)])
  have fin : ∀ s2 : Int32, s2 = (if r31 = 5 then 1 else 0) → a1 = a1 ∧ frG exFR9 exRr σ σ_32 ∧ exKR9 σ σ_32 B T ∧ x27 = σ.1 72 ∧ a1 = a1 ∧ acQ r31 σ_32 ∧ exWR9 σ_32 a1 (σ.1 72) ∧ σ_32.1 72 = σ.1 72 ∧ s2 = (if r31 = 5 then 1 else 0) := fun s2 h2 => ⟨rfl, frG_tr f28 (frG_tr f29 f32), K32, hx27, rfl, q33.2, W32, (ff 72 (by decide)).trans (e28 72), h2⟩
  refine ⟨fun c34 => ?_, fun c34 => ?_⟩
  · skip
    refine hj37 _ _ _ _ _ _ ?_
    · refine and_5 ?_ (fun o9 => ?_)  -- k34
      · clear h; exact fin _ (by rw [if_neg c34])
      · clear o9
        have g : gw21 σ a1 = (σ_32, r31) := by
          unfold gw21
          rw [← hx27, ← hσ_28, zu]
          exact z9
        exact ⟨⟨σ_32, g, rfl⟩, fun j _ _ => by rw [rd, rd, q33.1.2.2.1 73 (by decide), q30.1.2.2.1 73 (by decide), r28 73 (by decide)], fun j _ => by rw [rr 81 (by decide), r28 81 (by decide)], fun j h1 _ => by rw [rr 76 (by decide), hσ_28, ri34, if_pos rfl, if_neg h1]⟩
  · skip
    refine hj37 _ _ _ _ _ _ ?_
    · refine and_5 ?_ (fun o9 => ?_)  -- k35
      · clear h; exact fin _ (by rw [if_pos c34])
      · clear o9
        have g : gw21 σ a1 = (σ_32, r31) := by
          unfold gw21
          rw [← hx27, ← hσ_28, zu]
          exact z9
        exact ⟨⟨σ_32, g, rfl⟩, fun j _ _ => by rw [rd, rd, q33.1.2.2.1 73 (by decide), q30.1.2.2.1 73 (by decide), r28 73 (by decide)], fun j _ => by rw [rr 81 (by decide), r28 81 (by decide)], fun j h1 _ => by rw [rr 76 (by decide), hσ_28, ri34, if_pos rfl, if_neg h1]⟩

def CW21 (σ σ' : rS) (k : Nat) : Prop := σ'.2.2.1 81 k ≠ 0 → ∃ σo, kR7 σ σo ∧ (∀ i, i < 143 → σo.2.2.1 73 (143 * k + i) = σ'.2.2.1 73 (143 * k + i)) ∧ ∃ σ5, g5_act (g5_unpack (Int32.ofNat k) σo) = (σ5, 5) ∧ (σ'.2.2.1 76 (k + 1)).toInt - (σ'.2.2.1 76 k).toInt ≤ (σ5.1 63).toInt
theorem CW_f21 {σ τ υ : rS} {k : Nat} (h : CW21 σ τ k) (h0 : ∀ i, i < 143 → υ.2.2.1 73 (143 * k + i) = τ.2.2.1 73 (143 * k + i)) (h1 : υ.2.2.1 81 k = τ.2.2.1 81 k) (h2 : υ.2.2.1 76 k = τ.2.2.1 76 k) (h3 : υ.2.2.1 76 (k + 1) = τ.2.2.1 76 (k + 1)) : CW21 σ υ k := by
  unfold CW21
  rw [h1, h2, h3]
  intro z
  obtain ⟨σo, a, b, c⟩ := h z
  exact ⟨σo, a, fun i hi => (b i hi).trans (h0 i hi).symm, c⟩
/-- a row below the number of states, by numbers -/
theorem rk_n21 {σ τ : rS} {k : Nat} (h : rk21 σ τ) (h0 : 0 ≤ (σ.1 70).toInt) (h1 : (σ.1 70).toInt ≤ 1000) (hk : (k : Int) < (σ.1 70).toInt) : ∀ i, i < 143 → τ.2.2.1 73 (143 * k + i) = σ.2.2.1 73 (143 * k + i) := fun i hi => by
  have e := ofn_i (n := 143 * k + i) (by omega)
  have z := h (Int32.ofNat (143 * k + i)) (by rw [lei, t0i, e]; omega) (by rw [lti, e, m143_21 h0 h1]; omega)
  rw [rd, rd, cl_5 (by omega)] at z
  exact z
theorem explore_n21 {C : rCx} (hC : cOK C)  {σ : rS} {a1 : Int32} {Q : Int32 → rS → Prop} (hp : tyAll σ ∧ (σ.1 14 ≠ 0 → ∃ T, progOK σ (σ.1 3) T) ∧ exP σ) (h : ∀ (v : Int32) (σ' : rS), ((frM xpF xpR σ σ' ∧ exP σ' ∧ tyAll σ' ∧ (σ'.1 14 ≠ 0 → ∃ T, progOK σ' (σ'.1 3) T) ∧ (((∀ k, k ≠ 0 → σ'.1 k = σ.1 k) ∧ σ'.2 = σ.2) ∨ (σ'.1 94 = 0 ∧ σ'.1 114 = 0))) ∧ ((σ'.1 0 = 0 → σ'.1 69 ≠ 0 → ∀ k, k < (σ'.1 70).toNatClampNeg → CW21 σ σ' k))) → Q v σ') : cI C 11 m_explore [.ref (co C), .int a1] σ Q := by
  refine m_explore_run hC ?_
  unfold w_explore_0
  obtain ⟨hT, hP, hX⟩ := hp
  have hT' : ∃ T, σ.1 14 ≠ 0 → rI σ (σ.1 3) T := by
    by_cases z : σ.1 14 = 0
    · exact ⟨0, fun y => absurd z y⟩
    · obtain ⟨T, g⟩ := hP z
      exact ⟨T, fun _ => ⟨hT, g⟩⟩
  obtain ⟨T, hI⟩ := hT'
  have ft : ∀ υ, frM xpF xpR σ υ → tyAll υ ∧ (υ.1 14 ≠ 0 → ∃ T, progOK υ (υ.1 3) T) := fun υ f => ⟨ty_M hT f (by decide) (by decide), fun z => ⟨T, by rw [f.1 3 (by decide)]; exact (rI_M (hI (by rw [← f.1 14 (by decide)]; exact z)) f (by decide) (by decide)).2⟩⟩
  have hj136 : ∀ (l2 : Int32) (τ : rS), ((frM xpF xpR σ τ ∧ rI τ (σ.1 3) T ∧ exRR9 τ ∧ nb l2 ∧ τ.1 94 = 0 ∧ τ.1 114 = 0 ∧ τ.1 88 = σ.1 88 ∧ (l2 ≠ 0 → exV τ (σ.1 3) T (τ.1 70))) ∧ (l2 ≠ 0 → ∀ j, j < (τ.1 70).toNatClampNeg → CW21 σ τ j)) → w_explore_136 C Q  l2 τ := by
    rintro y136_2 τ136 ⟨j136, hE⟩
    unfold w_explore_136
    obtain ⟨g1, g2, g3, g4, g5, g6, g7, g8⟩ := j136
    refine ⟨?_, ?_⟩
    · clear h; exact g4  -- b1
    intro σ_1 hσ_1
    refine ⟨fun c2 => ?_, fun c2 => ?_⟩
    · skip
      unfold w_explore_164
      refine ⟨fun n l3 τ => n = (τ.1 70 - l3).toNatClampNeg ∧ ((frM xpF xpR σ τ ∧ 0 ≤ l3 ∧ l3 ≤ τ.1 70 ∧ τ.1 94 = 0 ∧ τ.1 114 = 0 ∧ exV τ (σ.1 3) T (τ.1 70) ∧ ∀ j : Int32, 0 ≤ j → j < l3 → rd τ 83 j = 0) ∧ (∀ j, j < (τ.1 70).toNatClampNeg → CW21 σ τ j)), ⟨_, rfl, ?_⟩, ?_⟩
      · refine and_5 ?_ (fun o9 => ?_)  -- j2
        · clear h; have e1 : ∀ k, k ≠ 69 → σ_1.1 k = τ136.1 k := fun k hk => by rw [hσ_1, si1, if_neg hk]
          have V := g8 c2
          rw [e1 70 (by decide)]
          exact ⟨frM_tr g1 (by rw [hσ_1]; exact frM_0 (by decide)), by decide, V.2.1.1.1, by rw [e1 94 (by decide)]; exact g5, by rw [e1 114 (by decide)]; exact g6, exV_o V e1 (fun k _ => by rw [hσ_1, si2]), fun j j0 j1 => absurd j1 (Int32.not_lt.mpr j0)⟩
        · clear o9
          have e1 : ∀ k, k ≠ 69 → σ_1.1 k = τ136.1 k := fun k hk => by rw [hσ_1, si1, if_neg hk]
          have e2 : ∀ k, σ_1.2.2.1 k = τ136.2.2.1 k := fun k => by rw [hσ_1, si2]
          exact fun j hj => CW_f21 (hE c2 j (by rw [e1 70 (by decide)] at hj; exact hj)) (fun i _ => by rw [e2 73]) (by rw [e2 81]) (by rw [e2 76]) (by rw [e2 76])
      rintro n164 x164_3 σ164 ⟨hn164, i164, hE⟩
      obtain ⟨w1, w2, w3, w4, w5, w6, w7⟩ := i164
      refine ⟨fun c3 => ?_, fun c3 => ?_⟩
      · skip
        refine findRings_c hC  ?_ (fun σ_4 q5 => ?_)
        · clear h; exact exO_V w6  -- p3
        refine h _ _ ?_
        · refine and_5 ?_ (fun o9 => ?_)  -- q4
          · clear h; have e : x164_3 = σ164.1 70 := Int32.le_antisymm w3 c3
            rw [e] at w7
            have F : frM xpF xpR σ σ_4 := frM_tr w1 (frM_mono q5.1 (by decide) (by decide))
            have e70 : σ_4.1 70 = σ164.1 70 := q5.1.1 70 (by decide)
            have rr : ∀ k, k ≠ 87 → σ_4.2.2.1 k = σ164.2.2.1 k := fun k hk => q5.1.2.2.1 k (fun z => hk (by simpa using z))
            refine ⟨F, ⟨exO_o (exO_V w6) (fun k hk => q5.1.1 k (by rcases hk with rfl | rfl | rfl <;> decide)) (fun k hk => rr k (by omega)), fun j j0 j1 => ?_, fun j j0 j1 => ?_, q5.2.1, fun z a ha t => ?_⟩, (ft _ F).1, (ft _ F).2, Or.inr ⟨by rw [q5.1.1 94 (by decide)]; exact w4, by rw [q5.1.1 114 (by decide)]; exact w5⟩⟩
            · rw [e70] at j1
              obtain ⟨r1, r2, r3, -⟩ := w6.2.2.1 j j0 j1
              unfold rowR
              simp only [rd]
              rw [rr 73 (by decide)]
              exact ⟨r1, r2, fun c c0 c1 => ⟨(r3 c c0 c1).1, s150 w6.1 (r3 c c0 c1).2⟩⟩
            · rw [e70] at j1
              have sj := (w6.2.2.2.2.2.1 j j0 j1).1
              have p := w7 j j0 j1
              simp only [rd] at p sj ⊢
              rw [rr 83 (by decide), rr 76 (by decide), p]
              exact ⟨fun _ => rfl, fun _ => ⟨by decide, sub_pos sj.1 sj.2.1⟩⟩
            · rw [e70] at ha
              exact q5.2.2 z a ha (Tr_congr (fun a b e => (edN_o (fun k hk => rr k (by omega)) (by decide)).mp e) t)
          · clear o9
            have e70 : σ_4.1 70 = σ164.1 70 := q5.1.1 70 (by decide)
            have rr : ∀ k, k ≠ 87 → σ_4.2.2.1 k = σ164.2.2.1 k := fun k hk => q5.1.2.2.1 k (fun z => hk (by simpa using z))
            intro _ _ k hk
            rw [e70] at hk
            exact CW_f21 (hE k hk) (fun i _ => by rw [rr 73 (by decide)]) (by rw [rr 81 (by decide)]) (by rw [rr 76 (by decide)]) (by rw [rr 76 (by decide)])
      · skip
        have u := uk w2 c3 (Int32.le_trans w6.2.1.1.2.1 w6.2.1.1.2.2)
        refine ⟨ib_1000.mpr ?_, ?_⟩
        · clear h; exact ⟨w2, u.2.2.2.2.2⟩  -- b5
        intro σ_6 hσ_6
        intro x7 hx7
        refine lp_b5 (cn_lt2 hn164 ?_ ?_) (fun d9 => ⟨rfl, ?_⟩)
        · clear h; rw [hx7, hσ_6, ri1]; exact u.1  -- d6
        · clear h; rw [hx7, hσ_6, ri1]; exact u.2.1  -- d7
        · refine and_5 ?_ (fun o9 => ?_)  -- i8
          · clear h; have e6 : ∀ k, σ_6.1 k = σ164.1 k := fun k => by rw [hσ_6, ri1]
            rw [hx7, e6 70]
            refine ⟨frM_tr w1 (by rw [hσ_6]; exact frM_1 (by decide)), u.2.2.1, u.2.2.2.1, by rw [e6]; exact w4, by rw [e6]; exact w5, exV_o w6 (fun k _ => e6 k) (fun k hk => by rw [hσ_6, ri3 hk]), fun j j0 j1 => ?_⟩
            rw [rd, hσ_6, ri4]
            split
            · rfl
            · rename_i ne
              refine w7 j j0 ?_
              rcases l1k w2 u.2.2.2.2.2 j1 with z | z
              · exact absurd (by rw [z]) ne
              · exact z
          · clear o9
            have e6 : ∀ k, σ_6.1 k = σ164.1 k := fun k => by rw [hσ_6, ri1]
            have r6 : ∀ k, k ≠ 83 → σ_6.2.2.1 k = σ164.2.2.1 k := fun k hk => by rw [hσ_6, ri3 hk]
            exact fun j hj => CW_f21 (hE j (by rw [e6 70] at hj; exact hj)) (fun i _ => by rw [r6 73 (by decide)]) (by rw [r6 81 (by decide)]) (by rw [r6 76 (by decide)]) (by rw [r6 76 (by decide)])
    · skip
      intro σ_8 hσ_8
      intro σ_9 hσ_9
      intro σ_10 hσ_10
      refine h _ _ ?_
      · refine and_5 ?_ (fun o9 => fun _ z => absurd (by rw [hσ_10, si1, if_neg (by decide), hσ_9, si1, if_neg (by decide), hσ_8, si1, if_neg (by decide), hσ_1, si1, if_pos rfl]; exact c2) z)  -- q9
        clear h; have F : frM xpF xpR σ σ_10 := frM_tr g1 (frM_tr (by rw [hσ_1]; exact frM_0 (by decide) : frM xpF xpR τ136 σ_1) (by rw [hσ_10, hσ_9, hσ_8]; exact frM_tr (frM_tr (frM_0 (by decide)) (frM_0 (by decide))) (frM_0 (by decide))))
        have k : ∀ k, k ≠ 69 → k ≠ 70 → k ≠ 71 → k ≠ 72 → σ_10.1 k = τ136.1 k := fun k z1 z2 z3 z4 => by rw [hσ_10, si1, if_neg z4, hσ_9, si1, if_neg z3, hσ_8, si1, if_neg z2, hσ_1, si1, if_neg z1]
        exact ⟨F, exP_0 (by rw [hσ_10, si1, if_neg (by decide), hσ_9, si1, if_neg (by decide), hσ_8, si1, if_pos rfl]) (by rw [hσ_10, si1, if_neg (by decide), hσ_9, si1, if_pos rfl]) (by rw [hσ_10, si1, if_pos rfl]) (by rw [k 88 (by decide) (by decide) (by decide) (by decide), g7]; exact hX.2.2.2.1), (ft _ F).1, (ft _ F).2, Or.inr ⟨by rw [k 94 (by decide) (by decide) (by decide) (by decide)]; exact g5, by rw [k 114 (by decide) (by decide) (by decide) (by decide)]; exact g6⟩⟩
  have hh112 : ∀ (l2 : Int32) (l3 : Int32) (τ : rS), ((frM xpF xpR σ τ ∧ rI τ (σ.1 3) T ∧ exRR9 τ ∧ 0 ≤ l3 ∧ l3 ≤ 1000 ∧ nb l2 ∧ τ.1 94 = 0 ∧ τ.1 114 = 0 ∧ τ.1 88 = σ.1 88 ∧ (l2 ≠ 0 → exV τ (σ.1 3) T l3)) ∧ (l2 ≠ 0 → ∀ j, j < l3.toNatClampNeg → CW21 σ τ j)) → w_explore_112 C Q  l2 l3 τ := by
    intro z2 z3 τi hinit
    unfold w_explore_112
    refine ⟨fun n l2 l3 τ => n = (1001 - l3).toNatClampNeg ∧ ((frM xpF xpR σ τ ∧ rI τ (σ.1 3) T ∧ exRR9 τ ∧ 0 ≤ l3 ∧ l3 ≤ 1000 ∧ nb l2 ∧ τ.1 94 = 0 ∧ τ.1 114 = 0 ∧ τ.1 88 = σ.1 88 ∧ (l2 ≠ 0 → exV τ (σ.1 3) T l3)) ∧ (l2 ≠ 0 → ∀ j, j < l3.toNatClampNeg → CW21 σ τ j)), ⟨_, rfl, hinit⟩, ?_⟩
    clear hinit
    rintro n112 x112_2 x112_3 σ112 ⟨hn112, i112, hE⟩
    obtain ⟨v1, v2, v3, v4, v5, v6, v7, v8, v9, v10⟩ := i112
    refine ⟨fun c11 => ?_, fun c11 => ?_⟩
    · skip
      refine hj136 _ _ ?_
      · refine and_5 ?_ (fun o9 => ?_)  -- k10
        · clear h; refine ⟨v1, v2, v3, v6, v7, v8, v9, fun z => ?_⟩
          have V := v10 z
          have e : x112_3 = σ112.1 70 := Int32.le_antisymm V.2.2.2.2.1.2 c11
          rw [e] at V
          exact V
        · clear o9
          intro z j hj
          have e : x112_3 = σ112.1 70 := Int32.le_antisymm (v10 z).2.2.2.2.1.2 c11
          exact hE z j (by rw [e]; exact hj)
    · skip
      refine ⟨fun c12 => ?_, fun c12 => ?_⟩
      · skip
        refine hj136 _ _ ?_
        · refine and_5 ?_ (fun o9 => fun z => absurd c12 z)  -- k11
          clear h; exact ⟨v1, v2, v3, v6, v7, v8, v9, fun z => absurd c12 z⟩
      · skip
        refine expand_n21 hC (σ.1 3) T ?_ (fun r13 σ_14 q15 => ?_)
        · clear h; exact ⟨v10 c12, Int32.not_le.mp c11⟩  -- p12
        obtain ⟨q15, z9⟩ := q15
        have ze := z9
        intro x16 hx16
        have u := u1001 v4 (Int32.lt_of_lt_of_le (Int32.not_le.mp c11) (Int32.le_trans v3.1.2.1 v3.1.2.2))
        refine lp_b5 (cn_lt2 hn112 ?_ ?_) (fun d9 => ⟨rfl, ?_⟩)
        · clear h; rw [hx16]; exact u.1  -- d13
        · clear h; rw [hx16]; exact u.2.1  -- d14
        · refine and_5 ?_ (fun o9 => ?_)  -- i15
          · clear h; rw [hx16]; exact ⟨frM_tr v1 (frM_G q15.1 (by decide) (by decide)), q15.2.1.1, q15.2.1.2.1, u.2.2.1, u.2.2.2, q15.2.2.1, by rw [q15.1.1 94 (by decide)]; exact v7, by rw [q15.1.1 114 (by decide)]; exact v8, by rw [q15.1.1 88 (by decide)]; exact v9, q15.2.2.2⟩
          · clear o9
            intro z j hj
            have n0 := v4
            rw [lei, t0i] at n0
            have n1 := v5
            rw [lei, show (1000 : Int32).toInt = 1000 from rfl] at n1
            rw [hx16, (cn1 n0 (by omega)).1] at hj
            have c0 := cnk n0
            have s0 := v3.1.1
            have s1 := Int32.le_trans v3.1.2.1 v3.1.2.2
            rw [lei, t0i] at s0
            rw [lei, show (1000 : Int32).toInt = 1000 from rfl] at s1
            have lt := Int32.not_le.mp c11
            rw [lti] at lt
            obtain ⟨z1, z2, z3⟩ := ze
            by_cases c : j = x112_3.toNatClampNeg
            · rw [c]
              obtain ⟨y1, y2⟩ := z3 z
              intro y
              obtain ⟨σ5, x1, x2⟩ := y2 y
              have ej : Int32.ofNat x112_3.toNatClampNeg = x112_3 := Int32.toInt_inj.mp (by rw [ofn_i (by omega)]; omega)
              refine ⟨riU σ112 76 x112_3.toNatClampNeg (σ112.1 72), kR_f7 (fun g q => ?_) (fun g q => ?_) (fun i => ?_), fun i hi => ?_, σ5, by rw [ej]; exact x1, ?_⟩
              · rw [ri1]
                exact v1.1 g ((by decide : ∀ g, g ∈ kf7 → g ∉ xpF) g q)
              · rw [ri3 ((by decide : ∀ g, g ∈ kz7 → g ≠ 76) g q)]
                exact v1.2.2.1 g ((by decide : ∀ g, g ∈ kz7 → g ∉ xpR) g q)
              · show σ112.2.2.2 8 i = _
                rw [v1.2.2.2 8 (by decide)]
              · rw [ri3 (by decide)]
                exact (rk_n21 z1 s0 s1 (by omega) i hi).symm
              · rw [y1, x2]
                have V := q15.2.2.2 z
                have b2 := V.2.1.2.2
                have st := V.2.2.2.2.2.1 x112_3 v4 (by rw [lti, (cn1 n0 (by omega)).2]; omega)
                have b3 := st.1.2.2
                have b4 := st.1.1
                simp only [rd] at b3 b4
                rw [(cn1 n0 (by omega)).1, x2] at b3
                have b6 : σ_14.2.2.1 76 (x112_3.toNatClampNeg + 1) = σ112.1 72 + σ5.1 63 := x2
                have b5 := st.1.2.1
                simp only [rd] at b5
                rw [y1, (cn1 n0 (by omega)).1, x2] at b5
                rw [y1] at b4
                have l2 : (20000 : Int32).toInt = 20000 := rfl
                have b7 := Int32.le_trans b3 b2.2
                rw [lei, l2] at b7
                rw [lti] at b5
                rw [lei, t0i] at b4
                have e63 : σ5.1 63 = σ112.1 72 + σ5.1 63 - σ112.1 72 := by rw [Int32.add_comm, Int32.add_sub_cancel]
                have d := sub_i (x := σ112.1 72 + σ5.1 63) (y := σ112.1 72) (by omega) (by omega)
                rw [← e63] at d
                omega
            · have ff : σ112.2.2.1 76 x112_3.toNatClampNeg = σ112.1 72 := (v10 c12).2.2.2.2.2.2.2 (by rw [lei, t1i]; omega)
              refine CW_f21 (hE c12 j (by omega)) (rk_n21 z1 s0 s1 (by omega)) (z2.1 j c) (z2.2 j c (by omega)) ?_
              by_cases c2 : j + 1 = x112_3.toNatClampNeg
              · rw [c2, ff]
                exact (z3 z).1
              · exact z2.2 (j + 1) c2 (by omega)
  have hj28 : ∀ (l1 : Int32) (s1 : Int32) (τ : rS), ((σ = τ ∧ l1 = a1 ∧ (s1 ≤ 0 → σ.1 14 ≠ 0 ∧ 1 ≤ a1 ∧ a1 ≤ 1000)) ∧ True) → w_explore_28 C Q  l1 s1 τ := by
    rintro y28_1 y28_s1 _ ⟨⟨rfl, j28⟩, hE⟩
    unfold w_explore_28
    intro σ_17 hσ_17
    refine ⟨fun c18 => ?_, fun c18 => ?_⟩
    · skip
      intro σ_19 hσ_19
      intro σ_20 hσ_20
      intro σ_21 hσ_21
      intro σ_22 hσ_22
      intro σ_23 hσ_23
      intro σ_24 hσ_24
      refine begin_c hC (σ.1 3) T ?_ (fun r25 σ_26 q27 => ?_)
      · clear h; have e0 : σ_17.1 0 = y28_s1 := by rw [hσ_17, si1, if_pos rfl]
        have w := j28.2 (by rw [← e0]; exact c18)
        have F : frM xpF xpR σ σ_24 := by rw [hσ_24, hσ_23, hσ_22, hσ_21, hσ_20, hσ_19, hσ_17]; exact frM_tr (frM_tr (frM_tr (frM_tr (frM_tr (frM_tr (frM_0 (by decide)) (frM_0 (by decide))) (frM_0 (by decide))) (frM_0 (by decide))) (frM_0 (by decide))) (frM_0 (by decide))) (frM_0 (by decide))
        exact rI_M (hI w.1) F (by decide) (by decide)
      have e0 : σ_17.1 0 = y28_s1 := by rw [hσ_17, si1, if_pos rfl]
      have w := j28.2 (by rw [← e0]; exact c18)
      have F24 : frM xpF xpR σ σ_24 := by rw [hσ_24, hσ_23, hσ_22, hσ_21, hσ_20, hσ_19, hσ_17]; exact frM_tr (frM_tr (frM_tr (frM_tr (frM_tr (frM_tr (frM_0 (by decide)) (frM_0 (by decide))) (frM_0 (by decide))) (frM_0 (by decide))) (frM_0 (by decide))) (frM_0 (by decide))) (frM_0 (by decide))
      have I24 : rI σ_24 (σ.1 3) T := rI_M (hI w.1) F24 (by decide) (by decide)
      have v114 : σ_24.1 114 = 0 := by rw [hσ_24, si1, if_pos rfl]
      have v94 : σ_24.1 94 = 0 := by rw [hσ_24, si1, if_neg (by decide), hσ_23, si1, if_pos rfl]
      have v72 : σ_24.1 72 = 0 := by rw [hσ_24, si1, if_neg (by decide), hσ_23, si1, if_neg (by decide), hσ_22, si1, if_pos rfl]
      have v71 : σ_24.1 71 = 0 := by rw [hσ_24, si1, if_neg (by decide), hσ_23, si1, if_neg (by decide), hσ_22, si1, if_neg (by decide), hσ_21, si1, if_pos rfl]
      have v70 : σ_24.1 70 = 0 := by rw [hσ_24, si1, if_neg (by decide), hσ_23, si1, if_neg (by decide), hσ_22, si1, if_neg (by decide), hσ_21, si1, if_neg (by decide), hσ_20, si1, if_pos rfl]
      have v85 : σ_24.1 85 = a1 := by rw [hσ_24, si1, if_neg (by decide), hσ_23, si1, if_neg (by decide), hσ_22, si1, if_neg (by decide), hσ_21, si1, if_neg (by decide), hσ_20, si1, if_neg (by decide), hσ_19, si1, if_pos rfl]; exact j28.1
      have v88 : σ_24.1 88 = σ.1 88 := by rw [hσ_24, si1, if_neg (by decide), hσ_23, si1, if_neg (by decide), hσ_22, si1, if_neg (by decide), hσ_21, si1, if_neg (by decide), hσ_20, si1, if_neg (by decide), hσ_19, si1, if_neg (by decide), hσ_17, si1, if_neg (by decide)]
      have F26 : frM xpF xpR σ σ_26 := frM_tr F24 (frM_G q27.1 (by decide) (by decide))
      have I26 : rI σ_26 (σ.1 3) T := rI_fr I24 (frG_mono q27.1 (by decide) (by decide))
      have k26 : ∀ k, k ≠ 58 → k ≠ 61 → σ_26.1 k = σ_24.1 k := fun k z1 z2 => q27.1.1 k (by simp [z1, z2])
      refine ⟨fun c28 => ?_, fun c28 => ?_⟩
      · skip
        refine endingNumber_c hC  ?_ (fun r29 σ_30 q31 => ?_)
        · clear h; rw [k26 71 (by decide) (by decide), v71]; exact ⟨by decide, by decide⟩  -- p17
        have k30 : ∀ k, k ≠ 58 → k ≠ 61 → k ≠ 71 → σ_30.1 k = σ_24.1 k := fun k z1 z2 z3 => (q31.1.1 k (by simp [z3])).trans (k26 k z1 z2)
        have I30 : rI σ_30 (σ.1 3) T := rI_ex I26 (frG_mono q31.1 (by decide) (by decide))
        have R30 : exRR9 σ_30 := by
          unfold exRR9
          rw [k30 70 (by decide) (by decide) (by decide), k30 72 (by decide) (by decide) (by decide), k30 85 (by decide) (by decide) (by decide), v70, v72, v85]
          exact ⟨⟨by decide, Int32.le_trans (by decide) w.2.1, w.2.2⟩, ⟨q31.2.1.1, q31.2.1.2.2⟩, by decide, by decide⟩
        have fin : ∀ l2 : Int32, nb l2 → (l2 ≠ 0 → exV σ_30 (σ.1 3) T 0) → frM xpF xpR σ σ_30 ∧ rI σ_30 (σ.1 3) T ∧ exRR9 σ_30 ∧ (0 : Int32) ≤ 0 ∧ (0 : Int32) ≤ 1000 ∧ nb l2 ∧ σ_30.1 94 = 0 ∧ σ_30.1 114 = 0 ∧ σ_30.1 88 = σ.1 88 ∧ (l2 ≠ 0 → exV σ_30 (σ.1 3) T 0) := fun l2 h1 h2 => ⟨frM_tr F26 (frM_G q31.1 (by decide) (by decide)), I30, R30, by decide, by decide, h1, by rw [k30 94 (by decide) (by decide) (by decide)]; exact v94, by rw [k30 114 (by decide) (by decide) (by decide)]; exact v114, by rw [k30 88 (by decide) (by decide) (by decide)]; exact v88, h2⟩
        refine ⟨fun c32 => ?_, fun c32 => ?_⟩
        · skip
          refine hh112 _ _ _ ?_
          · refine and_5 ?_ (fun o9 => fun _ j hj => absurd hj (Nat.not_lt_zero _))  -- j18
            clear h; exact fin _ nb_0 (fun z => absurd rfl z)
        · skip
          refine hh112 _ _ _ ?_
          · refine and_5 ?_ (fun o9 => fun _ j hj => absurd hj (Nat.not_lt_zero _))  -- j19
            clear h; refine fin _ nb_1 (fun _ => exV_0 I30 R30 (by rw [k30 72 (by decide) (by decide) (by decide)]; exact v72) (fun j j0 j1 => ?_))
            rw [k30 70 (by decide) (by decide) (by decide), v70] at j1
            exact absurd j1 (Int32.not_lt.mpr j0)
      · skip
        refine stateNumber_n21 hC  ?_ (fun r33 σ_34 q35 => ?_)
        · clear h; refine ⟨?_, ?_, ?_, ?_⟩
          · rcases q27.2 with z | z
            · exact z.2
            · exact absurd (c28.symm.trans z) (by decide)
          · rw [k26 70 (by decide) (by decide), v70]; decide
          · rw [k26 70 (by decide) (by decide), k26 85 (by decide) (by decide), v70, v85]; exact Int32.le_trans (by decide) w.2.1
          · rw [k26 85 (by decide) (by decide), v85]; exact w.2.2
        obtain ⟨q35, z9⟩ := q35
        have k34 : ∀ k, k ≠ 58 → k ≠ 61 → k ≠ 70 → σ_34.1 k = σ_24.1 k := fun k z1 z2 z3 => (q35.1.1 k (by simp [z3])).trans (k26 k z1 z2)
        have I34 : rI σ_34 (σ.1 3) T := rI_ex I26 (frG_mono q35.1 (by decide) (by decide))
        have R34 : exRR9 σ_34 := by
          have q := q35.2.1
          rw [k26 85 (by decide) (by decide), v85] at q
          unfold exRR9
          rw [k34 71 (by decide) (by decide) (by decide), k34 72 (by decide) (by decide) (by decide), k34 85 (by decide) (by decide) (by decide), v71, v72, v85]
          exact ⟨⟨q.1, q.2.2, w.2.2⟩, by decide, by decide⟩
        have fin : ∀ l2 : Int32, nb l2 → frM xpF xpR σ σ_34 ∧ rI σ_34 (σ.1 3) T ∧ exRR9 σ_34 ∧ (0 : Int32) ≤ 0 ∧ (0 : Int32) ≤ 1000 ∧ nb l2 ∧ σ_34.1 94 = 0 ∧ σ_34.1 114 = 0 ∧ σ_34.1 88 = σ.1 88 ∧ (l2 ≠ 0 → exV σ_34 (σ.1 3) T 0) := fun l2 h1 => ⟨frM_tr F26 (frM_G q35.1 (by decide) (by decide)), I34, R34, by decide, by decide, h1, by rw [k34 94 (by decide) (by decide) (by decide)]; exact v94, by rw [k34 114 (by decide) (by decide) (by decide)]; exact v114, by rw [k34 88 (by decide) (by decide) (by decide)]; exact v88, fun _ => exV_0 I34 R34 (by rw [k34 72 (by decide) (by decide) (by decide)]; exact v72) (fun j j0 j1 => q35.2.2.2.2 j j0 (by rw [k26 70 (by decide) (by decide), v70]; exact j0) j1)⟩
        refine ⟨fun c36 => ?_, fun c36 => ?_⟩
        · skip
          refine hh112 _ _ _ ?_
          · refine and_5 ?_ (fun o9 => fun _ j hj => absurd hj (Nat.not_lt_zero _))  -- j21
            clear h; exact fin _ nb_0
        · skip
          refine hh112 _ _ _ ?_
          · refine and_5 ?_ (fun o9 => fun _ j hj => absurd hj (Nat.not_lt_zero _))  -- j22
            clear h; exact fin _ nb_1
    · skip
      refine h _ _ ?_
      · refine and_5 ?_ (fun o9 => fun z => absurd (show σ_17.1 0 ≤ 0 by rw [z]; decide) c18)  -- q23
        clear h; have F : frM xpF xpR σ σ_17 := by rw [hσ_17]; exact frM_0 (by decide)
        exact ⟨F, exP_o hX (fun k hk => by rw [hσ_17, si1, if_neg (by omega)]) (fun k _ => by rw [hσ_17, si2]), (ft _ F).1, (ft _ F).2, Or.inl ⟨fun k hk => by rw [hσ_17, si1, if_neg hk], by rw [hσ_17, si2]⟩⟩
  refine ⟨fun c37 => ?_, fun c37 => ?_⟩
  · skip
    refine within_c hC  (fun r38 q40 => ?_)
    refine ⟨fun c41 => ?_, fun c41 => ?_⟩
    · skip
      refine hj28 _ _ _ ?_
      · refine and_5 ?_ (fun o9 => trivial)  -- k24
        clear h; exact ⟨rfl, rfl, fun _ => ⟨c37, q40.2.mp c41⟩⟩
    · skip
      refine hj28 _ _ _ ?_
      · refine and_5 ?_ (fun o9 => trivial)  -- k25
        clear h; exact ⟨rfl, rfl, fun z => absurd z (by decide)⟩
  · skip
    refine hj28 _ _ _ ?_
    · refine and_5 ?_ (fun o9 => trivial)  -- k26
      clear h; exact ⟨rfl, rfl, fun z => absurd z (by decide)⟩

/-- behind an exploring, of both sides -/
theorem TW_x21 {nv s w : Nat} {cu : E5} {σ σ' : rS} (h : ∀ k, k < (σ'.1 70).toNatClampNeg → CW21 σ σ' k) (c : CR7 nv s w cu σ) : TW21 nv s w cu σ' := fun k hk h81 => by
  obtain ⟨σo, k1, k2, σ5, g1, g2⟩ := h k hk h81
  exact ⟨σo, CR_k7 c k1, k2, σ5, g1, g2⟩
/-- one run, three things said of it -/
def XS21 (a1 : Int32) (σ σ' : rS) (v : Int32) : Prop := XS7 a1 σ σ' v ∧ (σ'.1 0 = 0 → σ'.1 69 ≠ 0 → ∀ k, k < (σ'.1 70).toNatClampNeg → CW21 σ σ' k)
theorem explore_g21 {C : rCx} (hC : cOK C) {σ : rS} {a1 : Int32} {Q : Int32 → rS → Prop} (hp : tyAll σ ∧ (σ.1 14 ≠ 0 → ∃ T, progOK σ (σ.1 3) T) ∧ exP σ) (h : ∀ (v : Int32) (σ' : rS), ((frM xpF xpR σ σ' ∧ exP σ' ∧ tyAll σ' ∧ (σ'.1 14 ≠ 0 → ∃ T, progOK σ' (σ'.1 3) T) ∧ (((∀ k, k ≠ 0 → σ'.1 k = σ.1 k) ∧ σ'.2 = σ.2) ∨ (σ'.1 94 = 0 ∧ σ'.1 114 = 0))) ∧ XS21 a1 σ σ' v) → Q v σ') : cI C 11 m_explore [.ref (co C), .int a1] σ Q := by
  obtain ⟨v, σ', r, q, σ2, ⟨_, g⟩, hf, hr⟩ := cI_d8 hC (explore_g7 (a1 := a1) hC hp (fun v σ' q => q)) (explore_n21 (a1 := a1) hC hp (fun v σ' q => q))
  refine ⟨v, σ', r, h v σ' ⟨q.1, q.2, fun z0 z1 k hk => ?_⟩⟩
  rw [hf 0 (by decide) (by decide +kernel) (by decide) (by decide)] at z0
  rw [hf 69 (by decide) (by decide +kernel) (by decide) (by decide)] at z1
  rw [hf 70 (by decide) (by decide +kernel) (by decide) (by decide)] at hk
  have r76 := hr 76 0 1001 (by decide +kernel) (by decide)
  have r81 := hr 81 3 1000 (by decide +kernel) (by decide)
  have r73 := hr 73 0 143000 (by decide +kernel) (by decide)
  exact CW_f21 (g z0 z1 k hk) (fun i _ => by rw [r73]) (by rw [r81]) (by rw [r76]) (by rw [r76])
