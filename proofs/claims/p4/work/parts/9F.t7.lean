set_option maxHeartbeats 1600000
/-! the reference: a ring is solved -/
/-- numbers above 14 stay -/
def nK (σ τ : rS) : Prop := ∀ k, 14 < k → τ.2.2.1 91 k = σ.2.2.1 91 k ∧ ∀ i, i < 40000 → τ.2.2.1 90 (40000 * k + i) = σ.2.2.1 90 (40000 * k + i)
theorem nK_rf {σ : rS} : nK σ σ := fun _ _ => ⟨rfl, fun _ _ => rfl⟩
theorem nK_tr {σ τ υ : rS} (h : nK σ τ) (g : nK τ υ) : nK σ υ := fun k z => ⟨(g k z).1.trans (h k z).1, fun i hi => ((g k z).2 i hi).trans ((h k z).2 i hi)⟩
theorem nK_r {σ τ : rS} (h0 : τ.2.2.1 90 = σ.2.2.1 90) (h1 : τ.2.2.1 91 = σ.2.2.1 91) : nK σ τ := fun k _ => ⟨by rw [h1], fun i _ => by rw [h0]⟩
theorem nK_l {l : List Nat} {σ τ : rS} (h : ∀ k, k ∉ l → τ.2.2.1 91 k = σ.2.2.1 91 k ∧ ∀ i, i < 40000 → τ.2.2.1 90 (40000 * k + i) = σ.2.2.1 90 (40000 * k + i)) (hl : ∀ k, k ∈ l → k ≤ 14) : nK σ τ := fun k z => h k (fun e => absurd (hl k e) (by omega))
/-- only the sum, the numbers, the slots, the marks and the visits differ -/
def frV (σ τ : rS) : Prop := (∀ k, k ≠ 92 → τ.1 k = σ.1 k) ∧ τ.2.1 = σ.2.1 ∧ (∀ j, j ≠ 90 → j ≠ 91 → j ≠ 93 → j ≠ 96 → j ≠ 102 → τ.2.2.1 j = σ.2.2.1 j) ∧ τ.2.2.2 = σ.2.2.2 ∧ nK σ τ
theorem frV_rf {σ : rS} : frV σ σ := ⟨fun _ _ => rfl, rfl, fun _ _ _ _ _ _ => rfl, rfl, nK_rf⟩
theorem frV_tr {σ τ υ : rS} (h : frV σ τ) (g : frV τ υ) : frV σ υ := ⟨fun k z => (g.1 k z).trans (h.1 k z), g.2.1.trans h.2.1, fun j z1 z2 z3 z4 z5 => (g.2.2.1 j z1 z2 z3 z4 z5).trans (h.2.2.1 j z1 z2 z3 z4 z5), g.2.2.2.1.trans h.2.2.2.1, nK_tr h.2.2.2.2 g.2.2.2.2⟩
theorem frV_K {l : List Nat} {u v : Nat} {σ τ : rS} (h : frK l u v σ τ) (hl : ∀ k, k ∈ l → k ≤ 14 := by decide) : frV σ τ := ⟨h.1, h.2.1, fun j z1 z2 z3 _ _ => h.2.2.1 j z1 z2 z3, h.2.2.2.1, nK_l h.2.2.2.2.1 hl⟩
theorem frV_S {l : List Nat} {σ τ : rS} (h : frS l σ τ) (hl : ∀ k, k ∈ l → k ≤ 14 := by decide) : frV σ τ := ⟨h.1, h.2.1, fun j z1 z2 _ _ _ => h.2.2.1 j z1 z2, h.2.2.2.1, nK_l h.2.2.2.2 hl⟩
theorem frV_R {u v : Nat} {σ τ : rS} (h : frR 102 u v σ τ) : frV σ τ := ⟨fun k _ => by rw [h.1], h.2.1, fun j _ _ _ _ z => h.2.2.1 j z, h.2.2.2.1, nK_r (h.2.2.1 90 (by decide)) (h.2.2.1 91 (by decide))⟩
theorem frV_1 {σ : rS} {i : Nat} {x : Int32} : frV σ (riU σ 96 i x) := ⟨fun _ _ => rfl, rfl, fun _ _ _ _ z _ => ri3 z, rfl, nK_r (ri3 (by decide)) (ri3 (by decide))⟩
theorem pOK_o {σ τ : rS} (h : pOK σ) (hf : ∀ k, k = 70 ∨ k = 71 ∨ k = 72 → τ.1 k = σ.1 k) (hr : ∀ k, k = 76 ∨ k = 77 ∨ k = 78 ∨ k = 79 ∨ k = 80 ∨ k = 81 ∨ k = 83 → τ.2.2.1 k = σ.2.2.1 k) : pOK τ := by
  refine ⟨exO_o h.1 hf (fun k hk => hr k (by omega)), fun j j0 j1 => ?_⟩
  have z := h.2 j j0 (by rw [← hf 70 (by decide)]; exact j1)
  rw [rd, rd, rd, rd] at *
  rw [hr 81 (by decide), hr 83 (by decide), hr 76 (by decide)]
  exact z
theorem pOK_V {σ τ : rS} (h : pOK σ) (f : frV σ τ) : pOK τ := pOK_o h (fun k hk => f.1 k (by omega)) (fun k hk => f.2.2.1 k (by omega) (by omega) (by omega) (by omega) (by omega))
theorem gS_f {σ τ : rS} (h1 : τ.2.2.1 96 = σ.2.2.1 96) (h2 : τ.2.2.1 102 = σ.2.2.1 102) (h3 : τ.2.2.1 80 = σ.2.2.1 80) (h4 : τ.2.2.1 81 = σ.2.2.1 81) : gS τ = gS σ := by
  funext k
  unfold gS
  rw [h1, (sl_f (m := 16) h2).1, tT_f h3 h4]
theorem gS_S {l : List Nat} {σ τ : rS} (h : frS l σ τ) : gS τ = gS σ := gS_f (h.2.2.1 96 (by decide) (by decide)) (h.2.2.1 102 (by decide) (by decide)) (h.2.2.1 80 (by decide) (by decide)) (h.2.2.1 81 (by decide) (by decide))
theorem siJ_g {σ σ2 τ : rS} {n c F : Nat} (h : gS σ2 = gS σ) (J : siJ σ τ n c F) : siJ σ2 τ n c F := by
  unfold siJ at *
  rw [h]
  exact J
theorem slc_e {σ τ : rS} {c : Nat} (h : ∀ i, c ≤ i → i < c + 17 → τ.2.2.1 102 i = σ.2.2.1 102 i) (hs : slN σ 102 c 16) : slN τ 102 c 16 ∧ slV τ 102 c = slV σ 102 c := by
  have L : (σ.2.2.1 102 c).toNatClampNeg ≤ 16 := cn_le (y := 16) rfl hs.2.1
  exact gO_c hs (h c (Nat.le_refl _) (by omega)) hs.2.1 (fun i hi => h (c + 1 + i) (by omega) (by omega))
theorem vOK_e {σ τ : rS} {k : Nat} (h : ∀ i, 34 * k ≤ i → i < 34 * k + 34 → τ.2.2.1 102 i = σ.2.2.1 102 i) (hv : vOK σ k) : vOK τ k := by
  have a := slc_e (c := 34 * k) (fun i h1 h2 => h i (by omega) (by omega)) hv.1
  have b := slc_e (c := 34 * k + 17) (fun i h1 h2 => h i (by omega) (by omega)) hv.2.1
  exact ⟨a.1, b.1, by rw [b.2]; exact hv.2.2⟩
def rgD (σ : rS) (b a : Nat) : Nat := (sQ σ (1152 + 32 * a + b)).den
theorem siJ_0 {σ τ : rS} {n : Nat} {D : Nat → Nat} (h : hS τ 0) : siJ σ τ n (20001 * (0 : Int32).toNatClampNeg) (prS D (0 : Int32).toNatClampNeg) := ⟨0, h, Rat.le_refl, Rat.natCast_le_natCast.mpr (Nat.zero_le _), Nat.one_dvd _⟩
theorem solveRing_c {C : rCx} (hC : cOK C) (m s : Nat) {σ : rS}  {Q : Int32 → rS → Prop} (hp : pOK σ ∧ 0 < σ.1 100 ∧ σ.1 100 ≤ 32 ∧ m = (σ.1 100).toNatClampNeg ∧ mbO σ m ∧ (∀ r, r < m → cnE σ (mN σ r)) ∧ s = (σ.1 70).toNatClampNeg ∧ (∀ k, k < s → vOK σ k)) (h : ∀ (v : Int32) (σ' : rS), (frV σ σ' ∧ nb v ∧ (v ≠ 0 → ∀ k, k < s → vOK σ' k)) → Q v σ') : cI C 7 m_solveRing [.ref (co C)] σ Q := by
  refine m_solveRing_run hC ?_
  unfold w_solveRing_0
  obtain ⟨hO, h0, h1, hm, hM, hE, hs, hv⟩ := hp
  have m32 : m ≤ 32 := by rw [hm]; exact cn_le (y := 32) rfl h1
  have h1k : σ.1 100 ≤ 1000 := Int32.le_trans h1 (by decide)
  have hh125 : ∀ (l1 : Int32) (l2 : Int32) (τ : rS), (frV σ τ ∧ nb l1 ∧ 0 ≤ l2 ∧ l2 ≤ σ.1 100 ∧ (l1 ≠ 0 → ∀ k, k < s → vOK τ k)) → w_solveRing_125 C Q  l1 l2 τ := by
    intro z1 z2 τi hinit
    unfold w_solveRing_125
    refine ⟨fun n l1 l2 τ => n = (σ.1 100 - l2).toNatClampNeg ∧ (frV σ τ ∧ nb l1 ∧ 0 ≤ l2 ∧ l2 ≤ σ.1 100 ∧ (l1 ≠ 0 → ∀ k, k < s → vOK τ k)), ⟨_, rfl, hinit⟩, ?_⟩
    clear hinit
    rintro n125 x125_1 x125_2 σ125 ⟨hn125, i125⟩
    obtain ⟨F, n1, a0, a1, V⟩ := i125
    have e100 := F.1 100 (by decide)
    have e99 := F.2.2.1 99 (by decide) (by decide) (by decide) (by decide) (by decide)
    rw [e100, e99]
    refine ⟨fun c1 => ?_, fun c1 => ?_⟩
    · skip
      refine ⟨?_, h _ _ ?_⟩
      · clear h; exact n1  -- b1
      · clear h; exact ⟨F, n1, V⟩  -- q2
    · skip
      have u := uk a0 c1 h1k
      have am : x125_2.toNatClampNeg < m := by rw [hm]; exact cn_lt a0 u.2.2.2.2.1
      have k := hM.1 x125_2.toNatClampNeg am
      have k1 := Int32.lt_of_lt_of_le k.2 hO.1.1.2
      refine ⟨ib_1000.mpr ?_, ?_⟩
      · clear h; exact ⟨a0, u.2.2.2.2.2⟩  -- b3
      refine ⟨ib_1000.mpr ?_, ?_⟩
      · clear h; exact ⟨k.1, k1⟩  -- b4
      intro σ_2 hσ_2
      intro x3 hx3
      refine ⟨_, cn_lt2 hn125 ?_ ?_, rfl, ?_⟩
      · clear h; rw [hx3]; exact u.1  -- d5
      · clear h; rw [hx3]; exact u.2.1  -- d6
      · clear h; rw [hx3, hσ_2]
        exact ⟨frV_tr F frV_1, n1, u.2.2.1, u.2.2.2.1, fun z k hk => vOK_f (ri3 (by decide)) (V z k hk)⟩
  refine layRing_c hC m ?_ (fun σ_4 q5 => ?_)
  · clear h; exact ⟨hO, h0, h1, hm, hM⟩  -- p8
  have e4 := q5.1.1 100 (by decide)
  refine foldRing_c hC (P := rP σ m) (T := riT σ) (K := rK σ m) (m := m) ?_ (fun σ_6 q7 => ?_)
  · clear h; rw [e4]; exact ⟨h0, h1, hm, rP_Mk hO hM hE, rP_whl hO hM, q5.2⟩  -- p9
  unfold w_solveRing_10
  refine ⟨fun n l1 τ => n = (σ.1 100 - l1).toNatClampNeg ∧ (frK [0, 1, 2, 3, 4, 5, 6, 7, 8, 9, 10, 11, 12, 13, 14] 0 (260 * 2176) σ τ ∧ 0 ≤ l1 ∧ l1 ≤ σ.1 100 ∧ fdJ τ (rP σ m) m (stF m m) 0 ∧ ∀ a k, a < l1.toNatClampNeg → k < m → ∃ q, hL τ (1152 + 32 * a + k) q), ⟨_, rfl, ?_⟩, ?_⟩
  · clear h; have F6 : frK [0, 1, 2, 3, 4, 5, 6, 7, 8, 9, 10, 11, 12, 13, 14] 0 (260 * 2176) σ σ_6 := frK_tr (frK_w q5.1 (sub_of rfl) (by omega) (by omega)) (frK_w q7.1 (fun k hk => hk) (by omega) (by omega))
    exact ⟨F6, by decide, Int32.le_of_lt h0, q7.2, fun a k ha => absurd ha (Nat.not_lt_zero a)⟩
  rintro n10 x10_1 σ10 ⟨hn10, i10⟩
  obtain ⟨F, a0, a1, J, H⟩ := i10
  have e100 := F.1 100 (by decide)
  rw [e100]
  refine ⟨fun c8 => ?_, fun c8 => ?_⟩
  · skip
    unfold w_solveRing_33
    refine ⟨fun n l1 l2 τ => n = (σ.1 100 - l2).toNatClampNeg ∧ (frV σ τ ∧ nb l1 ∧ 0 ≤ l2 ∧ l2 ≤ σ.1 100 ∧ (∀ a k, a < m → k < m → ∃ q, hL τ (1152 + 32 * a + k) q) ∧ (l1 ≠ 0 → ∀ k, k < s → vOK τ k)), ⟨_, rfl, ?_⟩, ?_⟩
    · clear h; have e : x10_1 = σ.1 100 := Int32.le_antisymm a1 c8
      rw [e, ← hm] at H
      exact ⟨frV_K F, nb_1, by decide, Int32.le_of_lt h0, H, fun _ k hk => vOK_f (F.2.2.1 102 (by decide) (by decide) (by decide)) (hv k hk)⟩
    rintro n33 x33_1 x33_2 σ33 ⟨hn33, i33⟩
    have hj106 : ∀ (l2 : Int32) (s0 : Int32) (τ : rS), (l2 = x33_2 ∧ nb s0 ∧ ¬ σ.1 100 ≤ x33_2 ∧ x33_1 ≠ 0 ∧ frV σ τ ∧ frS [0, 1, 2, 3, 4, 5, 6, 7, 8, 9, 10, 11, 12, 13, 14] σ33 τ ∧ numO τ 4 ∧ numO τ 5 ∧ 0 < nV τ 5 ∧ (s0 ≠ 0 → nL τ 4 ≤ 16 ∧ nL τ 5 ≤ 16)) → w_solveRing_106 C Q (fun l1' l2' τ => ∃ k < n33, (fun n l1 l2 τ => n = (σ.1 100 - l2).toNatClampNeg ∧ (frV σ τ ∧ nb l1 ∧ 0 ≤ l2 ∧ l2 ≤ σ.1 100 ∧ (∀ a k, a < m → k < m → ∃ q, hL τ (1152 + 32 * a + k) q) ∧ (l1 ≠ 0 → ∀ k, k < s → vOK τ k))) k l1' l2' τ) l2 s0 τ := by
      rintro y106_2 y106_s0 τ106 j106
      unfold w_solveRing_106
      obtain ⟨G, n33', b0, b1, H33, V33⟩ := i33
      obtain ⟨y1, y2, y3, y4, Fy, Sy, o4, o5, p5, L⟩ := j106
      have v := uk b0 y3 h1k
      have bm : x33_2.toNatClampNeg < m := by rw [hm]; exact cn_lt b0 v.2.2.2.2.1
      have k := hM.1 x33_2.toNatClampNeg bm
      have k1 := Int32.lt_of_lt_of_le k.2 hO.1.1.2
      have e99 := Fy.2.2.1 99 (by decide) (by decide) (by decide) (by decide) (by decide)
      rw [e99, y1]
      refine ⟨ib_1000.mpr ?_, ?_⟩
      · clear h; exact ⟨b0, v.2.2.2.2.2⟩  -- b12
      refine keepVisits_c hC  ?_ (fun σ_9 q10 => ?_)
      · clear h; exact ⟨k.1, k1, o4, o5⟩  -- p13
      intro x11 hx11
      refine ⟨_, cn_lt2 hn33 ?_ ?_, rfl, ?_⟩
      · clear h; rw [hx11]; exact v.1  -- d14
      · clear h; rw [hx11]; exact v.2.1  -- d15
      · clear h; rw [hx11]
        refine ⟨frV_tr Fy (frV_R q10.1), y2, v.2.2.1, v.2.2.2.1, fun a k ha hk => ?_, fun z k hk => ?_⟩
        · obtain ⟨q, hq⟩ := H33 a k ha hk
          exact ⟨q, hL_e (fun i _ _ => by rw [q10.1.2.2.1 93 (by decide), Sy.2.2.1 93 (by decide) (by decide)]) hq⟩
        · by_cases e : k = (σ.2.2.1 99 x33_2.toNatClampNeg).toNatClampNeg
          · have l := L z
            have s4 := q10.2.1 l.1
            have s5 := q10.2.2 l.2
            rw [e]
            exact ⟨s4.1, s5.1, by rw [s5.2]; exact p5⟩
          · exact vOK_e (fun i i1 i2 => q10.1.2.2.2.2 i (by omega)) (vOK_f (Sy.2.2.1 102 (by decide) (by decide)) (V33 y4 k hk))
    obtain ⟨G, n33', b0, b1, H33, V33⟩ := i33
    have g100 := G.1 100 (by decide)
    rw [g100]
    refine ⟨fun c12 => ?_, fun c12 => ?_⟩
    · skip
      refine hh125 _ _ _ ?_
      · clear h; exact ⟨G, n33', by decide, Int32.le_of_lt h0, V33⟩  -- j17
    · skip
      refine ⟨fun c13 => ?_, fun c13 => ?_⟩
      · skip
        refine hh125 _ _ _ ?_
        · clear h; exact ⟨G, n33', by decide, Int32.le_of_lt h0, V33⟩  -- j18
      · skip
        refine clearSum_c hC  (fun σ_14 q15 => ?_)
        unfold w_solveRing_51
        refine ⟨fun n l2 l3 τ => n = (σ.1 100 - l3).toNatClampNeg ∧ (l2 = x33_2 ∧ 0 ≤ l3 ∧ l3 ≤ σ.1 100 ∧ frV σ τ ∧ frS [0, 1, 2, 3, 4, 5, 6, 7, 8, 9, 10, 11, 12, 13, 14] σ33 τ ∧ siJ σ33 τ s (20001 * l3.toNatClampNeg) (prS (rgD σ33 x33_2.toNatClampNeg) l3.toNatClampNeg)), ⟨_, rfl, ?_⟩, ?_⟩
        · clear h; exact ⟨rfl, by decide, Int32.le_of_lt h0, frV_tr G (frV_S q15.1), frS_mono q15.1 (sub_of rfl), siJ_0 q15.2⟩  -- j19
        rintro n51 x51_2 x51_3 σ51 ⟨hn51, i51⟩
        obtain ⟨f1, w0, w1, Fv, Fs, J⟩ := i51
        have h100 := Fv.1 100 (by decide)
        have h99 := Fv.2.2.1 99 (by decide) (by decide) (by decide) (by decide) (by decide)
        have hJ := J
        obtain ⟨S, S1, S2, -, -⟩ := hJ
        have R := hS_nn S1 S2
        rw [h100, h99, f1]
        refine ⟨fun c16 => ?_, fun c16 => ?_⟩
        · skip
          refine isLong_c hC  ?_ (fun r17 q19 => ?_)
          · clear h; exact ⟨by decide, by decide⟩  -- p20
          refine ⟨fun c20 => ?_, fun c20 => ?_⟩
          · skip
            refine hj106 _ _ _ ?_
            · clear h; exact ⟨rfl, nb_0, c12, c13, Fv, Fs, R.1, R.2.1, (hR_q R).2, fun z => absurd rfl z⟩  -- k21
          · skip
            refine isLong_c hC  ?_ (fun r21 q23 => ?_)
            · clear h; exact ⟨by decide, by decide⟩  -- p22
            refine ⟨fun c24 => ?_, fun c24 => ?_⟩
            · skip
              refine hj106 _ _ _ ?_
              · clear h; exact ⟨rfl, nb_0, c12, c13, Fv, Fs, R.1, R.2.1, (hR_q R).2, fun z => absurd rfl z⟩  -- k23
            · skip
              refine hj106 _ _ _ ?_
              · clear h; exact ⟨rfl, nb_1, c12, c13, Fv, Fs, R.1, R.2.1, (hR_q R).2, fun _ => ⟨cn_le (x := σ51.2.2.1 91 4) (y := 16) rfl (Int32.not_lt.mp (fun z => q19.2.mpr z c20)), cn_le (x := σ51.2.2.1 91 5) (y := 16) rfl (Int32.not_lt.mp (fun z => q23.2.mpr z c24))⟩⟩  -- k24
        · skip
          have v := uk b0 c12 h1k
          have bm : x33_2.toNatClampNeg < m := by rw [hm]; exact cn_lt b0 v.2.2.2.2.1
          have b32 : x33_2 < 32 := Int32.lt_of_lt_of_le v.2.2.2.2.1 h1
          have w := uk w0 c16 h1k
          have wm : x51_3.toNatClampNeg < m := by rw [hm]; exact cn_lt w0 w.2.2.2.2.1
          have w32 : x51_3 < 32 := Int32.lt_of_lt_of_le w.2.2.2.2.1 h1
          have ws := cn_succ w0 (Int32.lt_trans w.2.2.2.2.2 (by decide))
          have ir := ixr (c := 1152) (by decide) (by decide) w0 w32 b0 b32
          have ir2 : (1152 + 32 * x51_3 + x33_2).toNatClampNeg = 1152 + 32 * x51_3.toNatClampNeg + x33_2.toNatClampNeg := ir.2
          have r93 := Fs.2.2.1 93 (by decide) (by decide)
          obtain ⟨q, hq⟩ := H33 x51_3.toNatClampNeg x33_2.toNatClampNeg wm bm
          have hq2 : hL σ51 (1152 + 32 * x51_3.toNatClampNeg + x33_2.toNatClampNeg) q := hL_e (fun i _ _ => by rw [r93]) hq
          have bq : byQ σ51 (1152 + 32 * x51_3 + x33_2) = q := by
            unfold byQ
            rw [if_neg (fun z => by have := ir.1.1; rw [z] at this; exact absurd this (by decide)), ir2]
            exact hL_q hq2
          have bo : byO σ51 (1152 + 32 * x51_3 + x33_2) := Or.inr ⟨ir.1.1, ir.1.2, by rw [ir2, hL_q hq2]; exact hq2⟩
          have dq : rgD σ33 x33_2.toNatClampNeg x51_3.toNatClampNeg = q.den := by unfold rgD; rw [hL_q hq]
          have ps : prS (rgD σ33 x33_2.toNatClampNeg) (x51_3.toNatClampNeg + 1) = prS (rgD σ33 x33_2.toNatClampNeg) x51_3.toNatClampNeg * q.den := by rw [← dq]; rfl
          have pb : prS (rgD σ33 x33_2.toNatClampNeg) (x51_3.toNatClampNeg + 1) ≤ 65536 ^ (129 * (x51_3.toNatClampNeg + 1)) := prS_le (fun i hi => by
            obtain ⟨q', hq'⟩ := H33 i x33_2.toNatClampNeg (by omega) bm
            have vl := sl_lt (M := 129) rfl hq'.2.1
            rw [hq'.2.2.2] at vl
            unfold rgD
            rw [hL_q hq']
            exact Nat.le_of_lt vl)
          have gg := gS_S Fs
          refine ⟨ib_1000.mpr ?_, ?_⟩
          · clear h; exact ⟨w0, w.2.2.2.2.2⟩  -- b25
          refine sumInflow_c hC s (prS (rgD σ33 x33_2.toNatClampNeg) x51_3.toNatClampNeg) (20001 * x51_3.toNatClampNeg) (129 * (x51_3.toNatClampNeg + 1)) ?_ (fun σ_25 q26 => ?_)
          · clear h; rw [bq]
            exact ⟨pOK_V hO Fv, by rw [Fv.1 70 (by decide)]; exact hs, fun k hk _ => vOK_f (Fs.2.2.1 102 (by decide) (by decide)) (V33 c13 k hk), bo, siJ_g gg J, prS_pos (fun i _ => den0), by rw [← ps]; exact pb, by omega, by omega⟩
          rw [bq] at q26
          intro x27 hx27
          refine ⟨_, cn_lt2 hn51 ?_ ?_, rfl, ?_⟩
          · clear h; rw [hx27]; exact w.1  -- d27
          · clear h; rw [hx27]; exact w.2.1  -- d28
          · clear h; rw [hx27, ws, ps, show 20001 * (x51_3.toNatClampNeg + 1) = 20001 * x51_3.toNatClampNeg + 20001 by omega]
            exact ⟨rfl, w.2.2.1, w.2.2.2.1, frV_tr Fv (frV_S q26.1), frS_tr Fs q26.1, siJ_g gg.symm q26.2⟩
  · skip
    have u := uk a0 c8 h1k
    have as := cn_succ a0 (Int32.lt_trans u.2.2.2.2.2 (by decide))
    refine visitFrom_c hC (P := rP σ m) (T := riT σ) (K := rK σ m) (m := m) ?_ (fun σ_28 q29 => ?_)
    · clear h; rw [e100]; exact ⟨h0, h1, hm, rP_Mk hO hM hE, rP_whl hO hM, J, a0, u.2.2.2.2.1⟩  -- p30
    intro x30 hx30
    refine ⟨_, cn_lt2 hn10 ?_ ?_, rfl, ?_⟩
    · clear h; rw [hx30]; exact u.1  -- d31
    · clear h; rw [hx30]; exact u.2.1  -- d32
    · clear h; rw [hx30, as]
      refine ⟨frK_tr F (frK_w q29.1 (fun k hk => hk) (by omega) (by omega)), u.2.2.1, u.2.2.2.1, fdJ_kp m32 q29.2.1 J, fun a k ha hk => ?_⟩
      by_cases e : a = x10_1.toNatClampNeg
      · obtain ⟨v, -, hv2⟩ := q29.2.2
        rw [e]
        exact ⟨v k, hv2 k hk⟩
      · obtain ⟨q, hq⟩ := H a k (by omega) hk
        exact ⟨q, q29.2.1 _ _ (Or.inr ⟨by omega, by omega⟩) hq⟩
