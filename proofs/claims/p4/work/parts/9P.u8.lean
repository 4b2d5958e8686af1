set_option maxHeartbeats 1600000
/-! the reference: best -/
def cntB (r : Nat → Int32) : Nat → Nat
  | 0 => 0
  | n + 1 => cntB r n + (if r n = 0 then 0 else 1)
theorem cntB_le {r : Nat → Int32} : ∀ {n : Nat}, cntB r n ≤ n
  | 0 => Nat.le_refl _
  | n + 1 => by
    have ih := cntB_le (r := r) (n := n)
    show cntB r n + (if r n = 0 then 0 else 1) ≤ n + 1
    split <;> omega
theorem cntB_0 {r : Nat → Int32} : ∀ {n : Nat}, (∀ k, k < n → r k = 0) → cntB r n = 0
  | 0, _ => rfl
  | n + 1, h => by
    show cntB r n + (if r n = 0 then 0 else 1) = 0
    rw [cntB_0 (n := n) (fun k hk => h k (by omega)), if_pos (h n (by omega))]
theorem cntB_all {r : Nat → Int32} : ∀ {n : Nat}, cntB r n = n → ∀ k, k < n → r k ≠ 0
  | 0, _, k, hk => absurd hk (Nat.not_lt_zero k)
  | n + 1, h, k, hk => by
    have h' : cntB r n + (if r n = 0 then 0 else 1) = n + 1 := h
    have le := cntB_le (r := r) (n := n)
    by_cases e : r n = 0
    · rw [if_pos e] at h'; omega
    · rw [if_neg e] at h'
      by_cases q : k = n
      · rw [q]; exact e
      · exact cntB_all (n := n) (by omega) k (by omega)
theorem cntB_c {r r' : Nat → Int32} : ∀ {n : Nat}, (∀ k, k < n → r' k = r k) → cntB r' n = cntB r n
  | 0, _ => rfl
  | n + 1, h => by
    show cntB r' n + (if r' n = 0 then 0 else 1) = cntB r n + (if r n = 0 then 0 else 1)
    rw [cntB_c (n := n) (fun k hk => h k (by omega)), h n (by omega)]
theorem cntB_up {r r' : Nat → Int32} {j : Nat} (h0 : r j = 0) (h1 : r' j ≠ 0) (ho : ∀ i, i ≠ j → r' i = r i) : ∀ {n : Nat}, j < n → cntB r' n = cntB r n + 1
  | 0, h => absurd h (Nat.not_lt_zero j)
  | n + 1, h => by
    show cntB r' n + (if r' n = 0 then 0 else 1) = cntB r n + (if r n = 0 then 0 else 1) + 1
    by_cases e : j = n
    · rw [← e, if_neg h1, if_pos h0, cntB_c (fun k hk => ho k (by omega))]
    · rw [cntB_up h0 h1 ho (n := n) (by omega), ho n (fun z => e z.symm)]
      omega
/-- where no way leads round, some state of a set leads to no state of it -/
theorem sink {E : Nat → Nat → Prop} {U : Nat → Prop} {s : Nat} (irr : ∀ a, a < s → ¬ Tr E a a) (hU : ∃ k, k < s ∧ U k) : ∀ m, m ≤ s → ∃ k, k < s ∧ U k ∧ ∀ j, j < m → U j → ¬ Tr E k j
  | 0, _ => by
    obtain ⟨k, h1, h2⟩ := hU
    exact ⟨k, h1, h2, fun j hj => absurd hj (Nat.not_lt_zero j)⟩
  | m + 1, hm => by
    obtain ⟨k, h1, h2, h3⟩ := sink irr hU m (by omega)
    by_cases e : U m ∧ Tr E k m
    · refine ⟨m, by omega, e.1, fun j hj uj t => ?_⟩
      by_cases q : j = m
      · rw [q] at t; exact irr m (by omega) t
      · exact h3 j (by omega) uj (Tr_tr e.2 t)
    · refine ⟨k, h1, h2, fun j hj uj t => ?_⟩
      by_cases q : j = m
      · rw [q] at uj t; exact e ⟨uj, t⟩
      · exact h3 j (by omega) uj t
theorem ed0_q {σ τ : rS} {o : Nat} (hr : ∀ k, k = 76 ∨ k = 77 ∨ k = 78 → τ.2.2.1 k = σ.2.2.1 k) : edN τ 0 o 1 = edN σ 0 o 1 := by
  funext a b
  unfold edN edI edg
  simp only [rd]
  rw [hr 76 (by decide), hr 77 (by decide), hr 78 (by decide)]
  refine propext ⟨?_, ?_⟩
  · rintro ⟨i, a1, a2, a3, a4, -, -⟩
    exact ⟨i, a1, a2, a3, a4, Or.inl (by trivial), Or.inl (by decide)⟩
  · rintro ⟨i, a1, a2, a3, a4, -, -⟩
    exact ⟨i, a1, a2, a3, a4, Or.inl (by trivial), Or.inl (by decide)⟩
abbrev beF : List Nat := [0, 92]
abbrev beR : List Nat := [90, 91, 96, 117, 118, 119]
abbrev bfF : List Nat := [0, 92, 94, 114]
abbrev bfR : List Nat := [83, 90, 91, 96, 115, 116, 117, 118, 119]
/-- a plan's step is one of the state's nexts -/
def plO (σ : rS) (k : Nat) (x : Int32) : Prop := σ.2.2.1 81 k ≠ 0 → 0 ≤ x ∧ x < σ.2.2.1 76 (k + 1) - σ.2.2.1 76 k
def bsJ (σ τ : rS) (s : Nat) : Prop := frM beF beR σ τ ∧ (∀ k, k < s → τ.2.2.1 96 k ≠ 0 → (wkO τ 117 118 k ∧ plO σ k (τ.2.2.1 119 k))) ∧ nK σ τ
theorem pOK_B {σ τ : rS} (h : pOK σ) (f : frM beF beR σ τ) : pOK τ := pOK_o h (fun k hk => f.1 k (by rcases hk with z | z | z <;> rw [z] <;> decide)) (fun k hk => f.2.2.1 k (by rcases hk with z | z | z | z | z | z | z <;> rw [z] <;> decide))
theorem wk_e {σ τ : rS} {r r' q q' k : Nat} (h : ∀ i, 34 * k ≤ i → i < 34 * k + 34 → τ.2.2.1 r' i = σ.2.2.1 r i) (hq : τ.2.2.1 q' k = σ.2.2.1 q k) (hw : wkO σ r q k) : wkO τ r' q' k := by
  obtain ⟨h1, h2, h3, h4⟩ := hw
  have L1 : (σ.2.2.1 r (34 * k)).toNatClampNeg ≤ 16 := cn_le (y := 16) rfl h1.2.1
  have L2 : (σ.2.2.1 r (34 * k + 17)).toNatClampNeg ≤ 16 := cn_le (y := 16) rfl h2.2.1
  have a := gO_c (g := τ.2.2.1 r') (M := τ.2.2.1 r' (34 * k)) (p := 34 * k + 1) (m' := 16) h1 (h (34 * k) (Nat.le_refl _) (by omega)) h1.2.1 (fun i hi => h (34 * k + 1 + i) (by omega) (by omega))
  have b := gO_c (g := τ.2.2.1 r') (M := τ.2.2.1 r' (34 * k + 17)) (p := 34 * k + 17 + 1) (m' := 16) h2 (h (34 * k + 17) (by omega) (by omega)) h2.2.1 (fun i hi => h (34 * k + 17 + 1 + i) (by omega) (by omega))
  refine ⟨a.1, b.1, ?_, by rw [hq]; exact h4⟩
  have e : slV τ r' (34 * k + 17) = slV σ r (34 * k + 17) := b.2
  rw [e]
  exact h3
theorem b_dn {x s : Int32} (h : ¬ x < 0) (p0 : 0 ≤ x + 1) (p1 : x + 1 ≤ s) (s1 : s ≤ 1000) : 0 ≤ x ∧ x < s ∧ x < 1000 ∧ x + -1 + 1 = x ∧ x < x + 1 ∧ x ≤ s ∧ x < 1000000 := by grind
theorem b_en {x s : Int32} (h : x < 0) (p0 : 0 ≤ x + 1) (p1 : x + 1 ≤ s) (s1 : s ≤ 1000) : x + 1 = 0 := by grind
theorem b_m1 {s : Int32} (h0 : 0 ≤ s) (h1 : s ≤ 1000) : s - 1 + 1 = s := by grind
theorem b_st {a b s : Int32} (h0 : 0 ≤ a) (h1 : a < b) (h2 : b ≤ s) (s1 : s ≤ 1000) : 0 ≤ s - b ∧ s - b < s - a := by grind
theorem b_up {a b s : Int32} (h0 : 0 ≤ a) (h1 : a ≤ b) (h2 : b < s) (s1 : s ≤ 1000) : a ≤ b + 1 ∧ b + 1 ≤ s ∧ b + 1 ≠ a ∧ 0 ≤ b ∧ b < 1000000 := by grind
theorem b_34 {y l : Int32} (y0 : 0 ≤ y) (y1 : y < 34000) (l0 : y ≤ l) (l1 : ¬ y + 34 ≤ l) (y2 : y + 34 ≤ 34000) : 0 ≤ y + 34 - (l + 1) ∧ y + 34 - (l + 1) < y + 34 - l ∧ y ≤ l + 1 ∧ l + 1 ≤ y + 34 ∧ 0 ≤ l ∧ l < 34000 ∧ l < 1000000 := by grind
theorem c_34 {x : Int32} (x0 : 0 ≤ x) (x1 : x < 1000) : 34 * x ≤ 34 * x + 34 ∧ (34 * x + 34).toNatClampNeg = 34 * x.toNatClampNeg + 34 := by
  have v := vx0 x0 x1
  have e : (34 * x + 34).toInt = (34 * x).toInt + 34 := by
    have a := t0 v.1.1
    have b := Int32.lt_iff_toInt_lt.mp v.1.2
    rw [show (34000 : Int32).toInt = 34000 from rfl] at b
    rw [Int32.toInt_add, show (34 : Int32).toInt = 34 from rfl]
    exact Int.bmod_eq_of_le (by omega) (by omega)
  have c := cn_int v.1.1
  have le : 34 * x ≤ 34 * x + 34 := Int32.le_iff_toInt_le.mpr (by rw [e]; omega)
  have d := cn_int (Int32.le_trans v.1.1 le)
  exact ⟨le, by omega⟩
theorem c_35 {x : Int32} (x0 : 0 ≤ x) (x1 : x < 1000) : 34 * x + 34 ≤ 34000 := by
  have c := c_34 x0 x1
  have n : x.toNatClampNeg < 1000 := by have := cn_lt x0 x1; rwa [show (1000 : Int32).toNatClampNeg = 1000 from rfl] at this
  have z := Int32.le_trans (vx0 x0 x1).1.1 c.1
  have e := cn_int z
  exact Int32.le_iff_toInt_le.mpr (by rw [show (34000 : Int32).toInt = 34000 from rfl]; omega)
theorem cntB_ex {r : Nat → Int32} : ∀ {n : Nat}, cntB r n < n → ∃ k, k < n ∧ r k = 0
  | 0, h => absurd h (Nat.not_lt_zero _)
  | n + 1, h => by
    have h' : cntB r n + (if r n = 0 then 0 else 1) < n + 1 := h
    by_cases e : r n = 0
    · exact ⟨n, by omega, e⟩
    · rw [if_neg e] at h'
      obtain ⟨k, k1, k2⟩ := cntB_ex (r := r) (n := n) (by omega)
      exact ⟨k, by omega, k2⟩
theorem be_no {E : Nat → Nat → Prop} {r : Nat → Int32} {s : Nat} (irr : ∀ a, a < s → ¬ Tr E a a) (h : cntB r s < s) (N : ∀ k, k < s → r k = 0 → ∃ b, b < s ∧ E k b ∧ r b = 0) : False := by
  obtain ⟨k, h1, h2, h3⟩ := sink (U := fun k => r k = 0) irr (cntB_ex h) s (Nat.le_refl _)
  obtain ⟨b, b1, b2, b3⟩ := N k h1 h2
  exact h3 b b1 b3 (Tr_1 b2)
theorem be_fin {σ τ : rS} {s : Nat} (hP : exP σ) (hb : σ.1 114 ≠ 0 → ∀ k, k < s → wkO σ 115 116 k) (f : frM beF beR σ τ) (n : nK σ τ) : frM bfF bfR σ τ ∧ exP τ ∧ (τ.1 114 ≠ 0 → ∀ k, k < s → wkO τ 115 116 k) ∧ (τ.1 94 ≠ 0 → σ.1 94 ≠ 0) ∧ nK σ τ := by
  refine ⟨frM_w f (sub_of rfl) (sub_of rfl), exP_o hP (fun k hk => f.1 k (by rcases hk with z | z | z | z <;> rw [z] <;> decide)) (fun k hk => f.2.2.1 k (by rcases hk with z | z | z | z | z | z | z | z <;> rw [z] <;> decide)), fun z k hk => ?_, fun z => ?_, n⟩
  · rw [f.1 114 (by decide)] at z
    exact wkO_f (f.2.2.1 115 (by decide)) (f.2.2.1 116 (by decide)) (hb z k hk)
  · rw [f.1 94 (by decide)] at z
    exact z
theorem frM_Z {k : Nat} {σ τ : rS} (f : frZ k σ τ) : frM beF beR σ τ := ⟨fun j hj => f.1 j (fun e => hj (by rw [e]; decide)), f.2.1, fun j hj => f.2.2.1 j (fun e => hj (by rw [e]; decide)) (fun e => hj (by rw [e]; decide)) (fun e => hj (by rw [e]; decide)), fun j _ => by rw [f.2.2.2.1]⟩
theorem frM_R {F R : List Nat} {k u v : Nat} {σ τ : rS} (f : frR k u v σ τ) (hk : k ∈ R) : frM F R σ τ := ⟨fun j _ => by rw [f.1], f.2.1, fun j hj => f.2.2.1 j (fun e => hj (by rw [e]; exact hk)), fun j _ => by rw [f.2.2.2.1]⟩
def plP (σ : rS) (k : Nat) (x : Int32) : Prop := (σ.2.2.1 81 k = 0 → x = 0) ∧ plO σ k x
theorem exP_pl {σ τ : rS} (h : exP σ) (hf : ∀ k, k = 70 ∨ k = 71 ∨ k = 72 ∨ k = 88 → τ.1 k = σ.1 k) (hr : ∀ k, k = 73 ∨ k = 76 ∨ k = 77 ∨ k = 78 ∨ k = 79 ∨ k = 80 ∨ k = 81 → τ.2.2.1 k = σ.2.2.1 k) (hp : ∀ j : Int32, 0 ≤ j → j < σ.1 70 → plP σ j.toNatClampNeg (τ.2.2.1 83 j.toNatClampNeg)) : exP τ := by
  obtain ⟨h1, h2, h3, h4, h5⟩ := h
  have e70 := hf 70 (by decide)
  refine ⟨exO_o h1 (fun k hk => hf k (by omega)) (fun k hk => hr k (by omega)), ?_, ?_, by rw [hf 88 (by decide)]; exact h4, ?_⟩
  · rw [e70]
    intro j j0 j1
    have z := h2 j j0 j1
    unfold rowR at *
    simp only [rd] at *
    rw [hr 73 (by decide)]
    exact z
  · rw [e70]
    intro j j0 j1
    have z := hp j j0 j1
    have st := ex_st h1 j0 j1
    unfold plP plO at z
    rw [rd, rd, rd, rd, hr 81 (by decide), hr 76 (by decide), st.2.2.2.1]
    exact z
  · rw [hf 88 (by decide), e70, ed0_q (σ := σ) (fun k hk => hr k (by omega))]
    exact h5
theorem cn_ltr {x y : Int32} (x0 : 0 ≤ x) (y0 : 0 ≤ y) (h : x.toNatClampNeg < y.toNatClampNeg) : x < y := Int32.not_le.mp (fun z => absurd (cn_l z y0) (by omega))
theorem nar_1 : vp_nar .boolean (1 : Int32) ≠ 0 := by decide
def beA (σ τ : rS) (s : Nat) : Prop := ∀ k, k < s → wkO τ 117 118 k ∧ plO σ k (τ.2.2.1 119 k)
theorem beA_f {σ τ υ : rS} {s : Nat} (h : beA σ τ s) (h1 : υ.2.2.1 117 = τ.2.2.1 117) (h2 : υ.2.2.1 118 = τ.2.2.1 118) (h3 : υ.2.2.1 119 = τ.2.2.1 119) : beA σ υ s := fun k hk => ⟨wkO_f h1 h2 (h k hk).1, by rw [h3]; exact (h k hk).2⟩
theorem best_c {C : rCx} (hC : cOK C) (s : Nat) {σ : rS}  {Q : Int32 → rS → Prop} (hp : exP σ ∧ s = (σ.1 70).toNatClampNeg ∧ (σ.1 114 ≠ 0 → ∀ k, k < s → wkO σ 115 116 k)) (h : ∀ (v : Int32) (σ' : rS), (frM bfF bfR σ σ' ∧ exP σ' ∧ (σ'.1 114 ≠ 0 → ∀ k, k < s → wkO σ' 115 116 k) ∧ (σ'.1 94 ≠ 0 → σ.1 94 ≠ 0) ∧ nK σ σ') → Q v σ') : cI C 7 m_best [.ref (co C)] σ Q := by
  refine m_best_run hC ?_
  unfold w_best_0
  obtain ⟨hP, hs, hb⟩ := hp
  have hO := pOK_of hP
  have n1000 := hO.1.1.2
  have hj13 : ∀ (s1 : Int32) (τ : rS), (τ = σ) → w_best_13 C Q  s1 τ := by
    rintro y13_s1 τ13 j13
    unfold w_best_13
    intro σ_1 hσ_1
    refine ⟨fun c2 => ?_, fun c2 => ?_⟩
    · skip
      refine ⟨fun c3 => ?_, fun c3 => ?_⟩
      · skip
        unfold w_best_39
        refine ⟨fun n l1 l2 τ => n = (σ.1 70 - l2).toNatClampNeg ∧ (l1 = 0 ∧ frM beF beR σ τ ∧ 0 ≤ l2 ∧ l2 ≤ σ.1 70 ∧ (∀ k, k < l2.toNatClampNeg → τ.2.2.1 96 k = 0) ∧ nK σ τ), ⟨_, rfl, ?_⟩, ?_⟩
        · clear h; have F1 : frM beF beR σ σ_1 := by rw [hσ_1, j13]; exact frM_0 (by decide)
          exact ⟨rfl, F1, by decide, hO.1.1.1, fun k hk => absurd hk (Nat.not_lt_zero k), by rw [hσ_1, j13]; exact nK_r rfl rfl⟩
        rintro n39 x39_1 x39_2 σ39 ⟨hn39, i39⟩
        obtain ⟨e1, F, a0, a1, U, K39⟩ := i39
        have e70 := F.1 70 (by decide)
        rw [e70]
        refine ⟨fun c4 => ?_, fun c4 => ?_⟩
        · skip
          unfold w_best_60
          refine ⟨fun n l1 τ => n = (σ.1 70 - l1).toNatClampNeg ∧ (0 ≤ l1 ∧ l1 ≤ σ.1 70 ∧ bsJ σ τ s ∧ cntB (τ.2.2.1 96) s = l1.toNatClampNeg), ⟨_, rfl, ?_⟩, ?_⟩
          · clear h; have e : x39_2 = σ.1 70 := Int32.le_antisymm a1 c4
            rw [e, ← hs] at U
            exact ⟨by rw [e1]; decide, by rw [e1]; exact hO.1.1.1, ⟨F, fun k hk z => absurd (U k hk) z, K39⟩, by rw [cntB_0 U, e1]; rfl⟩
          rintro n60 x60_1 σ60 ⟨hn60, i60⟩
          obtain ⟨b0, b1, J, ct⟩ := i60
          have g70 := J.1.1 70 (by decide)
          rw [g70]
          refine ⟨fun c5 => ?_, fun c5 => ?_⟩
          · skip
            unfold w_best_146
            refine ⟨fun n l2 τ => n = (σ.1 70 - l2).toNatClampNeg ∧ (frM beF bfR σ τ ∧ 0 ≤ l2 ∧ l2 ≤ σ.1 70 ∧ beA σ τ s ∧ (∀ k, k < l2.toNatClampNeg → wkO τ 115 116 k ∧ plP σ k (τ.2.2.1 83 k)) ∧ nK σ τ), ⟨_, rfl, ?_⟩, ?_⟩
            · clear h; have e : x60_1 = σ.1 70 := Int32.le_antisymm b1 c5
              have al := cntB_all (by rw [ct, e, ← hs])
              exact ⟨frM_w J.1 (fun k hk => hk) (sub_of rfl), by decide, hO.1.1.1, fun k hk => J.2.1 k hk (al k hk), fun k hk => absurd hk (Nat.not_lt_zero k), J.2.2⟩
            rintro n146 x146_2 σ146 ⟨hn146, i146⟩
            have hj178 : ∀ (l2 : Int32) (s1 : Int32) (s2 : Int32) (τ : rS), (l2 = x146_2 ∧ s1 = x146_2 ∧ ¬ σ.1 70 ≤ x146_2 ∧ τ = σ146 ∧ plP σ x146_2.toNatClampNeg s2) → w_best_178 C Q (fun l2' τ => ∃ k < n146, (fun n l2 τ => n = (σ.1 70 - l2).toNatClampNeg ∧ (frM beF bfR σ τ ∧ 0 ≤ l2 ∧ l2 ≤ σ.1 70 ∧ beA σ τ s ∧ (∀ k, k < l2.toNatClampNeg → wkO τ 115 116 k ∧ plP σ k (τ.2.2.1 83 k)) ∧ nK σ τ)) k l2' τ) l2 s1 s2 τ := by
              rintro y178_2 y178_s1 y178_s2 τ178 j178
              unfold w_best_178
              obtain ⟨G, w0, w1, A, D, K146⟩ := i146
              obtain ⟨y1, y2, y3, y4, y5⟩ := j178
              have u := uk w0 y3 n1000
              have as := cn_succ w0 (Int32.lt_trans u.2.2.2.2.2 (by decide))
              have ks : x146_2.toNatClampNeg < s := by rw [hs]; exact cn_lt w0 u.2.2.2.2.1
              have v0 := vx0 w0 u.2.2.2.2.2
              have c34 := c_34 w0 u.2.2.2.2.2
              rw [y2, y4, y1]
              refine ⟨ib_1000.mpr ?_, ?_⟩
              · clear h; exact ⟨w0, u.2.2.2.2.2⟩  -- b4
              intro σ_6 hσ_6
              refine ⟨ib_1000.mpr ?_, ?_⟩
              · clear h; exact ⟨w0, u.2.2.2.2.2⟩  -- b5
              refine ⟨ib_1000.mpr ?_, ?_⟩
              · clear h; exact ⟨w0, u.2.2.2.2.2⟩  -- b6
              intro σ_7 hσ_7
              intro x8 hx8
              unfold w_best_196
              refine ⟨fun n l2 l3 τ => n = (34 * x146_2 + 34 - l3).toNatClampNeg ∧ (l2 = x146_2 ∧ 34 * x146_2 ≤ l3 ∧ l3 ≤ 34 * x146_2 + 34 ∧ frM beF bfR σ τ ∧ beA σ τ s ∧ (∀ j, 34 * x146_2.toNatClampNeg ≤ j → j < l3.toNatClampNeg → τ.2.2.1 115 j = τ.2.2.1 117 j) ∧ (∀ k, k < x146_2.toNatClampNeg → wkO τ 115 116 k ∧ plP σ k (τ.2.2.1 83 k)) ∧ τ.2.2.1 116 x146_2.toNatClampNeg = τ.2.2.1 118 x146_2.toNatClampNeg ∧ plP σ x146_2.toNatClampNeg (τ.2.2.1 83 x146_2.toNatClampNeg) ∧ nK σ τ), ⟨_, rfl, ?_⟩, ?_⟩
              · clear h; have r117 : σ_7.2.2.1 117 = σ146.2.2.1 117 := by rw [hσ_7, ri3 (by decide), hσ_6, ri3 (by decide)]
                have r118 : σ_7.2.2.1 118 = σ146.2.2.1 118 := by rw [hσ_7, ri3 (by decide), hσ_6, ri3 (by decide)]
                have r119 : σ_7.2.2.1 119 = σ146.2.2.1 119 := by rw [hσ_7, ri3 (by decide), hσ_6, ri3 (by decide)]
                have r115 : σ_7.2.2.1 115 = σ146.2.2.1 115 := by rw [hσ_7, ri3 (by decide), hσ_6, ri3 (by decide)]
                have r116 : ∀ i, σ_7.2.2.1 116 i = if i = x146_2.toNatClampNeg then σ146.2.2.1 118 x146_2.toNatClampNeg else σ146.2.2.1 116 i := fun i => by rw [hσ_7, ri34, if_pos rfl, hσ_6, ri3 (by decide), ri3 (by decide)]
                have r83 : ∀ i, σ_7.2.2.1 83 i = if i = x146_2.toNatClampNeg then y178_s2 else σ146.2.2.1 83 i := fun i => by rw [hσ_7, ri3 (by decide), hσ_6, ri34, if_pos rfl]
                rw [hx8]
                refine ⟨rfl, Int32.le_refl _, c34.1, frM_tr G (by rw [hσ_7, hσ_6]; exact frM_tr (frM_1 (by decide)) (frM_1 (by decide))), beA_f A r117 r118 r119, fun j j1 j2 => absurd j2 (by rw [v0.2]; omega), fun k hk => ⟨wk_e (fun i _ _ => by rw [r115]) (by rw [r116, if_neg (by omega)]) (D k hk).1, by rw [r83, if_neg (by omega)]; exact (D k hk).2⟩, by rw [r116, if_pos rfl, r118], by rw [r83, if_pos rfl]; exact y5, nK_tr K146 (nK_r (by rw [hσ_7, ri3 (by decide), hσ_6, ri3 (by decide)]) (by rw [hσ_7, ri3 (by decide), hσ_6, ri3 (by decide)]))⟩
              rintro n196 x196_2 x196_3 σ196 ⟨hn196, i196⟩
              obtain ⟨f1, f2, f3, H, A2, C2, D2, s116, p83, K196⟩ := i196
              have lo := cn_l f2 v0.1.1
              rw [v0.2] at lo
              rw [f1]
              refine ⟨fun c9 => ?_, fun c9 => ?_⟩
              · skip
                intro x10 hx10
                refine ⟨_, cn_lt2 hn146 ?_ ?_, rfl, ?_⟩
                · clear h; rw [hx10]; exact u.1  -- d8
                · clear h; rw [hx10]; exact u.2.1  -- d9
                · clear h; have e : x196_3 = 34 * x146_2 + 34 := Int32.le_antisymm f3 c9
                  rw [e, c34.2] at C2
                  rw [hx10, as]
                  refine ⟨H, u.2.2.1, u.2.2.2.1, A2, fun k hk => ?_, K196⟩
                  by_cases q : k = x146_2.toNatClampNeg
                  · rw [q]
                    exact ⟨wk_e (r := 117) (q := 118) (fun i i1 i2 => C2 i i1 i2) s116 (A2 _ ks).1, p83⟩
                  · exact D2 k (by omega)
              · skip
                have v := b_34 v0.1.1 v0.1.2 f2 c9 (c_35 w0 u.2.2.2.2.2)
                have vs := cn_succ v.2.2.2.2.1 v.2.2.2.2.2.2
                refine ⟨ib_34000.mpr ?_, ?_⟩
                · clear h; exact ⟨v.2.2.2.2.1, v.2.2.2.2.2.1⟩  -- b11
                refine ⟨ib_34000.mpr ?_, ?_⟩
                · clear h; exact ⟨v.2.2.2.2.1, v.2.2.2.2.2.1⟩  -- b12
                intro σ_11 hσ_11
                intro x12 hx12
                refine ⟨_, cn_lt2 hn196 ?_ ?_, rfl, ?_⟩
                · clear h; rw [hx12]; exact v.1  -- d13
                · clear h; rw [hx12]; exact v.2.1  -- d14
                · clear h; have r117 : σ_11.2.2.1 117 = σ196.2.2.1 117 := by rw [hσ_11, ri3 (by decide)]
                  have r118 : σ_11.2.2.1 118 = σ196.2.2.1 118 := by rw [hσ_11, ri3 (by decide)]
                  have r119 : σ_11.2.2.1 119 = σ196.2.2.1 119 := by rw [hσ_11, ri3 (by decide)]
                  have r116 : σ_11.2.2.1 116 = σ196.2.2.1 116 := by rw [hσ_11, ri3 (by decide)]
                  have r83 : σ_11.2.2.1 83 = σ196.2.2.1 83 := by rw [hσ_11, ri3 (by decide)]
                  have r115 : ∀ i, σ_11.2.2.1 115 i = if i = x196_3.toNatClampNeg then σ196.2.2.1 117 x196_3.toNatClampNeg else σ196.2.2.1 115 i := fun i => by rw [hσ_11, ri34, if_pos rfl]
                  rw [hx12, vs]
                  refine ⟨rfl, v.2.2.1, v.2.2.2.1, frM_tr H (by rw [hσ_11]; exact frM_1 (by decide)), beA_f A2 r117 r118 r119, fun j j1 j2 => ?_, fun k hk => ⟨wk_e (fun i _ i2 => by rw [r115, if_neg (by omega)]) (by rw [r116]) (D2 k hk).1, by rw [r83]; exact (D2 k hk).2⟩, by rw [r116, r118]; exact s116, by rw [r83]; exact p83, nK_tr K196 (nK_r (by rw [hσ_11, ri3 (by decide)]) (by rw [hσ_11, ri3 (by decide)]))⟩
                  rw [r115, r117]
                  split
                  · rename_i q; rw [q]
                  · exact C2 j j1 (by omega)
            obtain ⟨G, w0, w1, A, D, K146⟩ := i146
            have h70 := G.1 70 (by decide)
            rw [h70]
            refine ⟨fun c13 => ?_, fun c13 => ?_⟩
            · skip
              intro σ_14 hσ_14
              intro σ_15 hσ_15
              refine h _ _ ?_
              · clear h; have e : x146_2 = σ.1 70 := Int32.le_antisymm w1 c13
                rw [e, ← hs] at D
                have G2 : frM bfF bfR σ σ_15 := by rw [hσ_15, hσ_14]; exact frM_tr (frM_w G (sub_of rfl) (fun k hk => hk)) (frM_tr (frM_0 (by decide)) (frM_0 (by decide)))
                have e2 : σ_15.2 = σ146.2 := by rw [hσ_15, hσ_14]; rfl
                refine ⟨G2, exP_pl hP (fun k hk => G2.1 k (by rcases hk with z | z | z | z <;> rw [z] <;> decide)) (fun k hk => G2.2.2.1 k (by rcases hk with z | z | z | z | z | z | z <;> rw [z] <;> decide)) (fun j j0 j1 => ?_), fun _ k hk => wkO_f (by rw [e2]) (by rw [e2]) (D k hk).1, fun z => absurd (by rw [hσ_15]; rfl) z, nK_tr K146 (nK_r (by rw [e2]) (by rw [e2]))⟩
                rw [e2]
                exact (D _ (by rw [hs]; exact cn_lt j0 j1)).2
            · skip
              have u := uk w0 c13 n1000
              have ks : x146_2.toNatClampNeg < s := by rw [hs]; exact cn_lt w0 u.2.2.2.2.1
              refine ⟨ib_1000.mpr ?_, ?_⟩
              · clear h; exact ⟨w0, u.2.2.2.2.2⟩  -- b17
              refine ⟨fun c16 => ?_, fun c16 => ?_⟩
              · skip
                refine hj178 _ _ _ _ ?_
                · clear h; rw [G.2.2.1 81 (by decide)] at c16
                  exact ⟨rfl, rfl, c13, rfl, fun _ => rfl, fun z => absurd c16 z⟩
              · skip
                refine ⟨ib_1000.mpr ?_, ?_⟩
                · clear h; exact ⟨w0, u.2.2.2.2.2⟩  -- b19
                refine hj178 _ _ _ _ ?_
                · clear h; rw [G.2.2.1 81 (by decide)] at c16
                  exact ⟨rfl, rfl, c13, rfl, fun z => absurd z c16, (A _ ks).2⟩
          · skip
            intro x17 hx17
            unfold w_best_75
            refine ⟨fun n l1 l2 τ => n = (l2 + 1).toNatClampNeg ∧ (x60_1 ≤ l1 ∧ l1 ≤ σ.1 70 ∧ 0 ≤ l2 + 1 ∧ l2 + 1 ≤ σ.1 70 ∧ bsJ σ τ s ∧ cntB (τ.2.2.1 96) s = l1.toNatClampNeg ∧ (l1 = x60_1 → ∀ k, k < s → (l2 + 1).toNatClampNeg ≤ k → τ.2.2.1 96 k = 0 → ∃ b, b < s ∧ edN σ 0 87 1 k b ∧ τ.2.2.1 96 b = 0)), ⟨_, rfl, ?_⟩, ?_⟩
            · clear h; have lt := Int32.not_le.mp c5
              rw [hx17, b_m1 hO.1.1.1 n1000]
              exact ⟨Int32.le_refl _, b1, hO.1.1.1, Int32.le_refl _, J, ct, fun _ k hk hl => absurd hk (by rw [hs]; omega)⟩
            rintro n75 x75_1 x75_2 σ75 ⟨hn75, i75⟩
            obtain ⟨g1, g2, g3, g4, J2, ct2, N⟩ := i75
            have l0 := Int32.le_trans b0 g1
            refine ⟨fun c18 => ?_, fun c18 => ?_⟩
            · skip
              refine ⟨_, cn_lt2 hn60 ?_ ?_, rfl, ?_⟩
              · clear h; have lt : x60_1 < x75_1 := by
                  by_cases e : x75_1 = x60_1
                  · exfalso
                    have e0 := b_en c18 g3 g4 n1000
                    have irr := hP.2.2.2.2 (Int32.le_antisymm (by rw [hσ_1, j13] at c3; exact c3) hP.2.2.2.1)
                    rw [← hs] at irr
                    refine be_no irr ?_ (fun k hk z => N e k hk (by rw [e0]; exact Nat.zero_le _) z)
                    rw [ct2, e, hs]
                    exact cn_lt b0 (Int32.not_le.mp c5)
                  · exact Int32.lt_of_le_of_ne g1 (fun z => e z.symm)
                exact (b_st b0 lt g2 n1000).1
              · clear h; have lt : x60_1 < x75_1 := by
                  by_cases e : x75_1 = x60_1
                  · exfalso
                    have e0 := b_en c18 g3 g4 n1000
                    have irr := hP.2.2.2.2 (Int32.le_antisymm (by rw [hσ_1, j13] at c3; exact c3) hP.2.2.2.1)
                    rw [← hs] at irr
                    refine be_no irr ?_ (fun k hk z => N e k hk (by rw [e0]; exact Nat.zero_le _) z)
                    rw [ct2, e, hs]
                    exact cn_lt b0 (Int32.not_le.mp c5)
                  · exact Int32.lt_of_le_of_ne g1 (fun z => e z.symm)
                exact (b_st b0 lt g2 n1000).2
              · clear h; exact ⟨l0, g2, J2, ct2⟩  -- i24
            · skip
              have dn := b_dn c18 g3 g4 n1000
              have ns := cn_succ dn.1 dn.2.2.2.2.2.2
              have hO75 := pOK_B hO J2.1
              have h70 := J2.1.1 70 (by decide)
              have ks : x75_2.toNatClampNeg < s := by rw [hs]; exact cn_lt dn.1 dn.2.1
              have st := ex_st hO.1 dn.1 dn.2.1
              refine ⟨ib_1000.mpr ?_, ?_⟩
              · clear h; exact ⟨dn.1, dn.2.2.1⟩  -- b25
              refine ⟨fun c19 => ?_, fun c19 => ?_⟩
              · skip
                intro x20 hx20
                refine ⟨_, cn_lt2 hn75 ?_ ?_, rfl, ?_⟩
                · clear h; rw [hx20, dn.2.2.2.1]; exact dn.1  -- d26
                · clear h; rw [hx20, dn.2.2.2.1]; exact dn.2.2.2.2.1  -- d27
                · clear h; rw [hx20, dn.2.2.2.1]
                  refine ⟨g1, g2, dn.1, dn.2.2.2.2.2.1, J2, ct2, fun e k hk hl z => ?_⟩
                  by_cases q : k = x75_2.toNatClampNeg
                  · rw [q] at z; exact absurd z c19
                  · exact N e k hk (by rw [ns]; omega) z
              · skip
                refine isWorthDone_c hC  ?_ (fun r21 q23 => ?_)
                · clear h; exact ⟨hO75.1, dn.1, by rw [h70]; exact dn.2.1⟩  -- p29
                have qw := q23.2
                rw [J2.1.2.2.1 76 (by decide), J2.1.2.2.1 77 (by decide), J2.1.2.2.1 78 (by decide)] at qw
                refine ⟨fun c24 => ?_, fun c24 => ?_⟩
                · skip
                  intro x25 hx25
                  refine ⟨_, cn_lt2 hn75 ?_ ?_, rfl, ?_⟩
                  · clear h; rw [hx25, dn.2.2.2.1]; exact dn.1  -- d30
                  · clear h; rw [hx25, dn.2.2.2.1]; exact dn.2.2.2.2.1  -- d31
                  · clear h; have ex : ∃ i : Int32, σ.2.2.1 76 x75_2.toNatClampNeg ≤ i ∧ i < σ.2.2.1 76 (x75_2.toNatClampNeg + 1) ∧ σ.2.2.1 77 i.toNatClampNeg = 0 ∧ σ75.2.2.1 96 (σ.2.2.1 78 i.toNatClampNeg).toNatClampNeg = 0 := Classical.byContradiction (fun ne => qw.mpr (fun i i1 i2 z1 z2 => ne ⟨i, i1, i2, z1, z2⟩) c24)
                    rw [hx25, dn.2.2.2.1]
                    refine ⟨g1, g2, dn.1, dn.2.2.2.2.2.1, J2, ct2, fun e k hk hl z => ?_⟩
                    by_cases q : k = x75_2.toNatClampNeg
                    · obtain ⟨i, i1, i2, z1, z2⟩ := ex
                      have i0 := Int32.le_trans st.1.1 i1
                      have tq := (hO.1.2.2.2.2 _ (cn_lt i0 (Int32.lt_of_lt_of_le i2 st.2.2.1))).2.1 z1
                      rw [q]
                      exact ⟨_, by rw [hs]; exact cn_lt tq.1 tq.2, ⟨i, i1, i2, z1, rfl, Or.inl rfl, Or.inl (by decide)⟩, z2⟩
                    · exact N e k hk (by rw [ns]; omega) z
                · skip
                  refine findWorth_c hC s ?_ (fun σ_26 q27 => ?_)
                  · clear h; rw [h70]
                    exact ⟨hO75, hs, dn.1, dn.2.1, fun k hk z => (J2.2.1 k hk z).1, q23.2.mp c24⟩
                  have F26 : frM beF beR σ σ_26 := frM_tr J2.1 (frM_Z q27.1)
                  have K26 : nK σ σ_26 := nK_tr J2.2.2 q27.1.2.2.2.2.2
                  refine isLong_c hC  ?_ (fun r28 q30 => ?_)
                  · clear h; exact ⟨by decide, by decide⟩  -- p34
                  refine ⟨fun c31 => ?_, fun c31 => ?_⟩
                  · skip
                    refine h _ _ ?_
                    · clear h; exact be_fin hP hb F26 K26  -- q35
                  · skip
                    refine isLong_c hC  ?_ (fun r32 q34 => ?_)
                    · clear h; exact ⟨by decide, by decide⟩  -- p36
                    refine ⟨fun c35 => ?_, fun c35 => ?_⟩
                    · skip
                      refine keepWorth_c hC  ?_ (fun σ_36 q37 => ?_)
                      · clear h; exact ⟨dn.1, dn.2.2.1, q27.2.1, q27.2.2.1⟩  -- p37
                      have l4 : nL σ_26 4 ≤ 16 := cn_le (x := σ_26.2.2.1 91 4) (y := 16) rfl (Int32.not_lt.mp (fun z => q30.2.mpr z c31))
                      have l5 : nL σ_26 5 ≤ 16 := cn_le (x := σ_26.2.2.1 91 5) (y := 16) rfl (Int32.not_lt.mp (fun z => q34.2.mpr z c35))
                      have s4 := q37.2.1 l4
                      have s5 := q37.2.2 l5
                      refine ⟨ib_1000.mpr ?_, ?_⟩
                      · clear h; exact ⟨dn.1, dn.2.2.1⟩  -- b38
                      intro σ_38 hσ_38
                      intro x39 hx39
                      intro x40 hx40
                      refine ⟨_, cn_lt2 hn75 ?_ ?_, rfl, ?_⟩
                      · clear h; rw [hx40, dn.2.2.2.1]; exact dn.1  -- d39
                      · clear h; rw [hx40, dn.2.2.2.1]; exact dn.2.2.2.2.1  -- d40
                      · clear h; have F38 : frM beF beR σ σ_38 := by rw [hσ_38]; exact frM_tr F26 (frM_tr (frM_1 (by decide)) (frM_tr (frM_R q37.1 (by decide)) (frM_1 (by decide))))
                        have r96 : ∀ i, σ_38.2.2.1 96 i = if i = x75_2.toNatClampNeg then vp_nar .boolean 1 else σ75.2.2.1 96 i := fun i => by
                          rw [hσ_38, ri34, if_pos rfl, q37.1.2.2.1 96 (by decide), ri3 (by decide), q27.1.2.2.1 96 (by decide) (by decide) (by decide)]
                        have K38 : nK σ σ_38 := nK_tr K26 (nK_r (by rw [hσ_38, ri3 (by decide), q37.1.2.2.1 90 (by decide), ri3 (by decide)]) (by rw [hσ_38, ri3 (by decide), q37.1.2.2.1 91 (by decide), ri3 (by decide)]))
                        have r117 : σ_38.2.2.1 117 = σ_36.2.2.1 117 := by rw [hσ_38, ri3 (by decide)]
                        have r118 : ∀ i, σ_38.2.2.1 118 i = if i = x75_2.toNatClampNeg then σ_26.1 92 else σ75.2.2.1 118 i := fun i => by
                          rw [hσ_38, ri3 (by decide), q37.1.2.2.1 118 (by decide), ri34, if_pos rfl, q27.1.2.2.1 118 (by decide) (by decide) (by decide)]
                        have r119 : σ_38.2.2.1 119 = σ_26.2.2.1 119 := by rw [hσ_38, ri3 (by decide), q37.1.2.2.1 119 (by decide), ri3 (by decide)]
                        have up := cntB_up (r := σ75.2.2.1 96) (r' := σ_38.2.2.1 96) (j := x75_2.toNatClampNeg) c19 (by rw [r96, if_pos rfl]; exact nar_1) (fun i hi => by rw [r96, if_neg hi]) ks
                        have le := cntB_le (r := σ_38.2.2.1 96) (n := s)
                        have lt := cn_ltr l0 hO.1.1.1 (by rw [← hs]; omega)
                        have bu := b_up b0 g1 lt n1000
                        have xs := cn_succ l0 bu.2.2.2.2
                        rw [hx39, hx40, dn.2.2.2.1, xs, up, ct2]
                        refine ⟨bu.1, bu.2.1, dn.1, dn.2.2.2.2.2.1, ⟨F38, fun k hk z => ?_, K38⟩, rfl, fun e => absurd e bu.2.2.1⟩
                        by_cases q : k = x75_2.toNatClampNeg
                        · rw [q]
                          refine ⟨⟨(sl_f (m := 16) r117).2.mpr s4.1, (sl_f (m := 16) r117).2.mpr s5.1, by rw [(sl_f (m := 16) r117).1, s5.2]; exact q27.2.2.2.1, by rw [r118, if_pos rfl]; exact q27.2.2.2.2.1⟩, ?_⟩
                          have pl := q27.2.2.2.2.2
                          rw [J2.1.2.2.1 76 (by decide), J2.1.2.2.1 81 (by decide)] at pl
                          rw [r119]
                          exact pl
                        · rw [r96, if_neg q] at z
                          have w := J2.2.1 k hk z
                          refine ⟨wk_e (fun i i1 i2 => ?_) (by rw [r118, if_neg q]) w.1, ?_⟩
                          · rw [r117, q37.1.2.2.2.2 i (by omega), ri3 (by decide), q27.1.2.2.1 117 (by decide) (by decide) (by decide)]
                          · rw [r119, q27.1.2.2.2.2.1 k q]; exact w.2
                    · skip
                      refine h _ _ ?_
                      · clear h; exact be_fin hP hb F26 K26  -- q42
        · skip
          have u := uk a0 c4 n1000
          have as := cn_succ a0 (Int32.lt_trans u.2.2.2.2.2 (by decide))
          refine ⟨ib_1000.mpr ?_, ?_⟩
          · clear h; exact ⟨a0, u.2.2.2.2.2⟩  -- b43
          intro σ_41 hσ_41
          intro x42 hx42
          refine ⟨_, cn_lt2 hn39 ?_ ?_, rfl, ?_⟩
          · clear h; rw [hx42]; exact u.1  -- d44
          · clear h; rw [hx42]; exact u.2.1  -- d45
          · clear h; rw [hx42, as, hσ_41]
            refine ⟨e1, frM_tr F (frM_1 (by decide)), u.2.2.1, u.2.2.2.1, fun k hk => ?_, nK_tr K39 (nK_r (ri3 (by decide)) (ri3 (by decide)))⟩
            rw [ri34, if_pos rfl]
            split
            · rfl
            · exact U k (by omega)
      · skip
        refine h _ _ ?_
        · clear h; exact be_fin hP hb (by rw [hσ_1, j13]; exact frM_0 (by decide)) (by rw [hσ_1, j13]; exact nK_r rfl rfl)  -- q47
    · skip
      refine h _ _ ?_
      · clear h; exact be_fin hP hb (by rw [hσ_1, j13]; exact frM_0 (by decide)) (by rw [hσ_1, j13]; exact nK_r rfl rfl)  -- q48
  refine ⟨fun c43 => ?_, fun c43 => ?_⟩
  · skip
    refine hj13 _ _ ?_
    · clear h; rfl  -- k49
  · skip
    refine hj13 _ _ ?_
    · clear h; rfl  -- k50
