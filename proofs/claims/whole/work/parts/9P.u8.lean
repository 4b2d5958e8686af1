section
set_option maxHeartbeats 1600000
/-! the reference: best -/
def cntB (r : Nat → Int32) : Nat → Nat
  | 0 => 0
  | n + 1 => cntB r n + (if r n = 0 then 0 else 1)
theorem cntB_le {r : Nat → Int32} : ∀ {n : Nat}, cntB r n ≤ n
  | 0 => Nat.le_refl _
  | n + 1 => by
    have ih := cntB_le (r := r) (n := n)
    show cntB r n + (if r n = 0 then 0 else 1) ≤ n + 1
    split <;> omega
theorem cntB_0 {r : Nat → Int32} : ∀ {n : Nat}, (∀ k, k < n → r k = 0) → cntB r n = 0
  | 0, _ => rfl
  | n + 1, h => by
    show cntB r n + (if r n = 0 then 0 else 1) = 0
    rw [cntB_0 (n := n) (fun k hk => h k (by omega)), if_pos (h n (by omega))]
theorem cntB_all {r : Nat → Int32} : ∀ {n : Nat}, cntB r n = n → ∀ k, k < n → r k ≠ 0
  | 0, _, k, hk => absurd hk (Nat.not_lt_zero k)
  | n + 1, h, k, hk => by
    have h' : cntB r n + (if r n = 0 then 0 else 1) = n + 1 := h
    have le := cntB_le (r := r) (n := n)
    by_cases e : r n = 0
    · rw [if_pos e] at h'; omega
    · rw [if_neg e] at h'
      by_cases q : k = n
      · rw [q]; exact e
      · exact cntB_all (n := n) (by omega) k (by omega)
theorem cntB_c {r r' : Nat → Int32} : ∀ {n : Nat}, (∀ k, k < n → r' k = r k) → cntB r' n = cntB r n
  | 0, _ => rfl
  | n + 1, h => by
    show cntB r' n + (if r' n = 0 then 0 else 1) = cntB r n + (if r n = 0 then 0 else 1)
    rw [cntB_c (n := n) (fun k hk => h k (by omega)), h n (by omega)]
theorem cntB_up {r r' : Nat → Int32} {j : Nat} (h0 : r j = 0) (h1 : r' j ≠ 0) (ho : ∀ i, i ≠ j → r' i = r i) : ∀ {n : Nat}, j < n → cntB r' n = cntB r n + 1
  | 0, h => absurd h (Nat.not_lt_zero j)
  | n + 1, h => by
    show cntB r' n + (if r' n = 0 then 0 else 1) = cntB r n + (if r n = 0 then 0 else 1) + 1
    by_cases e : j = n
    · rw [← e, if_neg h1, if_pos h0, cntB_c (fun k hk => ho k (by omega))]
    · rw [cntB_up h0 h1 ho (n := n) (by omega), ho n (fun z => e z.symm)]
      omega
/-- where no way leads round, some state of a set leads to no state of it -/
theorem sink {E : Nat → Nat → Prop} {U : Nat → Prop} {s : Nat} (irr : ∀ a, a < s → ¬ Tr E a a) (hU : ∃ k, k < s ∧ U k) : ∀ m, m ≤ s → ∃ k, k < s ∧ U k ∧ ∀ j, j < m → U j → ¬ Tr E k j
  | 0, _ => by
    obtain ⟨k, h1, h2⟩ := hU
    exact ⟨k, h1, h2, fun j hj => absurd hj (Nat.not_lt_zero j)⟩
  | m + 1, hm => by
    obtain ⟨k, h1, h2, h3⟩ := sink irr hU m (by omega)
    by_cases e : U m ∧ Tr E k m
    · refine ⟨m, by omega, e.1, fun j hj uj t => ?_⟩
      by_cases q : j = m
      · rw [q] at t; exact irr m (by omega) t
      · exact h3 j (by omega) uj (Tr_tr e.2 t)
    · refine ⟨k, h1, h2, fun j hj uj t => ?_⟩
      by_cases q : j = m
      · rw [q] at uj t; exact e ⟨uj, t⟩
      · exact h3 j (by omega) uj t
theorem ed0_q {σ τ : rS} {o : Nat} (hr : ∀ k, k = 76 ∨ k = 77 ∨ k = 78 → τ.2.2.1 k = σ.2.2.1 k) : edN τ 0 o 1 = edN σ 0 o 1 := by
  funext a b
  unfold edN edI edg
  simp only [rd]
  rw [hr 76 (by decide), hr 77 (by decide), hr 78 (by decide)]
  refine propext ⟨?_, ?_⟩
  · rintro ⟨i, a1, a2, a3, a4, -, -⟩
    exact ⟨i, a1, a2, a3, a4, Or.inl (by trivial), Or.inl (by decide)⟩
  · rintro ⟨i, a1, a2, a3, a4, -, -⟩
    exact ⟨i, a1, a2, a3, a4, Or.inl (by trivial), Or.inl (by decide)⟩
abbrev beF : List Nat := [0, 92]
abbrev beR : List Nat := [90, 91, 96, 117, 118, 119]
abbrev bfF : List Nat := [0, 92, 94, 114]
abbrev bfR : List Nat := [83, 90, 91, 96, 115, 116, 117, 118, 119]
/-- a plan's step is one of the state's nexts -/
def plO (σ : rS) (k : Nat) (x : Int32) : Prop := σ.2.2.1 81 k ≠ 0 → 0 ≤ x ∧ x < σ.2.2.1 76 (k + 1) - σ.2.2.1 76 k
def bsJ (σ τ : rS) (s : Nat) : Prop := frM beF beR σ τ ∧ (∀ k, k < s → τ.2.2.1 96 k ≠ 0 → (wkO τ 117 118 k ∧ plO σ k (τ.2.2.1 119 k))) ∧ nK σ τ
theorem pOK_B {σ τ : rS} (h : pOK σ) (f : frM beF beR σ τ) : pOK τ := pOK_o h (fun k hk => f.1 k (by rcases hk with z | z | z <;> rw [z] <;> decide)) (fun k hk => f.2.2.1 k (by rcases hk with z | z | z | z | z | z | z <;> rw [z] <;> decide))
theorem wk_e {σ τ : rS} {r r' q q' k : Nat} (h : ∀ i, 34 * k ≤ i → i < 34 * k + 34 → τ.2.2.1 r' i = σ.2.2.1 r i) (hq : τ.2.2.1 q' k = σ.2.2.1 q k) (hw : wkO σ r q k) : wkO τ r' q' k := by
  obtain ⟨h1, h2, h3, h4⟩ := hw
  have L1 : (σ.2.2.1 r (34 * k)).toNatClampNeg ≤ 16 := cn_le (y := 16) rfl h1.2.1
  have L2 : (σ.2.2.1 r (34 * k + 17)).toNatClampNeg ≤ 16 := cn_le (y := 16) rfl h2.2.1
  have a := gO_c (g := τ.2.2.1 r') (M := τ.2.2.1 r' (34 * k)) (p := 34 * k + 1) (m' := 16) h1 (h (34 * k) (Nat.le_refl _) (by omega)) h1.2.1 (fun i hi => h (34 * k + 1 + i) (by omega) (by omega))
  have b := gO_c (g := τ.2.2.1 r') (M := τ.2.2.1 r' (34 * k + 17)) (p := 34 * k + 17 + 1) (m' := 16) h2 (h (34 * k + 17) (by omega) (by omega)) h2.2.1 (fun i hi => h (34 * k + 17 + 1 + i) (by omega) (by omega))
  refine ⟨a.1, b.1, ?_, by rw [hq]; exact h4⟩
  have e : slV τ r' (34 * k + 17) = slV σ r (34 * k + 17) := b.2
  rw [e]
  exact h3
theorem b_dn {x s : Int32} (h : ¬ x < 0) (p0 : 0 ≤ x + 1) (p1 : x + 1 ≤ s) (s1 : s ≤ 1000) : 0 ≤ x ∧ x < s ∧ x < 1000 ∧ x + -1 + 1 = x ∧ x < x + 1 ∧ x ≤ s ∧ x < 1000000 := by grind
theorem b_en {x s : Int32} (h : x < 0) (p0 : 0 ≤ x + 1) (p1 : x + 1 ≤ s) (s1 : s ≤ 1000) : x + 1 = 0 := by grind
theorem b_m1 {s : Int32} (h0 : 0 ≤ s) (h1 : s ≤ 1000) : s - 1 + 1 = s := by grind
theorem b_st {a b s : Int32} (h0 : 0 ≤ a) (h1 : a < b) (h2 : b ≤ s) (s1 : s ≤ 1000) : 0 ≤ s - b ∧ s - b < s - a := by grind
theorem b_up {a b s : Int32} (h0 : 0 ≤ a) (h1 : a ≤ b) (h2 : b < s) (s1 : s ≤ 1000) : a ≤ b + 1 ∧ b + 1 ≤ s ∧ b + 1 ≠ a ∧ 0 ≤ b ∧ b < 1000000 := by grind
theorem b_34 {y l : Int32} (y0 : 0 ≤ y) (y1 : y < 34000) (l0 : y ≤ l) (l1 : ¬ y + 34 ≤ l) (y2 : y + 34 ≤ 34000) : 0 ≤ y + 34 - (l + 1) ∧ y + 34 - (l + 1) < y + 34 - l ∧ y ≤ l + 1 ∧ l + 1 ≤ y + 34 ∧ 0 ≤ l ∧ l < 34000 ∧ l < 1000000 := by grind
theorem c_34 {x : Int32} (x0 : 0 ≤ x) (x1 : x < 1000) : 34 * x ≤ 34 * x + 34 ∧ (34 * x + 34).toNatClampNeg = 34 * x.toNatClampNeg + 34 := by
  have v := vx0 x0 x1
  have e : (34 * x + 34).toInt = (34 * x).toInt + 34 := by
    have a := t0 v.1.1
    have b := Int32.lt_iff_toInt_lt.mp v.1.2
    rw [show (34000 : Int32).toInt = 34000 from rfl] at b
    rw [Int32.toInt_add, show (34 : Int32).toInt = 34 from rfl]
    exact Int.bmod_eq_of_le (by omega) (by omega)
  have c := cn_int v.1.1
  have le : 34 * x ≤ 34 * x + 34 := Int32.le_iff_toInt_le.mpr (by rw [e]; omega)
  have d := cn_int (Int32.le_trans v.1.1 le)
  exact ⟨le, by omega⟩
theorem c_35 {x : Int32} (x0 : 0 ≤ x) (x1 : x < 1000) : 34 * x + 34 ≤ 34000 := by
  have c := c_34 x0 x1
  have n : x.toNatClampNeg < 1000 := by have := cn_lt x0 x1; rwa [show (1000 : Int32).toNatClampNeg = 1000 from rfl] at this
  have z := Int32.le_trans (vx0 x0 x1).1.1 c.1
  have e := cn_int z
  exact Int32.le_iff_toInt_le.mpr (by rw [show (34000 : Int32).toInt = 34000 from rfl]; omega)
theorem cntB_ex {r : Nat → Int32} : ∀ {n : Nat}, cntB r n < n → ∃ k, k < n ∧ r k = 0
  | 0, h => absurd h (Nat.not_lt_zero _)
  | n + 1, h => by
    have h' : cntB r n + (if r n = 0 then 0 else 1) < n + 1 := h
    by_cases e : r n = 0
    · exact ⟨n, by omega, e⟩
    · rw [if_neg e] at h'
      obtain ⟨k, k1, k2⟩ := cntB_ex (r := r) (n := n) (by omega)
      exact ⟨k, by omega, k2⟩
theorem be_no {E : Nat → Nat → Prop} {r : Nat → Int32} {s : Nat} (irr : ∀ a, a < s → ¬ Tr E a a) (h : cntB r s < s) (N : ∀ k, k < s → r k = 0 → ∃ b, b < s ∧ E k b ∧ r b = 0) : False := by
  obtain ⟨k, h1, h2, h3⟩ := sink (U := fun k => r k = 0) irr (cntB_ex h) s (Nat.le_refl _)
  obtain ⟨b, b1, b2, b3⟩ := N k h1 h2
  exact h3 b b1 b3 (Tr_1 b2)
theorem be_fin {σ τ : rS} {s : Nat} (hP : exP σ) (hb : σ.1 114 ≠ 0 → ∀ k, k < s → wkO σ 115 116 k) (f : frM beF beR σ τ) (n : nK σ τ) : frM bfF bfR σ τ ∧ exP τ ∧ (τ.1 114 ≠ 0 → ∀ k, k < s → wkO τ 115 116 k) ∧ (τ.1 94 ≠ 0 → σ.1 94 ≠ 0) ∧ nK σ τ := by
  refine ⟨frM_w f (sub_of rfl) (sub_of rfl), exP_o hP (fun k hk => f.1 k (by rcases hk with z | z | z | z <;> rw [z] <;> decide)) (fun k hk => f.2.2.1 k (by rcases hk with z | z | z | z | z | z | z | z <;> rw [z] <;> decide)), fun z k hk => ?_, fun z => ?_, n⟩
  · rw [f.1 114 (by decide)] at z
    exact wkO_f (f.2.2.1 115 (by decide)) (f.2.2.1 116 (by decide)) (hb z k hk)
  · rw [f.1 94 (by decide)] at z
    exact z
theorem frM_Z {k : Nat} {σ τ : rS} (f : frZ k σ τ) : frM beF beR σ τ := ⟨fun j hj => f.1 j (fun e => hj (by rw [e]; decide)), f.2.1, fun j hj => f.2.2.1 j (fun e => hj (by rw [e]; decide)) (fun e => hj (by rw [e]; decide)) (fun e => hj (by rw [e]; decide)), fun j _ => by rw [f.2.2.2.1]⟩
theorem frM_R {F R : List Nat} {k u v : Nat} {σ τ : rS} (f : frR k u v σ τ) (hk : k ∈ R) : frM F R σ τ := ⟨fun j _ => by rw [f.1], f.2.1, fun j hj => f.2.2.1 j (fun e => hj (by rw [e]; exact hk)), fun j _ => by rw [f.2.2.2.1]⟩
def plP (σ : rS) (k : Nat) (x : Int32) : Prop := (σ.2.2.1 81 k = 0 → x = 0) ∧ plO σ k x
theorem exP_pl {σ τ : rS} (h : exP σ) (hf : ∀ k, k = 70 ∨ k = 71 ∨ k = 72 ∨ k = 88 → τ.1 k = σ.1 k) (hr : ∀ k, k = 73 ∨ k = 76 ∨ k = 77 ∨ k = 78 ∨ k = 79 ∨ k = 80 ∨ k = 81 → τ.2.2.1 k = σ.2.2.1 k) (hp : ∀ j : Int32, 0 ≤ j → j < σ.1 70 → plP σ j.toNatClampNeg (τ.2.2.1 83 j.toNatClampNeg)) : exP τ := by
  obtain ⟨h1, h2, h3, h4, h5⟩ := h
  have e70 := hf 70 (by decide)
  refine ⟨exO_o h1 (fun k hk => hf k (by omega)) (fun k hk => hr k (by omega)), ?_, ?_, by rw [hf 88 (by decide)]; exact h4, ?_⟩
  · rw [e70]
    intro j j0 j1
    have z := h2 j j0 j1
    unfold rowR at *
    simp only [rd] at *
    rw [hr 73 (by decide)]
    exact z
  · rw [e70]
    intro j j0 j1
    have z := hp j j0 j1
    have st := ex_st h1 j0 j1
    unfold plP plO at z
    rw [rd, rd, rd, rd, hr 81 (by decide), hr 76 (by decide), st.2.2.2.1]
    exact z
  · rw [hf 88 (by decide), e70, ed0_q (σ := σ) (fun k hk => hr k (by omega))]
    exact h5
theorem cn_ltr {x y : Int32} (x0 : 0 ≤ x) (y0 : 0 ≤ y) (h : x.toNatClampNeg < y.toNatClampNeg) : x < y := Int32.not_le.mp (fun z => absurd (cn_l z y0) (by omega))
theorem nar_1 : vp_nar .boolean (1 : Int32) ≠ 0 := by decide
def beA (σ τ : rS) (s : Nat) : Prop := ∀ k, k < s → wkO τ 117 118 k ∧ plO σ k (τ.2.2.1 119 k)
theorem beA_f {σ τ υ : rS} {s : Nat} (h : beA σ τ s) (h1 : υ.2.2.1 117 = τ.2.2.1 117) (h2 : υ.2.2.1 118 = τ.2.2.1 118) (h3 : υ.2.2.1 119 = τ.2.2.1 119) : beA σ υ s := fun k hk => ⟨wkO_f h1 h2 (h k hk).1, by rw [h3]; exact (h k hk).2⟩
theorem best_c {C : rCx} (hC : cOK C) (s : Nat) {σ : rS}  {Q : Int32 → rS → Prop} (hp : exP σ ∧ s = (σ.1 70).toNatClampNeg ∧ (σ.1 114 ≠ 0 → ∀ k, k < s → wkO σ 115 116 k)) (h : ∀ (v : Int32) (σ' : rS), (frM bfF bfR σ σ' ∧ exP σ' ∧ (σ'.1 114 ≠ 0 → ∀ k, k < s → wkO σ' 115 116 k) ∧ (σ'.1 94 ≠ 0 → σ.1 94 ≠ 0) ∧ nK σ σ') → Q v σ') : cI C 7 m_best [.ref (co C)] σ Q := by
  refine m_best_run hC ?_
  unfold w_best_0
  obtain ⟨hP, hs, hb⟩ := hp
  have hO := pOK_of hP
  have n1000 := hO.1.1.2
  have hj13 : ∀ (s1 : Int32) (τ : rS), (τ = σ) → w_best_13 C Q  s1 τ := by
    rintro y13_s1 τ13 j13
    unfold w_best_13
    intro σ_1 hσ_1
    refine ⟨fun c2 => ?_, fun c2 => ?_⟩
    · skip
      refine ⟨fun c3 => ?_, fun c3 => ?_⟩
      · skip
        unfold w_best_39
        refine ⟨fun n l1 l2 τ => n = (σ.1 70 - l2).toNatClampNeg ∧ (l1 = 0 ∧ frM beF beR σ τ ∧ 0 ≤ l2 ∧ l2 ≤ σ.1 70 ∧ (∀ k, k < l2.toNatClampNeg → τ.2.2.1 96 k = 0) ∧ nK σ τ), ⟨_, rfl, ?_⟩, ?_⟩
        · clear h; have F1 : frM beF beR σ σ_1 := by rw [hσ_1, j13]; exact frM_0 (by decide)
          exact ⟨rfl, F1, by decide, hO.1.1.1, fun k hk => absurd hk (Nat.not_lt_zero k), by rw [hσ_1, j13]; exact nK_r rfl rfl⟩
        rintro n39 x39_1 x39_2 σ39 ⟨hn39, i39⟩
        obtain ⟨e1, F, a0, a1, U, K39⟩ := i39
        have e70 := F.1 70 (by decide)
        rw [e70]
        refine ⟨fun c4 => ?_, fun c4 => ?_⟩
        · skip
          unfold w_best_60
          refine ⟨fun n l1 τ => n = (σ.1 70 - l1).toNatClampNeg ∧ (0 ≤ l1 ∧ l1 ≤ σ.1 70 ∧ bsJ σ τ s ∧ cntB (τ.2.2.1 96) s = l1.toNatClampNeg), ⟨_, rfl, ?_⟩, ?_⟩
          · clear h; have e : x39_2 = σ.1 70 := Int32.le_antisymm a1 c4
            rw [e, ← hs] at U
            exact ⟨by rw [e1]; decide, by rw [e1]; exact hO.1.1.1, ⟨F, fun k hk z => absurd (U k hk) z, K39⟩, by rw [cntB_0 U, e1]; rfl⟩
          rintro n60 x60_1 σ60 ⟨hn60, i60⟩
          obtain ⟨b0, b1, J, ct⟩ := i60
          have g70 := J.1.1 70 (by decide)
          rw [g70]
          refine ⟨fun c5 => ?_, fun c5 => ?_⟩
          · skip
            unfold w_best_146
            refine ⟨fun n l2 τ => n = (σ.1 70 - l2).toNatClampNeg ∧ (frM beF bfR σ τ ∧ 0 ≤ l2 ∧ l2 ≤ σ.1 70 ∧ beA σ τ s ∧ (∀ k, k < l2.toNatClampNeg → wkO τ 115 116 k ∧ plP σ k (τ.2.2.1 83 k)) ∧ nK σ τ), ⟨_, rfl, ?_⟩, ?_⟩
            · clear h; have e : x60_1 = σ.1 70 := Int32.le_antisymm b1 c5
              have al := cntB_all (by rw [ct, e, ← hs])
              exact ⟨frM_w J.1 (fun k hk => hk) (sub_of rfl), by decide, hO.1.1.1, fun k hk => J.2.1 k hk (al k hk), fun k hk => absurd hk (Nat.not_lt_zero k), J.2.2⟩
            rintro n146 x146_2 σ146 ⟨hn146, i146⟩
            have hj178 : ∀ (l2 : Int32) (s1 : Int32) (s2 : Int32) (τ : rS), (l2 = x146_2 ∧ s1 = x146_2 ∧ ¬ σ.1 70 ≤ x146_2 ∧ τ = σ146 ∧ plP σ x146_2.toNatClampNeg s2) → w_best_178 C Q (fun l2' τ => ∃ k < n146, (fun n l2 τ => n = (σ.1 70 - l2).toNatClampNeg ∧ (frM beF bfR σ τ ∧ 0 ≤ l2 ∧ l2 ≤ σ.1 70 ∧ beA σ τ s ∧ (∀ k, k < l2.toNatClampNeg → wkO τ 115 116 k ∧ plP σ k (τ.2.2.1 83 k)) ∧ nK σ τ)) k l2' τ) l2 s1 s2 τ := by
              rintro y178_2 y178_s1 y178_s2 τ178 j178
              unfold w_best_178
              obtain ⟨G, w0, w1, A, D, K146⟩ := i146
              obtain ⟨y1, y2, y3, y4, y5⟩ := j178
              have u := uk w0 y3 n1000
              have as := cn_succ w0 (Int32.lt_trans u.2.2.2.2.2 (by decide))
              have ks : x146_2.toNatClampNeg < s := by rw [hs]; exact cn_lt w0 u.2.2.2.2.1
              have v0 := vx0 w0 u.2.2.2.2.2
              have c34 := c_34 w0 u.2.2.2.2.2
              rw [y2, y4, y1]
              refine ⟨ib_1000.mpr ?_, ?_⟩
              · clear h; exact ⟨w0, u.2.2.2.2.2⟩  -- b4
              intro σ_6 hσ_6
              refine ⟨ib_1000.mpr ?_, ?_⟩
              · clear h; exact ⟨w0, u.2.2.2.2.2⟩  -- b5
              refine ⟨ib_1000.mpr ?_, ?_⟩
              · clear h; exact ⟨w0, u.2.2.2.2.2⟩  -- b6
              intro σ_7 hσ_7
              intro x8 hx8
              unfold w_best_196
              refine ⟨fun n l2 l3 τ => n = (34 * x146_2 + 34 - l3).toNatClampNeg ∧ (l2 = x146_2 ∧ 34 * x146_2 ≤ l3 ∧ l3 ≤ 34 * x146_2 + 34 ∧ frM beF bfR σ τ ∧ beA σ τ s ∧ (∀ j, 34 * x146_2.toNatClampNeg ≤ j → j < l3.toNatClampNeg → τ.2.2.1 115 j = τ.2.2.1 117 j) ∧ (∀ k, k < x146_2.toNatClampNeg → wkO τ 115 116 k ∧ plP σ k (τ.2.2.1 83 k)) ∧ τ.2.2.1 116 x146_2.toNatClampNeg = τ.2.2.1 118 x146_2.toNatClampNeg ∧ plP σ x146_2.toNatClampNeg (τ.2.2.1 83 x146_2.toNatClampNeg) ∧ nK σ τ), ⟨_, rfl, ?_⟩, ?_⟩
              · clear h; have r117 : σ_7.2.2.1 117 = σ146.2.2.1 117 := by rw [hσ_7, ri3 (by decide), hσ_6, ri3 (by decide)]
                have r118 : σ_7.2.2.1 118 = σ146.2.2.1 118 := by rw [hσ_7, ri3 (by decide), hσ_6, ri3 (by decide)]
                have r119 : σ_7.2.2.1 119 = σ146.2.2.1 119 := by rw [hσ_7, ri3 (by decide), hσ_6, ri3 (by decide)]
                have r115 : σ_7.2.2.1 115 = σ146.2.2.1 115 := by rw [hσ_7, ri3 (by decide), hσ_6, ri3 (by decide)]
                have r116 : ∀ i, σ_7.2.2.1 116 i = if i = x146_2.toNatClampNeg then σ146.2.2.1 118 x146_2.toNatClampNeg else σ146.2.2.1 116 i := fun i => by rw [hσ_7, ri34, if_pos rfl, hσ_6, ri3 (by decide), ri3 (by decide)]
                have r83 : ∀ i, σ_7.2.2.1 83 i = if i = x146_2.toNatClampNeg then y178_s2 else σ146.2.2.1 83 i := fun i => by rw [hσ_7, ri3 (by decide), hσ_6, ri34, if_pos rfl]
                rw [hx8]
                refine ⟨rfl, Int32.le_refl _, c34.1, frM_tr G (by rw [hσ_7, hσ_6]; exact frM_tr (frM_1 (by decide)) (frM_1 (by decide))), beA_f A r117 r118 r119, fun j j1 j2 => absurd j2 (by rw [v0.2]; omega), fun k hk => ⟨wk_e (fun i _ _ => by rw [r115]) (by rw [r116, if_neg (by omega)]) (D k hk).1, by rw [r83, if_neg (by omega)]; exact (D k hk).2⟩, by rw [r116, if_pos rfl, r118], by rw [r83, if_pos rfl]; exact y5, nK_tr K146 (nK_r (by rw [hσ_7, ri3 (by decide), hσ_6, ri3 (by decide)]) (by rw [hσ_7, ri3 (by decide), hσ_6, ri3 (by decide)]))⟩
              rintro n196 x196_2 x196_3 σ196 ⟨hn196, i196⟩
              obtain ⟨f1, f2, f3, H, A2, C2, D2, s116, p83, K196⟩ := i196
              have lo := cn_l f2 v0.1.1
              rw [v0.2] at lo
              rw [f1]
              refine ⟨fun c9 => ?_, fun c9 => ?_⟩
              · skip
                intro x10 hx10
                refine ⟨_, cn_lt2 hn146 ?_ ?_, rfl, ?_⟩
                · clear h; rw [hx10]; exact u.1  -- d8
                · clear h; rw [hx10]; exact u.2.1  -- d9
                · clear h; have e : x196_3 = 34 * x146_2 + 34 := Int32.le_antisymm f3 c9
                  rw [e, c34.2] at C2
                  rw [hx10, as]
                  refine ⟨H, u.2.2.1, u.2.2.2.1, A2, fun k hk => ?_, K196⟩
                  by_cases q : k = x146_2.toNatClampNeg
                  · rw [q]
                    exact ⟨wk_e (r := 117) (q := 118) (fun i i1 i2 => C2 i i1 i2) s116 (A2 _ ks).1, p83⟩
                  · exact D2 k (by omega)
              · skip
                have v := b_34 v0.1.1 v0.1.2 f2 c9 (c_35 w0 u.2.2.2.2.2)
                have vs := cn_succ v.2.2.2.2.1 v.2.2.2.2.2.2
                refine ⟨ib_34000.mpr ?_, ?_⟩
                · clear h; exact ⟨v.2.2.2.2.1, v.2.2.2.2.2.1⟩  -- b11
                refine ⟨ib_34000.mpr ?_, ?_⟩
                · clear h; exact ⟨v.2.2.2.2.1, v.2.2.2.2.2.1⟩  -- b12
                intro σ_11 hσ_11
                intro x12 hx12
                refine ⟨_, cn_lt2 hn196 ?_ ?_, rfl, ?_⟩
                · clear h; rw [hx12]; exact v.1  -- d13
                · clear h; rw [hx12]; exact v.2.1  -- d14
                · clear h; have r117 : σ_11.2.2.1 117 = σ196.2.2.1 117 := by rw [hσ_11, ri3 (by decide)]
                  have r118 : σ_11.2.2.1 118 = σ196.2.2.1 118 := by rw [hσ_11, ri3 (by decide)]
                  have r119 : σ_11.2.2.1 119 = σ196.2.2.1 119 := by rw [hσ_11, ri3 (by decide)]
                  have r116 : σ_11.2.2.1 116 = σ196.2.2.1 116 := by rw [hσ_11, ri3 (by decide)]
                  have r83 : σ_11.2.2.1 83 = σ196.2.2.1 83 := by rw [hσ_11, ri3 (by decide)]
                  have r115 : ∀ i, σ_11.2.2.1 115 i = if i = x196_3.toNatClampNeg then σ196.2.2.1 117 x196_3.toNatClampNeg else σ196.2.2.1 115 i := fun i => by rw [hσ_11, ri34, if_pos rfl]
                  rw [hx12, vs]
                  refine ⟨rfl, v.2.2.1, v.2.2.2.1, frM_tr H (by rw [hσ_11]; exact frM_1 (by decide)), beA_f A2 r117 r118 r119, fun j j1 j2 => ?_, fun k hk => ⟨wk_e (fun i _ i2 => by rw [r115, if_neg (by omega)]) (by rw [r116]) (D2 k hk).1, by rw [r83]; exact (D2 k hk).2⟩, by rw [r116, r118]; exact s116, by rw [r83]; exact p83, nK_tr K196 (nK_r (by rw [hσ_11, ri3 (by decide)]) (by rw [hσ_11, ri3 (by decide)]))⟩
                  rw [r115, r117]
                  split
                  · rename_i q; rw [q]
                  · exact C2 j j1 (by omega)
            obtain ⟨G, w0, w1, A, D, K146⟩ := i146
            have h70 := G.1 70 (by decide)
            rw [h70]
            refine ⟨fun c13 => ?_, fun c13 => ?_⟩
            · skip
              intro σ_14 hσ_14
              intro σ_15 hσ_15
              refine h _ _ ?_
              · clear h; have e : x146_2 = σ.1 70 := Int32.le_antisymm w1 c13
                rw [e, ← hs] at D
                have G2 : frM bfF bfR σ σ_15 := by rw [hσ_15, hσ_14]; exact frM_tr (frM_w G (sub_of rfl) (fun k hk => hk)) (frM_tr (frM_0 (by decide)) (frM_0 (by decide)))
                have e2 : σ_15.2 = σ146.2 := by rw [hσ_15, hσ_14]; rfl
                refine ⟨G2, exP_pl hP (fun k hk => G2.1 k (by rcases hk with z | z | z | z <;> rw [z] <;> decide)) (fun k hk => G2.2.2.1 k (by rcases hk with z | z | z | z | z | z | z <;> rw [z] <;> decide)) (fun j j0 j1 => ?_), fun _ k hk => wkO_f (by rw [e2]) (by rw [e2]) (D k hk).1, fun z => absurd (by rw [hσ_15]; rfl) z, nK_tr K146 (nK_r (by rw [e2]) (by rw [e2]))⟩
                rw [e2]
                exact (D _ (by rw [hs]; exact cn_lt j0 j1)).2
            · skip
              have u := uk w0 c13 n1000
              have ks : x146_2.toNatClampNeg < s := by rw [hs]; exact cn_lt w0 u.2.2.2.2.1
              refine ⟨ib_1000.mpr ?_, ?_⟩
              · clear h; exact ⟨w0, u.2.2.2.2.2⟩  -- b17
              refine ⟨fun c16 => ?_, fun c16 => ?_⟩
              · skip
                refine hj178 _ _ _ _ ?_
                · clear h; rw [G.2.2.1 81 (by decide)] at c16
                  exact ⟨rfl, rfl, c13, rfl, fun _ => rfl, fun z => absurd c16 z⟩
              · skip
                refine ⟨ib_1000.mpr ?_, ?_⟩
                · clear h; exact ⟨w0, u.2.2.2.2.2⟩  -- b19
                refine hj178 _ _ _ _ ?_
                · clear h; rw [G.2.2.1 81 (by decide)] at c16
                  exact ⟨rfl, rfl, c13, rfl, fun z => absurd z c16, (A _ ks).2⟩
          · skip
            intro x17 hx17
            unfold w_best_75
            refine ⟨fun n l1 l2 τ => n = (l2 + 1).toNatClampNeg ∧ (x60_1 ≤ l1 ∧ l1 ≤ σ.1 70 ∧ 0 ≤ l2 + 1 ∧ l2 + 1 ≤ σ.1 70 ∧ bsJ σ τ s ∧ cntB (τ.2.2.1 96) s = l1.toNatClampNeg ∧ (l1 = x60_1 → ∀ k, k < s → (l2 + 1).toNatClampNeg ≤ k → τ.2.2.1 96 k = 0 → ∃ b, b < s ∧ edN σ 0 87 1 k b ∧ τ.2.2.1 96 b = 0)), ⟨_, rfl, ?_⟩, ?_⟩
            · clear h; have lt := Int32.not_le.mp c5
              rw [hx17, b_m1 hO.1.1.1 n1000]
              exact ⟨Int32.le_refl _, b1, hO.1.1.1, Int32.le_refl _, J, ct, fun _ k hk hl => absurd hk (by rw [hs]; omega)⟩
            rintro n75 x75_1 x75_2 σ75 ⟨hn75, i75⟩
            obtain ⟨g1, g2, g3, g4, J2, ct2, N⟩ := i75
            have l0 := Int32.le_trans b0 g1
            refine ⟨fun c18 => ?_, fun c18 => ?_⟩
            · skip
              refine ⟨_, cn_lt2 hn60 ?_ ?_, rfl, ?_⟩
              · clear h; have lt : x60_1 < x75_1 := by
                  by_cases e : x75_1 = x60_1
                  · exfalso
                    have e0 := b_en c18 g3 g4 n1000
                    have irr := hP.2.2.2.2 (Int32.le_antisymm (by rw [hσ_1, j13] at c3; exact c3) hP.2.2.2.1)
                    rw [← hs] at irr
                    refine be_no irr ?_ (fun k hk z => N e k hk (by rw [e0]; exact Nat.zero_le _) z)
                    rw [ct2, e, hs]
                    exact cn_lt b0 (Int32.not_le.mp c5)
                  · exact Int32.lt_of_le_of_ne g1 (fun z => e z.symm)
                exact (b_st b0 lt g2 n1000).1
              · clear h; have lt : x60_1 < x75_1 := by
                  by_cases e : x75_1 = x60_1
                  · exfalso
                    have e0 := b_en c18 g3 g4 n1000
                    have irr := hP.2.2.2.2 (Int32.le_antisymm (by rw [hσ_1, j13] at c3; exact c3) hP.2.2.2.1)
                    rw [← hs] at irr
                    refine be_no irr ?_ (fun k hk z => N e k hk (by rw [e0]; exact Nat.zero_le _) z)
                    rw [ct2, e, hs]
                    exact cn_lt b0 (Int32.not_le.mp c5)
                  · exact Int32.lt_of_le_of_ne g1 (fun z => e z.symm)
                exact (b_st b0 lt g2 n1000).2
              · clear h; exact ⟨l0, g2, J2, ct2⟩  -- i24
            · skip
              have dn := b_dn c18 g3 g4 n1000
              have ns := cn_succ dn.1 dn.2.2.2.2.2.2
              have hO75 := pOK_B hO J2.1
              have h70 := J2.1.1 70 (by decide)
              have ks : x75_2.toNatClampNeg < s := by rw [hs]; exact cn_lt dn.1 dn.2.1
              have st := ex_st hO.1 dn.1 dn.2.1
              refine ⟨ib_1000.mpr ?_, ?_⟩
              · clear h; exact ⟨dn.1, dn.2.2.1⟩  -- b25
              refine ⟨fun c19 => ?_, fun c19 => ?_⟩
              · skip
                intro x20 hx20
                refine ⟨_, cn_lt2 hn75 ?_ ?_, rfl, ?_⟩
                · clear h; rw [hx20, dn.2.2.2.1]; exact dn.1  -- d26
                · clear h; rw [hx20, dn.2.2.2.1]; exact dn.2.2.2.2.1  -- d27
                · clear h; rw [hx20, dn.2.2.2.1]
                  refine ⟨g1, g2, dn.1, dn.2.2.2.2.2.1, J2, ct2, fun e k hk hl z => ?_⟩
                  by_cases q : k = x75_2.toNatClampNeg
                  · rw [q] at z; exact absurd z c19
                  · exact N e k hk (by rw [ns]; omega) z
              · skip
                refine isWorthDone_c hC  ?_ (fun r21 q23 => ?_)
                · clear h; exact ⟨hO75.1, dn.1, by rw [h70]; exact dn.2.1⟩  -- p29
                have qw := q23.2
                rw [J2.1.2.2.1 76 (by decide), J2.1.2.2.1 77 (by decide), J2.1.2.2.1 78 (by decide)] at qw
                refine ⟨fun c24 => ?_, fun c24 => ?_⟩
                · skip
                  intro x25 hx25
                  refine ⟨_, cn_lt2 hn75 ?_ ?_, rfl, ?_⟩
                  · clear h; rw [hx25, dn.2.2.2.1]; exact dn.1  -- d30
                  · clear h; rw [hx25, dn.2.2.2.1]; exact dn.2.2.2.2.1  -- d31
                  · clear h; have ex : ∃ i : Int32, σ.2.2.1 76 x75_2.toNatClampNeg ≤ i ∧ i < σ.2.2.1 76 (x75_2.toNatClampNeg + 1) ∧ σ.2.2.1 77 i.toNatClampNeg = 0 ∧ σ75.2.2.1 96 (σ.2.2.1 78 i.toNatClampNeg).toNatClampNeg = 0 := Classical.byContradiction (fun ne => qw.mpr (fun i i1 i2 z1 z2 => ne ⟨i, i1, i2, z1, z2⟩) c24)
                    rw [hx25, dn.2.2.2.1]
                    refine ⟨g1, g2, dn.1, dn.2.2.2.2.2.1, J2, ct2, fun e k hk hl z => ?_⟩
                    by_cases q : k = x75_2.toNatClampNeg
                    · obtain ⟨i, i1, i2, z1, z2⟩ := ex
                      have i0 := Int32.le_trans st.1.1 i1
                      have tq := (hO.1.2.2.2.2 _ (cn_lt i0 (Int32.lt_of_lt_of_le i2 st.2.2.1))).2.1 z1
                      rw [q]
                      exact ⟨_, by rw [hs]; exact cn_lt tq.1 tq.2, ⟨i, i1, i2, z1, rfl, Or.inl rfl, Or.inl (by decide)⟩, z2⟩
                    · exact N e k hk (by rw [ns]; omega) z
                · skip
                  refine findWorth_c hC s ?_ (fun σ_26 q27 => ?_)
                  · clear h; rw [h70]
                    exact ⟨hO75, hs, dn.1, dn.2.1, fun k hk z => (J2.2.1 k hk z).1, q23.2.mp c24⟩
                  have F26 : frM beF beR σ σ_26 := frM_tr J2.1 (frM_Z q27.1)
                  have K26 : nK σ σ_26 := nK_tr J2.2.2 q27.1.2.2.2.2.2
                  refine isLong_c hC  ?_ (fun r28 q30 => ?_)
                  · clear h; exact ⟨by decide, by decide⟩  -- p34
                  refine ⟨fun c31 => ?_, fun c31 => ?_⟩
                  · skip
                    refine h _ _ ?_
                    · clear h; exact be_fin hP hb F26 K26  -- q35
                  · skip
                    refine isLong_c hC  ?_ (fun r32 q34 => ?_)
                    · clear h; exact ⟨by decide, by decide⟩  -- p36
                    refine ⟨fun c35 => ?_, fun c35 => ?_⟩
                    · skip
                      refine keepWorth_c hC  ?_ (fun σ_36 q37 => ?_)
                      · clear h; exact ⟨dn.1, dn.2.2.1, q27.2.1, q27.2.2.1⟩  -- p37
                      have l4 : nL σ_26 4 ≤ 16 := cn_le (x := σ_26.2.2.1 91 4) (y := 16) rfl (Int32.not_lt.mp (fun z => q30.2.mpr z c31))
                      have l5 : nL σ_26 5 ≤ 16 := cn_le (x := σ_26.2.2.1 91 5) (y := 16) rfl (Int32.not_lt.mp (fun z => q34.2.mpr z c35))
                      have s4 := q37.2.1 l4
                      have s5 := q37.2.2 l5
                      refine ⟨ib_1000.mpr ?_, ?_⟩
                      · clear h; exact ⟨dn.1, dn.2.2.1⟩  -- b38
                      intro σ_38 hσ_38
                      intro x39 hx39
                      intro x40 hx40
                      refine ⟨_, cn_lt2 hn75 ?_ ?_, rfl, ?_⟩
                      · clear h; rw [hx40, dn.2.2.2.1]; exact dn.1  -- d39
                      · clear h; rw [hx40, dn.2.2.2.1]; exact dn.2.2.2.2.1  -- d40
                      · clear h; have F38 : frM beF beR σ σ_38 := by rw [hσ_38]; exact frM_tr F26 (frM_tr (frM_1 (by decide)) (frM_tr (frM_R q37.1 (by decide)) (frM_1 (by decide))))
                        have r96 : ∀ i, σ_38.2.2.1 96 i = if i = x75_2.toNatClampNeg then vp_nar .boolean 1 else σ75.2.2.1 96 i := fun i => by
                          rw [hσ_38, ri34, if_pos rfl, q37.1.2.2.1 96 (by decide), ri3 (by decide), q27.1.2.2.1 96 (by decide) (by decide) (by decide)]
                        have K38 : nK σ σ_38 := nK_tr K26 (nK_r (by rw [hσ_38, ri3 (by decide), q37.1.2.2.1 90 (by decide), ri3 (by decide)]) (by rw [hσ_38, ri3 (by decide), q37.1.2.2.1 91 (by decide), ri3 (by decide)]))
                        have r117 : σ_38.2.2.1 117 = σ_36.2.2.1 117 := by rw [hσ_38, ri3 (by decide)]
                        have r118 : ∀ i, σ_38.2.2.1 118 i = if i = x75_2.toNatClampNeg then σ_26.1 92 else σ75.2.2.1 118 i := fun i => by
                          rw [hσ_38, ri3 (by decide), q37.1.2.2.1 118 (by decide), ri34, if_pos rfl, q27.1.2.2.1 118 (by decide) (by decide) (by decide)]
                        have r119 : σ_38.2.2.1 119 = σ_26.2.2.1 119 := by rw [hσ_38, ri3 (by decide), q37.1.2.2.1 119 (by decide), ri3 (by decide)]
                        have up := cntB_up (r := σ75.2.2.1 96) (r' := σ_38.2.2.1 96) (j := x75_2.toNatClampNeg) c19 (by rw [r96, if_pos rfl]; exact nar_1) (fun i hi => by rw [r96, if_neg hi]) ks
                        have le := cntB_le (r := σ_38.2.2.1 96) (n := s)
                        have lt := cn_ltr l0 hO.1.1.1 (by rw [← hs]; omega)
                        have bu := b_up b0 g1 lt n1000
                        have xs := cn_succ l0 bu.2.2.2.2
                        rw [hx39, hx40, dn.2.2.2.1, xs, up, ct2]
                        refine ⟨bu.1, bu.2.1, dn.1, dn.2.2.2.2.2.1, ⟨F38, fun k hk z => ?_, K38⟩, rfl, fun e => absurd e bu.2.2.1⟩
                        by_cases q : k = x75_2.toNatClampNeg
                        · rw [q]
                          refine ⟨⟨(sl_f (m := 16) r117).2.mpr s4.1, (sl_f (m := 16) r117).2.mpr s5.1, by rw [(sl_f (m := 16) r117).1, s5.2]; exact q27.2.2.2.1, by rw [r118, if_pos rfl]; exact q27.2.2.2.2.1⟩, ?_⟩
                          have pl := q27.2.2.2.2.2
                          rw [J2.1.2.2.1 76 (by decide), J2.1.2.2.1 81 (by decide)] at pl
                          rw [r119]
                          exact pl
                        · rw [r96, if_neg q] at z
                          have w := J2.2.1 k hk z
                          refine ⟨wk_e (fun i i1 i2 => ?_) (by rw [r118, if_neg q]) w.1, ?_⟩
                          · rw [r117, q37.1.2.2.2.2 i (by omega), ri3 (by decide), q27.1.2.2.1 117 (by decide) (by decide) (by decide)]
                          · rw [r119, q27.1.2.2.2.2.1 k q]; exact w.2
                    · skip
                      refine h _ _ ?_
                      · clear h; exact be_fin hP hb F26 K26  -- q42
        · skip
          have u := uk a0 c4 n1000
          have as := cn_succ a0 (Int32.lt_trans u.2.2.2.2.2 (by decide))
          refine ⟨ib_1000.mpr ?_, ?_⟩
          · clear h; exact ⟨a0, u.2.2.2.2.2⟩  -- b43
          intro σ_41 hσ_41
          intro x42 hx42
          refine ⟨_, cn_lt2 hn39 ?_ ?_, rfl, ?_⟩
          · clear h; rw [hx42]; exact u.1  -- d44
          · clear h; rw [hx42]; exact u.2.1  -- d45
          · clear h; rw [hx42, as, hσ_41]
            refine ⟨e1, frM_tr F (frM_1 (by decide)), u.2.2.1, u.2.2.2.1, fun k hk => ?_, nK_tr K39 (nK_r (ri3 (by decide)) (ri3 (by decide)))⟩
            rw [ri34, if_pos rfl]
            split
            · rfl
            · exact U k (by omega)
      · skip
        refine h _ _ ?_
        · clear h; exact be_fin hP hb (by rw [hσ_1, j13]; exact frM_0 (by decide)) (by rw [hσ_1, j13]; exact nK_r rfl rfl)  -- q47
    · skip
      refine h _ _ ?_
      · clear h; exact be_fin hP hb (by rw [hσ_1, j13]; exact frM_0 (by decide)) (by rw [hσ_1, j13]; exact nK_r rfl rfl)  -- q48
  refine ⟨fun c43 => ?_, fun c43 => ?_⟩
  · skip
    refine hj13 _ _ ?_
    · clear h; rfl  -- k49
  · skip
    refine hj13 _ _ ?_
    · clear h; rfl  -- k50

end
section
set_option maxHeartbeats 1600000
/-! the reference: show -/
/-- only fields of F and numbers of l differ -/
def frT (F l : List Nat) (σ τ : rS) : Prop := (∀ k, k ∉ F → τ.1 k = σ.1 k) ∧ τ.2.1 = σ.2.1 ∧ (∀ k, k ≠ 90 → k ≠ 91 → τ.2.2.1 k = σ.2.2.1 k) ∧ τ.2.2.2 = σ.2.2.2 ∧ ∀ k, k ∉ l → τ.2.2.1 91 k = σ.2.2.1 91 k ∧ ∀ i, i < 40000 → τ.2.2.1 90 (40000 * k + i) = σ.2.2.1 90 (40000 * k + i)
theorem frT_rf {F l : List Nat} {σ : rS} : frT F l σ σ := ⟨fun _ _ => rfl, rfl, fun _ _ _ => rfl, rfl, fun _ _ => ⟨rfl, fun _ _ => rfl⟩⟩
theorem frT_tr {F l : List Nat} {σ τ υ : rS} (h : frT F l σ τ) (g : frT F l τ υ) : frT F l σ υ := ⟨fun k z => (g.1 k z).trans (h.1 k z), g.2.1.trans h.2.1, fun k z1 z2 => (g.2.2.1 k z1 z2).trans (h.2.2.1 k z1 z2), g.2.2.2.1.trans h.2.2.2.1, fun k z => ⟨(g.2.2.2.2 k z).1.trans (h.2.2.2.2 k z).1, fun i hi => ((g.2.2.2.2 k z).2 i hi).trans ((h.2.2.2.2 k z).2 i hi)⟩⟩
theorem frT_S {F l m : List Nat} {σ τ : rS} (h : frS l σ τ) (hF : 92 ∈ F) (hl : ∀ k, k ∈ l → k ∈ m) : frT F m σ τ := ⟨fun k z => h.1 k (fun e => z (by rw [e]; exact hF)), h.2.1, h.2.2.1, h.2.2.2.1, fun k z => h.2.2.2.2 k (fun e => z (hl k e))⟩
theorem frT_N {F l m : List Nat} {σ τ : rS} (h : frN l σ τ) (hl : ∀ k, k ∈ l → k ∈ m) : frT F m σ τ := ⟨fun k _ => by rw [h.1], h.2.1, h.2.2.1, h.2.2.2.1, fun k z => h.2.2.2.2 k (fun e => z (hl k e))⟩
theorem frT_0 {F l : List Nat} {σ : rS} {k : Nat} {x : Int32} (hk : k ∈ F) : frT F l σ (siU σ k x) := ⟨fun q z => if_neg (fun e => z (by rw [e]; exact hk)), rfl, fun _ _ _ => rfl, rfl, fun _ _ => ⟨rfl, fun _ _ => rfl⟩⟩
theorem nV_T {F l : List Nat} {σ τ : rS} {k : Nat} (f : frT F l σ τ) (hk : k ∉ l) (h : numO σ k) : numO τ k ∧ nV τ k = nV σ k ∧ nL τ k = nL σ k := nV_fr (σ := (τ.1, σ.2)) (l := l) ⟨rfl, f.2⟩ hk h
theorem pOK_T {F l : List Nat} {σ τ : rS} (h : pOK σ) (f : frT F l σ τ) (h0 : 70 ∉ F) (h1 : 71 ∉ F) (h2 : 72 ∉ F) : pOK τ := pOK_o h (fun k hk => by rcases hk with z | z | z <;> rw [z]; exact f.1 70 h0; exact f.1 71 h1; exact f.1 72 h2) (fun k hk => f.2.2.1 k (by omega) (by omega))
theorem swQ_o {σ τ : rS} (e70 : τ.1 70 = σ.1 70) (hr : ∀ k, k ≠ 90 → k ≠ 91 → τ.2.2.1 k = σ.2.2.1 k) : swQ τ = swQ σ := by
  have r := fun k (h : k ≠ 90 ∧ k ≠ 91) => hr k h.1 h.2
  funext how v b
  unfold swQ swS swK trm byI alQ opQ alP
  unfold mtV vsV fV twI tTI leN loN slV
  rw [e70, r 75 (by decide), r 76 (by decide), r 77 (by decide), r 78 (by decide), r 79 (by decide), r 80 (by decide), r 81 (by decide), r 83 (by decide), r 95 (by decide), r 102 (by decide)]
theorem hS_z {σ : rS} {S : Rat} (h : hS σ S) (hz : S = 0) : σ.2.2.1 91 4 = 0 := by
  obtain ⟨q, hq, w⟩ := h
  have q0 : q = 0 := by
    rcases w with y | y
    · rw [← y.2]; exact hz
    · have e : -(-q) = -S := by rw [y.2]
      rw [Rat.neg_neg, hz, Rat.neg_zero] at e
      exact e
  have v0 : nV σ 4 = 0 := by
    have e := hq.2.2.1
    rw [q0] at e
    have e2 : ((nV σ 4 : Nat) : Int) = 0 := e
    omega
  have l0 : nL σ 4 = 0 := (nL_z hq.1).mpr v0
  exact cn_inj hq.1.1 (by decide) (l0.trans rfl)
abbrev shF : List Nat := [0, 92, 103]
abbrev shL : List Nat := [0, 1, 2, 3, 4, 5, 6, 7, 8, 9, 10, 15, 16, 19, 20]
def shO (σ : rS) : Prop := σ.1 103 ≠ 0 → numO σ 15 ∧ numO σ 16
def plN (σ : rS) : Prop := σ.1 106 ≠ -1 → numO σ 17 ∧ numO σ 18 ∧ 0 < nV σ 18 ∧ nL σ 17 + 1 < 40000 ∧ nL σ 18 + 1 < 40000
def shC (σ : rS) (a : Int32) : Prop := (a = 12 → σ.1 106 ≠ -1) ∧ (a = 11 → σ.1 114 ≠ 0) ∧ (a < 11 → σ.1 94 ≠ 0) ∧ a ≤ 12
def shD (σ : rS) (a : Int32) : Prop := shC σ a ∧ (a < 2 → swQ σ 6 0 0 ≠ 0) ∧ (a = 10 → swQ σ 7 0 0 ≠ 0)
theorem shO_S {l : List Nat} {σ τ : rS} (h : shO σ) (f : frS l σ τ) (h5 : 15 ∉ l) (h6 : 16 ∉ l) : shO τ := by
  intro z
  rw [f.1 103 (by decide)] at z
  exact ⟨(nV_frS f h5 (h z).1).1, (nV_frS f h6 (h z).2).1⟩
theorem shO_0 {σ : rS} {x : Int32} (h : shO σ) : shO (siU σ 0 x) := fun z => h z
theorem sh_12 {a : Int32} (h : 7 ≤ a) (h1 : a ≤ 12) (n7 : ¬ a = 7) (n8 : ¬ a = 8) (n9 : ¬ a = 9) (n10 : ¬ a = 10) (n11 : ¬ a = 11) : a = 12 := by grind
theorem sh_lt {a : Int32} (h : a < 2 ∨ a = 10) : a < 11 := by grind
theorem sh_l7 {a : Int32} (h : ¬ 7 ≤ a) : a < 11 := by grind
theorem sh_l2 {a : Int32} (h : ¬ 2 ≤ a) : a < 11 ∧ a < 2 := by grind
theorem show_c {C : rCx} (hC : cOK C) (s : Nat) {σ : rS} {a1 : Int32} {a2 : Int32} {Q : Int32 → rS → Prop} (hp : pOK σ ∧ s = (σ.1 70).toNatClampNeg ∧ (σ.1 94 ≠ 0 → ∀ k, k < s → vOK σ k) ∧ (σ.1 114 ≠ 0 → ∀ k, k < s → wkO σ 115 116 k) ∧ plN σ ∧ shO σ) (h : ∀ (v : Int32) (σ' : rS), (frT shF shL σ σ' ∧ shO σ') → Q v σ') : cI C 8 m_show [.ref (co C), .int a1, .int a2] σ Q := by
  refine m_show_run hC ?_
  unfold w_show_0
  obtain ⟨hO, hs, hv, hw, hn, hh⟩ := hp
  have hj352 : ∀  (τ : rS), (frT shF shL σ τ ∧ numO τ 4 ∧ numO τ 5) → w_show_352 C Q   τ := by
    rintro  τ352 j352
    unfold w_show_352
    obtain ⟨F, o4, o5⟩ := j352
    refine copy_v hC  ?_ (fun σ_1 q2 => ?_)
    · clear h; simp only [kn, kn2]; exact ⟨by decide, by decide, by decide, by decide, by decide, o4⟩  -- p1
    simp only [kn, kn2] at q2
    have g5 := nV_fr q2.1 (k := 5) (by decide) o5
    refine copy_v hC  ?_ (fun σ_3 q4 => ?_)
    · clear h; simp only [kn, kn2]; exact ⟨by decide, by decide, by decide, by decide, by decide, g5.1⟩  -- p2
    simp only [kn, kn2] at q4
    have m15 := nV_fr q4.1 (k := 15) (by decide) q2.2.1
    intro σ_5 hσ_5
    refine isZero_c hC  ?_ (fun r6 q8 => ?_)
    · clear h; exact ⟨by decide, by decide⟩  -- p3
    refine ⟨fun c9 => ?_, fun c9 => ?_⟩
    · skip
      refine h _ _ ?_
      · clear h; rw [hσ_5]; exact ⟨frT_tr F (frT_tr (frT_N q2.1 (sub_of rfl)) (frT_tr (frT_N q4.1 (sub_of rfl)) (frT_0 (by decide)))), fun _ => ⟨m15.1, q4.2.1⟩⟩  -- q4
    · skip
      refine h _ _ ?_
      · clear h; rw [hσ_5]; exact ⟨frT_tr F (frT_tr (frT_N q2.1 (sub_of rfl)) (frT_tr (frT_N q4.1 (sub_of rfl)) (frT_0 (by decide)))), fun _ => ⟨m15.1, q4.2.1⟩⟩  -- q5
  have hj235 : ∀ (l1 : Int32) (τ : rS), (l1 = a1 ∧ frT shF shL σ τ ∧ σ.1 94 ≠ 0) → w_show_235 C Q  l1 τ := by
    rintro y235_1 τ235 j235
    unfold w_show_235
    obtain ⟨y1, F, n94⟩ := j235
    have P1 := pOK_T hO F (by decide) (by decide) (by decide)
    have P2 : s = (τ235.1 70).toNatClampNeg := by rw [F.1 70 (by decide)]; exact hs
    have P3 : ∀ k, k < s → vOK τ235 k := fun k hk => vOK_f (F.2.2.1 102 (by decide) (by decide)) (hv n94 k hk)
    refine ⟨fun c10 => ?_, fun c10 => ?_⟩
    · skip
      refine sumVisits_c hC s ?_ (fun σ_11 q12 => ?_)
      · clear h; exact ⟨P1, P2, P3⟩  -- p6
      refine hj352 _ ?_
      · clear h; obtain ⟨S, J⟩ := q12.2
        have L := siS_L P1 P2 P3 (by decide) J
        exact ⟨frT_tr F (frT_S q12.1 (by decide) (sub_of rfl)), L.1, L.2.1⟩
    · skip
      refine sumVisits_c hC s ?_ (fun σ_13 q14 => ?_)
      · clear h; exact ⟨P1, P2, P3⟩  -- p8
      refine hj352 _ ?_
      · clear h; obtain ⟨S, J⟩ := q14.2
        have L := siS_L P1 P2 P3 (by decide) J
        exact ⟨frT_tr F (frT_S q14.1 (by decide) (sub_of rfl)), L.1, L.2.1⟩
  have hj181 : ∀ (l1 : Int32) (l2 : Int32) (τ : rS), (l1 = a1 ∧ l2 = a2 ∧ frT shF shL σ τ ∧ shO τ ∧ (τ.1 0 ≤ 0 → shD σ a1 ∧ ((a1 = 8 ∨ a1 = 11) → 0 ≤ a2 ∧ a2 < σ.1 70))) → w_show_181 C Q  l1 l2 τ := by
    rintro y181_1 y181_2 τ181 j181
    unfold w_show_181
    obtain ⟨y1, y2, F, H, D⟩ := j181
    have P1 := pOK_T hO F (by decide) (by decide) (by decide)
    have P2 : s = (τ181.1 70).toNatClampNeg := by rw [F.1 70 (by decide)]; exact hs
    have P3 : σ.1 94 ≠ 0 → ∀ k, k < s → vOK τ181 k := fun n94 k hk => vOK_f (F.2.2.1 102 (by decide) (by decide)) (hv n94 k hk)
    have P4 : swQ τ181 = swQ σ := swQ_o (F.1 70 (by decide)) F.2.2.1
    rw [y1, y2]
    refine ⟨fun c15 => ?_, fun c15 => ?_⟩
    · skip
      refine ⟨fun c16 => ?_, fun c16 => ?_⟩
      · skip
        refine ⟨fun c17 => ?_, fun c17 => ?_⟩
        · skip
          refine ⟨fun c18 => ?_, fun c18 => ?_⟩
          · skip
            refine hj235 _ _ ?_
            · clear h; exact ⟨rfl, F, (D c15).1.1.2.2.1 (by rw [c18]; decide)⟩  -- k10
          · skip
            refine ⟨fun c19 => ?_, fun c19 => ?_⟩
            · skip
              refine ⟨fun c20 => ?_, fun c20 => ?_⟩
              · skip
                refine ⟨fun c21 => ?_, fun c21 => ?_⟩
                · skip
                  refine ⟨fun c22 => ?_, fun c22 => ?_⟩
                  · skip
                    refine copy_v hC  ?_ (fun σ_23 q24 => ?_)
                    · clear h; have n := hn ((D c15).1.1.1 (sh_12 c17 (D c15).1.1.2.2.2 c18 c20 c19 c21 c22))
                      simp only [kn, kn2]; exact ⟨by decide, by decide, by decide, by decide, by decide, (nV_T F (by decide) n.1).1⟩
                    simp only [kn, kn2] at q24
                    have n := hn ((D c15).1.1.1 (sh_12 c17 (D c15).1.1.2.2.2 c18 c20 c19 c21 c22))
                    have n17 := nV_T F (k := 17) (by decide) n.1
                    have n18 := nV_T F (k := 18) (by decide) n.2.1
                    have m18 := nV_fr q24.1 (k := 18) (by decide) n18.1
                    refine copy_v hC  ?_ (fun σ_25 q26 => ?_)
                    · clear h; simp only [kn, kn2]; exact ⟨by decide, by decide, by decide, by decide, by decide, m18.1⟩  -- p12
                    simp only [kn, kn2] at q26
                    have m4 := nV_fr q26.1 (k := 4) (by decide) q24.2.1
                    refine reduce_c hC  ?_ (fun σ_27 q28 => ?_)
                    · clear h; simp only [kn, kn2]
                      exact ⟨by decide, by decide, by decide, by decide, by decide, m4.1, q26.2.1, by rw [q26.2.2.1, m18.2.1, n18.2.1]; exact n.2.2.1, by have := m4.2.2; have := q24.2.2.2; have := n17.2.2; have := n.2.2.2.1; omega, by have := q26.2.2.2; have := m18.2.2; have := n18.2.2; have := n.2.2.2.2; omega⟩
                    intro σ_29 hσ_29
                    refine hj352 _ ?_
                    · clear h; simp only [kn, kn2] at q28
                      rw [hσ_29]
                      exact ⟨frT_tr F (frT_tr (frT_N q24.1 (sub_of rfl)) (frT_tr (frT_N q26.1 (sub_of rfl)) (frT_tr (frT_N q28.1 (sub_of rfl)) (frT_0 (by decide))))), nV_92.2.1.mpr q28.2.1, nV_92.2.1.mpr q28.2.2.1⟩
                  · skip
                    refine clearSum_c hC  (fun σ_30 q31 => ?_)
                    have r := (D c15).2 (Or.inr c22)
                    have r1 := Int32.lt_of_lt_of_le r.2 hO.1.1.2
                    have W := wkO_f ((q31.1.2.2.1 115 (by decide) (by decide)).trans (F.2.2.1 115 (by decide) (by decide))) ((q31.1.2.2.1 116 (by decide) (by decide)).trans (F.2.2.1 116 (by decide) (by decide))) (hw ((D c15).1.1.2.1 c22) a2.toNatClampNeg (by rw [hs]; exact cn_lt r.1 r.2))
                    refine loadWorth_c hC  ?_ (fun σ_32 q33 => ?_)
                    · clear h; exact ⟨Or.inl rfl, r.1, r1, W.1, W.2.1⟩  -- p15
                    have p7 : 0 < nV σ_32 7 := by rw [q33.2.2.2.2.1]; exact W.2.2.1
                    have fb := fQ_b q33.2.1 p7 q33.2.2.2.2.2.1
                    have m7 := nV_lt q33.2.2.1 q33.2.2.2.2.2.2
                    have A := siG_add (a := 16) (M := nV σ_32 7) (x := σ_32.2.2.1 116 a2.toNatClampNeg) (by rw [q33.1.2.2.1 116 (by decide) (by decide)]; exact W.2.2.2) p7 m7 (by decide) (by decide) (siG_N q33.1 (by decide) (by decide) (siG_0 q31.2)) q33.2.1 q33.2.2.1 p7 (by have := q33.2.2.2.2.2.1; omega) (by have := q33.2.2.2.2.2.2; omega) (Rat.le_trans fb.2.1 p16_wB) fb.2.2
                    refine ⟨ib_1000.mpr ?_, ?_⟩
                    · clear h; exact ⟨r.1, r1⟩  -- b16
                    refine add_c hC  ?_ (fun σ_34 q35 => ?_)
                    · clear h; exact A.1  -- p17
                    refine hj352 _ ?_
                    · clear h; have L := siG_L (a := 16) p7 m7 (by decide) (A.2 _ q35.2)
                      exact ⟨frT_tr F (frT_tr (frT_S q31.1 (by decide) (sub_of rfl)) (frT_tr (frT_N q33.1 (sub_of rfl)) (frT_S q35.1 (by decide) (sub_of rfl)))), L.1, L.2.1⟩
                · skip
                  refine sumOver_c hC s ?_ (fun σ_36 q37 => ?_)
                  · clear h; exact ⟨P1, P2, P3 ((D c15).1.1.2.2.1 (by rw [c21]; decide)), fun _ => rfl, by rw [P4]; exact (D c15).1.2.2 c21⟩  -- p19
                  refine hj352 _ ?_
                  · clear h; exact ⟨frT_tr F (frT_S q37.1 (by decide) (sub_of rfl)), q37.2.1, q37.2.2.1⟩  -- k20
              · skip
                refine clearSum_c hC  (fun σ_38 q39 => ?_)
                have r := (D c15).2 (Or.inl c20)
                have r1 := Int32.lt_of_lt_of_le r.2 hO.1.1.2
                have V := vOK_f (q39.1.2.2.1 102 (by decide) (by decide)) (P3 ((D c15).1.1.2.2.1 (by rw [c20]; decide)) a2.toNatClampNeg (by rw [hs]; exact cn_lt r.1 r.2))
                refine loadVisits_c hC  ?_ (fun σ_40 q41 => ?_)
                · clear h; exact ⟨r.1, r1, V.1, V.2.1⟩  -- p21
                have p7 : 0 < nV σ_40 7 := by rw [q41.2.2.2.2.1]; exact V.2.2
                have fb := fQ_b q41.2.1 p7 q41.2.2.2.2.2.1
                have m7 := nV_lt q41.2.2.1 q41.2.2.2.2.2.2
                have A := siG_add (a := 16) (M := nV σ_40 7) (x := 1) (Or.inl rfl) p7 m7 (by decide) (by decide) (siG_N q41.1 (by decide) (by decide) (siG_0 q39.2)) q41.2.1 q41.2.2.1 p7 (by have := q41.2.2.2.2.2.1; omega) (by have := q41.2.2.2.2.2.2; omega) (Rat.le_trans fb.2.1 p16_wB) fb.2.2
                refine add_c hC  ?_ (fun σ_42 q43 => ?_)
                · clear h; exact A.1  -- p22
                refine hj352 _ ?_
                · clear h; have L := siG_L (a := 16) p7 m7 (by decide) (A.2 _ q43.2)
                  exact ⟨frT_tr F (frT_tr (frT_S q39.1 (by decide) (sub_of rfl)) (frT_tr (frT_N q41.1 (sub_of rfl)) (frT_S q43.1 (by decide) (sub_of rfl)))), L.1, L.2.1⟩
            · skip
              refine hj235 _ _ ?_
              · clear h; exact ⟨rfl, F, (D c15).1.1.2.2.1 (by rw [c19]; decide)⟩  -- k24
        · skip
          refine sumWeights_c hC s ?_ (fun σ_44 q45 => ?_)
          · clear h; exact ⟨P1, P2, P3 ((D c15).1.1.2.2.1 (sh_l7 c17)), fun z => absurd rfl z⟩  -- p25
          refine hj352 _ ?_
          · clear h; have L := siS_L P1 P2 (P3 ((D c15).1.1.2.2.1 (sh_l7 c17))) (by decide) q45.2
            exact ⟨frT_tr F (frT_S q45.1 (by decide) (sub_of rfl)), L.1, L.2.1⟩
      · skip
        refine sumOver_c hC s ?_ (fun σ_46 q47 => ?_)
        · clear h; exact ⟨P1, P2, P3 ((D c15).1.1.2.2.1 (sh_l2 c16).1), fun z => absurd rfl z, by rw [P4]; exact (D c15).1.2.1 (sh_l2 c16).2⟩  -- p27
        refine hj352 _ ?_
        · clear h; exact ⟨frT_tr F (frT_S q47.1 (by decide) (sub_of rfl)), q47.2.1, q47.2.2.1⟩  -- k28
    · skip
      refine h _ _ ?_
      · clear h; exact ⟨F, H⟩  -- q29
  have hj162 : ∀ (l1 : Int32) (l2 : Int32) (τ : rS), (l1 = a1 ∧ l2 = a2 ∧ frT shF shL σ τ ∧ shO τ ∧ shD σ a1) → w_show_162 C Q  l1 l2 τ := by
    rintro y162_1 y162_2 τ162 j162
    unfold w_show_162
    obtain ⟨y1, y2, F, H, D⟩ := j162
    refine isSlot_c hC  (fun r48 q50 => ?_)
    refine ⟨fun c51 => ?_, fun c51 => ?_⟩
    · skip
      intro σ_52 hσ_52
      refine hj181 _ _ _ ?_
      · clear h; rw [hσ_52]
        have q := q50.2.mp c51
        rw [y2, F.1 70 (by decide)] at q
        exact ⟨y1, y2, frT_tr F (frT_0 (by decide)), shO_0 H, fun _ => ⟨D, fun _ => q⟩⟩
    · skip
      intro σ_53 hσ_53
      refine hj181 _ _ _ ?_
      · clear h; rw [hσ_53]
        exact ⟨y1, y2, frT_tr F (frT_0 (by decide)), shO_0 H, fun z => absurd z (by show ¬ (3 : Int32) ≤ 0; decide)⟩
  have hj150 : ∀ (l1 : Int32) (l2 : Int32) (τ : rS), (l1 = a1 ∧ l2 = a2 ∧ frT shF shL σ τ ∧ shO τ ∧ shD σ a1) → w_show_150 C Q  l1 l2 τ := by
    rintro y150_1 y150_2 τ150 j150
    unfold w_show_150
    obtain ⟨y1, y2, F, H, D⟩ := j150
    refine ⟨fun c54 => ?_, fun c54 => ?_⟩
    · skip
      refine hj162 _ _ _ ?_
      · clear h; exact ⟨y1, y2, F, H, D⟩  -- k32
    · skip
      refine ⟨fun c55 => ?_, fun c55 => ?_⟩
      · skip
        intro σ_56 hσ_56
        refine hj181 _ _ _ ?_
        · clear h; rw [hσ_56]
          rw [y1] at c54 c55
          exact ⟨y1, y2, frT_tr F (frT_0 (by decide)), shO_0 H, fun _ => ⟨D, fun z => z.elim (fun e => absurd e c54) (fun e => absurd e c55)⟩⟩
      · skip
        refine hj162 _ _ _ ?_
        · clear h; exact ⟨y1, y2, F, H, D⟩  -- k34
  have hj126 : ∀ (l1 : Int32) (l2 : Int32) (τ : rS), (l1 = a1 ∧ l2 = a2 ∧ frT shF shL σ τ ∧ shO τ ∧ (τ.1 0 = 0 ∨ 0 < τ.1 0) ∧ (τ.1 0 = 0 → shD σ a1)) → w_show_126 C Q  l1 l2 τ := by
    rintro y126_1 y126_2 τ126 j126
    unfold w_show_126
    obtain ⟨y1, y2, F, H, z0, D⟩ := j126
    refine ⟨fun c57 => ?_, fun c57 => ?_⟩
    · skip
      refine hj181 _ _ _ ?_
      · clear h; refine ⟨y1, y2, F, H, fun z => ?_⟩
        rcases z0 with e | e
        · exact absurd e c57
        · exact absurd z (Int32.not_le.mpr e)
    · skip
      refine ⟨fun c58 => ?_, fun c58 => ?_⟩
      · skip
        refine hj150 _ _ _ ?_
        · clear h; exact ⟨y1, y2, F, H, D c57⟩  -- k36
      · skip
        refine isSlot_c hC  (fun r59 q61 => ?_)
        refine ⟨fun c62 => ?_, fun c62 => ?_⟩
        · skip
          intro σ_63 hσ_63
          refine hj181 _ _ _ ?_
          · clear h; rw [hσ_63]
            exact ⟨y1, y2, frT_tr F (frT_0 (by decide)), shO_0 H, fun z => absurd z (by show ¬ (3 : Int32) ≤ 0; decide)⟩
        · skip
          refine hj150 _ _ _ ?_
          · clear h; exact ⟨y1, y2, F, H, D c57⟩  -- k38
  have hj104 : ∀ (l1 : Int32) (l2 : Int32) (s1 : Int32) (τ : rS), (l1 = a1 ∧ l2 = a2 ∧ frT shF shL σ τ ∧ shO τ ∧ τ.1 0 = 0 ∧ shC σ a1 ∧ ((a1 < 2 ∧ s1 = 6) ∨ (a1 = 10 ∧ s1 = 7))) → w_show_104 C Q  l1 l2 s1 τ := by
    rintro y104_1 y104_2 y104_s1 τ104 j104
    unfold w_show_104
    obtain ⟨y1, y2, F, H, z0, Cc, kk⟩ := j104
    have P1 := pOK_T hO F (by decide) (by decide) (by decide)
    have P2 : s = (τ104.1 70).toNatClampNeg := by rw [F.1 70 (by decide)]; exact hs
    have P3 : ∀ k, k < s → vOK τ104 k := fun k hk => vOK_f (F.2.2.1 102 (by decide) (by decide)) (hv (Cc.2.2.1 (sh_lt (kk.imp (fun z => z.1) (fun z => z.1)))) k hk)
    have P4 : swQ τ104 = swQ σ := swQ_o (F.1 70 (by decide)) F.2.2.1
    refine sumWeights_c hC s ?_ (fun σ_64 q65 => ?_)
    · clear h; exact ⟨P1, P2, P3, fun z => absurd rfl z⟩  -- p39
    refine isZero_c hC  ?_ (fun r66 q68 => ?_)
    · clear h; exact ⟨by decide, by decide⟩  -- p40
    refine ⟨fun c69 => ?_, fun c69 => ?_⟩
    · skip
      intro σ_70 hσ_70
      refine hj126 _ _ _ ?_
      · clear h; rw [P4] at q65
        have nz : swQ σ y104_s1 0 0 ≠ 0 := fun e => q68.2.mpr (hS_z q65.2.1 e) c69
        rw [hσ_70]
        refine ⟨y1, y2, frT_tr F (frT_tr (frT_S q65.1 (by decide) (sub_of rfl)) (frT_0 (by decide))), shO_0 (shO_S H q65.1 (by decide) (by decide)), Or.inl rfl, fun _ => ⟨Cc, fun lt => ?_, fun e10 => ?_⟩⟩
        · rcases kk with z | z
          · rw [← z.2]; exact nz
          · rw [z.1] at lt; exact absurd lt (by decide)
        · rcases kk with z | z
          · rw [e10] at z; exact absurd z.1 (by decide)
          · rw [← z.2]; exact nz
    · skip
      intro σ_71 hσ_71
      refine hj126 _ _ _ ?_
      · clear h; rw [hσ_71]
        exact ⟨y1, y2, frT_tr F (frT_tr (frT_S q65.1 (by decide) (sub_of rfl)) (frT_0 (by decide))), shO_0 (shO_S H q65.1 (by decide) (by decide)), Or.inr (by show (0 : Int32) < 2; decide), fun z => absurd z (by show ¬ (2 : Int32) = 0; decide)⟩
  have hj91 : ∀ (l1 : Int32) (l2 : Int32) (τ : rS), (l1 = a1 ∧ l2 = a2 ∧ frT shF shL σ τ ∧ shO τ ∧ τ.1 0 = 0 ∧ shC σ a1 ∧ (a1 < 2 ∨ a1 = 10)) → w_show_91 C Q  l1 l2 τ := by
    rintro y91_1 y91_2 τ91 j91
    unfold w_show_91
    obtain ⟨y1, y2, F, H, z0, Cc, kk⟩ := j91
    refine ⟨fun c72 => ?_, fun c72 => ?_⟩
    · skip
      refine hj104 _ _ _ _ ?_
      · clear h; rw [y1] at c72
        exact ⟨y1, y2, F, H, z0, Cc, Or.inr ⟨kk.resolve_left (fun z => absurd z (Int32.not_lt.mpr c72)), rfl⟩⟩
    · skip
      refine hj104 _ _ _ _ ?_
      · clear h; rw [y1] at c72
        exact ⟨y1, y2, F, H, z0, Cc, Or.inl ⟨Int32.not_le.mp c72, rfl⟩⟩
  have hj70 : ∀ (l1 : Int32) (l2 : Int32) (s1 : Int32) (τ : rS), (l1 = a1 ∧ l2 = a2 ∧ τ = σ ∧ (s1 = 0 ∨ 0 < s1) ∧ (s1 = 0 → shC σ a1)) → w_show_70 C Q  l1 l2 s1 τ := by
    rintro y70_1 y70_2 y70_s1 τ70 j70
    unfold w_show_70
    intro σ_73 hσ_73
    obtain ⟨y1, y2, e, z0, Cc⟩ := j70
    have F : frT shF shL σ σ_73 := by rw [hσ_73, e]; exact frT_0 (by decide)
    have H : shO σ_73 := by rw [hσ_73, e]; exact shO_0 hh
    have e0 : σ_73.1 0 = y70_s1 := by rw [hσ_73]; rfl
    refine ⟨fun c74 => ?_, fun c74 => ?_⟩
    · skip
      refine hj126 _ _ _ ?_
      · clear h; exact ⟨y1, y2, F, H, by rw [e0]; exact z0, fun z => absurd z c74⟩  -- k45
    · skip
      refine ⟨fun c75 => ?_, fun c75 => ?_⟩
      · skip
        refine hj91 _ _ _ ?_
        · clear h; exact ⟨y1, y2, F, H, c74, Cc (e0.symm.trans c74), Or.inl (by rw [← y1]; exact c75)⟩  -- k46
      · skip
        refine ⟨fun c76 => ?_, fun c76 => ?_⟩
        · skip
          refine hj126 _ _ _ ?_
          · clear h; rw [y1] at c75 c76
            exact ⟨y1, y2, F, H, Or.inl c74, fun _ => ⟨Cc (e0.symm.trans c74), fun lt => absurd lt c75, fun e => absurd e c76⟩⟩
        · skip
          refine hj91 _ _ _ ?_
          · clear h; exact ⟨y1, y2, F, H, c74, Cc (e0.symm.trans c74), Or.inr (by rw [← y1]; exact c76)⟩  -- k48
  refine within_c hC  (fun r77 q79 => ?_)
  refine ⟨fun c80 => ?_, fun c80 => ?_⟩
  · skip
    refine ⟨fun c81 => ?_, fun c81 => ?_⟩
    · skip
      refine ⟨fun c82 => ?_, fun c82 => ?_⟩
      · skip
        refine ⟨fun c83 => ?_, fun c83 => ?_⟩
        · skip
          refine hj70 _ _ _ _ ?_
          · clear h; exact ⟨rfl, rfl, rfl, Or.inl rfl, fun _ => ⟨fun _ => c83, fun e => absurd e c82, fun lt => absurd lt (Int32.not_lt.mpr c81), (q79.2.mp c80).2⟩⟩  -- k49
        · skip
          refine hj70 _ _ _ _ ?_
          · clear h; exact ⟨rfl, rfl, rfl, Or.inr (by decide), fun z => absurd z (by decide)⟩  -- k50
      · skip
        refine ⟨fun c84 => ?_, fun c84 => ?_⟩
        · skip
          refine hj70 _ _ _ _ ?_
          · clear h; exact ⟨rfl, rfl, rfl, Or.inr (by decide), fun z => absurd z (by decide)⟩  -- k51
        · skip
          refine hj70 _ _ _ _ ?_
          · clear h; exact ⟨rfl, rfl, rfl, Or.inl rfl, fun _ => ⟨fun e => absurd (c82.symm.trans e) (by decide), fun _ => c84, fun lt => absurd lt (Int32.not_lt.mpr c81), (q79.2.mp c80).2⟩⟩  -- k52
    · skip
      refine ⟨fun c85 => ?_, fun c85 => ?_⟩
      · skip
        refine hj70 _ _ _ _ ?_
        · clear h; exact ⟨rfl, rfl, rfl, Or.inr (by decide), fun z => absurd z (by decide)⟩  -- k53
      · skip
        refine hj70 _ _ _ _ ?_
        · clear h; exact ⟨rfl, rfl, rfl, Or.inl rfl, fun _ => ⟨fun e => absurd (by rw [e]; decide) c81, fun e => absurd (by rw [e]; decide) c81, fun _ => c85, (q79.2.mp c80).2⟩⟩  -- k54
  · skip
    refine hj70 _ _ _ _ ?_
    · clear h; exact ⟨rfl, rfl, rfl, Or.inr (by decide), fun z => absurd z (by decide)⟩  -- k55

end
section
set_option maxHeartbeats 1600000
/-! the reference: size, limb, told, findHeavy -/
theorem half {x : Int32} (h0 : 0 ≤ x) (h1 : x ≤ 40000) : (x + 1) / 2 ≤ 20000 := by
  have a := t0 h0
  have b := ti h1
  rw [show (40000 : Int32).toInt = 40000 from rfl] at b
  have e : (x + 1).toInt = x.toInt + 1 := by
    rw [Int32.toInt_add, show (1 : Int32).toInt = 1 from rfl]
    exact Int.bmod_eq_of_le (by omega) (by omega)
  rw [Int32.le_iff_toInt_le, Int32.toInt_div_of_ne_right _ _ (by decide), e, show (2 : Int32).toInt = 2 from rfl, show (20000 : Int32).toInt = 20000 from rfl, Int.tdiv_eq_ediv_of_nonneg (by omega)]
  omega
theorem i01 {a : Int32} (h0 : 0 ≤ a) (h1 : a ≤ 1) : a = 0 ∨ a = 1 := by grind
theorem lb0 {a : Int32} (h0 : 0 ≤ a) (h1 : a < 20000) : (0 ≤ 600000 + 2 * a ∧ 600000 + 2 * a < 1200000 ∧ 0 ≤ 600000 + 2 * a + 1 ∧ 600000 + 2 * a + 1 < 1200000) ∧ (0 ≤ 640000 + 2 * a ∧ 640000 + 2 * a < 1200000 ∧ 0 ≤ 640000 + 2 * a + 1 ∧ 640000 + 2 * a + 1 < 1200000) := by grind
theorem lb1 {a b v : Int32} (hb : b = 0 ∨ b = 1) (h0 : 0 ≤ a) (h1 : a < 20000) (hv : v = 40000 * (15 + b) + 2 * a) : 0 ≤ v ∧ v < 1200000 ∧ 0 ≤ v + 1 ∧ v + 1 < 1200000 := by
  have l := lb0 h0 h1
  rcases hb with e | e
  · rw [hv, e, show (40000 : Int32) * (15 + 0) = 600000 from rfl]; exact l.1
  · rw [hv, e, show (40000 : Int32) * (15 + 1) = 640000 from rfl]; exact l.2
theorem b01 {b : Int32} (hb : b = 0 ∨ b = 1) : 0 ≤ 15 + b ∧ 15 + b < 30 := by grind
theorem numbersOf_c {C : rCx} (hC : cOK C)  {σ : rS} {a1 : Int32} {Q : Int32 → rS → Prop} (hp : 0 ≤ a1 ∧ a1 ≤ 1 ∧ shO σ) (h : ∀ (v : Int32), (σ.1 103 ≠ 0 → v ≤ 20000) → Q v σ) : cI C 0 m_numbersOf [.ref (co C), .int a1] σ Q := by
  refine m_numbersOf_run hC ?_
  unfold w_numbersOf_0
  obtain ⟨h0, h1, hh⟩ := hp
  have e := i01 h0 h1
  refine ⟨fun c1 => ?_, fun c1 => ?_⟩
  · skip
    refine ⟨ib_30.mpr ?_, ?_⟩
    · clear h; exact b01 e  -- b1
    refine h _ ?_
    · clear h; have z := hh c1
      intro _
      rcases e with e | e
      · rw [e]; exact half z.1.1 z.1.2.1
      · rw [e]; exact half z.2.1 z.2.2.1
  · skip
    refine h _ ?_
    · clear h; exact fun z => absurd c1 z  -- q3

theorem size_c {C : rCx} (hC : cOK C)  {σ : rS} {a1 : Int32} {Q : Int32 → rS → Prop} (hp : shO σ) (h : ∀ (v : Int32) (σ' : rS), (frT [0] [] σ σ') → Q v σ') : cI C 1 m_size [.ref (co C), .int a1] σ Q := by
  refine m_size_run hC ?_
  unfold w_size_0
  have hh := hp
  have hj15 : ∀ (l1 : Int32) (s1 : Int32) (τ : rS), (l1 = a1 ∧ τ = σ ∧ (s1 ≤ 0 → 0 ≤ a1 ∧ a1 ≤ 1)) → w_size_15 C Q  l1 s1 τ := by
    rintro y15_1 y15_s1 τ15 j15
    unfold w_size_15
    intro σ_1 hσ_1
    obtain ⟨y1, y2, y3⟩ := j15
    have F : frT [0] [] σ σ_1 := by rw [hσ_1, y2]; exact frT_0 (by decide)
    rw [y1]
    refine ⟨fun c2 => ?_, fun c2 => ?_⟩
    · skip
      refine numbersOf_c hC  ?_ (fun r3 q5 => ?_)
      · clear h; have c := y3 (by rw [hσ_1] at c2; exact c2)
        exact ⟨c.1, c.2, by rw [hσ_1, y2]; exact shO_0 hh⟩
      refine h _ _ ?_
      · clear h; exact F  -- q2
    · skip
      refine h _ _ ?_
      · clear h; exact F  -- q3
  refine within_c hC  (fun r6 q8 => ?_)
  refine ⟨fun c9 => ?_, fun c9 => ?_⟩
  · skip
    refine hj15 _ _ _ ?_
    · clear h; exact ⟨rfl, rfl, fun z => absurd z (by decide)⟩  -- k4
  · skip
    refine hj15 _ _ _ ?_
    · clear h; exact ⟨rfl, rfl, fun _ => q8.2.mp c9⟩  -- k5

theorem limb_c {C : rCx} (hC : cOK C)  {σ : rS} {a1 : Int32} {a2 : Int32} {Q : Int32 → rS → Prop} (hp : shO σ) (h : ∀ (v : Int32) (σ' : rS), (frT [0] [] σ σ') → Q v σ') : cI C 1 m_limb [.ref (co C), .int a1, .int a2] σ Q := by
  refine m_limb_run hC ?_
  unfold w_limb_0
  have hh := hp
  have hj91 : ∀ (l3 : Int32) (s0 : Int32) (τ : rS), (frT [0] [] σ τ ∧ 0 ≤ l3 ∧ l3 < 1200000) → w_limb_91 C Q  l3 s0 τ := by
    rintro y91_3 y91_s0 τ91 j91
    unfold w_limb_91
    refine ⟨ib_1200000.mpr ?_, ?_⟩
    · clear h; exact j91.2  -- b1
    refine h _ _ ?_
    · clear h; exact j91.1  -- q2
  have hj28 : ∀ (l1 : Int32) (l2 : Int32) (s1 : Int32) (τ : rS), (l1 = a1 ∧ l2 = a2 ∧ τ = σ ∧ (s1 ≤ 0 → (a1 = 0 ∨ a1 = 1) ∧ 0 ≤ a2 ∧ (σ.1 103 ≠ 0 → a2 < 20000))) → w_limb_28 C Q  l1 l2 s1 τ := by
    rintro y28_1 y28_2 y28_s1 τ28 j28
    unfold w_limb_28
    intro σ_1 hσ_1
    obtain ⟨y1, y2, y3, y4⟩ := j28
    have F : frT [0] [] σ σ_1 := by rw [hσ_1, y3]; exact frT_0 (by decide)
    have e0 : σ_1.1 0 = y28_s1 := by rw [hσ_1]; rfl
    have e103 : σ_1.1 103 = σ.1 103 := by rw [hσ_1, y3]; rfl
    rw [y1, y2]
    refine ⟨fun c2 => ?_, fun c2 => ?_⟩
    · skip
      refine ⟨fun c3 => ?_, fun c3 => ?_⟩
      · skip
        intro x4 hx4
        refine ⟨ib_30.mpr ?_, ?_⟩
        · clear h; exact b01 (y4 (by rw [← e0]; exact c2)).1  -- b3
        refine ⟨fun c5 => ?_, fun c5 => ?_⟩
        · skip
          refine hj91 _ _ _ ?_
          · clear h; have c := y4 (by rw [← e0]; exact c2)
            have l := lb1 c.1 c.2.1 (c.2.2 (by rw [← e103]; exact c3)) hx4
            exact ⟨F, l.1, l.2.1⟩
        · skip
          refine ⟨ib_1200000.mpr ?_, ?_⟩
          · clear h; have c := y4 (by rw [← e0]; exact c2)
            have l := lb1 c.1 c.2.1 (c.2.2 (by rw [← e103]; exact c3)) hx4
            exact ⟨l.2.2.1, l.2.2.2⟩
          refine hj91 _ _ _ ?_
          · clear h; have c := y4 (by rw [← e0]; exact c2)
            have l := lb1 c.1 c.2.1 (c.2.2 (by rw [← e103]; exact c3)) hx4
            exact ⟨F, l.1, l.2.1⟩
      · skip
        refine h _ _ ?_
        · clear h; exact F  -- q7
    · skip
      refine h _ _ ?_
      · clear h; exact F  -- q8
  refine within_c hC  (fun r6 q8 => ?_)
  refine ⟨fun c9 => ?_, fun c9 => ?_⟩
  · skip
    refine hj28 _ _ _ _ ?_
    · clear h; exact ⟨rfl, rfl, rfl, fun z => absurd z (by decide)⟩  -- k9
  · skip
    refine ⟨fun c10 => ?_, fun c10 => ?_⟩
    · skip
      refine hj28 _ _ _ _ ?_
      · clear h; exact ⟨rfl, rfl, rfl, fun z => absurd z (by decide)⟩  -- k10
    · skip
      refine numbersOf_c hC  ?_ (fun r11 q13 => ?_)
      · clear h; exact ⟨(q8.2.mp c9).1, (q8.2.mp c9).2, hh⟩  -- p11
      refine ⟨fun c14 => ?_, fun c14 => ?_⟩
      · skip
        refine hj28 _ _ _ _ ?_
        · clear h; exact ⟨rfl, rfl, rfl, fun _ => ⟨i01 (q8.2.mp c9).1 (q8.2.mp c9).2, Int32.not_lt.mp c10, fun z => Int32.lt_of_lt_of_le c14 (q13 z)⟩⟩  -- k12
      · skip
        refine hj28 _ _ _ _ ?_
        · clear h; exact ⟨rfl, rfl, rfl, fun z => absurd z (by decide)⟩  -- k13

theorem told_c {C : rCx} (hC : cOK C)  {σ : rS} {a1 : Int32} {a2 : Int32} {Q : Int32 → rS → Prop} (hp : 0 ≤ a1 ∧ a1 < 1000 ∧ 0 ≤ a2 ∧ a2 < 34) (h : ∀ (v : Int32), (True) → Q v σ) : cI C 0 m_told [.ref (co C), .int a1, .int a2] σ Q := by
  refine m_told_run hC ?_
  unfold w_told_0
  refine ⟨ib_35000.mpr ?_, ?_⟩
  · clear h; exact (xe hp.1 hp.2.1 hp.2.2.1 hp.2.2.2).1  -- b1
  refine h _ ?_
  · clear h; trivial  -- q2

theorem findHeavy_c {C : rCx} (hC : cOK C)  {σ : rS}  {Q : rS → Prop} (hp : pOK σ) (h : ∀ (σ' : rS), (frX [120] σ σ') → Q σ') : cV C 1 m_findHeavy [.ref (co C)] σ Q := by
  refine m_findHeavy_run hC ?_
  unfold w_findHeavy_0
  have hO := hp
  have n1000 := hO.1.1.2
  unfold w_findHeavy_2
  refine ⟨fun n l1 τ => n = (σ.1 71 - l1).toNatClampNeg ∧ (frX [120] σ τ ∧ 0 ≤ l1 ∧ l1 ≤ σ.1 71), ⟨_, rfl, ?_⟩, ?_⟩
  · clear h; exact ⟨frX_rf, by decide, hO.1.2.1.1⟩  -- j1
  rintro n2 x2_1 σ2 ⟨hn2, i2⟩
  have hj27 : ∀ (l1 : Int32) (s1 : Int32) (s2 : Int32) (τ : rS), (l1 = x2_1 ∧ s1 = x2_1 ∧ ¬ σ.1 71 ≤ x2_1 ∧ τ = σ2) → w_findHeavy_27 C Q (fun l1' τ => ∃ k < n2, (fun n l1 τ => n = (σ.1 71 - l1).toNatClampNeg ∧ (frX [120] σ τ ∧ 0 ≤ l1 ∧ l1 ≤ σ.1 71)) k l1' τ) l1 s1 s2 τ := by
    rintro y27_1 y27_s1 y27_s2 τ27 j27
    unfold w_findHeavy_27
    obtain ⟨F, a0, a1⟩ := i2
    obtain ⟨y1, y2, y3, y4⟩ := j27
    have u := uk a0 y3 hO.1.2.1.2
    refine ⟨ib_1000.mpr ?_, ?_⟩
    · clear h; rw [y2]; exact ⟨a0, u.2.2.2.2.2⟩  -- b2
    intro σ_1 hσ_1
    intro x2 hx2
    refine ⟨_, cn_lt2 hn2 ?_ ?_, rfl, ?_⟩
    · clear h; rw [hx2, y1]; exact u.1  -- d3
    · clear h; rw [hx2, y1]; exact u.2.1  -- d4
    · clear h; rw [hx2, y1, hσ_1, y4]; exact ⟨frX_tr F (frX_1 (by decide)), u.2.2.1, u.2.2.2.1⟩  -- i5
  obtain ⟨F, a0, a1⟩ := i2
  have e71 : σ2.1 71 = σ.1 71 := by rw [F.1]
  rw [e71]
  refine ⟨fun c3 => ?_, fun c3 => ?_⟩
  · skip
    unfold w_findHeavy_36
    refine ⟨fun n l1 τ => n = (σ.1 70 - l1).toNatClampNeg ∧ (frX [120] σ τ ∧ 0 ≤ l1 ∧ l1 ≤ σ.1 70), ⟨_, rfl, ?_⟩, ?_⟩
    · clear h; exact ⟨F, by decide, hO.1.1.1⟩  -- j6
    rintro n36 x36_1 σ36 ⟨hn36, i36⟩
    obtain ⟨G, b0, b1⟩ := i36
    have e70 : σ36.1 70 = σ.1 70 := by rw [G.1]
    rw [e70]
    refine ⟨fun c4 => ?_, fun c4 => ?_⟩
    · skip
      refine h _ ?_
      · clear h; exact G  -- q7
    · skip
      have u := uk b0 c4 n1000
      have st := ex_st hO.1 b0 u.2.2.2.2.1
      have hi2 := Int32.le_trans st.2.2.1 hO.1.2.2.1.2
      refine ⟨ib_1001.mpr ?_, ?_⟩
      · clear h; exact ⟨b0, Int32.lt_trans u.2.2.2.2.2 (by decide)⟩  -- b8
      intro x5 hx5
      unfold w_findHeavy_51
      refine ⟨fun n l1 l2 τ => n = (σ.2.2.1 76 (x36_1.toNatClampNeg + 1) - l2).toNatClampNeg ∧ (l1 = x36_1 ∧ frX [120] σ τ ∧ σ.2.2.1 76 x36_1.toNatClampNeg ≤ l2 ∧ l2 ≤ σ.2.2.1 76 (x36_1.toNatClampNeg + 1)), ⟨_, rfl, ?_⟩, ?_⟩
      · clear h; rw [hx5, G.2.2.1 76 (by decide)]; exact ⟨rfl, G, Int32.le_refl _, st.2.1⟩  -- j9
      rintro n51 x51_1 x51_2 σ51 ⟨hn51, i51⟩
      obtain ⟨f1, H, w1, w2⟩ := i51
      have i0 := Int32.le_trans st.1.1 w1
      have h76 := H.2.2.1 76 (by decide)
      have h77 := H.2.2.1 77 (by decide)
      have h78 := H.2.2.1 78 (by decide)
      rw [f1]
      refine isVisited_c hC  ?_ (fun r6 q8 => ?_)
      · clear h; exact ⟨b0, u.2.2.2.2.2⟩  -- p10
      rw [h76, h77, st.2.2.2.1]
      refine ⟨fun c9 => ?_, fun c9 => ?_⟩
      · skip
        intro x10 hx10
        refine ⟨_, cn_lt2 hn36 ?_ ?_, rfl, ?_⟩
        · clear h; rw [hx10]; exact u.1  -- d11
        · clear h; rw [hx10]; exact u.2.1  -- d12
        · clear h; rw [hx10]; exact ⟨H, u.2.2.1, u.2.2.2.1⟩  -- i13
      · skip
        refine ⟨ib_1001.mpr ?_, ?_⟩
        · clear h; exact ⟨st.2.2.2.2.2.1, st.2.2.2.2.2.2⟩  -- b14
        refine ⟨fun c11 => ?_, fun c11 => ?_⟩
        · skip
          intro x12 hx12
          refine ⟨_, cn_lt2 hn36 ?_ ?_, rfl, ?_⟩
          · clear h; rw [hx12]; exact u.1  -- d15
          · clear h; rw [hx12]; exact u.2.1  -- d16
          · clear h; rw [hx12]; exact ⟨H, u.2.2.1, u.2.2.2.1⟩  -- i17
        · skip
          have z := u2 i0 c11 hi2
          refine ⟨ib_20000.mpr ?_, ?_⟩
          · clear h; exact ⟨i0, z.2.2.2.2.2.2⟩  -- b18
          refine ⟨fun c13 => ?_, fun c13 => ?_⟩
          · skip
            intro x14 hx14
            refine ⟨_, cn_lt2 hn51 ?_ ?_, rfl, ?_⟩
            · clear h; rw [hx14]; exact z.1  -- d19
            · clear h; rw [hx14]; exact z.2.1  -- d20
            · clear h; rw [hx14]; exact ⟨rfl, H, Int32.le_trans w1 z.2.2.2.1, z.2.2.2.2.1⟩  -- i21
          · skip
            refine isTaken_c hC  ?_ (fun r15 q17 => ?_)
            · clear h; exact ⟨b0, u.2.2.2.2.2⟩  -- p22
            refine ⟨fun c18 => ?_, fun c18 => ?_⟩
            · skip
              intro x19 hx19
              refine ⟨_, cn_lt2 hn51 ?_ ?_, rfl, ?_⟩
              · clear h; rw [hx19]; exact z.1  -- d23
              · clear h; rw [hx19]; exact z.2.1  -- d24
              · clear h; rw [hx19]; exact ⟨rfl, H, Int32.le_trans w1 z.2.2.2.1, z.2.2.2.2.1⟩  -- i25
            · skip
              refine ⟨ib_20000.mpr ?_, ?_⟩
              · clear h; exact ⟨i0, z.2.2.2.2.2.2⟩  -- b26
              refine ⟨ib_1000.mpr ?_, ?_⟩
              · clear h; have q := (hO.1.2.2.2.2 _ (cn_lt i0 (Int32.lt_of_lt_of_le z.2.2.2.2.2.1 st.2.2.1))).2.2 c13
                rw [h78]
                exact ⟨q.1, Int32.lt_of_lt_of_le q.2 hO.1.2.1.2⟩
              intro σ_20 hσ_20
              intro x21 hx21
              refine ⟨_, cn_lt2 hn51 ?_ ?_, rfl, ?_⟩
              · clear h; rw [hx21]; exact z.1  -- d28
              · clear h; rw [hx21]; exact z.2.1  -- d29
              · clear h; rw [hx21, hσ_20]; exact ⟨rfl, frX_tr H (frX_1 (by decide)), Int32.le_trans w1 z.2.2.2.1, z.2.2.2.2.1⟩  -- i30
  · skip
    refine ⟨fun c22 => ?_, fun c22 => ?_⟩
    · skip
      refine hj27 _ _ _ _ ?_
      · clear h; exact ⟨rfl, rfl, c3, rfl⟩  -- k31
    · skip
      refine hj27 _ _ _ _ ?_
      · clear h; exact ⟨rfl, rfl, c3, rfl⟩  -- k32

theorem isGlobal_c {C : rCx} (hC : cOK C)  {σ : rS} {a1 : Int32} {Q : Int32 → rS → Prop} (h : ∀ (v : Int32), (nb v ∧ (v ≠ 0 ↔ 0 ≤ a1 ∧ a1 < σ.1 15 + σ.1 17)) → Q v σ) : cI C 1 m_isGlobal [.ref (co C), .int a1] σ Q := by
  refine m_isGlobal_run hC ?_
  unfold w_isGlobal_0
  refine isSlot_c hC  (fun r1 q3 => ?_)
  refine ⟨?_, h _ ?_⟩
  · clear h; exact q3.1  -- b1
  · clear h; exact q3  -- q2

end
section
set_option maxHeartbeats 1600000
/-! the reference: list -/
theorem list_c {C : rCx} (hC : cOK C)  {σ : rS} {a1 : Nat} {a2 : Int32} {a3 : Int32} {a4 : Int32} {Q : Int32 → rS → Prop} (hp : (a1 = 121 ∨ a1 = 122 ∨ a1 = 123) ∧ exO σ ∧ 0 ≤ a2 ∧ a2 < 34 ∧ (a3 = -1 ∨ (0 ≤ a3 ∧ a3 < 34))) (h : ∀ (v : Int32) (σ' : rS), (frX [a1] σ σ' ∧ 0 ≤ v ∧ v ≤ σ.1 71) → Q v σ') : cI C 1 m_list [.ref (co C), .ref (cad C a1), .int a2, .int a3, .int a4] σ Q := by
  refine m_list_run hC ?_
  unfold w_list_0
  obtain ⟨hr, hO, h0, h1, h3⟩ := hp
  have n1000 := hO.2.1.2
  have hT : rT a1 = some (0, 1000) := by rcases hr with e | e | e <;> rw [e] <;> rfl
  unfold w_list_6
  refine ⟨fun n l1 l2 l3 l4 l5 l6 τ => n = (σ.1 71 - l6).toNatClampNeg ∧ (l1 = a1 ∧ l2 = a2 ∧ l3 = a3 ∧ l4 = a4 ∧ frX [a1] σ τ ∧ 0 ≤ l5 ∧ l5 ≤ l6 ∧ l6 ≤ σ.1 71), ⟨_, rfl, ?_⟩, ?_⟩
  · clear h; exact ⟨rfl, rfl, rfl, rfl, frX_rf, by decide, by decide, hO.2.1.1⟩  -- j1
  rintro n6 x6_1 x6_2 x6_3 x6_4 x6_5 x6_6 σ6 ⟨hn6, i6⟩
  have hj42 : ∀ (l1 : Nat) (l2 : Int32) (l3 : Int32) (l4 : Int32) (l5 : Int32) (l6 : Int32) (τ : rS), (l1 = a1 ∧ l2 = a2 ∧ l3 = a3 ∧ l4 = a4 ∧ l5 = x6_5 ∧ l6 = x6_6 ∧ ¬ σ.1 71 ≤ x6_6 ∧ τ = σ6) → w_list_42 C Q (fun l1' l2' l3' l4' l5' l6' τ => ∃ k < n6, (fun n l1 l2 l3 l4 l5 l6 τ => n = (σ.1 71 - l6).toNatClampNeg ∧ (l1 = a1 ∧ l2 = a2 ∧ l3 = a3 ∧ l4 = a4 ∧ frX [a1] σ τ ∧ 0 ≤ l5 ∧ l5 ≤ l6 ∧ l6 ≤ σ.1 71)) k l1' l2' l3' l4' l5' l6' τ) l1 l2 l3 l4 l5 l6 τ := by
    rintro y42_1 y42_2 y42_3 y42_4 y42_5 y42_6 τ42 j42
    unfold w_list_42
    obtain ⟨e1, e2, e3, e4, F, a0, a1', a2'⟩ := i6
    obtain ⟨y1, y2, y3, y4, y5, y6, y7, y8⟩ := j42
    have b0 := Int32.le_trans a0 a1'
    have u := uk b0 y7 n1000
    have m := mb_i a0 a1' u.2.2.2.2.2
    have x1000 : x6_5 ≤ 1000 := Int32.le_of_lt m.2.2.1
    unfold w_list_48
    refine ⟨fun n l1 l2 l3 l4 l5 l6 l7 l8 τ => n = (x6_5 - l8).toNatClampNeg ∧ (l1 = a1 ∧ l2 = a2 ∧ l3 = a3 ∧ l4 = a4 ∧ l5 = x6_5 ∧ l6 = x6_6 ∧ τ = σ6 ∧ 0 ≤ l8 ∧ l8 ≤ x6_5), ⟨_, rfl, ?_⟩, ?_⟩
    · clear h; exact ⟨y1, y2, y3, y4, y5, y6, y8, by decide, a0⟩  -- j2
    rintro n48 x48_1 x48_2 x48_3 x48_4 x48_5 x48_6 x48_7 x48_8 σ48 ⟨hn48, i48⟩
    have hj79 : ∀ (l1 : Nat) (l2 : Int32) (l3 : Int32) (l4 : Int32) (l5 : Int32) (l6 : Int32) (l8 : Int32) (s0 : Int32) (τ : rS), (l1 = a1 ∧ l2 = a2 ∧ l3 = a3 ∧ l4 = a4 ∧ l5 = x6_5 ∧ l6 = x6_6 ∧ τ = σ6 ∧ l8 = x48_8 ∧ ¬ x6_5 ≤ x48_8) → w_list_79 C Q (fun l1' l2' l3' l4' l5' l6' τ => ∃ k < n6, (fun n l1 l2 l3 l4 l5 l6 τ => n = (σ.1 71 - l6).toNatClampNeg ∧ (l1 = a1 ∧ l2 = a2 ∧ l3 = a3 ∧ l4 = a4 ∧ frX [a1] σ τ ∧ 0 ≤ l5 ∧ l5 ≤ l6 ∧ l6 ≤ σ.1 71)) k l1' l2' l3' l4' l5' l6' τ) (fun l1' l2' l3' l4' l5' l6' l7' l8' τ => ∃ k < n48, (fun n l1 l2 l3 l4 l5 l6 l7 l8 τ => n = (x6_5 - l8).toNatClampNeg ∧ (l1 = a1 ∧ l2 = a2 ∧ l3 = a3 ∧ l4 = a4 ∧ l5 = x6_5 ∧ l6 = x6_6 ∧ τ = σ6 ∧ 0 ≤ l8 ∧ l8 ≤ x6_5)) k l1' l2' l3' l4' l5' l6' l7' l8' τ) l1 l2 l3 l4 l5 l6 l8 s0 τ := by
      rintro y79_1 y79_2 y79_3 y79_4 y79_5 y79_6 y79_8 y79_s0 τ79 j79
      unfold w_list_79
      intro x1 hx1
      obtain ⟨g1, g2, g3, g4, g5, g6, g7, g8, g9⟩ := i48
      obtain ⟨z1, z2, z3, z4, z5, z6, z7, z8, z9⟩ := j79
      have w := uk g8 z9 x1000
      refine ⟨_, cn_lt2 hn48 ?_ ?_, rfl, ?_⟩
      · clear h; rw [hx1, z8]; exact w.1  -- d3
      · clear h; rw [hx1, z8]; exact w.2.1  -- d4
      · clear h; rw [hx1, z8]; exact ⟨z1, z2, z3, z4, z5, z6, z7, w.2.2.1, w.2.2.2.1⟩  -- i5
    obtain ⟨g1, g2, g3, g4, g5, g6, g7, g8, g9⟩ := i48
    refine ⟨fun c2 => ?_, fun c2 => ?_⟩
    · skip
      refine ⟨fun c3 => ?_, fun c3 => ?_⟩
      · skip
        intro x4 hx4
        refine ⟨_, cn_lt2 hn6 ?_ ?_, rfl, ?_⟩
        · clear h; rw [hx4, g6]; exact u.1  -- d6
        · clear h; rw [hx4, g6]; exact u.2.1  -- d7
        · clear h; rw [hx4, g6, g5, g7]; exact ⟨g1, g2, g3, g4, F, a0, m.2.2.2.1, u.2.2.2.1⟩  -- i8
      · skip
        refine told_c hC  ?_ (fun r5 q7 => ?_)
        · clear h; rw [g6, g2]; exact ⟨b0, u.2.2.2.2.2, h0, h1⟩  -- p9
        refine ⟨1000, ?_, ?_, ?_⟩
        · clear h; rw [g1]; exact hT  -- t10
        · clear h; exact ib_1000.mpr (by rw [g5]; exact ⟨a0, m.2.2.1⟩)  -- b11
        intro σ_8 hσ_8
        intro x9 hx9
        intro x10 hx10
        refine ⟨_, cn_lt2 hn6 ?_ ?_, rfl, ?_⟩
        · clear h; rw [hx10, g6]; exact u.1  -- d12
        · clear h; rw [hx10, g6]; exact u.2.1  -- d13
        · clear h; rw [hx9, hx10, g5, g6, hσ_8, g1, g7]
          exact ⟨rfl, g2, g3, g4, frX_tr F (frX_1 (List.mem_singleton.mpr rfl)), m.1, m.2.1, u.2.2.2.1⟩
    · skip
      refine ⟨fun c11 => ?_, fun c11 => ?_⟩
      · skip
        refine hj79 _ _ _ _ _ _ _ _ _ ?_
        · clear h; exact ⟨g1, g2, g3, g4, g5, g6, g7, rfl, by rw [← g5]; exact c2⟩  -- k15
      · skip
        refine ⟨1000, ?_, ?_, ?_⟩
        · clear h; rw [g1]; exact hT  -- t16
        · clear h; have w := uk g8 (by rw [← g5]; exact c2) x1000
          exact ib_1000.mpr ⟨g8, w.2.2.2.2.2⟩
        refine told_c hC  ?_ (fun r12 q14 => ?_)
        · clear h; rw [g6, g2]; exact ⟨b0, u.2.2.2.2.2, h0, h1⟩  -- p18
        refine ⟨fun c15 => ?_, fun c15 => ?_⟩
        · skip
          refine hj79 _ _ _ _ _ _ _ _ _ ?_
          · clear h; exact ⟨g1, g2, g3, g4, g5, g6, g7, rfl, by rw [← g5]; exact c2⟩  -- k19
        · skip
          refine hj79 _ _ _ _ _ _ _ _ _ ?_
          · clear h; exact ⟨g1, g2, g3, g4, g5, g6, g7, rfl, by rw [← g5]; exact c2⟩  -- k20
  obtain ⟨e1, e2, e3, e4, F, a0, a1', a2'⟩ := i6
  have b0 := Int32.le_trans a0 a1'
  have e71 : σ6.1 71 = σ.1 71 := by rw [F.1]
  rw [e71]
  refine ⟨fun c16 => ?_, fun c16 => ?_⟩
  · skip
    refine h _ _ ?_
    · clear h; exact ⟨F, a0, Int32.le_trans a1' a2'⟩  -- q21
  · skip
    have u := uk b0 c16 n1000
    have m := mb_i a0 a1' u.2.2.2.2.2
    refine ⟨ib_1000.mpr ?_, ?_⟩
    · clear h; exact ⟨b0, u.2.2.2.2.2⟩  -- b22
    refine ⟨fun c17 => ?_, fun c17 => ?_⟩
    · skip
      intro x18 hx18
      refine ⟨_, cn_lt2 hn6 ?_ ?_, rfl, ?_⟩
      · clear h; rw [hx18]; exact u.1  -- d23
      · clear h; rw [hx18]; exact u.2.1  -- d24
      · clear h; rw [hx18]; exact ⟨e1, e2, e3, e4, F, a0, m.2.2.2.1, u.2.2.2.1⟩  -- i25
    · skip
      refine ⟨fun c19 => ?_, fun c19 => ?_⟩
      · skip
        refine hj42 _ _ _ _ _ _ _ ?_
        · clear h; exact ⟨e1, e2, e3, e4, rfl, rfl, c16, rfl⟩  -- k26
      · skip
        refine told_c hC  ?_ (fun r20 q22 => ?_)
        · clear h; rw [e3] at c19 ⊢
          have q := h3.resolve_left c19
          exact ⟨b0, u.2.2.2.2.2, q.1, q.2⟩
        refine ⟨fun c23 => ?_, fun c23 => ?_⟩
        · skip
          intro x24 hx24
          refine ⟨_, cn_lt2 hn6 ?_ ?_, rfl, ?_⟩
          · clear h; rw [hx24]; exact u.1  -- d28
          · clear h; rw [hx24]; exact u.2.1  -- d29
          · clear h; rw [hx24]; exact ⟨e1, e2, e3, e4, F, a0, m.2.2.2.1, u.2.2.2.1⟩  -- i30
        · skip
          refine hj42 _ _ _ _ _ _ _ ?_
          · clear h; exact ⟨e1, e2, e3, e4, rfl, rfl, c16, rfl⟩  -- k31

end
section
set_option maxHeartbeats 1600000
/-! the reference: weigh -/
theorem i19 {a : Int32} (h : a = 19 ∨ a = 21) : (0 ≤ a ∧ a < 30 ∧ 0 ≤ a + 1 ∧ a + 1 < 30 ∧ a ≠ 4 ∧ a + 1 ≠ 5) ∧ (a + 1).toNatClampNeg = a.toNatClampNeg + 1 ∧ (a.toNatClampNeg = 19 ∨ a.toNatClampNeg = 21) := by
  rcases h with e | e <;> rw [e] <;> decide
theorem weigh_c {C : rCx} (hC : cOK C) (s : Nat) {σ : rS} {a1 : Int32} {a2 : Int32} {a3 : Int32} {a4 : Int32} {a5 : Int32} {a6 : Int32} {a7 : Int32} {Q : rS → Prop} (hp : pOK σ ∧ s = (σ.1 70).toNatClampNeg ∧ (∀ k, k < s → vOK σ k) ∧ (a1 = -1 ∨ (0 ≤ a1 ∧ a1 < 34)) ∧ (a3 = -1 ∨ (0 ≤ a3 ∧ a3 < 34)) ∧ (a5 = -1 ∨ (0 ≤ a5 ∧ a5 < 34)) ∧ (a7 = 19 ∨ a7 = 21)) (h : ∀ (σ' : rS), (frS [0, 1, 2, 3, 4, 5, 6, 7, 8, 9, 10, a7.toNatClampNeg, a7.toNatClampNeg + 1] σ σ' ∧ numO σ' a7.toNatClampNeg ∧ numO σ' (a7.toNatClampNeg + 1) ∧ 0 < nV σ' (a7.toNatClampNeg + 1) ∧ nL σ' a7.toNatClampNeg ≤ 18 * s + 21 ∧ nL σ' (a7.toNatClampNeg + 1) ≤ 18 * s + 1) → Q σ') : cV C 6 m_weigh [.ref (co C), .int a1, .int a2, .int a3, .int a4, .int a5, .int a6, .int a7] σ Q := by
  refine m_weigh_run hC ?_
  unfold w_weigh_0
  obtain ⟨hO, hs, hv, h1, h3, h5, h7⟩ := hp
  refine clearSum_c hC  (fun σ_1 q2 => ?_)
  unfold w_weigh_7
  refine ⟨fun n l1 l2 l3 l4 l5 l6 l7 l8 τ => n = (σ.1 70 - l8).toNatClampNeg ∧ (l1 = a1 ∧ l2 = a2 ∧ l3 = a3 ∧ l4 = a4 ∧ l5 = a5 ∧ l6 = a6 ∧ l7 = a7 ∧ frS [0, 1, 2, 3, 4, 5, 6, 7, 8, 9, 10] σ τ ∧ 0 ≤ l8 ∧ l8 ≤ σ.1 70 ∧ ∃ d S, d ≤ 20000 ∧ (l8 < σ.1 70 → d ≤ loN σ l8.toNatClampNeg) ∧ siS σ τ s d S), ⟨_, rfl, ?_⟩, ?_⟩
  · clear h; exact ⟨rfl, rfl, rfl, rfl, rfl, rfl, rfl, frS_mono q2.1 (sub_of rfl), by decide, hO.1.1.1, 0, 0, by decide, fun _ => Nat.zero_le _, siS_0 q2.2⟩  -- j1
  rintro n7 x7_1 x7_2 x7_3 x7_4 x7_5 x7_6 x7_7 x7_8 σ7 ⟨hn7, i7⟩
  obtain ⟨e1, e2, e3, e4, e5, e6, e7, F, a0, a1', d, S0, d1, d2, J⟩ := i7
  have e70 := F.1 70 (by decide)
  have e76 := F.2.2.1 76 (by decide) (by decide)
  have L := siS_L hO hs hv (by omega) J
  have i9 := i19 h7
  rw [e70, e76, e7]
  refine ⟨fun c3 => ?_, fun c3 => ?_⟩
  · skip
    refine copy_v hC  ?_ (fun σ_4 q5 => ?_)
    · clear h; exact ⟨i9.1.1, i9.1.2.1, by decide, by decide, i9.1.2.2.2.2.1, L.1⟩  -- p2
    have g5 := nV_fr q5.1 (k := 5) (fun z => by have := List.mem_singleton.mp z; have := i9.2.2; omega) L.2.1
    refine copy_v hC  ?_ (fun σ_6 q7 => ?_)
    · clear h; exact ⟨i9.1.2.2.1, i9.1.2.2.2.1, by decide, by decide, i9.1.2.2.2.2.2, g5.1⟩  -- p3
    rw [i9.2.1] at q7
    have g7 := nV_fr q7.1 (k := a7.toNatClampNeg) (fun z => by have := List.mem_singleton.mp z; omega) q5.2.1
    refine h _ ?_
    · clear h; refine ⟨frS_tr (frS_mono F (fun k hk => List.mem_append_left [a7.toNatClampNeg, a7.toNatClampNeg + 1] hk)) (frS_tr (frS_mono (frS_of q5.1) (fun k hk => List.mem_append_right [0, 1, 2, 3, 4, 5, 6, 7, 8, 9, 10] (by rw [List.mem_singleton.mp hk]; exact List.mem_cons_self))) (frS_mono (frS_of q7.1) (fun k hk => List.mem_append_right [0, 1, 2, 3, 4, 5, 6, 7, 8, 9, 10] (by rw [List.mem_singleton.mp hk]; exact List.mem_cons_of_mem _ List.mem_cons_self)))), g7.1, q7.2.1, ?_, ?_, ?_⟩
      · rw [q7.2.2.1]
        have z : nV σ_4 5 = nV σ7 5 := g5.2.1
        show 0 < nV σ_4 5
        rw [z]; exact L.2.2.1
      · have z : nL σ_4 a7.toNatClampNeg = nL σ7 4 := q5.2.2.2
        have := L.2.2.2.2.1
        have := g7.2.2
        omega
      · have z : nL σ_6 (a7.toNatClampNeg + 1) = nL σ_4 5 := q7.2.2.2
        have := L.2.2.2.1
        have := g5.2.2
        omega
  · skip
    have u := uk a0 c3 hO.1.1.2
    have st := ex_st hO.1 a0 u.2.2.2.2.1
    have as := cn_succ a0 (Int32.lt_trans u.2.2.2.2.2 (by decide))
    have ks : x7_8.toNatClampNeg < s := by rw [hs]; exact cn_lt a0 u.2.2.2.2.1
    have hi2 := Int32.le_trans st.2.2.1 hO.1.2.2.1.2
    refine ⟨ib_1001.mpr ?_, ?_⟩
    · clear h; exact ⟨a0, Int32.lt_trans u.2.2.2.2.2 (by decide)⟩  -- b5
    intro x8 hx8
    unfold w_weigh_25
    refine ⟨fun n l1 l2 l3 l4 l5 l6 l7 l8 l9 τ => n = (σ.2.2.1 76 (x7_8.toNatClampNeg + 1) - l9).toNatClampNeg ∧ (l1 = a1 ∧ l2 = a2 ∧ l3 = a3 ∧ l4 = a4 ∧ l5 = a5 ∧ l6 = a6 ∧ l7 = a7 ∧ l8 = x7_8 ∧ frS [0, 1, 2, 3, 4, 5, 6, 7, 8, 9, 10] σ τ ∧ σ.2.2.1 76 x7_8.toNatClampNeg ≤ l9 ∧ l9 ≤ σ.2.2.1 76 (x7_8.toNatClampNeg + 1) ∧ ∃ S, siS σ τ s l9.toNatClampNeg S), ⟨_, rfl, ?_⟩, ?_⟩
    · clear h; rw [hx8]
      exact ⟨e1, e2, e3, e4, e5, e6, rfl, rfl, F, Int32.le_refl _, st.2.1, S0, siS_mono J (d2 u.2.2.2.2.1)⟩
    rintro n25 x25_1 x25_2 x25_3 x25_4 x25_5 x25_6 x25_7 x25_8 x25_9 σ25 ⟨hn25, i25⟩
    have hj132 : ∀ (l1 : Int32) (l2 : Int32) (l3 : Int32) (l4 : Int32) (l5 : Int32) (l6 : Int32) (l7 : Int32) (l8 : Int32) (l9 : Int32) (τ : rS), (l1 = a1 ∧ l2 = a2 ∧ l3 = a3 ∧ l4 = a4 ∧ l5 = a5 ∧ l6 = a6 ∧ l7 = a7 ∧ l8 = x7_8 ∧ l9 = x25_9 ∧ ¬ σ.2.2.1 76 (x7_8.toNatClampNeg + 1) ≤ x25_9 ∧ τ = σ25 ∧ (σ.2.2.1 81 x7_8.toNatClampNeg = 0 ∨ x25_9 = σ.2.2.1 76 x7_8.toNatClampNeg + σ.2.2.1 83 x7_8.toNatClampNeg)) → w_weigh_132 C Q (fun l1' l2' l3' l4' l5' l6' l7' l8' τ => ∃ k < n7, (fun n l1 l2 l3 l4 l5 l6 l7 l8 τ => n = (σ.1 70 - l8).toNatClampNeg ∧ (l1 = a1 ∧ l2 = a2 ∧ l3 = a3 ∧ l4 = a4 ∧ l5 = a5 ∧ l6 = a6 ∧ l7 = a7 ∧ frS [0, 1, 2, 3, 4, 5, 6, 7, 8, 9, 10] σ τ ∧ 0 ≤ l8 ∧ l8 ≤ σ.1 70 ∧ ∃ d S, d ≤ 20000 ∧ (l8 < σ.1 70 → d ≤ loN σ l8.toNatClampNeg) ∧ siS σ τ s d S)) k l1' l2' l3' l4' l5' l6' l7' l8' τ) (fun l1' l2' l3' l4' l5' l6' l7' l8' l9' τ => ∃ k < n25, (fun n l1 l2 l3 l4 l5 l6 l7 l8 l9 τ => n = (σ.2.2.1 76 (x7_8.toNatClampNeg + 1) - l9).toNatClampNeg ∧ (l1 = a1 ∧ l2 = a2 ∧ l3 = a3 ∧ l4 = a4 ∧ l5 = a5 ∧ l6 = a6 ∧ l7 = a7 ∧ l8 = x7_8 ∧ frS [0, 1, 2, 3, 4, 5, 6, 7, 8, 9, 10] σ τ ∧ σ.2.2.1 76 x7_8.toNatClampNeg ≤ l9 ∧ l9 ≤ σ.2.2.1 76 (x7_8.toNatClampNeg + 1) ∧ ∃ S, siS σ τ s l9.toNatClampNeg S)) k l1' l2' l3' l4' l5' l6' l7' l8' l9' τ) l1 l2 l3 l4 l5 l6 l7 l8 l9 τ := by
      rintro y132_1 y132_2 y132_3 y132_4 y132_5 y132_6 y132_7 y132_8 y132_9 τ132 j132
      unfold w_weigh_132
      obtain ⟨f1, f2, f3, f4, f5, f6, f7, f8, G, w1, w2, S, J2⟩ := i25
      obtain ⟨y1, y2, y3, y4, y5, y6, y7, y8, y9, yn, yt, ytk⟩ := j132
      have i0 := Int32.le_trans st.1.1 w1
      have z := u2 i0 yn hi2
      have is := cn_succ i0 (Int32.lt_trans z.2.2.2.2.2.2 (by decide))
      have hi20 : x25_9.toNatClampNeg ≤ 20000 := cn_le (y := 20000) rfl (Int32.le_trans w2 hi2)
      rw [y8, y9, yt]
      refine addWeight_c hC s x25_9.toNatClampNeg S ?_ (fun σ_9 q10 => ?_)
      · clear h; rw [G.1 70 (by decide), G.2.2.1 76 (by decide) (by decide), G.2.2.1 81 (by decide) (by decide), G.2.2.1 83 (by decide) (by decide)]
        exact ⟨pOK_S hO G, hs, fun k hk => vOK_f (G.2.2.1 102 (by decide) (by decide)) (hv k hk), a0, u.2.2.2.2.1, w1, z.2.2.2.2.2.1, ytk, one_64, siS_g G J2, by omega⟩
      intro x11 hx11
      refine ⟨_, cn_lt2 hn25 ?_ ?_, rfl, ?_⟩
      · clear h; rw [hx11]; exact z.1  -- d8
      · clear h; rw [hx11]; exact z.2.1  -- d9
      · clear h; rw [hx11]
        exact ⟨y1, y2, y3, y4, y5, y6, y7, rfl, frS_tr G q10.1, Int32.le_trans w1 z.2.2.2.1, z.2.2.2.2.1, _, by rw [is]; exact siS_gr G q10.2⟩
    have hj113 : ∀ (l1 : Int32) (l2 : Int32) (l3 : Int32) (l4 : Int32) (l5 : Int32) (l6 : Int32) (l7 : Int32) (l8 : Int32) (l9 : Int32) (l10 : Int32) (τ : rS), (l1 = a1 ∧ l2 = a2 ∧ l3 = a3 ∧ l4 = a4 ∧ l5 = a5 ∧ l6 = a6 ∧ l7 = a7 ∧ l8 = x7_8 ∧ l9 = x25_9 ∧ 0 ≤ l10 ∧ l10 < 1000 ∧ ¬ σ.2.2.1 76 (x7_8.toNatClampNeg + 1) ≤ x25_9 ∧ τ = σ25 ∧ (σ.2.2.1 81 x7_8.toNatClampNeg = 0 ∨ x25_9 = σ.2.2.1 76 x7_8.toNatClampNeg + σ.2.2.1 83 x7_8.toNatClampNeg)) → w_weigh_113 C Q (fun l1' l2' l3' l4' l5' l6' l7' l8' τ => ∃ k < n7, (fun n l1 l2 l3 l4 l5 l6 l7 l8 τ => n = (σ.1 70 - l8).toNatClampNeg ∧ (l1 = a1 ∧ l2 = a2 ∧ l3 = a3 ∧ l4 = a4 ∧ l5 = a5 ∧ l6 = a6 ∧ l7 = a7 ∧ frS [0, 1, 2, 3, 4, 5, 6, 7, 8, 9, 10] σ τ ∧ 0 ≤ l8 ∧ l8 ≤ σ.1 70 ∧ ∃ d S, d ≤ 20000 ∧ (l8 < σ.1 70 → d ≤ loN σ l8.toNatClampNeg) ∧ siS σ τ s d S)) k l1' l2' l3' l4' l5' l6' l7' l8' τ) (fun l1' l2' l3' l4' l5' l6' l7' l8' l9' τ => ∃ k < n25, (fun n l1 l2 l3 l4 l5 l6 l7 l8 l9 τ => n = (σ.2.2.1 76 (x7_8.toNatClampNeg + 1) - l9).toNatClampNeg ∧ (l1 = a1 ∧ l2 = a2 ∧ l3 = a3 ∧ l4 = a4 ∧ l5 = a5 ∧ l6 = a6 ∧ l7 = a7 ∧ l8 = x7_8 ∧ frS [0, 1, 2, 3, 4, 5, 6, 7, 8, 9, 10] σ τ ∧ σ.2.2.1 76 x7_8.toNatClampNeg ≤ l9 ∧ l9 ≤ σ.2.2.1 76 (x7_8.toNatClampNeg + 1) ∧ ∃ S, siS σ τ s l9.toNatClampNeg S)) k l1' l2' l3' l4' l5' l6' l7' l8' l9' τ) l1 l2 l3 l4 l5 l6 l7 l8 l9 l10 τ := by
      rintro y113_1 y113_2 y113_3 y113_4 y113_5 y113_6 y113_7 y113_8 y113_9 y113_10 τ113 j113
      unfold w_weigh_113
      obtain ⟨f1, f2, f3, f4, f5, f6, f7, f8, G, w1, w2, S, J2⟩ := i25
      obtain ⟨y1, y2, y3, y4, y5, y6, y7, y8, y9, ye0, ye1, yn, yt, ytk⟩ := j113
      have i0 := Int32.le_trans st.1.1 w1
      have z := u2 i0 yn hi2
      have is := cn_succ i0 (Int32.lt_trans z.2.2.2.2.2.2 (by decide))
      rw [y8, y9, yt]
      refine ⟨fun c12 => ?_, fun c12 => ?_⟩
      · skip
        refine hj132 _ _ _ _ _ _ _ _ _ _ ?_
        · clear h; exact ⟨y1, y2, y3, y4, y5, y6, y7, rfl, rfl, yn, rfl, ytk⟩  -- k11
      · skip
        refine told_c hC  ?_ (fun r13 q15 => ?_)
        · clear h; rw [y5] at c12 ⊢
          have q := h5.resolve_left c12
          exact ⟨ye0, ye1, q.1, q.2⟩
        refine ⟨fun c16 => ?_, fun c16 => ?_⟩
        · skip
          intro x17 hx17
          refine ⟨_, cn_lt2 hn25 ?_ ?_, rfl, ?_⟩
          · clear h; rw [hx17]; exact z.1  -- d13
          · clear h; rw [hx17]; exact z.2.1  -- d14
          · clear h; rw [hx17]; exact ⟨y1, y2, y3, y4, y5, y6, y7, rfl, G, Int32.le_trans w1 z.2.2.2.1, z.2.2.2.2.1, S, siS_mono J2 (by rw [is]; omega)⟩  -- i15
        · skip
          refine hj132 _ _ _ _ _ _ _ _ _ _ ?_
          · clear h; exact ⟨y1, y2, y3, y4, y5, y6, y7, rfl, rfl, yn, rfl, ytk⟩  -- k16
    have hj96 : ∀ (l1 : Int32) (l2 : Int32) (l3 : Int32) (l4 : Int32) (l5 : Int32) (l6 : Int32) (l7 : Int32) (l8 : Int32) (l9 : Int32) (l10 : Int32) (τ : rS), (l1 = a1 ∧ l2 = a2 ∧ l3 = a3 ∧ l4 = a4 ∧ l5 = a5 ∧ l6 = a6 ∧ l7 = a7 ∧ l8 = x7_8 ∧ l9 = x25_9 ∧ 0 ≤ l10 ∧ l10 < 1000 ∧ ¬ σ.2.2.1 76 (x7_8.toNatClampNeg + 1) ≤ x25_9 ∧ τ = σ25 ∧ (σ.2.2.1 81 x7_8.toNatClampNeg = 0 ∨ x25_9 = σ.2.2.1 76 x7_8.toNatClampNeg + σ.2.2.1 83 x7_8.toNatClampNeg)) → w_weigh_96 C Q (fun l1' l2' l3' l4' l5' l6' l7' l8' τ => ∃ k < n7, (fun n l1 l2 l3 l4 l5 l6 l7 l8 τ => n = (σ.1 70 - l8).toNatClampNeg ∧ (l1 = a1 ∧ l2 = a2 ∧ l3 = a3 ∧ l4 = a4 ∧ l5 = a5 ∧ l6 = a6 ∧ l7 = a7 ∧ frS [0, 1, 2, 3, 4, 5, 6, 7, 8, 9, 10] σ τ ∧ 0 ≤ l8 ∧ l8 ≤ σ.1 70 ∧ ∃ d S, d ≤ 20000 ∧ (l8 < σ.1 70 → d ≤ loN σ l8.toNatClampNeg) ∧ siS σ τ s d S)) k l1' l2' l3' l4' l5' l6' l7' l8' τ) (fun l1' l2' l3' l4' l5' l6' l7' l8' l9' τ => ∃ k < n25, (fun n l1 l2 l3 l4 l5 l6 l7 l8 l9 τ => n = (σ.2.2.1 76 (x7_8.toNatClampNeg + 1) - l9).toNatClampNeg ∧ (l1 = a1 ∧ l2 = a2 ∧ l3 = a3 ∧ l4 = a4 ∧ l5 = a5 ∧ l6 = a6 ∧ l7 = a7 ∧ l8 = x7_8 ∧ frS [0, 1, 2, 3, 4, 5, 6, 7, 8, 9, 10] σ τ ∧ σ.2.2.1 76 x7_8.toNatClampNeg ≤ l9 ∧ l9 ≤ σ.2.2.1 76 (x7_8.toNatClampNeg + 1) ∧ ∃ S, siS σ τ s l9.toNatClampNeg S)) k l1' l2' l3' l4' l5' l6' l7' l8' l9' τ) l1 l2 l3 l4 l5 l6 l7 l8 l9 l10 τ := by
      rintro y96_1 y96_2 y96_3 y96_4 y96_5 y96_6 y96_7 y96_8 y96_9 y96_10 τ96 j96
      unfold w_weigh_96
      obtain ⟨f1, f2, f3, f4, f5, f6, f7, f8, G, w1, w2, S, J2⟩ := i25
      obtain ⟨y1, y2, y3, y4, y5, y6, y7, y8, y9, ye0, ye1, yn, yt, ytk⟩ := j96
      have i0 := Int32.le_trans st.1.1 w1
      have z := u2 i0 yn hi2
      have is := cn_succ i0 (Int32.lt_trans z.2.2.2.2.2.2 (by decide))
      rw [y8, y9, yt]
      refine ⟨fun c18 => ?_, fun c18 => ?_⟩
      · skip
        refine hj113 _ _ _ _ _ _ _ _ _ _ _ ?_
        · clear h; exact ⟨y1, y2, y3, y4, y5, y6, y7, rfl, rfl, ye0, ye1, yn, rfl, ytk⟩  -- k17
      · skip
        refine told_c hC  ?_ (fun r19 q21 => ?_)
        · clear h; rw [y3] at c18 ⊢
          have q := h3.resolve_left c18
          exact ⟨ye0, ye1, q.1, q.2⟩
        refine ⟨fun c22 => ?_, fun c22 => ?_⟩
        · skip
          intro x23 hx23
          refine ⟨_, cn_lt2 hn25 ?_ ?_, rfl, ?_⟩
          · clear h; rw [hx23]; exact z.1  -- d19
          · clear h; rw [hx23]; exact z.2.1  -- d20
          · clear h; rw [hx23]; exact ⟨y1, y2, y3, y4, y5, y6, y7, rfl, G, Int32.le_trans w1 z.2.2.2.1, z.2.2.2.2.1, S, siS_mono J2 (by rw [is]; omega)⟩  -- i21
        · skip
          refine hj113 _ _ _ _ _ _ _ _ _ _ _ ?_
          · clear h; exact ⟨y1, y2, y3, y4, y5, y6, y7, rfl, rfl, ye0, ye1, yn, rfl, ytk⟩  -- k22
    obtain ⟨f1, f2, f3, f4, f5, f6, f7, f8, G, w1, w2, S, J2⟩ := i25
    have i0 := Int32.le_trans st.1.1 w1
    have g76 := G.2.2.1 76 (by decide) (by decide)
    have g77 := G.2.2.1 77 (by decide) (by decide)
    have g78 := G.2.2.1 78 (by decide) (by decide)
    have hi20 : x25_9.toNatClampNeg ≤ 20000 := cn_le (y := 20000) rfl (Int32.le_trans w2 hi2)
    rw [f8]
    refine isVisited_c hC  ?_ (fun r24 q26 => ?_)
    · clear h; exact ⟨a0, u.2.2.2.2.2⟩  -- p23
    rw [g76, g77, g78, st.2.2.2.1]
    refine ⟨fun c27 => ?_, fun c27 => ?_⟩
    · skip
      intro x28 hx28
      refine ⟨_, cn_lt2 hn7 ?_ ?_, rfl, ?_⟩
      · clear h; rw [hx28]; exact u.1  -- d24
      · clear h; rw [hx28]; exact u.2.1  -- d25
      · clear h; rw [hx28]
        exact ⟨f1, f2, f3, f4, f5, f6, f7, G, u.2.2.1, u.2.2.2.1, x25_9.toNatClampNeg, S, hi20, fun _ => by rw [as]; unfold loN; exact cn_l w2 i0, J2⟩
    · skip
      refine ⟨ib_1001.mpr ?_, ?_⟩
      · clear h; exact ⟨st.2.2.2.2.2.1, st.2.2.2.2.2.2⟩  -- b27
      refine ⟨fun c29 => ?_, fun c29 => ?_⟩
      · skip
        intro x30 hx30
        refine ⟨_, cn_lt2 hn7 ?_ ?_, rfl, ?_⟩
        · clear h; rw [hx30]; exact u.1  -- d28
        · clear h; rw [hx30]; exact u.2.1  -- d29
        · clear h; rw [hx30]
          exact ⟨f1, f2, f3, f4, f5, f6, f7, G, u.2.2.1, u.2.2.2.1, x25_9.toNatClampNeg, S, hi20, fun _ => by rw [as]; unfold loN; exact cn_l w2 i0, J2⟩
      · skip
        have z := u2 i0 c29 hi2
        have is := cn_succ i0 (Int32.lt_trans z.2.2.2.2.2.2 (by decide))
        have l72 := Int32.lt_of_lt_of_le z.2.2.2.2.2.1 st.2.2.1
        refine ⟨ib_20000.mpr ?_, ?_⟩
        · clear h; exact ⟨i0, z.2.2.2.2.2.2⟩  -- b31
        intro x31 hx31
        refine ⟨ib_20000.mpr ?_, ?_⟩
        · clear h; exact ⟨i0, z.2.2.2.2.2.2⟩  -- b32
        refine ⟨fun c32 => ?_, fun c32 => ?_⟩
        · skip
          intro x33 hx33
          refine ⟨_, cn_lt2 hn25 ?_ ?_, rfl, ?_⟩
          · clear h; rw [hx33]; exact z.1  -- d33
          · clear h; rw [hx33]; exact z.2.1  -- d34
          · clear h; rw [hx33]; exact ⟨f1, f2, f3, f4, f5, f6, f7, rfl, G, Int32.le_trans w1 z.2.2.2.1, z.2.2.2.2.1, S, siS_mono J2 (by rw [is]; omega)⟩  -- i35
        · skip
          refine isTaken_c hC  ?_ (fun r34 q36 => ?_)
          · clear h; exact ⟨a0, u.2.2.2.2.2⟩  -- p36
          have tk := q36.2
          rw [rd, rd, rd, G.2.2.1 81 (by decide) (by decide), g76, G.2.2.1 83 (by decide) (by decide)] at tk
          have q := (hO.1.2.2.2.2 _ (cn_lt i0 l72)).2.2 c32
          have q1 := Int32.lt_of_lt_of_le q.2 hO.1.2.1.2
          refine ⟨fun c37 => ?_, fun c37 => ?_⟩
          · skip
            intro x38 hx38
            refine ⟨_, cn_lt2 hn25 ?_ ?_, rfl, ?_⟩
            · clear h; rw [hx38]; exact z.1  -- d37
            · clear h; rw [hx38]; exact z.2.1  -- d38
            · clear h; rw [hx38]; exact ⟨f1, f2, f3, f4, f5, f6, f7, rfl, G, Int32.le_trans w1 z.2.2.2.1, z.2.2.2.2.1, S, siS_mono J2 (by rw [is]; omega)⟩  -- i39
          · skip
            refine ⟨fun c39 => ?_, fun c39 => ?_⟩
            · skip
              refine hj96 _ _ _ _ _ _ _ _ _ _ _ ?_
              · clear h; rw [hx31]; exact ⟨f1, f2, f3, f4, f5, f6, f7, rfl, rfl, q.1, q1, c29, rfl, (tk.mp c37).resolve_left (by decide)⟩  -- k40
            · skip
              refine told_c hC  ?_ (fun r40 q42 => ?_)
              · clear h; rw [hx31, f1]
                rw [f1] at c39
                have r := h1.resolve_left c39
                exact ⟨q.1, q1, r.1, r.2⟩
              refine ⟨fun c43 => ?_, fun c43 => ?_⟩
              · skip
                intro x44 hx44
                refine ⟨_, cn_lt2 hn25 ?_ ?_, rfl, ?_⟩
                · clear h; rw [hx44]; exact z.1  -- d42
                · clear h; rw [hx44]; exact z.2.1  -- d43
                · clear h; rw [hx44]; exact ⟨f1, f2, f3, f4, f5, f6, f7, rfl, G, Int32.le_trans w1 z.2.2.2.1, z.2.2.2.2.1, S, siS_mono J2 (by rw [is]; omega)⟩  -- i44
              · skip
                refine hj96 _ _ _ _ _ _ _ _ _ _ _ ?_
                · clear h; rw [hx31]; exact ⟨f1, f2, f3, f4, f5, f6, f7, rfl, rfl, q.1, q1, c29, rfl, (tk.mp c37).resolve_left (by decide)⟩  -- k45

end
