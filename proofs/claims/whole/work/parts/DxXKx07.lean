section
set_option maxHeartbeats 1600000
/-! the reference: the order of solving, and which states are open -/
/-- one more put in its place -/
theorem si_15 {o o' : Nat → Nat} {a : Nat → Int} {n p : Nat} (hp : p ≤ n) (h1 : ∀ j, j < p → o' j = o j) (h2 : o' p = n) (h3 : ∀ j, p ≤ j → j < n → o' (j + 1) = o j) (S : ∀ i j, i < j → j < n → a (o i) ≤ a (o j)) (R : ∀ i, i < n → o i < n) (T : ∀ k, k < n → ∃ i, i < n ∧ o i = k) (k1 : p = 0 ∨ a (o (p - 1)) ≤ a n) (k2 : ∀ j, p ≤ j → j < n → a n < a (o j)) : (∀ i j, i < j → j < n + 1 → a (o' i) ≤ a (o' j)) ∧ (∀ i, i < n + 1 → o' i < n + 1) ∧ ∀ k, k < n + 1 → ∃ i, i < n + 1 ∧ o' i = k := by
  have up : ∀ j, p < j → j < n + 1 → o' j = o (j - 1) := fun j hj hn => by
    have q := h3 (j - 1) (by omega) (by omega)
    rw [show j - 1 + 1 = j by omega] at q
    exact q
  refine ⟨fun i j hij hj => ?_, fun i hi => ?_, fun k hk => ?_⟩
  · by_cases c1 : j < p
    · rw [h1 i (by omega), h1 j c1]
      exact S i j hij (by omega)
    · by_cases c2 : j = p
      · rw [h1 i (by omega), c2, h2]
        rcases k1 with z | z
        · omega
        · by_cases c3 : i = p - 1
          · rw [c3]; exact z
          · exact Int.le_trans (S i (p - 1) (by omega) (by omega)) z
      · rw [up j (by omega) hj]
        by_cases c3 : i < p
        · rw [h1 i c3]
          exact S i (j - 1) (by omega) (by omega)
        · by_cases c4 : i = p
          · rw [c4, h2]
            exact Int.le_of_lt (k2 (j - 1) (by omega) (by omega))
          · rw [up i (by omega) (by omega)]
            exact S (i - 1) (j - 1) (by omega) (by omega)
  · by_cases c1 : i < p
    · rw [h1 i c1]
      have := R i (by omega)
      omega
    · by_cases c2 : i = p
      · rw [c2, h2]; omega
      · rw [up i (by omega) hi]
        have := R (i - 1) (by omega)
        omega
  · by_cases c : k = n
    · exact ⟨p, by omega, by rw [h2, c]⟩
    · obtain ⟨i, i1, i2⟩ := T k (by omega)
      by_cases d : i < p
      · exact ⟨i, by omega, by rw [h1 i d]; exact i2⟩
      · exact ⟨i + 1, by omega, by rw [h3 i (by omega) i1]; exact i2⟩
/-- how many lead to k -/
def cA15 (b : Nat → Int64) (k : Nat) : Nat → Nat
  | 0 => 0
  | n + 1 => cA15 b k n + (if bR b n k = true then 1 else 0)
def an15 (b : Nat → Int64) (s k : Nat) : Nat := 2 * cA15 b k s + (if bR b k k = true then 0 else 1)
theorem cA_l15 {b : Nat → Int64} {k : Nat} : ∀ {n : Nat}, cA15 b k n ≤ n
  | 0 => Nat.le_refl 0
  | n + 1 => by
    have a := cA_l15 (b := b) (k := k) (n := n)
    show cA15 b k n + (if bR b n k = true then 1 else 0) ≤ n + 1
    split <;> omega
abbrev oN15 (τ : rS) (i : Nat) : Nat := (τ.2.2.1 98 i).toNatClampNeg
def L15 (σ τ : rS) (s n : Nat) : Prop := (∀ k, k < s → (τ.2.2.1 95 k ≠ 0 ↔ cnE σ k)) ∧ (∀ k, k < n → τ.2.2.1 96 k = 0 ∧ vR15 τ k 0) ∧ (∀ k, k < n → (τ.2.2.1 97 k).toInt = (an15 (τ.2.2.2 86) s k : Int)) ∧ (∀ i j, i < j → j < n → (τ.2.2.1 97 (oN15 τ i)).toInt ≤ (τ.2.2.1 97 (oN15 τ j)).toInt) ∧ (∀ i, i < n → oN15 τ i < n) ∧ ∀ k, k < n → ∃ i, i < n ∧ oN15 τ i = k
theorem w2_15 {x y : Int32} {a b : Nat} (hx : x.toInt = (2 * a : Nat)) (hy : y.toInt = (b : Int)) (ha : a ≤ 1000) (hb : b ≤ 2) : (x + y).toInt = ((2 * a + b : Nat) : Int) := by
  rw [add_i (by omega) (by omega)]
  omega
theorem findOrder_g5 {C : rCx} (hC : cOK C) (s : Nat) {σ : rS}  {Q : rS → Prop} (hp : pOK σ ∧ s = (σ.1 70).toNatClampNeg) (h : ∀ (σ' : rS), ((frM [] [90, 91, 95, 96, 97, 98, 102] σ σ' ∧ (∀ k, k < s → vOK σ' k) ∧ (∀ i, i < s → 0 ≤ σ'.2.2.1 98 i ∧ σ'.2.2.1 98 i < σ.1 70) ∧ (∀ k, k < s → σ'.2.2.1 95 k ≠ 0 → cnE σ k) ∧ (∀ a b, a < s → b < s → (bR (σ'.2.2.2 86) a b = true ↔ Tr (edN σ' 1 95 0) a b)) ∧ nK σ σ') ∧ (L15 σ σ' s s)) → Q σ') : cV C 3 m_findOrder [.ref (co C)] σ Q := by
  refine m_findOrder_run hC ?_
  unfold w_findOrder_0
  obtain ⟨hO, hs⟩ := hp
  refine findReach_c hC  ?_ (fun σ_1 q2 => ?_)
  · clear h; exact ⟨hO.1, Or.inr rfl⟩  -- p1
  unfold w_findOrder_12
  refine ⟨fun n l1 τ => n = (σ.1 70 - l1).toNatClampNeg ∧ ((frM [] [95] σ τ ∧ (∀ a b, a < s → b < s → (bR (τ.2.2.2 86) a b = true ↔ Tr (edN σ 1 95 1) a b)) ∧ 0 ≤ l1 ∧ l1 ≤ σ.1 70 ∧ ∀ k, k < l1.toNatClampNeg → τ.2.2.1 95 k ≠ 0 → cnE σ k) ∧ ∀ k, k < l1.toNatClampNeg → (τ.2.2.1 95 k ≠ 0 ↔ cnE σ k)), ⟨_, rfl, ?_⟩, ?_⟩
  · refine and_5 ?_ (fun o9 => ?_)  -- j2
    · clear h; rw [← hs] at q2
      exact ⟨frM_L q2.1, q2.2, by decide, hO.1.1.1, fun k hk => absurd hk (Nat.not_lt_zero k)⟩
    · clear o9
      exact fun k hk => absurd hk (Nat.not_lt_zero k)
  rintro n12 x12_1 σ12 ⟨hn12, i12, hE⟩
  obtain ⟨F, B, a0, a1, E⟩ := i12
  have e70 := F.1 70 (by decide)
  have hO12 : pOK σ12 := pOK_o hO (fun k _ => F.1 k (List.not_mem_nil)) (fun k hk => F.2.2.1 k (fun z => by have := List.mem_singleton.mp z; omega))
  rw [e70]
  refine ⟨fun c3 => ?_, fun c3 => ?_⟩
  · skip
    refine findReach_c hC  ?_ (fun σ_4 q5 => ?_)
    · clear h; exact ⟨hO12.1, Or.inr rfl⟩  -- p3
    unfold w_findOrder_50
    refine ⟨fun n l1 τ => n = (σ.1 70 - l1).toNatClampNeg ∧ ((frM [] [90, 91, 95, 96, 97, 98, 102] σ τ ∧ 0 ≤ l1 ∧ l1 ≤ σ.1 70 ∧ (∀ k, k < s → τ.2.2.1 95 k ≠ 0 → cnE σ k) ∧ (∀ a b, a < s → b < s → (bR (τ.2.2.2 86) a b = true ↔ Tr (edN τ 1 95 0) a b)) ∧ (∀ k, k < l1.toNatClampNeg → vOK τ k) ∧ (∀ i, i < l1.toNatClampNeg → 0 ≤ τ.2.2.1 98 i ∧ τ.2.2.1 98 i < σ.1 70) ∧ nK σ τ) ∧ L15 σ τ s l1.toNatClampNeg), ⟨_, rfl, ?_⟩, ?_⟩
    · refine and_5 ?_ (fun o9 => ?_)  -- j4
      · clear h; rw [e70, ← hs] at q5
        have e : x12_1 = σ.1 70 := Int32.le_antisymm a1 c3
        rw [e, ← hs] at E
        exact ⟨frM_w (frM_tr F (frM_L q5.1)) (fun k hk => hk) (sub_of rfl), by decide, hO.1.1.1, fun k hk z => E k hk (by rw [← q5.1.2.2.1]; exact z), fun a b ha hb => by rw [edN_q (σ := σ12) (fun k _ => by rw [q5.1.2.2.1])]; exact q5.2 a b ha hb, fun k hk => absurd hk (Nat.not_lt_zero k), fun k hk => absurd hk (Nat.not_lt_zero k), nK_r (by rw [q5.1.2.2.1]; exact F.2.2.1 90 (by decide)) (by rw [q5.1.2.2.1]; exact F.2.2.1 91 (by decide))⟩
      · clear o9
        have e : x12_1 = σ.1 70 := Int32.le_antisymm a1 c3
        rw [e, ← hs] at hE
        exact ⟨fun k hk => by rw [q5.1.2.2.1]; exact hE k hk, fun k hk => absurd hk (Nat.not_lt_zero k), fun k hk => absurd hk (Nat.not_lt_zero k), fun i j _ hj => absurd hj (Nat.not_lt_zero j), fun k hk => absurd hk (Nat.not_lt_zero k), fun k hk => absurd hk (Nat.not_lt_zero k)⟩
    rintro n50 x50_1 σ50 ⟨hn50, i50, hE⟩
    have hj175 : ∀ (l1 : Int32) (l2 : Int32) (τ : rS), ((l1 = x50_1 ∧ ¬ σ.1 70 ≤ x50_1 ∧ frX [97, 98] σ50 τ ∧ 0 ≤ l2 ∧ l2 ≤ x50_1 ∧ ∀ j, j ≤ x50_1.toNatClampNeg → j ≠ l2.toNatClampNeg → 0 ≤ τ.2.2.1 98 j ∧ τ.2.2.1 98 j < σ.1 70) ∧ (L15 σ σ50 s x50_1.toNatClampNeg ∧ (τ.2.2.1 97 x50_1.toNatClampNeg).toInt = (an15 (σ50.2.2.2 86) s x50_1.toNatClampNeg : Int) ∧ (∀ k, k ≠ x50_1.toNatClampNeg → τ.2.2.1 97 k = σ50.2.2.1 97 k) ∧ (∀ j, j < l2.toNatClampNeg → τ.2.2.1 98 j = σ50.2.2.1 98 j) ∧ ∀ j, l2.toNatClampNeg ≤ j → j < x50_1.toNatClampNeg → τ.2.2.1 98 (j + 1) = σ50.2.2.1 98 j ∧ (an15 (σ50.2.2.2 86) s x50_1.toNatClampNeg : Int) < (σ50.2.2.1 97 (oN15 σ50 j)).toInt) ∧ (l2.toNatClampNeg = 0 ∨ (σ50.2.2.1 97 (oN15 σ50 (l2.toNatClampNeg - 1))).toInt ≤ (an15 (σ50.2.2.2 86) s x50_1.toNatClampNeg : Int))) → w_findOrder_175 C Q (fun l1' τ => ∃ k < n50, (fun n l1 τ => n = (σ.1 70 - l1).toNatClampNeg ∧ ((frM [] [90, 91, 95, 96, 97, 98, 102] σ τ ∧ 0 ≤ l1 ∧ l1 ≤ σ.1 70 ∧ (∀ k, k < s → τ.2.2.1 95 k ≠ 0 → cnE σ k) ∧ (∀ a b, a < s → b < s → (bR (τ.2.2.2 86) a b = true ↔ Tr (edN τ 1 95 0) a b)) ∧ (∀ k, k < l1.toNatClampNeg → vOK τ k) ∧ (∀ i, i < l1.toNatClampNeg → 0 ≤ τ.2.2.1 98 i ∧ τ.2.2.1 98 i < σ.1 70) ∧ nK σ τ) ∧ L15 σ τ s l1.toNatClampNeg)) k l1' τ) l1 l2 τ := by
      rintro y175_1 y175_2 τ175 ⟨j175, hE⟩
      unfold w_findOrder_175
      obtain ⟨G, b0, b1, E5, B5, V5, O5, K5⟩ := i50
      obtain ⟨y1, y2, Y, y3, y4, y5⟩ := j175
      have u := uk b0 y2 hO.1.1.2
      have bs := cn_succ b0 (Int32.lt_trans u.2.2.2.2.2 (by decide))
      rw [y1]
      refine ⟨ib_1000.mpr ?_, ?_⟩
      · clear h; exact ⟨y3, Int32.lt_of_le_of_lt y4 u.2.2.2.2.2⟩  -- b5
      intro σ_6 hσ_6
      refine ⟨ib_1000.mpr ?_, ?_⟩
      · clear h; exact ⟨b0, u.2.2.2.2.2⟩  -- b6
      intro σ_7 hσ_7
      refine ⟨ib_30.mpr ?_, ?_⟩
      · clear h; exact ⟨by decide, by decide⟩  -- b7
      intro σ_8 hσ_8
      refine set_c hC  ?_ (fun σ_9 q10 => ?_)
      · clear h; exact ⟨by decide, by decide, by decide⟩  -- p8
      simp only [kn] at q10 hσ_8
      have z8 : σ_8.2.2.1 91 4 = 0 := by rw [hσ_8, ri34, if_pos rfl, if_pos rfl]
      have l8 : nL σ_8 4 = 0 := by unfold nL; rw [z8]; rfl
      have n8 : numO σ_8 4 := ⟨by rw [z8]; decide, by rw [z8]; decide, fun i hi => absurd hi (by rw [l8]; exact Nat.not_lt_zero i), Or.inl l8⟩
      have n9 := nV_fr q10.1 (k := 4) (by decide) n8
      have Y8 : frX [90, 91, 96, 97, 98, 102] σ50 σ_8 := by
        rw [hσ_8, hσ_7, hσ_6]
        exact frX_tr (frX_tr (frX_tr (frX_w Y (sub_of rfl)) (frX_1 (by decide))) (frX_1 (by decide))) (frX_1 (by decide))
      have Y9 := frX_tr Y8 (frX_N q10.1 (by decide) (by decide))
      have l94 : nL σ_9 4 ≤ 16 := by rw [n9.2.2, l8]; decide
      have l95 : nL σ_9 5 ≤ 16 := by have := q10.2.2.2; omega
      refine keepVisits_c hC  ?_ (fun σ_11 q12 => ?_)
      · clear h; exact ⟨b0, u.2.2.2.2.2, n9.1, q10.2.1⟩  -- p9
      intro x13 hx13
      refine lp_b5 (cn_lt2 hn50 ?_ ?_) (fun d9 => ⟨rfl, ?_⟩)
      · clear h; rw [hx13]; exact u.1  -- d10
      · clear h; rw [hx13]; exact u.2.1  -- d11
      · refine and_5 ?_ (fun o9 => ?_)  -- i12
        · clear h; have Y11 := frX_tr Y9 (frX_R q12.1 (by decide))
          have s4 := q12.2.1 l94
          have s5 := q12.2.2 l95
          have r102 : σ_9.2.2.1 102 = σ50.2.2.1 102 := by
            rw [q10.1.2.2.1 102 (by decide) (by decide), hσ_8, ri3 (by decide), hσ_7, ri3 (by decide), hσ_6, ri3 (by decide), Y.2.2.1 102 (by decide)]
          have r98 : ∀ i, σ_11.2.2.1 98 i = if i = y175_2.toNatClampNeg then x50_1 else τ175.2.2.1 98 i := fun i => by
            rw [q12.1.2.2.1 98 (by decide), q10.1.2.2.1 98 (by decide) (by decide), hσ_8, ri3 (by decide), hσ_7, ri3 (by decide), hσ_6, ri34, if_pos rfl]
          have K8 : nK σ50 σ_8 := fun k hk => ⟨by rw [hσ_8, ri34, if_pos rfl, if_neg (by omega), hσ_7, ri3 (by decide), hσ_6, ri3 (by decide), Y.2.2.1 91 (by decide)], fun i _ => by rw [hσ_8, ri3 (by decide), hσ_7, ri3 (by decide), hσ_6, ri3 (by decide), Y.2.2.1 90 (by decide)]⟩
          have K11 : nK σ50 σ_11 := nK_tr K8 (nK_tr (nK_l q10.1.2.2.2.2 (by decide)) (nK_r (q12.1.2.2.1 90 (by decide)) (q12.1.2.2.1 91 (by decide))))
          rw [hx13, bs]
          refine ⟨frM_tr G (frM_X Y11 (sub_of rfl)), u.2.2.1, u.2.2.2.1, fun k hk z => E5 k hk (by rw [← Y11.2.2.1 95 (by decide)]; exact z), fun a b ha hb => ?_, fun k hk => ?_, fun i hi => ?_, nK_tr K5 K11⟩
          · rw [Y11.2.2.2, edN_q (σ := σ50) (fun k hk => Y11.2.2.1 k (by rcases hk with z | z | z | z | z | z <;> rw [z] <;> decide))]
            exact B5 a b ha hb
          · by_cases e : k = x50_1.toNatClampNeg
            · rw [e]
              exact ⟨s4.1, s5.1, by rw [s5.2, q10.2.2.1]; decide⟩
            · exact vOK_e (fun i i1 i2 => q12.1.2.2.2.2 i (by omega)) (vOK_f r102 (V5 k (by omega)))
          · rw [r98 i]
            split
            · exact ⟨b0, u.2.2.2.2.1⟩
            · rename_i e
              exact y5 i (by omega) e
        · clear o9
          have Y11 := frX_tr Y9 (frX_R q12.1 (by decide))
          have s4 := q12.2.1 l94
          have s5 := q12.2.2 l95
          have r102 : σ_9.2.2.1 102 = σ50.2.2.1 102 := by
            rw [q10.1.2.2.1 102 (by decide) (by decide), hσ_8, ri3 (by decide), hσ_7, ri3 (by decide), hσ_6, ri3 (by decide), Y.2.2.1 102 (by decide)]
          have r98 : ∀ i, σ_11.2.2.1 98 i = if i = y175_2.toNatClampNeg then x50_1 else τ175.2.2.1 98 i := fun i => by
            rw [q12.1.2.2.1 98 (by decide), q10.1.2.2.1 98 (by decide) (by decide), hσ_8, ri3 (by decide), hσ_7, ri3 (by decide), hσ_6, ri34, if_pos rfl]
          have r97 : σ_11.2.2.1 97 = τ175.2.2.1 97 := by rw [q12.1.2.2.1 97 (by decide), q10.1.2.2.1 97 (by decide) (by decide), hσ_8, ri3 (by decide), hσ_7, ri3 (by decide), hσ_6, ri3 (by decide)]
          have r96 : ∀ i, σ_11.2.2.1 96 i = if i = x50_1.toNatClampNeg then vp_nar .boolean 0 else σ50.2.2.1 96 i := fun i => by
            rw [q12.1.2.2.1 96 (by decide), q10.1.2.2.1 96 (by decide) (by decide), hσ_8, ri3 (by decide), hσ_7, ri34, if_pos rfl, hσ_6, ri3 (by decide), Y.2.2.1 96 (by decide)]
          have e86 : σ_11.2.2.2 86 = σ50.2.2.2 86 := by rw [Y11.2.2.2]
          obtain ⟨⟨⟨M1, M2, M3, M4, M5, M6⟩, A1, A2, A3, A4⟩, A5⟩ := hE
          have wl : y175_2.toNatClampNeg ≤ x50_1.toNatClampNeg := cn_l y4 y3
          have k97 : ∀ k, k ≠ x50_1.toNatClampNeg → σ_11.2.2.1 97 k = σ50.2.2.1 97 k := fun k hk => by rw [r97]; exact A2 k hk
          have kx : (σ_11.2.2.1 97 x50_1.toNatClampNeg).toInt = (an15 (σ50.2.2.2 86) s x50_1.toNatClampNeg : Int) := by rw [r97]; exact A1
          have key := si_15 (o := oN15 σ50) (o' := oN15 σ_11) (a := fun k => (σ_11.2.2.1 97 k).toInt) wl (fun j hj => by
            show (σ_11.2.2.1 98 j).toNatClampNeg = (σ50.2.2.1 98 j).toNatClampNeg
            rw [r98, if_neg (by omega), A3 j hj]) (by
            show (σ_11.2.2.1 98 y175_2.toNatClampNeg).toNatClampNeg = x50_1.toNatClampNeg
            rw [r98, if_pos rfl]) (fun j h1 h2 => by
            show (σ_11.2.2.1 98 (j + 1)).toNatClampNeg = (σ50.2.2.1 98 j).toNatClampNeg
            rw [r98, if_neg (by omega), (A4 j h1 h2).1]) (fun i j hij hj => by
            have q1 := M5 i (by omega)
            have q2 := M5 j hj
            show (σ_11.2.2.1 97 (oN15 σ50 i)).toInt ≤ (σ_11.2.2.1 97 (oN15 σ50 j)).toInt
            rw [k97 _ (by omega), k97 _ (by omega)]
            exact M4 i j hij hj) M5 M6 (by
            rcases A5 with z | z
            · exact Or.inl z
            · by_cases c : y175_2.toNatClampNeg = 0
              · exact Or.inl c
              · right
                have q1 := M5 (y175_2.toNatClampNeg - 1) (by omega)
                show (σ_11.2.2.1 97 (oN15 σ50 (y175_2.toNatClampNeg - 1))).toInt ≤ (σ_11.2.2.1 97 x50_1.toNatClampNeg).toInt
                rw [k97 _ (by omega), kx]
                exact z) (fun j h1 h2 => by
            have q1 := M5 j h2
            show (σ_11.2.2.1 97 x50_1.toNatClampNeg).toInt < (σ_11.2.2.1 97 (oN15 σ50 j)).toInt
            rw [k97 (oN15 σ50 j) (by omega), kx]
            exact (A4 j h1 h2).2)
          rw [hx13, bs]
          refine ⟨fun k hk => by rw [Y11.2.2.1 95 (by decide)]; exact M1 k hk, fun k hk => ?_, fun k hk => ?_, key.1, key.2.1, key.2.2⟩
          · rw [r96]
            by_cases e : k = x50_1.toNatClampNeg
            · rw [if_pos e, e]
              refine ⟨rfl, ?_, ?_, by decide⟩
              · rw [s4.2, n9.2.1]
                show nV σ_8 4 = 0
                unfold nV
                rw [l8]; rfl
              · rw [s5.2, q10.2.2.1]; rfl
            · rw [if_neg e]
              have y := M2 k (by omega)
              exact ⟨y.1, vR_e15 (fun i i1 i2 => by rw [q12.1.2.2.2.2 i (by omega), r102]) (V5 k (by omega)) y.2⟩
          · rw [e86]
            by_cases e : k = x50_1.toNatClampNeg
            · rw [e]; exact kx
            · rw [k97 k e]; exact M3 k (by omega)
    have hj125 : ∀ (l1 : Int32) (s1 : Int32) (s2 : Int32) (s3 : Int32) (τ : rS), ((l1 = x50_1 ∧ s1 = x50_1 ∧ ¬ σ.1 70 ≤ x50_1 ∧ frX [97] σ50 τ) ∧ L15 σ σ50 s x50_1.toNatClampNeg ∧ s2.toInt = ((2 * cA15 (σ50.2.2.2 86) x50_1.toNatClampNeg s : Nat) : Int) ∧ s3.toInt = (((if bR (σ50.2.2.2 86) x50_1.toNatClampNeg x50_1.toNatClampNeg = true then 0 else 1 : Nat)) : Int) ∧ ∀ k, k ≠ x50_1.toNatClampNeg → τ.2.2.1 97 k = σ50.2.2.1 97 k) → w_findOrder_125 C Q (fun l1' τ => ∃ k < n50, (fun n l1 τ => n = (σ.1 70 - l1).toNatClampNeg ∧ ((frM [] [90, 91, 95, 96, 97, 98, 102] σ τ ∧ 0 ≤ l1 ∧ l1 ≤ σ.1 70 ∧ (∀ k, k < s → τ.2.2.1 95 k ≠ 0 → cnE σ k) ∧ (∀ a b, a < s → b < s → (bR (τ.2.2.2 86) a b = true ↔ Tr (edN τ 1 95 0) a b)) ∧ (∀ k, k < l1.toNatClampNeg → vOK τ k) ∧ (∀ i, i < l1.toNatClampNeg → 0 ≤ τ.2.2.1 98 i ∧ τ.2.2.1 98 i < σ.1 70) ∧ nK σ τ) ∧ L15 σ τ s l1.toNatClampNeg)) k l1' τ) l1 s1 s2 s3 τ := by
      rintro y125_1 y125_s1 y125_s2 y125_s3 τ125 ⟨j125, hE⟩
      unfold w_findOrder_125
      obtain ⟨G, b0, b1, E5, B5, V5, O5, K5⟩ := i50
      obtain ⟨y1, y2, y3, Y⟩ := j125
      have u := uk b0 y3 hO.1.1.2
      rw [y1, y2]
      refine ⟨ib_1000.mpr ?_, ?_⟩
      · clear h; exact ⟨b0, u.2.2.2.2.2⟩  -- b13
      intro σ_14 hσ_14
      unfold w_findOrder_129
      refine ⟨fun n l1 l2 τ => n = (l2).toNatClampNeg ∧ ((l1 = x50_1 ∧ frX [97, 98] σ50 τ ∧ 0 ≤ l2 ∧ l2 ≤ x50_1 ∧ ∀ j, j ≤ x50_1.toNatClampNeg → j ≠ l2.toNatClampNeg → 0 ≤ τ.2.2.1 98 j ∧ τ.2.2.1 98 j < σ.1 70) ∧ L15 σ σ50 s x50_1.toNatClampNeg ∧ (τ.2.2.1 97 x50_1.toNatClampNeg).toInt = (an15 (σ50.2.2.2 86) s x50_1.toNatClampNeg : Int) ∧ (∀ k, k ≠ x50_1.toNatClampNeg → τ.2.2.1 97 k = σ50.2.2.1 97 k) ∧ (∀ j, j < l2.toNatClampNeg → τ.2.2.1 98 j = σ50.2.2.1 98 j) ∧ ∀ j, l2.toNatClampNeg ≤ j → j < x50_1.toNatClampNeg → τ.2.2.1 98 (j + 1) = σ50.2.2.1 98 j ∧ (an15 (σ50.2.2.2 86) s x50_1.toNatClampNeg : Int) < (σ50.2.2.1 97 (oN15 σ50 j)).toInt), ⟨_, rfl, ?_⟩, ?_⟩
      · refine and_5 ?_ (fun o9 => ?_)  -- j14
        · clear h; have r98 : σ_14.2.2.1 98 = σ50.2.2.1 98 := by rw [hσ_14, ri3 (by decide), Y.2.2.1 98 (by decide)]
          refine ⟨rfl, frX_tr (frX_w Y (sub_of rfl)) (by rw [hσ_14]; exact frX_1 (by decide)), b0, Int32.le_refl _, fun j j1 j2 => ?_⟩
          rw [r98]
          exact O5 j (by omega)
        · clear o9
          obtain ⟨M, A1, A2, A3⟩ := hE
          have r98 : σ_14.2.2.1 98 = σ50.2.2.1 98 := by rw [hσ_14, ri3 (by decide), Y.2.2.1 98 (by decide)]
          have r97 : ∀ i, σ_14.2.2.1 97 i = if i = x50_1.toNatClampNeg then y125_s2 + y125_s3 else τ125.2.2.1 97 i := fun i => by rw [hσ_14, ri34, if_pos rfl]
          have cl := cA_l15 (b := σ50.2.2.2 86) (k := x50_1.toNatClampNeg) (n := s)
          have s1000 : s ≤ 1000 := by rw [hs]; exact cn_le (y := 1000) rfl hO.1.1.2
          refine ⟨M, ?_, fun k hk => by rw [r97, if_neg hk]; exact A3 k hk, fun j _ => by rw [r98], fun j h1 h2 => by omega⟩
          rw [r97, if_pos rfl, w2_15 A1 A2 (by omega) (by split <;> omega)]
          rfl
      rintro n129 x129_1 x129_2 σ129 ⟨hn129, i129, hE⟩
      obtain ⟨z1, Z, c0, c1, P⟩ := i129
      rw [z1]
      refine ⟨fun c15 => ?_, fun c15 => ?_⟩
      · skip
        refine hj175 _ _ _ ?_
        · refine and_5 ?_ (fun o9 => ?_)  -- k15
          · clear h; exact ⟨rfl, y3, Z, c0, c1, P⟩
          · clear o9
            have e : x129_2 = 0 := Int32.le_antisymm c15 c0
            refine ⟨hE, Or.inl ?_⟩
            rw [e]; rfl
      · skip
        have w := i_dn c15 c1 u.2.2.2.2.2
        have wp := cn_pred w.1 w.2.2.2.2.2.2.2.2
        have wl := cn_l c1 c0
        have p := P (x129_2 - 1).toNatClampNeg (by omega) (by omega)
        refine ⟨ib_1000.mpr ?_, ?_⟩
        · clear h; exact ⟨w.2.1, w.2.2.1⟩  -- b16
        refine ⟨ib_1000.mpr ?_, ?_⟩
        · clear h; exact ⟨p.1, Int32.lt_of_lt_of_le p.2 hO.1.1.2⟩  -- b17
        refine ⟨ib_1000.mpr ?_, ?_⟩
        · clear h; exact ⟨b0, u.2.2.2.2.2⟩  -- b18
        refine ⟨fun c16 => ?_, fun c16 => ?_⟩
        · skip
          refine hj175 _ _ _ ?_
          · refine and_5 ?_ (fun o9 => ?_)  -- k19
            · clear h; exact ⟨rfl, y3, Z, c0, c1, P⟩
            · clear o9
              obtain ⟨M, A1, A2, A3, A4⟩ := hE
              have pe := A3 (x129_2 - 1).toNatClampNeg (by omega)
              rw [pe] at c16
              have q1 := M.2.2.2.2.1 (x129_2 - 1).toNatClampNeg (by omega)
              have q1 : (σ50.2.2.1 98 (x129_2 - 1).toNatClampNeg).toNatClampNeg < x50_1.toNatClampNeg := q1
              rw [A2 _ (by omega), lei, A1] at c16
              refine ⟨⟨M, A1, A2, A3, A4⟩, Or.inr ?_⟩
              rw [show x129_2.toNatClampNeg - 1 = (x129_2 - 1).toNatClampNeg by omega]
              exact c16
        · skip
          refine ⟨ib_1000.mpr ?_, ?_⟩
          · clear h; exact ⟨w.2.1, w.2.2.1⟩  -- b20
          refine ⟨ib_1000.mpr ?_, ?_⟩
          · clear h; exact ⟨c0, w.2.2.2.1⟩  -- b21
          intro σ_17 hσ_17
          intro x18 hx18
          refine lp_b5 (cn_lt2 hn129 ?_ ?_) (fun d9 => ⟨rfl, ?_⟩)
          · clear h; rw [hx18]; exact w.2.2.2.2.1  -- d22
          · clear h; rw [hx18]; exact w.2.2.2.2.2.1  -- d23
          · refine and_5 ?_ (fun o9 => ?_)  -- i24
            · clear h; rw [hx18]
              refine ⟨rfl, frX_tr Z (by rw [hσ_17]; exact frX_1 (by decide)), w.2.2.2.2.1, w.2.2.2.2.2.2.1, fun j j1 j2 => ?_⟩
              rw [hσ_17, ri34, if_pos rfl]
              split
              · exact p
              · rename_i e
                exact P j j1 e
            · clear o9
              obtain ⟨M, A1, A2, A3, A4⟩ := hE
              have pe := A3 (x129_2 - 1).toNatClampNeg (by omega)
              rw [pe] at c16
              have q1 := M.2.2.2.2.1 (x129_2 - 1).toNatClampNeg (by omega)
              have q1 : (σ50.2.2.1 98 (x129_2 - 1).toNatClampNeg).toNatClampNeg < x50_1.toNatClampNeg := q1
              rw [A2 _ (by omega), lei, A1] at c16
              have r97 : σ_17.2.2.1 97 = σ129.2.2.1 97 := by rw [hσ_17, ri3 (by decide)]
              have r98 : ∀ i, σ_17.2.2.1 98 i = if i = x129_2.toNatClampNeg then σ129.2.2.1 98 (x129_2 - 1).toNatClampNeg else σ129.2.2.1 98 i := fun i => by rw [hσ_17, ri34, if_pos rfl]
              rw [hx18, w.2.2.2.2.2.2.2.1]
              refine ⟨M, by rw [r97]; exact A1, fun k hk => by rw [r97]; exact A2 k hk, fun j hj => by rw [r98, if_neg (by omega)]; exact A3 j (by omega), fun j h1 h2 => ?_⟩
              by_cases e : j = (x129_2 - 1).toNatClampNeg
              · rw [r98, if_pos (by omega), e, pe]
                refine ⟨rfl, ?_⟩
                show _ < (σ50.2.2.1 97 (σ50.2.2.1 98 (x129_2 - 1).toNatClampNeg).toNatClampNeg).toInt
                omega
              · rw [r98, if_neg (by omega)]
                exact A4 j (by omega) h2
    obtain ⟨G, b0, b1, E5, B5, V5, O5, K5⟩ := i50
    have g70 := G.1 70 (by decide)
    rw [g70]
    refine ⟨fun c19 => ?_, fun c19 => ?_⟩
    · skip
      refine h _ ?_
      · refine and_5 ?_ (fun o9 => ?_)  -- q25
        · clear h; have e : x50_1 = σ.1 70 := Int32.le_antisymm b1 c19
          rw [e, ← hs] at V5 O5
          exact ⟨G, V5, O5, E5, B5, K5⟩
        · clear o9
          have e : x50_1 = σ.1 70 := Int32.le_antisymm b1 c19
          rw [e, ← hs] at hE
          exact hE
    · skip
      have u := uk b0 c19 hO.1.1.2
      refine ⟨ib_1000.mpr ?_, ?_⟩
      · clear h; exact ⟨b0, u.2.2.2.2.2⟩  -- b26
      intro σ_20 hσ_20
      unfold w_findOrder_67
      refine ⟨fun n l1 l2 τ => n = (σ.1 70 - l2).toNatClampNeg ∧ ((l1 = x50_1 ∧ frX [97] σ50 τ ∧ 0 ≤ l2 ∧ l2 ≤ σ.1 70) ∧ L15 σ σ50 s x50_1.toNatClampNeg ∧ (τ.2.2.1 97 x50_1.toNatClampNeg).toInt = ((2 * cA15 (σ50.2.2.2 86) x50_1.toNatClampNeg l2.toNatClampNeg : Nat) : Int) ∧ ∀ k, k ≠ x50_1.toNatClampNeg → τ.2.2.1 97 k = σ50.2.2.1 97 k), ⟨_, rfl, ?_⟩, ?_⟩
      · refine and_5 ?_ (fun o9 => ?_)  -- j27
        · clear h; exact ⟨rfl, by rw [hσ_20]; exact frX_1 (by decide), by decide, hO.1.1.1⟩
        · clear o9
          refine ⟨hE, ?_, fun k hk => by rw [hσ_20, ri34, if_pos rfl, if_neg hk]⟩
          rw [hσ_20, ri34, if_pos rfl, if_pos rfl]
          rfl
      rintro n67 x67_1 x67_2 σ67 ⟨hn67, i67, hE⟩
      have hj96 : ∀ (l1 : Int32) (l2 : Int32) (s1 : Int32) (s2 : Int32) (s3 : Int32) (τ : rS), ((l1 = x50_1 ∧ l2 = x67_2 ∧ s1 = x50_1 ∧ ¬ σ.1 70 ≤ x67_2 ∧ frX [97] σ50 τ) ∧ L15 σ σ50 s x50_1.toNatClampNeg ∧ s2.toInt = ((2 * cA15 (σ50.2.2.2 86) x50_1.toNatClampNeg x67_2.toNatClampNeg : Nat) : Int) ∧ s3.toInt = (((if bR (σ50.2.2.2 86) x67_2.toNatClampNeg x50_1.toNatClampNeg = true then 2 else 0 : Nat)) : Int) ∧ ∀ k, k ≠ x50_1.toNatClampNeg → τ.2.2.1 97 k = σ50.2.2.1 97 k) → w_findOrder_96 C Q (fun l1' τ => ∃ k < n50, (fun n l1 τ => n = (σ.1 70 - l1).toNatClampNeg ∧ ((frM [] [90, 91, 95, 96, 97, 98, 102] σ τ ∧ 0 ≤ l1 ∧ l1 ≤ σ.1 70 ∧ (∀ k, k < s → τ.2.2.1 95 k ≠ 0 → cnE σ k) ∧ (∀ a b, a < s → b < s → (bR (τ.2.2.2 86) a b = true ↔ Tr (edN τ 1 95 0) a b)) ∧ (∀ k, k < l1.toNatClampNeg → vOK τ k) ∧ (∀ i, i < l1.toNatClampNeg → 0 ≤ τ.2.2.1 98 i ∧ τ.2.2.1 98 i < σ.1 70) ∧ nK σ τ) ∧ L15 σ τ s l1.toNatClampNeg)) k l1' τ) (fun l1' l2' τ => ∃ k < n67, (fun n l1 l2 τ => n = (σ.1 70 - l2).toNatClampNeg ∧ ((l1 = x50_1 ∧ frX [97] σ50 τ ∧ 0 ≤ l2 ∧ l2 ≤ σ.1 70) ∧ L15 σ σ50 s x50_1.toNatClampNeg ∧ (τ.2.2.1 97 x50_1.toNatClampNeg).toInt = ((2 * cA15 (σ50.2.2.2 86) x50_1.toNatClampNeg l2.toNatClampNeg : Nat) : Int) ∧ ∀ k, k ≠ x50_1.toNatClampNeg → τ.2.2.1 97 k = σ50.2.2.1 97 k)) k l1' l2' τ) l1 l2 s1 s2 s3 τ := by
        rintro y96_1 y96_2 y96_s1 y96_s2 y96_s3 τ96 ⟨j96, hE⟩
        unfold w_findOrder_96
        obtain ⟨z1, Z, w0, w1⟩ := i67
        obtain ⟨y1, y2, y3, y4, Y⟩ := j96
        have w := uk w0 y4 hO.1.1.2
        refine ⟨ib_1000.mpr ?_, ?_⟩
        · clear h; rw [y3]; exact ⟨b0, u.2.2.2.2.2⟩  -- b28
        intro σ_21 hσ_21
        intro x22 hx22
        refine lp_b5 (cn_lt2 hn67 ?_ ?_) (fun d9 => ⟨rfl, ?_⟩)
        · clear h; rw [hx22, y2]; exact w.1  -- d29
        · clear h; rw [hx22, y2]; exact w.2.1  -- d30
        · refine and_5 ?_ (fun o9 => ?_)  -- i31
          · clear h; rw [hx22, y2, hσ_21]
            exact ⟨y1, frX_tr Y (frX_1 (by decide)), w.2.2.1, w.2.2.2.1⟩
          · clear o9
            obtain ⟨M, A1, A2, A3⟩ := hE
            have cl := cA_l15 (b := σ50.2.2.2 86) (k := x50_1.toNatClampNeg) (n := x67_2.toNatClampNeg)
            have x1000 : x67_2.toNatClampNeg ≤ 1000 := cn_le (y := 1000) rfl (Int32.le_trans w1 hO.1.1.2)
            have ws := cn_succ w0 (Int32.lt_trans w.2.2.2.2.2 (by decide))
            rw [hx22, y2, ws]
            refine ⟨M, ?_, fun k hk => by rw [hσ_21, ri34, if_pos rfl, y3, if_neg hk]; exact A3 k hk⟩
            rw [hσ_21, ri34, if_pos rfl, y3, if_pos rfl, w2_15 A1 A2 (by omega) (by split <;> omega)]
            show _ = ((2 * (cA15 (σ50.2.2.2 86) x50_1.toNatClampNeg x67_2.toNatClampNeg + (if bR (σ50.2.2.2 86) x67_2.toNatClampNeg x50_1.toNatClampNeg = true then 1 else 0)) : Nat) : Int)
            split <;> omega
      obtain ⟨z1, Z, w0, w1⟩ := i67
      have z70 : σ67.1 70 = σ.1 70 := by rw [Z.1, g70]
      rw [z70, z1]
      refine ⟨fun c23 => ?_, fun c23 => ?_⟩
      · skip
        refine ⟨ib_1000.mpr ?_, ?_⟩
        · clear h; exact ⟨b0, u.2.2.2.2.2⟩  -- b32
        refine leads_c hC  ?_ (fun r24 q26 => ?_)
        · clear h; exact ⟨b0, u.2.2.2.2.2, b0, u.2.2.2.2.2⟩  -- p33
        refine ⟨fun c27 => ?_, fun c27 => ?_⟩
        · skip
          refine hj125 _ _ _ _ _ ?_
          · refine and_5 ?_ (fun o9 => ?_)  -- k34
            · clear h; exact ⟨rfl, rfl, c19, Z⟩
            · clear o9
              have e : x67_2 = σ.1 70 := Int32.le_antisymm w1 c23
              obtain ⟨M, A1, A2⟩ := hE
              rw [e, ← hs] at A1
              have qb := q26.2
              rw [Z.2.2.2] at qb
              refine ⟨M, A1, ?_, A2⟩
              rw [if_neg (fun y => qb.mpr y c27)]
              rfl
        · skip
          refine hj125 _ _ _ _ _ ?_
          · refine and_5 ?_ (fun o9 => ?_)  -- k35
            · clear h; exact ⟨rfl, rfl, c19, Z⟩
            · clear o9
              have e : x67_2 = σ.1 70 := Int32.le_antisymm w1 c23
              obtain ⟨M, A1, A2⟩ := hE
              rw [e, ← hs] at A1
              have qb := q26.2
              rw [Z.2.2.2] at qb
              refine ⟨M, A1, ?_, A2⟩
              rw [if_pos (qb.mp c27)]
              rfl
      · skip
        refine ⟨ib_1000.mpr ?_, ?_⟩
        · clear h; exact ⟨b0, u.2.2.2.2.2⟩  -- b36
        refine leads_c hC  ?_ (fun r28 q30 => ?_)
        · clear h; have w := uk w0 c23 hO.1.1.2
          exact ⟨w0, w.2.2.2.2.2, b0, u.2.2.2.2.2⟩
        refine ⟨fun c31 => ?_, fun c31 => ?_⟩
        · skip
          refine hj96 _ _ _ _ _ _ ?_
          · refine and_5 ?_ (fun o9 => ?_)  -- k38
            · clear h; exact ⟨rfl, rfl, rfl, c23, Z⟩
            · clear o9
              obtain ⟨M, A1, A2⟩ := hE
              have qb := q30.2
              rw [Z.2.2.2] at qb
              refine ⟨M, A1, ?_, A2⟩
              rw [if_neg (fun y => qb.mpr y c31)]
              rfl
        · skip
          refine hj96 _ _ _ _ _ _ ?_
          · refine and_5 ?_ (fun o9 => ?_)  -- k39
            · clear h; exact ⟨rfl, rfl, rfl, c23, Z⟩
            · clear o9
              obtain ⟨M, A1, A2⟩ := hE
              have qb := q30.2
              rw [Z.2.2.2] at qb
              refine ⟨M, A1, ?_, A2⟩
              rw [if_pos (qb.mp c31)]
              rfl
  · skip
    have u := uk a0 c3 hO.1.1.2
    have as := cn_succ a0 (Int32.lt_trans u.2.2.2.2.2 (by decide))
    refine canEnd_c hC  ?_ (fun r32 q34 => ?_)
    · clear h; exact ⟨hO12.1, a0, by rw [e70]; exact u.2.2.2.2.1⟩  -- p40
    rw [e70, ← hs] at q34
    have qe := q34.2
    rw [endN_q (σ := σ) (fun k hk => F.2.2.1 k (fun z => by have := List.mem_singleton.mp z; omega))] at qe
    refine ⟨ib_1000.mpr ?_, ?_⟩
    · clear h; exact ⟨a0, u.2.2.2.2.2⟩  -- b41
    intro σ_35 hσ_35
    intro x36 hx36
    refine lp_b5 (cn_lt2 hn12 ?_ ?_) (fun d9 => ⟨rfl, ?_⟩)
    · clear h; rw [hx36]; exact u.1  -- d42
    · clear h; rw [hx36]; exact u.2.1  -- d43
    · refine and_5 ?_ (fun o9 => ?_)  -- i44
      · clear h; rw [hx36, as, hσ_35]
        refine ⟨frM_tr F (frM_1 (by decide)), B, u.2.2.1, u.2.2.2.1, fun k hk z => ?_⟩
        by_cases e : k = x12_1.toNatClampNeg
        · rw [ri34, if_pos rfl, if_pos e] at z
          have ks : x12_1.toNatClampNeg < s := by rw [hs]; exact cn_lt a0 u.2.2.2.2.1
          rw [e]
          rcases qe.mp (nar_0 z) with y | ⟨m, hm, y1, y2⟩
          · exact Or.inl y
          · exact Or.inr ⟨m, by rw [← hs]; exact hm, (B _ m ks hm).mp y1, y2⟩
        · rw [ri34, if_pos rfl, if_neg e] at z
          exact E k (by omega) z
      · clear o9
        rw [hx36, as, hσ_35]
        intro k hk
        by_cases e : k = x12_1.toNatClampNeg
        · rw [ri34, if_pos rfl, if_pos e]
          have ks : x12_1.toNatClampNeg < s := by rw [hs]; exact cn_lt a0 u.2.2.2.2.1
          have nz : vp_nar .boolean r32 ≠ 0 ↔ r32 ≠ 0 := by
            rcases q34.1 with z | z <;> rw [z] <;> decide
          rw [e, nz, qe]
          unfold cnE
          refine or_congr Iff.rfl ⟨fun ⟨m, hm, y1, y2⟩ => ⟨m, by rw [← hs]; exact hm, (B _ m ks hm).mp y1, y2⟩, fun ⟨m, hm, y1, y2⟩ => ?_⟩
          rw [← hs] at hm
          exact ⟨m, hm, (B _ m ks hm).mpr y1, y2⟩
        · rw [ri34, if_pos rfl, if_neg e]
          exact hE k (by omega)

end
section
set_option maxHeartbeats 1600000
/-! the reference: the order of solving; a state or a ring more -/
def rr15 (σ τ : rS) : Prop := ∀ g, g = 76 ∨ g = 77 ∨ g = 78 ∨ g = 79 ∨ g = 80 ∨ g = 81 ∨ g = 83 → τ.2.2.1 g = σ.2.2.1 g
theorem pR_o15 {σ τ : rS} {s k j : Nat} (h : rr15 σ τ) (hk : k ≤ 67108864) (hj : j < s) : pR15 τ s k j = pR15 σ s k j := by
  rw [pR_v15 hk hj, pR_v15 hk hj]
  have e1 : wKI τ k (Int32.ofNat j) = wKI σ k (Int32.ofNat j) := by
    unfold wKI wpI wcI twI leN loN
    rw [h 76 (by decide), h 77 (by decide), h 78 (by decide), h 79 (by decide), h 81 (by decide), h 83 (by decide)]
  have e2 : tTI τ k = tTI σ k := by
    unfold tTI
    rw [h 80 (by decide), h 81 (by decide)]
  rw [e1, e2]
section
variable {σ : rS} {s : Nat}
theorem pg_15 (h : pOK σ) (hs : s = (σ.1 70).toNatClampNeg) {k j : Nat} (hk : k < s) (hj : j < s) (e : edN σ 1 95 1 k j) : 0 < pR15 σ s k j := by
  have s1 : s ≤ 1000 := by rw [hs]; exact cn_le (y := 1000) rfl h.1.1.2
  have hp := ix_p15 h
  have hM := ix_m15 h hs
  obtain ⟨i, i0, i1, e1, e2, e3, _⟩ := e
  have kM := hM.1 k hk
  have mk : mN (ix15 σ) k = k := ix_n15 (by omega)
  have st := ex_st h.1 kM.1 kM.2
  have mk' : ((ix15 σ).2.2.1 99 k).toNatClampNeg = k := mk
  rw [mk'] at st
  have i00 := Int32.le_trans st.1.1 i0
  have nx := h.1.2.2.2.2 i.toNatClampNeg (cn_lt i00 (Int32.lt_of_lt_of_le i1 st.2.2.1))
  have n0 := nx.2.1 e1
  have en : σ.2.2.1 78 i.toNatClampNeg = Int32.ofNat j := by
    have q := e2
    rw [rd] at q
    have c := cn_int n0.1
    refine Int32.toInt_inj.mp ?_
    rw [ofn_i (by omega)]
    omega
  exact rP_in hp hM hk hj (by rw [mk]; exact i0) (by rw [mk]; exact i1) (by rw [mk]; exact e3.resolve_left (by decide)) e1 en
theorem ed_b15 (h : pOK σ) (hs : s = (σ.1 70).toNatClampNeg) {k j : Nat} (hk : k < s) (e : edN σ 1 95 1 k j) : j < s := by
  have s1 : s ≤ 1000 := by rw [hs]; exact cn_le (y := 1000) rfl h.1.1.2
  obtain ⟨i, i0, i1, e1, e2, _⟩ := e
  have kM := (ix_m15 h hs).1 k hk
  have st := ex_st h.1 kM.1 kM.2
  have mk' : ((ix15 σ).2.2.1 99 k).toNatClampNeg = k := ix_n15 (by omega)
  rw [mk'] at st
  have i00 := Int32.le_trans st.1.1 i0
  have nx := h.1.2.2.2.2 i.toNatClampNeg (cn_lt i00 (Int32.lt_of_lt_of_le i1 st.2.2.1))
  have n0 := nx.2.1 e1
  rw [hs, ← e2, rd]
  exact cn_lt n0.1 n0.2
theorem ce_15 (hs : s = (σ.1 70).toNatClampNeg) {k j : Nat} (hj : j < s) (e : Tr (edN σ 1 95 1) k j) (c : cnE σ j) : cnE σ k := by
  unfold cnE at c ⊢
  rw [← hs] at c ⊢
  rcases c with z | ⟨t, t1, t2, t3⟩
  · exact Or.inr ⟨j, hj, e, z⟩
  · exact Or.inr ⟨t, t1, Tr_tr e t2, t3⟩
/-- ways among open states -/
theorem e0_15 {τ : rS} (h : pOK σ) (hs : s = (σ.1 70).toNatClampNeg) (r : rr15 σ τ) (h95 : ∀ k, k < s → (τ.2.2.1 95 k ≠ 0 ↔ cnE σ k)) {a b : Nat} (ha : a < s) (hb : b < s) : Tr (edN τ 1 95 0) a b ↔ Tr (edN σ 1 95 1) a b ∧ cnE σ b := by
  have e : ∀ x y, x < s → y < s → (edN τ 1 95 0 x y ↔ edN σ 1 95 1 x y ∧ cnE σ x ∧ cnE σ y) := fun x y hx hy => by
    unfold edN edI edg
    simp only [rd]
    rw [r 76 (by decide), r 77 (by decide), r 78 (by decide), r 81 (by decide), r 83 (by decide)]
    constructor
    · rintro ⟨i, i0, i1, e1, e2, e3, e4⟩
      have o := e4.resolve_left (by decide)
      exact ⟨⟨i, i0, i1, e1, e2, e3, Or.inl (by decide)⟩, (h95 x hx).mp o.1, (h95 y hy).mp o.2⟩
    · rintro ⟨⟨i, i0, i1, e1, e2, e3, _⟩, o1, o2⟩
      exact ⟨i, i0, i1, e1, e2, e3, Or.inr ⟨(h95 x hx).mpr o1, (h95 y hy).mpr o2⟩⟩
  have eb : ∀ x y, x < s → edN τ 1 95 0 x y → edN σ 1 95 1 x y := fun x y hx z => by
    unfold edN edI edg at z ⊢
    simp only [rd] at z ⊢
    rw [r 76 (by decide), r 77 (by decide), r 78 (by decide), r 81 (by decide), r 83 (by decide)] at z
    obtain ⟨i, i0, i1, e1, e2, e3, e4⟩ := z
    exact ⟨i, i0, i1, e1, e2, e3, Or.inl (by decide)⟩
  have f1 : ∀ l x, x < s → pth (edN τ 1 95 0) l x b → pth (edN σ 1 95 1) l x b ∧ cnE σ b := fun l => by
    induction l with
    | zero =>
      intro x hx p
      have z := (e x b hx hb).mp p
      exact ⟨z.1, z.2.2⟩
    | succ l ih =>
      intro x hx p
      obtain ⟨c, c1, c2⟩ := p
      have g := eb x c hx c1
      have hc := ed_b15 h hs hx g
      obtain ⟨i1, i2⟩ := ih c hc c2
      exact ⟨⟨c, g, i1⟩, i2⟩
  have f2 : ∀ l x, x < s → pth (edN σ 1 95 1) l x b → cnE σ b → pth (edN τ 1 95 0) l x b := fun l => by
    induction l with
    | zero =>
      intro x hx p c
      exact (e x b hx hb).mpr ⟨p, ce_15 hs hb (Tr_1 p) c, c⟩
    | succ l ih =>
      intro x hx p cb
      obtain ⟨c, c1, c2⟩ := p
      have hc := ed_b15 h hs hx c1
      have oc := ce_15 hs hb ⟨l, c2⟩ cb
      exact ⟨c, (e x c hx hc).mpr ⟨c1, ce_15 hs hc (Tr_1 c1) oc, oc⟩, ih c hc c2 cb⟩
  exact ⟨fun ⟨l, p⟩ => ⟨⟨l, (f1 l a ha p).1⟩, (f1 l a ha p).2⟩, fun ⟨⟨l, p⟩, c⟩ => ⟨l, f2 l a ha p c⟩⟩
end
theorem cA_m15 {b : Nat → Int64} {p k : Nat} : ∀ {n : Nat}, (∀ m, m < n → bR b m p = true → bR b m k = true) → cA15 b p n ≤ cA15 b k n ∧ ((∃ m, m < n ∧ bR b m k = true ∧ ¬ bR b m p = true) → cA15 b p n < cA15 b k n)
  | 0, _ => ⟨Nat.le_refl 0, fun ⟨m, hm, _⟩ => absurd hm (Nat.not_lt_zero m)⟩
  | n + 1, h => by
    have ih := cA_m15 (b := b) (p := p) (k := k) (n := n) (fun m hm => h m (by omega))
    have hn := h n (by omega)
    show cA15 b p n + (if bR b n p = true then 1 else 0) ≤ cA15 b k n + (if bR b n k = true then 1 else 0) ∧ (_ → cA15 b p n + (if bR b n p = true then 1 else 0) < cA15 b k n + (if bR b n k = true then 1 else 0))
    by_cases c : bR b n p = true
    · rw [if_pos c, if_pos (hn c)]
      refine ⟨by omega, fun ⟨m, m1, m2, m3⟩ => ?_⟩
      have l := ih.2 ⟨m, by
        by_cases e : m = n
        · rw [e] at m3; exact absurd c m3
        · omega, m2, m3⟩
      omega
    · rw [if_neg c]
      by_cases d : bR b n k = true
      · rw [if_pos d]
        exact ⟨by omega, fun _ => by omega⟩
      · rw [if_neg d]
        refine ⟨by omega, fun ⟨m, m1, m2, m3⟩ => ?_⟩
        have l := ih.2 ⟨m, by
          by_cases e : m = n
          · rw [e] at m2; exact absurd m2 d
          · omega, m2, m3⟩
        omega
/-- what leads to a state, and isn't led to, has fewer before it -/
theorem an_l15 {τ : rS} {s p k : Nat} (rb : rbJ τ s) (hp : p < s) (hk : k < s) (e : bR (τ.2.2.2 86) p k = true) (ne : ¬ bR (τ.2.2.2 86) k p = true) : an15 (τ.2.2.2 86) s p < an15 (τ.2.2.2 86) s k := by
  have m := cA_m15 (b := τ.2.2.2 86) (p := p) (k := k) (n := s) (fun m hm z => rb_tr rb hm hp hk z e)
  unfold an15
  by_cases c : bR (τ.2.2.2 86) p p = true
  · rw [if_pos c]
    by_cases d : bR (τ.2.2.2 86) k k = true
    · rw [if_pos d]
      have l := m.2 ⟨k, hk, d, ne⟩
      omega
    · rw [if_neg d]
      omega
  · have l := m.2 ⟨p, hp, e, c⟩
    rw [if_neg c]
    omega
/-- the order, and what is open -/
def oK15 (σ τ : rS) (s : Nat) : Prop := (∀ k, k < s → (τ.2.2.1 95 k ≠ 0 ↔ cnE σ k)) ∧ (∀ k, k < s → (τ.2.2.1 97 k).toInt = (an15 (τ.2.2.2 86) s k : Int)) ∧ (∀ i j, i < j → j < s → (τ.2.2.1 97 (oN15 τ i)).toInt ≤ (τ.2.2.1 97 (oN15 τ j)).toInt) ∧ (∀ i, i < s → oN15 τ i < s) ∧ (∀ k, k < s → ∃ i, i < s ∧ oN15 τ i = k) ∧ (rbJ τ s ∧ rr15 σ τ ∧ ¬ bg15 σ)
def nf15 (σ : rS) (s : Nat) : Prop := ∃ (V : Nat → Rat) (S : Nat → Prop), vE15 (pR15 σ s) s S V ∧ ∃ j, j < s ∧ S j ∧ cnE σ j ∧ ¬ ftW8 (V j)
def vf15 (σ τ : rS) (s : Nat) (S : Nat → Prop) : Prop := ∃ V : Nat → Rat, (∀ k, k < s → vR15 τ k (V k)) ∧ vE15 (pR15 σ s) s S V ∧ ∀ k, k < s → ftW8 (V k)
def dn15 (σ τ : rS) (s n : Nat) : Prop := (∀ k, k < s → τ.2.2.1 96 k ≠ 0 → cnE σ k) ∧ (∀ i, i < n → i < s → cnE σ (oN15 τ i) → τ.2.2.1 96 (oN15 τ i) ≠ 0) ∧ vf15 σ τ s (fun k => τ.2.2.1 96 k ≠ 0)
def sX15 (σ τ : rS) (s : Nat) (v : Int32) : Prop := (v = 0 ∧ ¬ bg15 σ ∧ vf15 σ τ s (cnE σ)) ∨ (v = -3 ∧ ¬ bg15 σ ∧ nf15 σ s) ∨ (v = -2 ∧ bg15 σ)
theorem bt_15 {σ τ : rS} {s a b : Nat} (h : pOK σ) (hs : s = (σ.1 70).toNatClampNeg) (O : oK15 σ τ s) (ha : a < s) (hb : b < s) : bR (τ.2.2.2 86) a b = true ↔ Tr (edN σ 1 95 1) a b ∧ cnE σ b := by
  rw [O.2.2.2.2.2.1 a b ha hb]
  exact e0_15 h hs O.2.2.2.2.2.2.1 O.1 ha hb
/-- what comes before an open state whose turn it is -/
theorem pd_15 {σ τ : rS} {s n k p : Nat} (h : pOK σ) (hs : s = (σ.1 70).toNatClampNeg) (O : oK15 σ τ s) (D : dn15 σ τ s n) (hn : n < s) (ek : oN15 τ n = k) (ck : cnE σ k) (hp : p < s) (e : Tr (edN σ 1 95 1) p k) (ne : ¬ Tr (edN σ 1 95 1) k p) : τ.2.2.1 96 p ≠ 0 := by
  have hk : k < s := by rw [← ek]; exact O.2.2.2.1 n hn
  have cp := ce_15 hs hk e ck
  have l := an_l15 O.2.2.2.2.2.1 hp hk ((bt_15 h hs O hp hk).mpr ⟨e, ck⟩) (fun z => ne ((bt_15 h hs O hk hp).mp z).1)
  obtain ⟨i, i1, i2⟩ := O.2.2.2.2.1 p hp
  have il : i < n := by
    refine Decidable.byContradiction (fun z => ?_)
    by_cases c : i = n
    · rw [c, ek] at i2
      rw [i2] at l
      exact absurd l (Nat.lt_irrefl _)
    · have q := O.2.2.1 n i (by omega) i1
      rw [ek, i2, O.2.1 k hk, O.2.1 p hp] at q
      omega
  rw [← i2]
  exact D.2.1 i il i1 (by rw [i2]; exact cp)
theorem vE_m15 {P : Nat → Nat → Rat} {n : Nat} {S M : Nat → Prop} {V V' : Nat → Rat} (p0 : ∀ k j, k < n → j < n → 0 ≤ P k j) (E : vE15 P n S V) (dj : ∀ k, k < n → M k → ¬ S k) (cl : ∀ k j, k < n → j < n → M j → 0 < P k j → S k ∨ M k) (h1 : ∀ k, k < n → ¬ M k → V' k = V k) (h2 : ∀ j, j < n → M j → V' j = (if j = 0 then 1 else 0) + smQ (fun k => V' k * P k j) n) : vE15 P n (fun k => S k ∨ M k) V' := vE_s15 E dj h1 h2 (fun k j hk hj sj p => sj.elim (fun z => Or.inl (E.2.2 k j hk hj z p)) (fun z => cl k j hk hj z p)) (fun k j hk hj m sj => by
  refine Decidable.byContradiction (fun ne => ?_)
  have q := p0 k j hk hj
  exact dj k hk m (E.2.2 k j hk hj sj (by grind)))
/-- states done stay closed along ways -/
theorem pc_15 {σ : rS} {s : Nat} {S : Nat → Prop} {V : Nat → Rat} (h : pOK σ) (hs : s = (σ.1 70).toNatClampNeg) (E : vE15 (pR15 σ s) s S V) {x y : Nat} (hx : x < s) (e : Tr (edN σ 1 95 1) x y) (sy : S y) : S x := by
  obtain ⟨l, p⟩ := e
  have f : ∀ l x, x < s → pth (edN σ 1 95 1) l x y → S x := fun l => by
    induction l with
    | zero =>
      intro x hx p
      have hy := ed_b15 h hs hx p
      exact E.2.2 x y hx hy sy (pg_15 h hs hx hy p)
    | succ l ih =>
      intro x hx p
      obtain ⟨c, c1, c2⟩ := p
      have hc := ed_b15 h hs hx c1
      exact E.2.2 x c hx hc (ih c hc c2) (pg_15 h hs hx hc c1)
  exact f l x hx p
/-- what flows in, by the states -/
theorem iF_m15 {σ τ : rS} {s j : Nat} {t : Int32} {V : Nat → Rat} (r : rr15 σ τ) (hn : s ≤ 1000) (ht : t = Int32.ofNat j) (hj : j < s) (hv : ∀ k, k < s → vR15 τ k (V k)) (z : ∀ k, k < s → τ.2.2.1 96 k = 0 → V k = 0) : iF15 τ s t = (if j = 0 then 1 else 0) + smQ (fun k => V k * pR15 σ s k j) s := by
  unfold iF15
  rw [Rat.add_comm]
  congr 1
  · rw [ht]
    by_cases c : j = 0
    · rw [if_pos c, if_pos (by rw [c]; rfl)]
    · rw [if_neg c, if_neg (fun y => c (by
        have q := congrArg Int32.toInt y
        rw [ofn_i (by omega), t0i] at q
        omega))]
  · refine smQ_c (fun k hk => ?_)
    unfold fl15 fp15
    rw [← pR_o15 r (by omega) hj, pR_v15 (by omega) hj]
    by_cases c : τ.2.2.1 96 k = 0
    · rw [if_pos c, z k hk c, Rat.zero_mul]
    · rw [if_neg c, vR_q15 (hv k hk), ht]
      rfl
theorem ss_15 {V : Nat → Rat} {P : Nat → Nat → Rat} {n k : Nat} {x : Rat} (z : P k k = 0 ∨ V k = x) : smQ (fun i => (if i = k then x else V i) * P i k) n = smQ (fun i => V i * P i k) n := smQ_c (fun i _ => by
  by_cases c : i = k
  · rw [if_pos c, c]
    rcases z with q | q
    · rw [q, Rat.mul_zero, Rat.mul_zero]
    · rw [q]
  · rw [if_neg c])
/-- a single state more -/
theorem d1_15 {σ τ : rS} {s n k : Nat} {x : Rat} {V : Nat → Rat} (h : pOK σ) (hs : s = (σ.1 70).toNatClampNeg) (O : oK15 σ τ s) (D : dn15 σ τ s n) (hn : n < s) (ek : oN15 τ n = k) (ck : cnE σ k) (nd : τ.2.2.1 96 k = 0) (nr : ¬ bR (τ.2.2.2 86) k k = true) (hv : ∀ j, j < s → vR15 τ j (V j)) (hE : vE15 (pR15 σ s) s (fun k => τ.2.2.1 96 k ≠ 0) V) (hf : ∀ j, j < s → ftW8 (V j)) (ex : x = (if k = 0 then 1 else 0) + smQ (fun j => V j * pR15 σ s j k) s) : vE15 (pR15 σ s) s (fun j => τ.2.2.1 96 j ≠ 0 ∨ j = k) (fun j => if j = k then x else V j) := by
  have hk : k < s := by rw [← ek]; exact O.2.2.2.1 n hn
  have G := gP_15 h hs
  have nt : ¬ Tr (edN σ 1 95 1) k k := fun z => nr ((bt_15 h hs O hk hk).mpr ⟨z, ck⟩)
  refine vE_m15 G.1 hE (fun j hj e z => z (by rw [e]; exact nd)) (fun p j hp hj e q => ?_) (fun j _ ne => if_neg ne) (fun j _ e => ?_)
  · rw [e] at q
    have g := pe_15 h hs hp hk q
    by_cases c : p = k
    · exact Or.inr c
    · exact Or.inl (pd_15 h hs O D hn ek ck hp (Tr_1 g) (fun z => nt (Tr_tr z (Tr_1 g))))
  · rw [e, if_pos rfl, ss_15 (Or.inl (by
      refine Decidable.byContradiction (fun ne => ?_)
      have q := G.1 k k hk hk
      exact nt (Tr_1 (pe_15 h hs hk hk (by grind)))))]
    exact ex
/-- a ring more -/
theorem dr_15 {σ τ : rS} {s n k m : Nat} {g : Nat → Nat} {X V V' : Nat → Rat} (h : pOK σ) (hs : s = (σ.1 70).toNatClampNeg) (O : oK15 σ τ s) (D : dn15 σ τ s n) (hn : n < s) (ek : oN15 τ n = k) (ck : cnE σ k) (nd : τ.2.2.1 96 k = 0) (hE : vE15 (pR15 σ s) s (fun k => τ.2.2.1 96 k ≠ 0) V) (g1 : ∀ b, b < m → g b < s ∧ (g b = k ∨ rng (τ.2.2.2 86) k (g b))) (g2 : ∀ a b, a < m → b < m → g a = g b → a = b) (g3 : ∀ j, j < s → (j = k ∨ rng (τ.2.2.2 86) k j) → ∃ b, b < m ∧ g b = j) (hX : ∀ b, b < m → X b = (if g b = 0 then 1 else 0) + smQ (fun j => V j * pR15 σ s j (g b)) s + smQ (fun r => X r * pR15 σ s (g r) (g b)) m) (h1 : ∀ j, j < s → (¬ ∃ b, b < m ∧ g b = j) → V' j = V j) (h2 : ∀ b, b < m → V' (g b) = X b) : vE15 (pR15 σ s) s (fun j => τ.2.2.1 96 j ≠ 0 ∨ ∃ b, b < m ∧ g b = j) V' := by
  have hk : k < s := by rw [← ek]; exact O.2.2.2.1 n hn
  have G := gP_15 h hs
  have B := fun a b ha hb => bt_15 h hs O (a := a) (b := b) ha hb
  have mk : ∀ b, b < m → g b = k ∨ (Tr (edN σ 1 95 1) k (g b) ∧ Tr (edN σ 1 95 1) (g b) k) := fun b hb => by
    rcases (g1 b hb).2 with z | z
    · exact Or.inl z
    · exact Or.inr ⟨((B k (g b) hk (g1 b hb).1).mp z.1).1, ((B (g b) k (g1 b hb).1 hk).mp z.2).1⟩
  have dj : ∀ j, j < s → (∃ b, b < m ∧ g b = j) → ¬ τ.2.2.1 96 j ≠ 0 := fun j hj ⟨b, b1, b2⟩ z => by
    rw [← b2] at z
    rcases mk b b1 with y | y
    · rw [y] at z; exact z nd
    · exact pc_15 h hs hE hk y.1 z nd
  have cl : ∀ p j, p < s → j < s → (∃ b, b < m ∧ g b = j) → 0 < pR15 σ s p j → τ.2.2.1 96 p ≠ 0 ∨ ∃ b, b < m ∧ g b = p := fun p j hp hj ⟨b, b1, b2⟩ q => by
    have e := pe_15 h hs hp hj q
    rw [← b2] at e
    have pk : Tr (edN σ 1 95 1) p k := by
      rcases mk b b1 with y | y
      · rw [y] at e; exact Tr_1 e
      · exact Tr_tr (Tr_1 e) y.2
    by_cases c : Tr (edN σ 1 95 1) k p
    · right
      have cp := ce_15 hs hk pk ck
      exact g3 p hp (Or.inr ⟨(B k p hk hp).mpr ⟨c, cp⟩, (B p k hp hk).mpr ⟨pk, ck⟩⟩)
    · exact Or.inl (pd_15 h hs O D hn ek ck hp pk c)
  refine vE_m15 G.1 hE dj cl (fun j hj ne => h1 j hj ne) (fun j hj ⟨b, b1, b2⟩ => ?_)
  have z : ∀ i, i < s → (∃ b, b < m ∧ g b = i) → V i = 0 := fun i hi mi => hE.1 i hi (dj i hi mi)
  have exd : ∀ i, ∃ q : Rat, ((∃ b, b < m ∧ g b = i) → q = V' i * pR15 σ s i j) ∧ ((¬ ∃ b, b < m ∧ g b = i) → q = 0) := fun i => by
    by_cases c : ∃ b, b < m ∧ g b = i
    · exact ⟨_, fun _ => rfl, fun y => absurd c y⟩
    · exact ⟨0, fun y => absurd y c, fun _ => rfl⟩
  obtain ⟨d, hd⟩ := Classical.axiomOfChoice exd
  have s1 : smQ (fun i => V' i * pR15 σ s i j) s = smQ (fun i => V i * pR15 σ s i j + d i) s := smQ_c (fun i hi => by
    by_cases c : ∃ b, b < m ∧ g b = i
    · rw [(hd i).1 c, z i hi c, Rat.zero_mul, Rat.zero_add]
    · rw [(hd i).2 c, Rat.add_zero, h1 i hi c])
  have s2 := rx_15 (f := fun i => V' i * pR15 σ s i j) (g := g) (s := s) (d := d) (fun r hr => (g1 r hr).1) g2 (fun i _ c => (hd i).1 c) (fun i _ c => (hd i).2 c)
  have s3 : smQ (fun r => X r * pR15 σ s (g r) (g b)) m = smQ (fun r => V' (g r) * pR15 σ s (g r) j) m := smQ_c (fun r hr => by rw [h2 r hr, b2])
  have e := hX b b1
  rw [s3, s2, b2] at e
  rw [s1, smQ_add, ← Rat.add_assoc, ← e, ← b2]
  exact h2 b b1
theorem f2_t15 {q : Rat} : f2W8 q ↔ ftW8 q := by
  have e : (2 : Nat) ^ 256 = 65536 ^ 16 := by decide +kernel
  unfold f2W8 ftW8
  rw [e]
theorem bc_15 {σ τ : rS} {s k : Nat} (h : pOK σ) (hs : s = (σ.1 70).toNatClampNeg) (r : rr15 σ τ) (h95 : ∀ k, k < s → (τ.2.2.1 95 k ≠ 0 ↔ cnE σ k)) (rb : rbJ τ s) (hk : k < s) (ck : cnE σ k) : cntR (τ.2.2.2 86) k s = ct8 (fun m => Tr (edN σ 1 95 1) k m ∧ Tr (edN σ 1 95 1) m k) s := by
  rw [cn_t8 (E := edN τ 1 95 0) rb hk s (Nat.le_refl s)]
  refine ct_e8 (fun m hm => ?_)
  rw [e0_15 h hs r h95 hk hm, e0_15 h hs r h95 hm hk]
  exact ⟨fun z => ⟨z.1.1, z.2.1⟩, fun z => ⟨⟨z.1, ce_15 hs hk z.2 ck⟩, z.2, ck⟩⟩
theorem nb_15 {σ τ : rS} {s : Nat} (h : pOK σ) (hs : s = (σ.1 70).toNatClampNeg) (r : rr15 σ τ) (h95 : ∀ k, k < s → (τ.2.2.1 95 k ≠ 0 ↔ cnE σ k)) (rb : rbJ τ s) (R : r32 τ s) : ¬ bg15 σ := by
  intro g
  unfold bg15 at g
  rw [← hs] at g
  obtain ⟨k, k1, k2, k3, k4⟩ := g
  have b : bR (τ.2.2.2 86) k k = true := (rb k k k1 k1).mpr ((e0_15 h hs r h95 k1 k1).mpr ⟨k3, k2⟩)
  have q := r32_k rb R k1 b
  rw [bc_15 h hs r h95 rb k1 k2] at q
  omega
theorem yb_15 {σ τ : rS} {s k : Nat} (h : pOK σ) (hs : s = (σ.1 70).toNatClampNeg) (r : rr15 σ τ) (h95 : ∀ k, k < s → (τ.2.2.1 95 k ≠ 0 ↔ cnE σ k)) (rb : rbJ τ s) (hk : k < s) (ck : cnE σ k) (b : bR (τ.2.2.2 86) k k = true) (c : 32 < cntR (τ.2.2.2 86) k s) : bg15 σ := by
  unfold bg15
  rw [← hs]
  rw [bc_15 h hs r h95 rb hk ck] at c
  exact ⟨k, hk, ck, ((e0_15 h hs r h95 hk hk).mp ((rb k k hk hk).mp b)).1, c⟩
theorem oK_f15 {σ τ τ' : rS} {s : Nat} (O : oK15 σ τ s) (h : ∀ g, g ≠ 90 → g ≠ 91 → g ≠ 93 → g ≠ 96 → g ≠ 99 → g ≠ 102 → τ'.2.2.1 g = τ.2.2.1 g) (e : τ'.2.2.2 86 = τ.2.2.2 86) : oK15 σ τ' s := by
  obtain ⟨h1, h2, h3, h4, h5, h6, h7, h8⟩ := O
  have r : ∀ g, g = 76 ∨ g = 77 ∨ g = 78 ∨ g = 79 ∨ g = 80 ∨ g = 81 ∨ g = 83 ∨ g = 95 ∨ g = 97 ∨ g = 98 → τ'.2.2.1 g = τ.2.2.1 g := fun g hg => h g (by omega) (by omega) (by omega) (by omega) (by omega) (by omega)
  have ee : edN τ' 1 95 0 = edN τ 1 95 0 := edN_q (fun k hk => r k (by omega))
  unfold oK15 oN15
  rw [r 95 (by decide), r 97 (by decide), r 98 (by decide), e]
  refine ⟨h1, h2, h3, h4, h5, ?_, fun g hg => (r g (by omega)).trans (h7 g hg), h8⟩
  unfold rbJ
  rw [e, ee]
  exact h6
theorem dn_f15 {σ τ τ' : rS} {s n : Nat} (D : dn15 σ τ s n) (r96 : τ'.2.2.1 96 = τ.2.2.1 96) (r98 : τ'.2.2.1 98 = τ.2.2.1 98) (r102 : τ'.2.2.1 102 = τ.2.2.1 102) : dn15 σ τ' s n := by
  obtain ⟨h1, h2, V, v1, v2, v3⟩ := D
  unfold dn15 oN15
  rw [r96, r98]
  exact ⟨h1, h2, V, fun k hk => vR_f15 r102 (v1 k hk), v2, v3⟩
/-- one state on in the order -/
theorem dn_p15 {σ τ : rS} {s n : Nat} (D : dn15 σ τ s n) (h : cnE σ (oN15 τ n) → τ.2.2.1 96 (oN15 τ n) ≠ 0) : dn15 σ τ s (n + 1) := ⟨D.1, fun i hi his c => by
  by_cases e : i = n
  · rw [e] at c ⊢
    exact h c
  · exact D.2.1 i (by omega) his c, D.2.2⟩

end
section
set_option maxHeartbeats 1600000
/-! the reference: solve, by what it answers -/
def XV15 (σ σ' : rS) (s : Nat) (v : Int32) : Prop := (σ.1 69 = 0 ∧ σ'.1 0 = 1 ∧ σ'.1 94 = σ.1 94) ∨ (¬ σ.1 69 = 0 ∧ σ'.1 0 = 0 ∧ sX15 σ σ' s v ∧ (v = 0 ↔ σ'.1 94 ≠ 0) ∧ (v = 0 → ∀ k, k < s → (σ'.2.2.1 95 k ≠ 0 ↔ cnE σ k)))
def sM15 (σ74 τ : rS) (x : Int32) (n : Nat) : Prop := ∀ m, m < n → (m = (σ74.2.2.1 98 x.toNatClampNeg).toNatClampNeg ∨ rng (σ74.2.2.2 86) (σ74.2.2.1 98 x.toNatClampNeg).toNatClampNeg m) → ∃ a, a < (τ.1 100).toNatClampNeg ∧ mN τ a = m
def s1J15 (σ σ74 τ : rS) (s : Nat) (x l2 s0 : Int32) : Prop := τ.1 0 = 0 ∧ (l2 = τ.2.2.1 98 x.toNatClampNeg ∧ oK15 σ τ s ∧ dn15 σ τ s x.toNatClampNeg) ∧ (cnE σ l2.toNatClampNeg ∧ τ.2.2.1 96 l2.toNatClampNeg = 0 ∧ ¬ bR (τ.2.2.2 86) l2.toNatClampNeg l2.toNatClampNeg = true) ∧ hS τ (iF15 τ s l2) ∧ 0 ≤ iF15 τ s l2 ∧ (s0 ≠ 0 ↔ ftW8 (iF15 τ s l2))
theorem solve_g5 {C : rCx} (hC : cOK C) (s : Nat) {σ : rS}  {Q : Int32 → rS → Prop} (hp : pOK σ ∧ s = (σ.1 70).toNatClampNeg ∧ (σ.1 94 ≠ 0 → ∀ k, k < s → vOK σ k)) (h : ∀ (v : Int32) (σ' : rS), ((frM slF slR σ σ' ∧ (σ'.1 94 ≠ 0 → ∀ k, k < s → vOK σ' k) ∧ nK σ σ') ∧ (XV15 σ σ' s v)) → Q v σ') : cI C 8 m_solve [.ref (co C)] σ Q := by
  refine m_solve_run hC ?_
  unfold w_solve_0
  obtain ⟨hO, hs, hv⟩ := hp
  have n1000 := hO.1.1.2
  have hj13 : ∀ (s1 : Int32) (τ : rS), ((τ = σ) ∧ s1 = if σ.1 69 = 0 then 1 else 0) → w_solve_13 C Q  s1 τ := by
    rintro y13_s1 τ13 ⟨j13, hE⟩
    unfold w_solve_13
    intro σ_1 hσ_1
    refine ⟨fun c2 => ?_, fun c2 => ?_⟩
    · skip
      intro σ_3 hσ_3
      refine findOrder_g5 hC s ?_ (fun σ_4 q5 => ?_)
      · clear h; have F3 : frM slF slR σ σ_3 := by rw [hσ_3, hσ_1, j13]; exact frM_tr (frM_0 (by decide)) (frM_0 (by decide))
        have e94 : σ_3.1 94 = 0 := by rw [hσ_3]; rfl
        exact ⟨pOK_M hO F3, by rw [F3.1 70 (by decide)]; exact hs⟩
      obtain ⟨q5, z9⟩ := q5
      have zo := z9
      have e69 : ¬ σ.1 69 = 0 := fun z => by
        rw [if_pos z] at hE
        rw [hσ_1, si1, if_pos rfl, hE] at c2
        exact absurd c2 (by decide)
      have rr4 : rr15 σ σ_4 := fun g hg => by
        have F3 : frM slF slR σ σ_3 := by rw [hσ_3, hσ_1, j13]; exact frM_tr (frM_0 (by decide)) (frM_0 (by decide))
        have F4 : frM slF slR σ σ_4 := frM_tr F3 (frM_w q5.1 (sub_of rfl) (sub_of rfl))
        exact F4.2.2.1 g (by rcases hg with z | z | z | z | z | z | z <;> rw [z] <;> decide)
      have z04 : σ_4.1 0 = 0 := by
        rw [q5.1.1 0 (by decide), hσ_3, si1, if_neg (by decide), hσ_1, si1, if_pos rfl, hE, if_neg e69]
      have op4 : ∀ k, k < s → (σ_4.2.2.1 95 k ≠ 0 ↔ cnE σ k) := fun k hk => by
        have F3 : frM slF slR σ σ_3 := by rw [hσ_3, hσ_1, j13]; exact frM_tr (frM_0 (by decide)) (frM_0 (by decide))
        rw [← cnE_M F3]
        exact zo.1 k hk
      have F3 : frM slF slR σ σ_3 := by rw [hσ_3, hσ_1, j13]; exact frM_tr (frM_0 (by decide)) (frM_0 (by decide))
      have e94 : σ_3.1 94 = 0 := by rw [hσ_3]; rfl
      have F4 : frM slF slR σ σ_4 := frM_tr F3 (frM_w q5.1 (sub_of rfl) (sub_of rfl))
      have c4 : σ_4.1 94 = 0 := by rw [q5.1.1 94 (by decide)]; exact e94
      have cE : ∀ k, k < s → σ_4.2.2.1 95 k ≠ 0 → cnE σ k := by rw [← cnE_M F3]; exact q5.2.2.2.1
      have o98 := q5.2.2.1
      have K4 : nK σ σ_4 := nK_tr (nK_r (by rw [hσ_3, hσ_1, j13]; rfl) (by rw [hσ_3, hσ_1, j13]; rfl)) q5.2.2.2.2.2
      rw [F3.1 70 (by decide)] at o98
      unfold w_solve_36
      refine ⟨fun n l1 τ => n = (σ.1 70 - l1).toNatClampNeg ∧ ((τ = σ_4 ∧ 0 ≤ l1 ∧ l1 ≤ σ.1 70 ∧ (∀ k, k < l1.toNatClampNeg → σ_4.2.2.1 95 k ≠ 0 → bR (σ_4.2.2.2 86) k k = true → (∀ m, m < k → ¬ rng (σ_4.2.2.2 86) k m) → cntR (σ_4.2.2.2 86) k s ≤ 32)) ∧ True), ⟨_, rfl, ?_⟩, ?_⟩
      · refine and_5 ?_ (fun o9 => trivial)  -- j2
        clear h; exact ⟨rfl, by decide, hO.1.1.1, fun k hk => absurd hk (Nat.not_lt_zero k)⟩
      rintro n36 x36_1 σ36 ⟨hn36, i36, hE⟩
      obtain ⟨e1, a0, a1, R⟩ := i36
      have e70 : σ_4.1 70 = σ.1 70 := F4.1 70 (by decide)
      rw [e1, e70]
      refine ⟨fun c6 => ?_, fun c6 => ?_⟩
      · skip
        unfold w_solve_74
        refine ⟨fun n l1 τ => n = (σ.1 70 - l1).toNatClampNeg ∧ ((slJ σ τ s ∧ (∀ k, k < s → vOK τ k) ∧ 0 ≤ l1 ∧ l1 ≤ σ.1 70) ∧ τ.1 0 = 0 ∧ oK15 σ τ s ∧ dn15 σ τ s l1.toNatClampNeg), ⟨_, rfl, ?_⟩, ?_⟩
        · refine and_5 ?_ (fun o9 => ?_)  -- j3
          · clear h; have e : x36_1 = σ.1 70 := Int32.le_antisymm a1 c6
            rw [e, ← hs] at R
            exact ⟨⟨F4, c4, o98, cE, q5.2.2.2.2.1, R, K4⟩, q5.2.1, by decide, hO.1.1.1⟩
          · clear o9
            have e : x36_1 = σ.1 70 := Int32.le_antisymm a1 c6
            have R' := R
            rw [e, ← hs] at R'
            obtain ⟨M1, M2, M3, M4, M5, M6⟩ := zo
            refine ⟨z04, ⟨op4, M3, M4, M5, M6, q5.2.2.2.2.1, rr4, nb_15 hO hs rr4 op4 q5.2.2.2.2.1 R'⟩, fun k hk z => absurd (M2 k hk).1 z, fun i hi => absurd hi (Nat.not_lt_zero i), fun _ => 0, fun k hk => (M2 k hk).2, ⟨fun _ _ _ => rfl, fun j hj z => absurd (M2 j hj).1 z, fun k j hk hj z _ => absurd (M2 j hj).1 z⟩, fun k hk => ?_⟩
            show ftW8 0
            unfold ftW8
            decide
        rintro n74 x74_1 σ74 ⟨hn74, i74, hE⟩
        have hj223 : ∀ (l1 : Int32) (l3 : Int32) (τ : rS), ((l1 = x74_1 ∧ ¬ σ.1 70 ≤ x74_1 ∧ slJ σ τ s ∧ (l3 ≠ 0 → ∀ k, k < s → vOK τ k)) ∧ τ.1 0 = 0 ∧ oK15 σ τ s ∧ (l3 ≠ 0 → dn15 σ τ s (l1.toNatClampNeg + 1)) ∧ (l3 = 0 → nf15 σ s)) → w_solve_223 C Q (fun l1' τ => ∃ k < n74, (fun n l1 τ => n = (σ.1 70 - l1).toNatClampNeg ∧ ((slJ σ τ s ∧ (∀ k, k < s → vOK τ k) ∧ 0 ≤ l1 ∧ l1 ≤ σ.1 70) ∧ τ.1 0 = 0 ∧ oK15 σ τ s ∧ dn15 σ τ s l1.toNatClampNeg)) k l1' τ) l1 l3 τ := by
          rintro y223_1 y223_3 τ223 ⟨j223, hE⟩
          unfold w_solve_223
          obtain ⟨J, V, b0, b1⟩ := i74
          obtain ⟨y1, y2, y3, y4⟩ := j223
          have u := uk b0 y2 n1000
          refine ⟨fun c7 => ?_, fun c7 => ?_⟩
          · skip
            intro x8 hx8
            refine lp_b5 (cn_lt2 hn74 ?_ ?_) (fun d9 => ⟨rfl, ?_⟩)
            · clear h; rw [hx8, y1]; exact u.1  -- d4
            · clear h; rw [hx8, y1]; exact u.2.1  -- d5
            · refine and_5 ?_ (fun o9 => ?_)  -- i6
              · clear h; rw [hx8, y1]; exact ⟨y3, y4 c7, u.2.2.1, u.2.2.2.1⟩
              · clear o9
                obtain ⟨h1, h2, h3, h4⟩ := hE
                have as := cn_succ b0 (Int32.lt_trans u.2.2.2.2.2 (by decide))
                rw [hx8, y1, as]
                rw [y1] at h3
                exact ⟨h1, h2, h3 c7⟩
          · skip
            refine h _ _ ?_
            · refine and_5 ?_ (fun o9 => ?_)  -- q7
              · clear h; exact ⟨y3.1, fun z => absurd y3.2.1 z, y3.2.2.2.2.2.2⟩
              · clear o9
                obtain ⟨h1, h2, h3, h4⟩ := hE
                have n94 : y223_3 = 0 := c7
                exact Or.inr ⟨e69, h1, Or.inr (Or.inl ⟨rfl, h2.2.2.2.2.2.2.2, h4 n94⟩), ⟨fun z => absurd z (by decide), fun z => absurd y3.2.1 z⟩, fun z => absurd z (by decide)⟩
        have hj210 : ∀ (l1 : Int32) (l2 : Int32) (s0 : Int32) (τ : rS), ((l1 = x74_1 ∧ ¬ σ.1 70 ≤ x74_1 ∧ 0 ≤ l2 ∧ l2 < σ.1 70 ∧ slJ σ τ s ∧ (∀ k, k < s → vOK τ k) ∧ numO τ 4 ∧ numO τ 5 ∧ 0 < nV τ 5 ∧ (s0 ≠ 0 → nL τ 4 ≤ 16 ∧ nL τ 5 ≤ 16)) ∧ s1J15 σ σ74 τ s x74_1 l2 s0) → w_solve_210 C Q (fun l1' τ => ∃ k < n74, (fun n l1 τ => n = (σ.1 70 - l1).toNatClampNeg ∧ ((slJ σ τ s ∧ (∀ k, k < s → vOK τ k) ∧ 0 ≤ l1 ∧ l1 ≤ σ.1 70) ∧ τ.1 0 = 0 ∧ oK15 σ τ s ∧ dn15 σ τ s l1.toNatClampNeg)) k l1' τ) l1 l2 s0 τ := by
          rintro y210_1 y210_2 y210_s0 τ210 ⟨j210, hE⟩
          unfold w_solve_210
          obtain ⟨y1, y2, y3, y4, y5, y6, y7, y8, y9, y10⟩ := j210
          have k1 := Int32.lt_of_lt_of_le y4 n1000
          refine keepVisits_c hC  ?_ (fun σ_9 q10 => ?_)
          · clear h; exact ⟨y3, k1, y7, y8⟩  -- p8
          refine ⟨ib_1000.mpr ?_, ?_⟩
          · clear h; exact ⟨y3, k1⟩  -- b9
          intro σ_11 hσ_11
          refine hj223 _ _ _ ?_
          · refine and_5 ?_ (fun o9 => ?_)  -- k10
            · clear h; rw [hσ_11]
              refine ⟨y1, y2, slJ_V y5 (frV_tr (frV_R q10.1) frV_1), fun z k hk => vOK_f (ri3 (by decide)) ?_⟩
              by_cases e : k = y210_2.toNatClampNeg
              · have l := y10 z
                have s4 := q10.2.1 l.1
                have s5 := q10.2.2 l.2
                rw [e]
                exact ⟨s4.1, s5.1, by rw [s5.2]; exact y9⟩
              · exact vOK_e (fun i i1 i2 => q10.1.2.2.2.2 i (by omega)) (y6 k hk)
            · clear o9
              obtain ⟨h0, ⟨hl, O, D⟩, ⟨ck, nd, nr⟩, hX, x0, hft⟩ := hE
              have n1 : s ≤ 1000 := by rw [hs]; exact cn_le (y := 1000) rfl hO.1.1.2
              have hK : y210_2.toNatClampNeg < s := by rw [hs]; exact cn_lt y3 y4
              have hn : x74_1.toNatClampNeg < s := by
                obtain ⟨J, V, b0, b1⟩ := i74
                have u := uk b0 y2 n1000
                rw [hs]
                exact cn_lt b0 u.2.2.2.2.1
              have ek : oN15 τ210 x74_1.toNatClampNeg = y210_2.toNatClampNeg := by rw [hl]
              obtain ⟨V, v1, v2, v3⟩ := D.2.2
              have k2 : y210_2 = Int32.ofNat y210_2.toNatClampNeg := by
                have c := cn_int y3
                refine Int32.toInt_inj.mp ?_
                rw [ofn_i (by omega)]
                omega
              have ex := iF_m15 (τ := τ210) O.2.2.2.2.2.2.1 n1 k2 hK v1 (fun k hk z => v2.1 k hk (fun q => q z))
              have E := d1_15 hO hs O D hn ek ck nd nr v1 v2 v3 ex
              have r96 : ∀ k, σ_11.2.2.1 96 k = if k = y210_2.toNatClampNeg then vp_nar .boolean 1 else τ210.2.2.1 96 k := fun k => by
                rw [hσ_11, ri34, if_pos rfl, q10.1.2.2.1 96 (by decide)]
              have ro : ∀ g, g ≠ 96 → g ≠ 102 → σ_11.2.2.1 g = τ210.2.2.1 g := fun g h1 h2 => by
                rw [hσ_11, ri3 h1, q10.1.2.2.1 g h2]
              have r102 : σ_11.2.2.1 102 = σ_9.2.2.1 102 := by rw [hσ_11, ri3 (by decide)]
              have n1' : (vp_nar .boolean 1 : Int32) ≠ 0 := by decide
              have e86 : σ_11.2.2.2 86 = τ210.2.2.2 86 := by rw [hσ_11]; show σ_9.2.2.2 86 = _; rw [q10.1.2.2.2.1]
              refine ⟨by rw [hσ_11]; show σ_9.1 0 = 0; rw [q10.1.1]; exact h0, oK_f15 O (fun g _ _ _ h96 _ h102 => ro g h96 h102) e86, fun sz => ?_, fun sz => ⟨_, _, E, y210_2.toNatClampNeg, hK, Or.inr rfl, ck, ?_⟩⟩
              · rw [y1]
                have l := y10 sz
                have s4 := q10.2.1 l.1
                have s5 := q10.2.2 l.2
                obtain ⟨N4, N5, _⟩ := hS_n8 hX
                refine ⟨fun k hk z => ?_, fun i hi his c => ?_, _, fun k hk => ?_, vE_c15 E (fun k hk => ?_) (fun _ _ => rfl), fun k hk => ?_⟩
                · rw [r96] at z
                  by_cases e : k = y210_2.toNatClampNeg
                  · rw [e]; exact ck
                  · rw [if_neg e] at z
                    exact D.1 k hk z
                · have eo : oN15 σ_11 i = oN15 τ210 i := by
                    unfold oN15
                    rw [ro 98 (by decide) (by decide)]
                  rw [eo] at c ⊢
                  rw [r96]
                  by_cases e : oN15 τ210 i = y210_2.toNatClampNeg
                  · rw [if_pos e]; exact n1'
                  · rw [if_neg e]
                    by_cases e2 : i = x74_1.toNatClampNeg
                    · rw [e2] at e; exact absurd ek e
                    · exact D.2.1 i (by omega) his c
                · by_cases e : k = y210_2.toNatClampNeg
                  · try dsimp only
                    rw [if_pos e, e]
                    refine vR_f15 r102 ⟨?_, ?_, x0⟩
                    · rw [s4.2]; exact N4
                    · rw [s5.2]; exact N5
                  · try dsimp only
                    rw [if_neg e]
                    refine vR_f15 r102 (vR_e15 (σ := τ210) (fun i i1 i2 => q10.1.2.2.2.2 i (by omega)) (y6 k hk) (v1 k hk))
                · rw [r96]
                  by_cases e : k = y210_2.toNatClampNeg
                  · rw [if_pos e]
                    exact ⟨fun _ => n1', fun _ => Or.inr e⟩
                  · rw [if_neg e]
                    exact ⟨fun z => z.resolve_right e, fun z => Or.inl z⟩
                · by_cases e : k = y210_2.toNatClampNeg
                  · try dsimp only
                    rw [if_pos e]; exact hft.mp sz
                  · try dsimp only
                    rw [if_neg e]; exact v3 k hk
              · try dsimp only
                rw [if_pos rfl]
                exact fun z => hft.mpr z sz
        obtain ⟨J, V, b0, b1⟩ := i74
        have g70 := J.1.1 70 (by decide)
        rw [g70]
        refine ⟨fun c12 => ?_, fun c12 => ?_⟩
        · skip
          intro σ_13 hσ_13
          refine h _ _ ?_
          · refine and_5 ?_ (fun o9 => ?_)  -- q11
            · clear h; rw [hσ_13]
              exact ⟨frM_tr J.1 (frM_0 (by decide)), fun _ k hk => vOK_f rfl (V k hk), nK_tr J.2.2.2.2.2.2 (nK_r rfl rfl)⟩
            · clear o9
              have e : x74_1 = σ.1 70 := Int32.le_antisymm b1 c12
              obtain ⟨h0, O, D⟩ := hE
              rw [e, ← hs] at D
              obtain ⟨V, v1, v2, v3⟩ := D.2.2
              refine Or.inr ⟨e69, by rw [hσ_13, si1, if_neg (by decide)]; exact h0, Or.inl ⟨rfl, O.2.2.2.2.2.2.2, V, fun k hk => vR_f15 (by rw [hσ_13, si2]) (v1 k hk), vE_c15 v2 (fun k hk => ⟨fun z => D.1 k hk z, fun z => ?_⟩) (fun _ _ => rfl), v3⟩, ⟨fun _ => by rw [hσ_13, si1, if_pos rfl]; decide, fun _ => rfl⟩, fun _ k hk => by rw [hσ_13, si2]; exact O.1 k hk⟩
              obtain ⟨i, i1, i2⟩ := O.2.2.2.2.1 k hk
              rw [← i2] at z ⊢
              exact D.2.1 i i1 i1 z
        · skip
          have u := uk b0 c12 n1000
          have xs : x74_1.toNatClampNeg < s := by rw [hs]; exact cn_lt b0 u.2.2.2.2.1
          have o := J.2.2.1 x74_1.toNatClampNeg xs
          have o1 := Int32.lt_of_lt_of_le o.2 n1000
          have ks : (σ74.2.2.1 98 x74_1.toNatClampNeg).toNatClampNeg < s := by rw [hs]; exact cn_lt o.1 o.2
          have z74 := hE.1
          have O74 := hE.2.1
          have D74 := hE.2.2
          refine ⟨ib_1000.mpr ?_, ?_⟩
          · clear h; exact ⟨b0, u.2.2.2.2.2⟩  -- b12
          intro x14 hx14
          refine ⟨ib_1000.mpr ?_, ?_⟩
          · clear h; rw [hx14]; exact ⟨o.1, o1⟩  -- b13
          refine ⟨fun c15 => ?_, fun c15 => ?_⟩
          · skip
            intro x16 hx16
            refine lp_b5 (cn_lt2 hn74 ?_ ?_) (fun d9 => ⟨rfl, ?_⟩)
            · clear h; rw [hx16]; exact u.1  -- d14
            · clear h; rw [hx16]; exact u.2.1  -- d15
            · refine and_5 ?_ (fun o9 => ?_)  -- i16
              · clear h; rw [hx16]; exact ⟨J, V, u.2.2.1, u.2.2.2.1⟩
              · clear o9
                have as := cn_succ b0 (Int32.lt_trans u.2.2.2.2.2 (by decide))
                rw [hx16, as]
                refine ⟨z74, O74, dn_p15 D74 (fun c => absurd c15 ?_)⟩
                rw [hx14]
                exact (O74.1 _ ks).mpr c
          · skip
            refine ⟨ib_1000.mpr ?_, ?_⟩
            · clear h; rw [hx14]; exact ⟨o.1, o1⟩  -- b17
            refine ⟨fun c17 => ?_, fun c17 => ?_⟩
            · skip
              intro x18 hx18
              refine lp_b5 (cn_lt2 hn74 ?_ ?_) (fun d9 => ⟨rfl, ?_⟩)
              · clear h; rw [hx18]; exact u.1  -- d18
              · clear h; rw [hx18]; exact u.2.1  -- d19
              · refine and_5 ?_ (fun o9 => ?_)  -- i20
                · clear h; rw [hx18]; exact ⟨J, V, u.2.2.1, u.2.2.2.1⟩
                · clear o9
                  have as := cn_succ b0 (Int32.lt_trans u.2.2.2.2.2 (by decide))
                  rw [hx18, as]
                  refine ⟨z74, O74, dn_p15 D74 (fun _ => ?_)⟩
                  rw [hx14] at c17
                  exact c17
            · skip
              intro σ_19 hσ_19
              unfold w_solve_114
              refine ⟨fun n l1 l2 l3 τ => n = (σ.1 70 - l3).toNatClampNeg ∧ ((l1 = x74_1 ∧ l2 = σ74.2.2.1 98 x74_1.toNatClampNeg ∧ 0 ≤ l3 ∧ l3 ≤ σ.1 70 ∧ frY σ74 τ ∧ mbJ (σ74.2.2.2 86) τ (σ74.2.2.1 98 x74_1.toNatClampNeg).toNatClampNeg l3) ∧ sM15 σ74 τ x74_1 l3.toNatClampNeg), ⟨_, rfl, ?_⟩, ?_⟩
              · refine and_5 ?_ (fun o9 => ?_)  -- j21
                · clear h; have z100 : σ_19.1 100 = 0 := by rw [hσ_19]; rfl
                  refine ⟨rfl, hx14, by decide, hO.1.1.1, by rw [hσ_19]; exact frY_0, ?_⟩
                  unfold mbJ
                  rw [z100]
                  exact ⟨by decide, by decide, fun a ha => absurd ha (Nat.not_lt_zero a), fun a b ha => absurd ha (Nat.not_lt_zero a), fun _ => rfl⟩
                · clear o9
                  exact fun m hm => absurd hm (Nat.not_lt_zero m)
              rintro n114 x114_1 x114_2 x114_3 σ114 ⟨hn114, i114, hE⟩
              have hj136 : ∀ (l1 : Int32) (l2 : Int32) (l3 : Int32) (τ : rS), ((l1 = x74_1 ∧ l2 = σ74.2.2.1 98 x74_1.toNatClampNeg ∧ l3 = x114_3 ∧ ¬ σ.1 70 ≤ x114_3 ∧ τ = σ114 ∧ (x114_3.toNatClampNeg = (σ74.2.2.1 98 x74_1.toNatClampNeg).toNatClampNeg ∨ rng (σ74.2.2.2 86) (σ74.2.2.1 98 x74_1.toNatClampNeg).toNatClampNeg x114_3.toNatClampNeg)) ∧ sM15 σ74 τ x74_1 x114_3.toNatClampNeg) → w_solve_136 C Q (fun l1' τ => ∃ k < n74, (fun n l1 τ => n = (σ.1 70 - l1).toNatClampNeg ∧ ((slJ σ τ s ∧ (∀ k, k < s → vOK τ k) ∧ 0 ≤ l1 ∧ l1 ≤ σ.1 70) ∧ τ.1 0 = 0 ∧ oK15 σ τ s ∧ dn15 σ τ s l1.toNatClampNeg)) k l1' τ) (fun l1' l2' l3' τ => ∃ k < n114, (fun n l1 l2 l3 τ => n = (σ.1 70 - l3).toNatClampNeg ∧ ((l1 = x74_1 ∧ l2 = σ74.2.2.1 98 x74_1.toNatClampNeg ∧ 0 ≤ l3 ∧ l3 ≤ σ.1 70 ∧ frY σ74 τ ∧ mbJ (σ74.2.2.2 86) τ (σ74.2.2.1 98 x74_1.toNatClampNeg).toNatClampNeg l3) ∧ sM15 σ74 τ x74_1 l3.toNatClampNeg)) k l1' l2' l3' τ) l1 l2 l3 τ := by
                rintro y136_1 y136_2 y136_3 τ136 ⟨j136, hE⟩
                unfold w_solve_136
                obtain ⟨w1, w2, w0, w3, Y, M⟩ := i114
                obtain ⟨z1, z2, z3, z4, z5, z6⟩ := j136
                have w := uk w0 z4 n1000
                have q := mb_i M.1 M.2.1 w.2.2.2.2.2
                rw [z5, z3]
                refine ⟨ib_1000.mpr ?_, ?_⟩
                · clear h; exact ⟨M.1, q.2.2.1⟩  -- b22
                intro σ_20 hσ_20
                intro σ_21 hσ_21
                intro x22 hx22
                refine lp_b5 (cn_lt2 hn114 ?_ ?_) (fun d9 => ⟨rfl, ?_⟩)
                · clear h; rw [hx22]; exact w.1  -- d23
                · clear h; rw [hx22]; exact w.2.1  -- d24
                · refine and_5 ?_ (fun o9 => ?_)  -- i25
                  · clear h; rw [hx22]
                    refine ⟨z1, z2, w.2.2.1, w.2.2.2.1, frY_tr Y (by rw [hσ_21, hσ_20]; exact frY_tr frY_1 frY_0), mb_s M w.2.2.2.2.2 z6 (by rw [hσ_21, hσ_20]; rfl) (fun i => ?_)⟩
                    rw [hσ_21, show (siU σ_20 100 (σ_20.1 100 + 1)).2.2.1 99 = σ_20.2.2.1 99 from rfl, hσ_20, ri34, if_pos rfl]
                  · clear o9
                    have e1 : σ_21.1 100 = σ114.1 100 + 1 := by rw [hσ_21, si1, if_pos rfl, hσ_20, ri1]
                    have e2 : ∀ i, σ_21.2.2.1 99 i = if i = (σ114.1 100).toNatClampNeg then x114_3 else σ114.2.2.1 99 i := fun i => by
                      rw [hσ_21, si2, hσ_20, ri34, if_pos rfl]
                    have cs := cn_succ M.1 q.2.2.2.2.1
                    have ls := cn_succ w0 (Int32.lt_trans w.2.2.2.2.2 (by decide))
                    rw [z5] at hE
                    rw [hx22, ls]
                    intro m hm g
                    rw [e1, cs]
                    by_cases e : m = x114_3.toNatClampNeg
                    · refine ⟨(σ114.1 100).toNatClampNeg, by omega, ?_⟩
                      unfold mN
                      rw [e2, if_pos rfl, e]
                    · obtain ⟨a, a1, a2⟩ := hE m (by omega) g
                      refine ⟨a, by omega, ?_⟩
                      unfold mN at a2 ⊢
                      rw [e2, if_neg (by omega)]
                      exact a2
              obtain ⟨w1, w2, w0, w3, Y, M⟩ := i114
              have h70 : σ114.1 70 = σ.1 70 := (Y.1 70 (by decide)).trans g70
              have J2 := slJ_Y J Y
              have e86 : σ114.2.2.2 86 = σ74.2.2.2 86 := by rw [Y.2.2.2]
              have V2 : ∀ k, k < s → vOK σ114 k := fun k hk => vOK_f (Y.2.2.1 102 (by decide)) (V k hk)
              rw [h70, w2]
              refine ⟨fun c23 => ?_, fun c23 => ?_⟩
              · skip
                refine leads_c hC  ?_ (fun r24 q26 => ?_)
                · clear h; exact ⟨o.1, o1, o.1, o1⟩  -- p26
                have hD9 : ∀ b, b < (σ114.1 100).toNatClampNeg → σ114.2.2.1 96 (mN σ114 b) = 0 := fun b hb => by
                  have y := M.2.2.1 b hb
                  have ys : mN σ114 b < s := by rw [hs]; exact cn_lt y.1 (Int32.lt_of_lt_of_le y.2.1 w3)
                  have nd : σ74.2.2.1 96 (σ74.2.2.1 98 x74_1.toNatClampNeg).toNatClampNeg = 0 := by
                    rw [hx14] at c17
                    exact c17
                  rw [Y.2.2.1 96 (by decide)]
                  rcases y.2.2 with z | z
                  · have z : mN σ114 b = (σ74.2.2.1 98 x74_1.toNatClampNeg).toNatClampNeg := z
                    rw [z]; exact nd
                  · obtain ⟨V, v1, v2, v3⟩ := D74.2.2
                    refine Decidable.byContradiction (fun q => ?_)
                    have t := ((bt_15 hO hs O74 ks ys).mp z.1).1
                    exact pc_15 hO hs v2 ks t q nd
                refine ⟨fun c27 => ?_, fun c27 => ?_⟩
                · skip
                  refine clearSum_c hC  (fun σ_28 q29 => ?_)
                  have J28 := slJ_V J2 (frV_S q29.1)
                  refine sumInflow_g5 hC s 1 0 0 (0 : Rat) q29.2 ?_ (fun σ_30 q31 => ?_)
                  · clear h; rw [by_m]
                    exact ⟨pOK_M hO J28.1, by rw [J28.1.1 70 (by decide)]; exact hs, fun k hk _ => vOK_f (q29.1.2.2.1 102 (by decide) (by decide)) (V2 k hk), Or.inl rfl, siJ_0 (D := fun _ => 1) q29.2, by decide, by decide, by decide, by decide⟩
                  obtain ⟨q31, z9⟩ := q31
                  have zi := z9
                  have J30 := slJ_V J28 (frV_S q31.1)
                  have V30 : ∀ k, k < s → vOK σ_30 k := fun k hk => vOK_f ((q31.1.2.2.1 102 (by decide) (by decide)).trans (q29.1.2.2.1 102 (by decide) (by decide))) (V2 k hk)
                  obtain ⟨S, S1, S2, -, -⟩ := q31.2
                  have R30 := hS_nn S1 S2
                  refine isLong_c hC  ?_ (fun r32 q34 => ?_)
                  · clear h; exact ⟨by decide, by decide⟩  -- p28
                  refine ⟨fun c35 => ?_, fun c35 => ?_⟩
                  · skip
                    refine hj210 _ _ _ _ ?_
                    · refine and_5 ?_ (fun o9 => ?_)  -- k29
                      · clear h; exact ⟨w1, c12, o.1, o.2, J30, V30, R30.1, R30.2.1, (hR_q R30).2, fun z => absurd rfl z⟩
                      · clear o9
                        have O28 : ∀ g, g ≠ 90 → g ≠ 91 → g ≠ 99 → σ_30.2.2.1 g = σ74.2.2.1 g := fun g h90 h91 h99 => (q31.1.2.2.1 g h90 h91).trans ((q29.1.2.2.1 g h90 h91).trans (Y.2.2.1 g h99))
                        have e86' : σ_30.2.2.2 86 = σ74.2.2.2 86 := by rw [(frV_S q31.1).2.2.2.1, (frV_S q29.1).2.2.2.1]; exact e86
                        have O30 := oK_f15 O74 (fun g h90 h91 _ _ h99 _ => O28 g h90 h91 h99) e86'
                        have D30 := dn_f15 D74 (O28 96 (by decide) (by decide) (by decide)) (O28 98 (by decide) (by decide) (by decide)) (O28 102 (by decide) (by decide) (by decide))
                        rw [by_m, Rat.mul_one, Rat.zero_add] at zi
                        have ei : iF15 σ_28 s (σ74.2.2.1 98 x74_1.toNatClampNeg) = iF15 σ_30 s (σ74.2.2.1 98 x74_1.toNatClampNeg) := (iF_e15 (fun k _ => by rw [q31.1.2.2.1 96 (by decide) (by decide)]) (fun k hk _ => vQ_e15 (fun i _ _ => by rw [q31.1.2.2.1 102 (by decide) (by decide)]) (vOK_f (q29.1.2.2.1 102 (by decide) (by decide)) (V2 k hk))) (fun g hg => q31.1.2.2.1 g (by omega) (by omega))).symm
                        rw [ei] at zi
                        have x0 : 0 ≤ iF15 σ_30 s (σ74.2.2.1 98 x74_1.toNatClampNeg) := by rw [← hS_u8 S1 zi]; exact S2
                        have nb : ¬ bR (σ_30.2.2.2 86) (σ74.2.2.1 98 x74_1.toNatClampNeg).toNatClampNeg (σ74.2.2.1 98 x74_1.toNatClampNeg).toNatClampNeg = true := fun z => by
                          rw [e86', ← e86] at z
                          exact q26.2.mpr z c27
                        rw [hx14] at c15 c17
                        refine ⟨?_, ⟨by rw [O28 98 (by decide) (by decide) (by decide)], O30, D30⟩, ⟨(O74.1 _ ks).mp c15, by rw [O28 96 (by decide) (by decide) (by decide)]; exact c17, nb⟩, zi, x0, ?_⟩
                        · rw [(frV_S q31.1).1 0 (by decide), (frV_S q29.1).1 0 (by decide), Y.1 0 (by decide)]
                          exact z74
                        · exact ⟨fun z => absurd rfl z, fun z => absurd ((ft_l15 zi R30.1 R30.2.1).mpr z).1 (nl_c15 rfl R30.1 (q34.2.mp c35))⟩
                  · skip
                    refine isLong_c hC  ?_ (fun r36 q38 => ?_)
                    · clear h; exact ⟨by decide, by decide⟩  -- p30
                    refine ⟨fun c39 => ?_, fun c39 => ?_⟩
                    · skip
                      refine hj210 _ _ _ _ ?_
                      · refine and_5 ?_ (fun o9 => ?_)  -- k31
                        · clear h; exact ⟨w1, c12, o.1, o.2, J30, V30, R30.1, R30.2.1, (hR_q R30).2, fun z => absurd rfl z⟩
                        · clear o9
                          have O28 : ∀ g, g ≠ 90 → g ≠ 91 → g ≠ 99 → σ_30.2.2.1 g = σ74.2.2.1 g := fun g h90 h91 h99 => (q31.1.2.2.1 g h90 h91).trans ((q29.1.2.2.1 g h90 h91).trans (Y.2.2.1 g h99))
                          have e86' : σ_30.2.2.2 86 = σ74.2.2.2 86 := by rw [(frV_S q31.1).2.2.2.1, (frV_S q29.1).2.2.2.1]; exact e86
                          have O30 := oK_f15 O74 (fun g h90 h91 _ _ h99 _ => O28 g h90 h91 h99) e86'
                          have D30 := dn_f15 D74 (O28 96 (by decide) (by decide) (by decide)) (O28 98 (by decide) (by decide) (by decide)) (O28 102 (by decide) (by decide) (by decide))
                          rw [by_m, Rat.mul_one, Rat.zero_add] at zi
                          have ei : iF15 σ_28 s (σ74.2.2.1 98 x74_1.toNatClampNeg) = iF15 σ_30 s (σ74.2.2.1 98 x74_1.toNatClampNeg) := (iF_e15 (fun k _ => by rw [q31.1.2.2.1 96 (by decide) (by decide)]) (fun k hk _ => vQ_e15 (fun i _ _ => by rw [q31.1.2.2.1 102 (by decide) (by decide)]) (vOK_f (q29.1.2.2.1 102 (by decide) (by decide)) (V2 k hk))) (fun g hg => q31.1.2.2.1 g (by omega) (by omega))).symm
                          rw [ei] at zi
                          have x0 : 0 ≤ iF15 σ_30 s (σ74.2.2.1 98 x74_1.toNatClampNeg) := by rw [← hS_u8 S1 zi]; exact S2
                          have nb : ¬ bR (σ_30.2.2.2 86) (σ74.2.2.1 98 x74_1.toNatClampNeg).toNatClampNeg (σ74.2.2.1 98 x74_1.toNatClampNeg).toNatClampNeg = true := fun z => by
                            rw [e86', ← e86] at z
                            exact q26.2.mpr z c27
                          rw [hx14] at c15 c17
                          refine ⟨?_, ⟨by rw [O28 98 (by decide) (by decide) (by decide)], O30, D30⟩, ⟨(O74.1 _ ks).mp c15, by rw [O28 96 (by decide) (by decide) (by decide)]; exact c17, nb⟩, zi, x0, ?_⟩
                          · rw [(frV_S q31.1).1 0 (by decide), (frV_S q29.1).1 0 (by decide), Y.1 0 (by decide)]
                            exact z74
                          · exact ⟨fun z => absurd rfl z, fun z => absurd ((ft_l15 zi R30.1 R30.2.1).mpr z).2 (nl_c15 rfl R30.2.1 (q38.2.mp c39))⟩
                    · skip
                      refine hj210 _ _ _ _ ?_
                      · refine and_5 ?_ (fun o9 => ?_)  -- k32
                        · clear h; exact ⟨w1, c12, o.1, o.2, J30, V30, R30.1, R30.2.1, (hR_q R30).2, fun _ => ⟨cn_le (x := σ_30.2.2.1 91 4) (y := 16) rfl (Int32.not_lt.mp (fun z => q34.2.mpr z c35)), cn_le (x := σ_30.2.2.1 91 5) (y := 16) rfl (Int32.not_lt.mp (fun z => q38.2.mpr z c39))⟩⟩
                        · clear o9
                          have O28 : ∀ g, g ≠ 90 → g ≠ 91 → g ≠ 99 → σ_30.2.2.1 g = σ74.2.2.1 g := fun g h90 h91 h99 => (q31.1.2.2.1 g h90 h91).trans ((q29.1.2.2.1 g h90 h91).trans (Y.2.2.1 g h99))
                          have e86' : σ_30.2.2.2 86 = σ74.2.2.2 86 := by rw [(frV_S q31.1).2.2.2.1, (frV_S q29.1).2.2.2.1]; exact e86
                          have O30 := oK_f15 O74 (fun g h90 h91 _ _ h99 _ => O28 g h90 h91 h99) e86'
                          have D30 := dn_f15 D74 (O28 96 (by decide) (by decide) (by decide)) (O28 98 (by decide) (by decide) (by decide)) (O28 102 (by decide) (by decide) (by decide))
                          rw [by_m, Rat.mul_one, Rat.zero_add] at zi
                          have ei : iF15 σ_28 s (σ74.2.2.1 98 x74_1.toNatClampNeg) = iF15 σ_30 s (σ74.2.2.1 98 x74_1.toNatClampNeg) := (iF_e15 (fun k _ => by rw [q31.1.2.2.1 96 (by decide) (by decide)]) (fun k hk _ => vQ_e15 (fun i _ _ => by rw [q31.1.2.2.1 102 (by decide) (by decide)]) (vOK_f (q29.1.2.2.1 102 (by decide) (by decide)) (V2 k hk))) (fun g hg => q31.1.2.2.1 g (by omega) (by omega))).symm
                          rw [ei] at zi
                          have x0 : 0 ≤ iF15 σ_30 s (σ74.2.2.1 98 x74_1.toNatClampNeg) := by rw [← hS_u8 S1 zi]; exact S2
                          have nb : ¬ bR (σ_30.2.2.2 86) (σ74.2.2.1 98 x74_1.toNatClampNeg).toNatClampNeg (σ74.2.2.1 98 x74_1.toNatClampNeg).toNatClampNeg = true := fun z => by
                            rw [e86', ← e86] at z
                            exact q26.2.mpr z c27
                          rw [hx14] at c15 c17
                          refine ⟨?_, ⟨by rw [O28 98 (by decide) (by decide) (by decide)], O30, D30⟩, ⟨(O74.1 _ ks).mp c15, by rw [O28 96 (by decide) (by decide) (by decide)]; exact c17, nb⟩, zi, x0, ?_⟩
                          · rw [(frV_S q31.1).1 0 (by decide), (frV_S q29.1).1 0 (by decide), Y.1 0 (by decide)]
                            exact z74
                          · exact ⟨fun _ => (ft_l15 zi R30.1 R30.2.1).mp ⟨cn_le (x := σ_30.2.2.1 91 4) (y := 16) rfl (Int32.not_lt.mp (fun z => q34.2.mpr z c35)), cn_le (x := σ_30.2.2.1 91 5) (y := 16) rfl (Int32.not_lt.mp (fun z => q38.2.mpr z c39))⟩, fun _ => by decide⟩
                · skip
                  refine solveRing_g5 hC (σ114.1 100).toNatClampNeg s hD9 ?_ (fun r40 σ_41 q42 => ?_)
                  · clear h; have kk := q26.2.mp c27
                    rw [e86] at kk
                    have e : x114_3 = σ.1 70 := Int32.le_antisymm w3 c23
                    rw [e] at M
                    have ct := M.2.2.2.2 kk
                    rw [← hs] at ct
                    have cp := cnt_pos (r := σ74.2.2.2 86) (a := (σ74.2.2.1 98 x74_1.toNatClampNeg).toNatClampNeg) (k := (σ74.2.2.1 98 x74_1.toNatClampNeg).toNatClampNeg) ⟨kk, kk⟩ ks
                    have cl := r32_k J.2.2.2.2.1 J.2.2.2.2.2.1 ks kk
                    have i32 := i_32 M.1 (by omega) (by omega)
                    refine ⟨pOK_M hO J2.1, i32.1, i32.2, rfl, ⟨fun a ha => ⟨(M.2.2.1 a ha).1, by rw [h70]; exact (M.2.2.1 a ha).2.1⟩, M.2.2.2.1⟩, fun a ha => ?_, by rw [h70]; exact hs, V2⟩
                    have y := M.2.2.1 a ha
                    have ys : (σ114.2.2.1 99 a).toNatClampNeg < s := by rw [hs]; exact cn_lt y.1 y.2.1
                    have yr : bR (σ74.2.2.2 86) (σ74.2.2.1 98 x74_1.toNatClampNeg).toNatClampNeg (σ114.2.2.1 99 a).toNatClampNeg = true := by
                      rcases y.2.2 with z | z
                      · rw [z]; exact kk
                      · exact z.1
                    have op := (rb_op J.2.2.2.2.1 ks ys yr).2
                    rw [cnE_M J2.1]
                    exact J.2.2.2.1 _ ys op
                  obtain ⟨q42, z9⟩ := q42
                  have zr := z9
                  refine hj223 _ _ _ ?_
                  · refine and_5 ?_ (fun o9 => ?_)  -- k34
                    · clear h; exact ⟨w1, c12, slJ_V J2 q42.1, q42.2.2⟩
                    · clear o9
                      have n1 : s ≤ 1000 := by rw [hs]; exact cn_le (y := 1000) rfl hO.1.1.2
                      obtain ⟨⟨⟨x, x1, x2⟩, x3⟩, mk⟩ := zr
                      obtain ⟨V, v1, v2, v3⟩ := D74.2.2
                      rw [hx14] at c15 c17
                      have nd : σ74.2.2.1 96 (σ74.2.2.1 98 x74_1.toNatClampNeg).toNatClampNeg = 0 := c17
                      have r114 : rr15 σ σ114 := fun g hg => (Y.2.2.1 g (by omega)).trans (O74.2.2.2.2.2.2.1 g hg)
                      have v114 : ∀ k, k < s → vR15 σ114 k (V k) := fun k hk => vR_f15 (Y.2.2.1 102 (by decide)) (v1 k hk)
                      have e3 : x114_3 = σ.1 70 := Int32.le_antisymm w3 c23
                      have g1 : ∀ b, b < (σ114.1 100).toNatClampNeg → mN σ114 b < s ∧ (mN σ114 b = (σ74.2.2.1 98 x74_1.toNatClampNeg).toNatClampNeg ∨ rng (σ74.2.2.2 86) (σ74.2.2.1 98 x74_1.toNatClampNeg).toNatClampNeg (mN σ114 b)) := fun b hb => by
                        have y := M.2.2.1 b hb
                        exact ⟨by rw [hs]; exact cn_lt y.1 (Int32.lt_of_lt_of_le y.2.1 w3), y.2.2⟩
                      have g2 : ∀ a b, a < (σ114.1 100).toNatClampNeg → b < (σ114.1 100).toNatClampNeg → mN σ114 a = mN σ114 b → a = b := fun a b ha hb e => M.2.2.2.1 a b ha hb (cj_15 (M.2.2.1 a ha).1 (M.2.2.1 b hb).1 e)
                      have g3 : ∀ j, j < s → (j = (σ74.2.2.1 98 x74_1.toNatClampNeg).toNatClampNeg ∨ rng (σ74.2.2.2 86) (σ74.2.2.1 98 x74_1.toNatClampNeg).toNatClampNeg j) → ∃ b, b < (σ114.1 100).toNatClampNeg ∧ mN σ114 b = j := fun j hj g => hE j (by rw [e3, ← hs]; exact hj) g
                      have on : ∀ b, b < (σ114.1 100).toNatClampNeg → σ114.2.2.1 99 b = Int32.ofNat (mN σ114 b) := fun b hb => by
                        have c := cn_int (M.2.2.1 b hb).1
                        have l := (g1 b hb).1
                        refine Int32.toInt_inj.mp ?_
                        unfold mN at l ⊢
                        rw [ofn_i (by omega)]
                        omega
                      have hX : ∀ b, b < (σ114.1 100).toNatClampNeg → x b = (if mN σ114 b = 0 then 1 else 0) + smQ (fun j => V j * pR15 σ s j (mN σ114 b)) s + smQ (fun r => x r * pR15 σ s (mN σ114 r) (mN σ114 b)) (σ114.1 100).toNatClampNeg := fun b hb => by
                        have q := x1 b hb
                        have f := iF_m15 (τ := σ114) (j := mN σ114 b) (t := σ114.2.2.1 99 b) r114 n1 (on b hb) (g1 b hb).1 v114 (fun k hk z => v2.1 k hk (fun y => y (by rw [← Y.2.2.1 96 (by decide)]; exact z)))
                        rw [← f]
                        refine q.trans ?_
                        congr 1
                        refine smQ_c (fun r hr => ?_)
                        rw [← pR_o15 r114 (by have := (g1 r hr).1; omega) (g1 b hb).1, pR_v15 (by have := (g1 r hr).1; omega) (g1 b hb).1]
                        show x r * mkRat (rK σ114 (σ114.1 100).toNatClampNeg r b) (riT σ114 r) = _
                        unfold rK riT
                        rw [if_neg (by omega), on b hb]
                      have exV : ∀ j, ∃ q : Rat, (∀ b, b < (σ114.1 100).toNatClampNeg → mN σ114 b = j → q = x b) ∧ ((¬ ∃ b, b < (σ114.1 100).toNatClampNeg ∧ mN σ114 b = j) → q = V j) := fun j => by
                        by_cases c : ∃ b, b < (σ114.1 100).toNatClampNeg ∧ mN σ114 b = j
                        · obtain ⟨b, b1, b2⟩ := c
                          exact ⟨x b, fun d d1 d2 => by rw [g2 d b d1 b1 (d2.trans b2.symm)], fun z => absurd ⟨b, b1, b2⟩ z⟩
                        · exact ⟨V j, fun d d1 d2 => absurd ⟨d, d1, d2⟩ c, fun _ => rfl⟩
                      obtain ⟨V', hV'⟩ := Classical.axiomOfChoice exV
                      have E := dr_15 hO hs O74 D74 xs rfl ((O74.1 _ ks).mp c15) nd v2 g1 g2 g3 hX (fun j _ c => (hV' j).2 c) (fun b hb => (hV' _).1 b hb rfl)
                      have m96 : ∀ k, σ_41.2.2.1 96 k ≠ 0 ↔ σ74.2.2.1 96 k ≠ 0 ∨ ∃ b, b < (σ114.1 100).toNatClampNeg ∧ mN σ114 b = k := fun k => by
                        have q := mk k
                        rw [Y.2.2.1 96 (by decide)] at q
                        exact q
                      have O41 : ∀ g, g ≠ 90 → g ≠ 91 → g ≠ 93 → g ≠ 96 → g ≠ 99 → g ≠ 102 → σ_41.2.2.1 g = σ74.2.2.1 g := fun g h1 h2 h3 h4 h5 h6 => (q42.1.2.2.1 g h1 h2 h3 h4 h6).trans (Y.2.2.1 g h5)
                      have e86' : σ_41.2.2.2 86 = σ74.2.2.2 86 := by rw [q42.1.2.2.2.1]; exact e86
                      refine ⟨by rw [q42.1.1 0 (by decide), Y.1 0 (by decide)]; exact z74, oK_f15 O74 O41 e86', fun gz => ?_, fun gz => ?_⟩
                      · rw [w1]
                        have x2' := x2.resolve_right (fun z => gz z.1)
                        refine ⟨fun k hk z => ?_, fun i hi his c => ?_, V', fun k hk => ?_, vE_c15 E (fun k _ => (m96 k).symm) (fun _ _ => rfl), fun k hk => ?_⟩
                        · rcases (m96 k).mp z with y | ⟨b, b1, b2⟩
                          · exact D74.1 k hk y
                          · rw [← b2]
                            rcases (g1 b b1).2 with y | y
                            · rw [y]; exact (O74.1 _ ks).mp c15
                            · exact ((bt_15 hO hs O74 ks (g1 b b1).1).mp y.1).2
                        · have eo : oN15 σ_41 i = oN15 σ74 i := by
                            unfold oN15
                            rw [O41 98 (by decide) (by decide) (by decide) (by decide) (by decide) (by decide)]
                          rw [eo] at c ⊢
                          rw [m96]
                          by_cases e : i = x74_1.toNatClampNeg
                          · right
                            rw [e]
                            exact g3 _ ks (Or.inl rfl)
                          · exact Or.inl (D74.2.1 i (by omega) his c)
                        · by_cases c : ∃ b, b < (σ114.1 100).toNatClampNeg ∧ mN σ114 b = k
                          · obtain ⟨b, b1, b2⟩ := c
                            rw [← b2, (hV' _).1 b b1 rfl]
                            exact (x2'.2 b b1).2
                          · rw [(hV' k).2 c]
                            exact vR_e15 (x3 k (fun b hb e => c ⟨b, hb, e⟩)) (V2 k hk) (v114 k hk)
                        · by_cases c : ∃ b, b < (σ114.1 100).toNatClampNeg ∧ mN σ114 b = k
                          · obtain ⟨b, b1, b2⟩ := c
                            rw [← b2, (hV' _).1 b b1 rfl]
                            exact (x2'.2 b b1).1
                          · rw [(hV' k).2 c]
                            exact v3 k hk
                      · obtain ⟨b, b1, b2⟩ := (x2.resolve_left (fun z => z.1 gz)).2
                        refine ⟨V', _, E, mN σ114 b, (g1 b b1).1, Or.inr ⟨b, b1, rfl⟩, ?_, by rw [(hV' _).1 b b1 rfl]; exact b2⟩
                        rcases (g1 b b1).2 with y | y
                        · rw [y]; exact (O74.1 _ ks).mp c15
                        · exact ((bt_15 hO hs O74 ks (g1 b b1).1).mp y.1).2
              · skip
                have w := uk w0 c23 n1000
                refine ⟨fun c43 => ?_, fun c43 => ?_⟩
                · skip
                  refine hj136 _ _ _ _ ?_
                  · refine and_5 ?_ (fun o9 => hE)  -- k35
                    clear h; exact ⟨w1, rfl, rfl, c23, rfl, Or.inl (by rw [c43])⟩
                · skip
                  refine isRingWith_c hC  ?_ (fun r44 q46 => ?_)
                  · clear h; exact ⟨o.1, o1, w0, w.2.2.2.2.2⟩  -- p36
                  have qr := q46.2
                  rw [e86] at qr
                  refine ⟨fun c47 => ?_, fun c47 => ?_⟩
                  · skip
                    intro x48 hx48
                    refine lp_b5 (cn_lt2 hn114 ?_ ?_) (fun d9 => ⟨rfl, ?_⟩)
                    · clear h; rw [hx48]; exact w.1  -- d37
                    · clear h; rw [hx48]; exact w.2.1  -- d38
                    · refine and_5 ?_ (fun o9 => ?_)  -- i39
                      · clear h; rw [hx48]; exact ⟨w1, rfl, w.2.2.1, w.2.2.2.1, Y, mb_n M w.2.2.2.2.2 (fun z => qr.mpr z c47)⟩
                      · clear o9
                        have ls := cn_succ w0 (Int32.lt_trans w.2.2.2.2.2 (by decide))
                        rw [hx48, ls]
                        intro m hm g
                        by_cases e : m = x114_3.toNatClampNeg
                        · rw [e] at g
                          rcases g with y | y
                          · exact absurd (cj_15 w0 o.1 y) c43
                          · exact absurd c47 (qr.mpr y)
                        · exact hE m (by omega) g
                  · skip
                    refine hj136 _ _ _ _ ?_
                    · refine and_5 ?_ (fun o9 => hE)  -- k40
                      clear h; exact ⟨w1, rfl, rfl, c23, rfl, Or.inr (qr.mp c47)⟩
      · skip
        have u := uk a0 c6 n1000
        have as := cn_succ a0 (Int32.lt_trans u.2.2.2.2.2 (by decide))
        refine ⟨ib_1000.mpr ?_, ?_⟩
        · clear h; exact ⟨a0, u.2.2.2.2.2⟩  -- b41
        refine ⟨fun c49 => ?_, fun c49 => ?_⟩
        · skip
          intro x50 hx50
          refine lp_b5 (cn_lt2 hn36 ?_ ?_) (fun d9 => ⟨rfl, ?_⟩)
          · clear h; rw [hx50]; exact u.1  -- d42
          · clear h; rw [hx50]; exact u.2.1  -- d43
          · refine and_5 ?_ (fun o9 => trivial)  -- i44
            clear h; rw [hx50, as]
            refine ⟨rfl, u.2.2.1, u.2.2.2.1, fun k hk z => ?_⟩
            by_cases e : k = x36_1.toNatClampNeg
            · rw [e] at z; exact absurd c49 z
            · exact R k (by omega) z
        · skip
          refine ringOf_g5 hC  ?_ (fun r51 q53 => ?_)
          · clear h; rw [e70]; exact ⟨a0, u.2.2.2.2.1, n1000⟩  -- p45
          obtain ⟨q53, z9⟩ := q53
          have zg := z9
          rw [e70, ← hs] at q53
          refine ⟨fun c54 => ?_, fun c54 => ?_⟩
          · skip
            intro x55 hx55
            refine lp_b5 (cn_lt2 hn36 ?_ ?_) (fun d9 => ⟨rfl, ?_⟩)
            · clear h; rw [hx55]; exact u.1  -- d46
            · clear h; rw [hx55]; exact u.2.1  -- d47
            · refine and_5 ?_ (fun o9 => trivial)  -- i48
              clear h; rw [hx55, as]
              refine ⟨rfl, u.2.2.1, u.2.2.2.1, fun k hk z z1 z2 => ?_⟩
              by_cases e : k = x36_1.toNatClampNeg
              · rw [e] at z1 z2 ⊢
                rw [← q53.2.2 z1 z2]
                exact cn_le (y := 32) rfl c54
              · exact R k (by omega) z z1 z2
          · skip
            refine h _ _ ?_
            · refine and_5 ?_ (fun o9 => ?_)  -- q49
              · clear h; exact ⟨F4, fun z => absurd c4 z, K4⟩
              · clear o9
                have kk : x36_1.toNatClampNeg < s := by rw [hs]; exact cn_lt a0 u.2.2.2.2.1
                have g : rl8 (σ_4.2.2.2 86) x36_1.toNatClampNeg ∧ r51.toNatClampNeg = cntR (σ_4.2.2.2 86) x36_1.toNatClampNeg (σ_4.1 70).toNatClampNeg := zg.resolve_left (fun z => c54 (by rw [z.2]; decide))
                rw [e70, ← hs] at g
                have c54' := Int32.not_le.mp c54
                rw [lti, show (32 : Int32).toInt = 32 from rfl] at c54'
                have cr := cnk (x := r51) (by omega)
                exact Or.inr ⟨e69, z04, Or.inr (Or.inr ⟨rfl, yb_15 hO hs rr4 op4 q5.2.2.2.2.1 kk ((op4 _ kk).mp c49) g.1.1 (by omega)⟩), ⟨fun z => absurd z (by decide), fun z => absurd c4 z⟩, fun z => absurd z (by decide)⟩
    · skip
      refine h _ _ ?_
      · refine and_5 ?_ (fun o9 => ?_)  -- q50
        · clear h; rw [hσ_1, j13]
          exact ⟨frM_0 (by decide), fun z k hk => vOK_f rfl (hv z k hk), nK_r rfl rfl⟩
        · clear o9
          left
          have z : σ.1 69 = 0 := Decidable.byContradiction (fun y => c2 (by
            rw [hσ_1, si1, if_pos rfl, hE, if_neg y]
            decide))
          exact ⟨z, by rw [hσ_1, si1, if_pos rfl, hE, if_pos z], by rw [hσ_1, si1, if_neg (by decide), j13]⟩
  refine ⟨fun c56 => ?_, fun c56 => ?_⟩
  · skip
    refine hj13 _ _ ?_
    · refine and_5 ?_ (fun o9 => ?_)  -- k51
      · clear h; rfl
      · clear o9
        first | exact (if_pos c56).symm | exact (if_neg c56).symm
  · skip
    refine hj13 _ _ ?_
    · refine and_5 ?_ (fun o9 => ?_)  -- k52
      · clear h; rfl
      · clear o9
        first | exact (if_pos c56).symm | exact (if_neg c56).symm

end
