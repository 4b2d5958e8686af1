set_option maxHeartbeats 1600000
/-! the reference: a draw -/
abbrev dwF : List Nat := [10, 11, 12, 13, 47, 48, 49, 61, 63, 66]
abbrev dwR : List Nat := [50, 51, 52, 64, 65]
/-- the sum of the first n weights -/
def wsum (r : Nat → Int32) : Nat → Int
  | 0 => 0
  | n + 1 => wsum r n + (r n).toInt
theorem wsum_b {r : Nat → Int32} {n : Nat} {m : Int} (h : ∀ i, i < n → 0 ≤ (r i).toInt ∧ (r i).toInt ≤ m) : 0 ≤ wsum r n ∧ wsum r n ≤ n * m := by
  induction n with
  | zero => exact ⟨Int.le_refl _, by show (0 : Int) ≤ 0 * m; rw [Int.zero_mul]; exact Int.le_refl _⟩
  | succ n ih =>
    have g := ih (fun i hi => h i (by omega))
    have e := h n (by omega)
    have d : ((n + 1 : Nat) : Int) * m = (n : Int) * m + m := by rw [Int.natCast_add, Int.add_mul]; omega
    show 0 ≤ wsum r n + (r n).toInt ∧ wsum r n + (r n).toInt ≤ ((n + 1 : Nat) : Int) * m
    omega
/-- the outcomes of a draw: their number, their weights, the total -/
def oW (σ : rS) : Prop := 1 ≤ σ.1 63 ∧ σ.1 63 ≤ 64 ∧ (∀ i, i < (σ.1 63).toNatClampNeg → 0 ≤ σ.2.2.1 65 i ∧ σ.2.2.1 65 i ≤ 1000000) ∧ (σ.1 66).toInt = wsum (σ.2.2.1 65) (σ.1 63).toNatClampNeg ∧ 0 < σ.1 66 ∧ σ.1 66 ≤ 8000000
/-- outcomes before they are weighed -/
def oP (σ : rS) : Prop := 0 ≤ σ.1 63 ∧ σ.1 63 ≤ 64 ∧ (σ.1 63 ≤ 8 ∨ ∀ i, i < (σ.1 63).toNatClampNeg → σ.2.2.1 65 i = 1)
theorem st_3 {S N R : Nat → Int32} {B T k b x : Int32} (h : stK S N R B T k b x) (hk : k = 3) : B ≤ x ∧ x < T ∧ drO S N R T x := by
  rcases h with ⟨q, -⟩ | ⟨q, -⟩ | ⟨-, -, q⟩ | ⟨q, -⟩ | ⟨q, -⟩ | ⟨q, -⟩
  · rw [hk] at q; exact absurd q (by decide)
  · rw [hk] at q; exact absurd q (by decide)
  · exact q
  · rw [hk] at q; exact absurd q (by decide)
  · rw [hk] at q; exact absurd q (by decide)
  · rw [hk] at q; exact absurd q (by decide)
theorem oP_o {σ τ : rS} (h : oP σ) (h63 : τ.1 63 = σ.1 63) (h65 : τ.2.2.1 65 = σ.2.2.1 65) : oP τ := by
  unfold oP
  rw [h63, h65]; exact h
theorem ws_b {r : Nat → Int32} {n : Nat} (h : ∀ i, i < n → 0 ≤ r i ∧ r i ≤ 1000000) : 0 ≤ wsum r n ∧ wsum r n ≤ n * 1000000 := wsum_b (fun i hi => ⟨t0 (h i hi).1, ti (h i hi).2⟩)
theorem ws_step {r : Nat → Int32} {t x : Int32} (x0 : 0 ≤ x) (x1 : x < 64) (h : ∀ i, i < x.toNatClampNeg → 0 ≤ r i ∧ r i ≤ 1000000) (ht : t.toInt = wsum r x.toNatClampNeg) (w0 : 0 ≤ r x.toNatClampNeg) (w1 : r x.toNatClampNeg ≤ 1000000) : (t + r x.toNatClampNeg).toInt = wsum r (x + 1).toNatClampNeg ∧ ∀ i, i < (x + 1).toNatClampNeg → 0 ≤ r i ∧ r i ≤ 1000000 := by
  have b := ws_b h
  have e := cn_succ x0 (Int32.lt_trans x1 (by decide))
  have xn : x.toNatClampNeg ≤ 64 := cn_le (y := 64) rfl (Int32.le_of_lt x1)
  have w2 := ti w1
  rw [show (1000000 : Int32).toInt = 1000000 from rfl] at w2
  have w3 := t0 w0
  have tn : 0 ≤ t := Int32.le_iff_toInt_le.mpr (by rw [Int32.toInt_zero]; omega)
  rw [e]
  refine ⟨?_, fun i hi => ?_⟩
  · show _ = wsum r x.toNatClampNeg + (r x.toNatClampNeg).toInt
    rw [← ht]
    exact i_add tn w0 (by omega)
  · by_cases z : i = x.toNatClampNeg
    · rw [z]; exact ⟨w0, w1⟩
    · exact h i (by omega)
theorem oW_of {σ : rS} {x : Int32} (hP : oP σ) (e : x = σ.1 63) (v1 : ∀ i, i < x.toNatClampNeg → 0 ≤ σ.2.2.1 65 i ∧ σ.2.2.1 65 i ≤ 1000000) (v2 : (σ.1 66).toInt = wsum (σ.2.2.1 65) x.toNatClampNeg) (nz : ¬ σ.1 66 = 0) : oW σ := by
  subst e
  have b := ws_b v1
  have xn : (σ.1 63).toNatClampNeg ≤ 64 := cn_le (y := 64) rfl hP.2.1
  have nz' : (σ.1 66).toInt ≠ 0 := fun z => nz (Int32.toInt_inj.mp (by rw [z]; rfl))
  refine ⟨?_, hP.2.1, v1, v2, ?_, ?_⟩
  · refine Decidable.byContradiction (fun z => ?_)
    have z' : (σ.1 63).toNatClampNeg = 0 := cn_zero (by clear b v1 v2 xn nz nz'; grind)
    rw [z'] at v2
    exact nz' v2
  · exact Int32.lt_iff_toInt_lt.mpr (by rw [Int32.toInt_zero]; omega)
  · refine Int32.le_iff_toInt_le.mpr ?_
    rw [show (8000000 : Int32).toInt = 8000000 from rfl]
    rcases hP.2.2 with h8 | h1
    · have : (σ.1 63).toNatClampNeg ≤ 8 := cn_le (y := 8) rfl h8
      omega
    · have := (wsum_b (r := σ.2.2.1 65) (n := (σ.1 63).toNatClampNeg) (m := 1) (fun i hi => by rw [h1 i hi]; exact ⟨by decide, by decide⟩)).2
      omega
theorem prB_e {S N R : Nat → Int32} {T p : Int32} {k : Nat} (h : prB S N R T k p) : ∃ e1 e2, ePa S N R (p + 1) e1 ∧ p + 1 ≤ e1 ∧ p < p + 1 ∧ ePa S N R (e1 + 1) e2 ∧ e1 < e1 + 1 ∧ e1 + 1 ≤ e2 ∧ e2 < T ∧ (sg S N e2 44 → ∃ j, k = j + 1 ∧ prB S N R T j e2) := by
  cases k with
  | zero =>
    obtain ⟨e1, e2, h1, h2, h3, h4, h5, h6, h7, h8⟩ := h
    exact ⟨e1, e2, h1, h2, h3, h4, h5, h6, h7, fun z => absurd z h8⟩
  | succ k =>
    obtain ⟨e1, e2, h1, h2, h3, h4, h5, h6, h7, h8, h9⟩ := h
    exact ⟨e1, e2, h1, h2, h3, h4, h5, h6, h7, fun _ => ⟨k, rfl, h9⟩⟩
theorem lt8n {x : Int32} {k : Nat} (h0 : 0 ≤ x) (h : k + x.toNatClampNeg < 8) : x < 8 := by
  have := cn_int h0
  refine Int32.lt_iff_toInt_lt.mpr ?_
  rw [show (8 : Int32).toInt = 8 from rfl]
  omega
theorem up88 {x : Int32} (h0 : 0 ≤ x) (h : x < 8) : 0 ≤ x + 1 ∧ x + 1 ≤ 8 ∧ x < 64 ∧ x < 1000000 := by grind
theorem ePa_ge {S N R : Nat → Int32} {a e : Int32} (h : ePa S N R a e) : a ≤ e := by obtain ⟨n, hn⟩ := h; exact eTo_ge hn
theorem draw_c {C : rCx} (hC : cOK C) (B T : Int32) {σ : rS} {a1 : Int32} {Q : Int32 → rS → Prop} (hp : m1 σ B T ∧ 0 ≤ a1 ∧ a1 < σ.1 19 ∧ rd σ 30 a1 = 3) (h : ∀ (v : Int32) (σ' : rS), (frG dwF dwR σ σ' ∧ (v = 2 ∨ (v = 4 ∧ oW σ'))) → Q v σ') : cI C 8 m_draw [.ref (co C), .int a1] σ Q := by
  refine m_draw_run hC ?_
  unfold w_draw_0
  obtain ⟨hm, h0, h1, h3⟩ := hp
  have hT := m1_T hm
  obtain ⟨hB, hx, hd⟩ := st_3 (m1_st hm h0 h1) h3
  have hj329 : ∀  (τ : rS), (frG dwF dwR σ τ) → w_draw_329 C Q   τ := by
    rintro  τ329 j329
    unfold w_draw_329
    refine fail_c hC  (fun r1 σ_2 q3 => ?_)
    refine h _ _ ?_
    · clear h; exact ⟨frG_tr j329 (frG_61 q3.1 (by decide)), Or.inl q3.2⟩  -- q1
  have hj228 : ∀  (τ : rS), (frG dwF dwR σ τ ∧ oP τ) → w_draw_228 C Q   τ := by
    rintro  τ228 j228
    unfold w_draw_228
    intro σ_4 hσ_4
    unfold w_draw_239
    refine ⟨fun n l4 l5 τ => n = (τ228.1 63 - l5).toNatClampNeg ∧ (frG dwF dwR σ τ ∧ oP τ ∧ τ.1 63 = τ228.1 63 ∧ 0 ≤ l5 ∧ l5 ≤ τ228.1 63 ∧ (l4 ≠ 0 → (∀ i, i < l5.toNatClampNeg → 0 ≤ τ.2.2.1 65 i ∧ τ.2.2.1 65 i ≤ 1000000) ∧ (τ.1 66).toInt = wsum (τ.2.2.1 65) l5.toNatClampNeg)), ⟨_, rfl, ?_⟩, ?_⟩
    · clear h; refine ⟨frG_tr j228.1 (by rw [hσ_4]; exact frG_0 (by decide)), oP_o j228.2 (by rw [hσ_4, si1, if_neg (by decide)]) (by rw [hσ_4, si2]), by rw [hσ_4, si1, if_neg (by decide)], by decide, j228.2.1, fun _ => ⟨fun i i1 => absurd i1 (Nat.not_lt_zero i), by rw [hσ_4, si1, if_pos rfl]; rfl⟩⟩  -- j2
    rintro n239 x239_4 x239_5 σ239 ⟨hn239, i239⟩
    have hj275 : ∀ (l5 : Int32) (s0 : Int32) (τ : rS), (τ = σ239 ∧ l5 = x239_5 ∧ ¬ σ239.1 63 ≤ x239_5 ∧ (s0 ≠ 0 → x239_4 ≠ 0 ∧ 0 ≤ rd σ239 65 x239_5 ∧ rd σ239 65 x239_5 ≤ 1000000)) → w_draw_275 C Q (fun l4' l5' τ => ∃ k < n239, (fun n l4 l5 τ => n = (τ228.1 63 - l5).toNatClampNeg ∧ (frG dwF dwR σ τ ∧ oP τ ∧ τ.1 63 = τ228.1 63 ∧ 0 ≤ l5 ∧ l5 ≤ τ228.1 63 ∧ (l4 ≠ 0 → (∀ i, i < l5.toNatClampNeg → 0 ≤ τ.2.2.1 65 i ∧ τ.2.2.1 65 i ≤ 1000000) ∧ (τ.1 66).toInt = wsum (τ.2.2.1 65) l5.toNatClampNeg))) k l4' l5' τ) l5 s0 τ := by
      rintro y275_5 y275_s0 τ275 j275
      unfold w_draw_275
      obtain ⟨je, j1, j2', j3⟩ := j275
      have c' : ¬ τ228.1 63 ≤ x239_5 := by rw [← i239.2.2.1]; exact j2'
      have u := up_n i239.2.2.2.1 c' j228.2.2.1
      refine ⟨ib_64.mpr ?_, ?_⟩
      · clear h; rw [j1]; exact ⟨i239.2.2.2.1, u.2.2.2.2.2⟩  -- b3
      intro σ_5 hσ_5
      intro x6 hx6
      refine ⟨_, cn_lt2 hn239 ?_ ?_, rfl, ?_⟩
      · clear h; rw [hx6, j1]; exact u.1  -- d4
      · clear h; rw [hx6, j1]; exact u.2.1  -- d5
      · clear h; rw [hx6, j1]
        have s5 : σ_5.2 = σ239.2 := by rw [hσ_5, si2, je]
        have e63 : σ_5.1 63 = σ239.1 63 := by rw [hσ_5, si1, if_neg (by decide), je]
        have e66 : σ_5.1 66 = σ239.1 66 + rd σ239 65 x239_5 := by rw [hσ_5, si1, if_pos rfl, je, j1]
        refine ⟨frG_tr i239.1 (by rw [hσ_5, je]; exact frG_0 (by decide)), oP_o i239.2.1 e63 (by rw [s5]), e63.trans i239.2.2.1, u.2.2.1, u.2.2.2.1, fun z => ?_⟩
        obtain ⟨w1, w2, w3⟩ := j3 z
        obtain ⟨v1, v2⟩ := i239.2.2.2.2.2 w1
        have st := ws_step i239.2.2.2.1 u.2.2.2.2.2 v1 v2 w2 w3
        rw [s5, e66]
        exact ⟨st.2, st.1⟩
    refine ⟨fun c7 => ?_, fun c7 => ?_⟩
    · skip
      refine ⟨fun c8 => ?_, fun c8 => ?_⟩
      · skip
        refine ⟨fun c9 => ?_, fun c9 => ?_⟩
        · skip
          refine hj329 _ ?_
          · clear h; exact i239.1  -- k7
        · skip
          refine ⟨fun c10 => ?_, fun c10 => ?_⟩
          · skip
            refine h _ _ ?_
            · clear h; obtain ⟨v1, v2⟩ := i239.2.2.2.2.2 c9
              refine ⟨i239.1, Or.inr ⟨rfl, oW_of i239.2.1 ?_ v1 v2 c10⟩⟩
              exact Int32.le_antisymm (by rw [i239.2.2.1]; exact i239.2.2.2.2.1) c7
          · skip
            refine hj329 _ ?_
            · clear h; exact i239.1  -- k9
      · skip
        refine fail_c hC  (fun r11 σ_12 q13 => ?_)
        refine h _ _ ?_
        · clear h; exact ⟨frG_tr i239.1 (frG_61 q13.1 (by decide)), Or.inl q13.2⟩  -- q10
    · skip
      refine ⟨fun c14 => ?_, fun c14 => ?_⟩
      · skip
        refine hj275 _ _ _ ?_
        · clear h; exact ⟨rfl, rfl, c7, fun z => absurd rfl z⟩  -- k11
      · skip
        refine ⟨ib_64.mpr ?_, ?_⟩
        · clear h; exact ⟨i239.2.2.2.1, (up_n i239.2.2.2.1 (by rw [← i239.2.2.1]; exact c7) j228.2.2.1).2.2.2.2.2⟩  -- b12
        refine within_c hC  (fun r15 q17 => ?_)
        refine ⟨fun c18 => ?_, fun c18 => ?_⟩
        · skip
          refine hj275 _ _ _ ?_
          · clear h; exact ⟨rfl, rfl, c7, fun z => absurd rfl z⟩  -- k13
        · skip
          refine hj275 _ _ _ ?_
          · clear h; exact ⟨rfl, rfl, c7, fun _ => ⟨c14, q17.2.mp c18⟩⟩  -- k14
  have hj65 : ∀  (τ : rS), (frG dwF dwR σ τ) → w_draw_65 C Q   τ := by
    rintro  τ65 j65
    unfold w_draw_65
    refine ⟨fun c19 => ?_, fun c19 => ?_⟩
    · skip
      refine fail_c hC  (fun r20 σ_21 q22 => ?_)
      refine h _ _ ?_
      · clear h; exact ⟨frG_tr j65 (frG_61 q22.1 (by decide)), Or.inl q22.2⟩  -- q15
    · skip
      refine fail_c hC  (fun r23 σ_24 q25 => ?_)
      refine h _ _ ?_
      · clear h; exact ⟨frG_tr j65 (frG_61 q25.1 (by decide)), Or.inl q25.2⟩  -- q16
  intro σ_26 hσ_26
  refine ⟨ib_150.mpr ?_, ?_⟩
  · clear h; exact ⟨h0, s150 hm.1 h1⟩  -- b17
  intro σ_27 hσ_27
  have e27 : ∀ k, k ≠ 63 → k ≠ 10 → σ_27.1 k = σ.1 k := fun k z1 z2 => by rw [hσ_27, si1, if_neg z2, hσ_26, si1, if_neg z1]
  have s27 : σ_27.2 = σ.2 := by rw [hσ_27, si2, hσ_26, si2]
  have a27 : σ_27.1 10 = rd σ 32 a1 := by rw [hσ_27, si1, if_pos rfl, hσ_26, si2]
  have z27 : σ_27.1 63 = 0 := by rw [hσ_27, si1, if_neg (by decide), hσ_26, si1, if_pos rfl]
  have f27 : frG dwF dwR σ σ_27 := by rw [hσ_27, hσ_26]; exact frG_tr (frG_0 (by decide)) (frG_0 (by decide))
  have m27 : m1 σ_27 B T := m1_fr hm (frG_mono f27 (by decide) (by decide)) (e27 46 (by decide) (by decide)) (e27 58 (by decide) (by decide)) (e27 11 (by decide) (by decide)) (e27 47 (by decide) (by decide)) (e27 13 (by decide) (by decide))
  have x2 := lc_2 hT.1 hB hx hT.2
  refine isWord_c hC  ?_ (fun r28 q30 => ?_)
  · clear h; rw [a27]; exact ⟨Int32.le_trans hT.1 hB, Int32.lt_trans hx hT.2⟩  -- p18
  refine isWord_c hC  ?_ (fun r31 q33 => ?_)
  · clear h; rw [a27]; exact ⟨Int32.le_trans hT.1 hB, Int32.lt_trans hx hT.2⟩  -- p19
  have w11 : r28 ≠ 0 ↔ σ.2.2.1 5 (rd σ 32 a1).toNatClampNeg = 6 ∧ σ.2.2.1 7 (rd σ 32 a1).toNatClampNeg = 11 := by rw [q30.2, rd, rd, s27, a27]
  have w12 : r31 ≠ 0 ↔ σ.2.2.1 5 (rd σ 32 a1).toNatClampNeg = 6 ∧ σ.2.2.1 7 (rd σ 32 a1).toNatClampNeg = 12 := by rw [q33.2, rd, rd, s27, a27]
  refine ⟨fun c34 => ?_, fun c34 => ?_⟩
  · skip
    refine ⟨fun c35 => ?_, fun c35 => ?_⟩
    · skip
      unfold w_draw_162
      refine ⟨fun n l4 τ => n = eMs (τ.1 47) 0 (if l4 = 0 then 2 else 0) (τ.1 10) T ∧ (frG dwF dwR σ τ ∧ 0 ≤ τ.1 47 ∧ (B ≤ τ.1 10 ∧ τ.1 10 ≤ T) ∧ 0 ≤ τ.1 63 ∧ τ.1 63 ≤ 8 ∧ (τ.1 47 = 0 → m1 τ B T ∧ (l4 ≠ 0 → ∃ k, k + (τ.1 63).toNatClampNeg < 8 ∧ prB (σ.2.2.1 5) (σ.2.2.1 7) (σ.2.2.1 39) T k (τ.1 10)))), ⟨_, rfl, ?_⟩, ?_⟩
      · clear h; refine ⟨f27, by rw [m27.2.2.2.2.1]; decide, ⟨by rw [a27]; exact hB, by rw [a27]; exact Int32.le_of_lt hx⟩, by rw [z27]; decide, by rw [z27]; decide, fun _ => ⟨m27, fun _ => ?_⟩⟩
        obtain ⟨k, hk, hpr⟩ := hd.2.2 (fun z => by
          rcases z.2 with y | y
          · exact w11.mpr ⟨z.1, y⟩ c34
          · exact w12.mpr ⟨z.1, y⟩ c35)
        exact ⟨k, by rw [z27]; exact hk, by rw [a27]; exact hpr⟩
      rintro n162 x162_4 σ162 ⟨hn162, i162⟩
      have hj207 : ∀ (l5 : Int32) (s0 : Int32) (τ : rS), (frG dwF dwR σ τ ∧ 0 ≤ τ.1 47 ∧ (B ≤ τ.1 10 ∧ τ.1 10 ≤ T) ∧ τ.1 63 = σ162.1 63 ∧ 0 ≤ σ162.1 63 ∧ σ162.1 63 < 8 ∧ σ162.1 47 = 0 ∧ x162_4 ≠ 0 ∧ (τ.1 47 = 0 → m1 τ B T ∧ σ162.1 10 < τ.1 10 ∧ (sg (σ.2.2.1 5) (σ.2.2.1 7) (τ.1 10) 44 → ∃ k, k + (σ162.1 63).toNatClampNeg + 1 < 8 ∧ prB (σ.2.2.1 5) (σ.2.2.1 7) (σ.2.2.1 39) T k (τ.1 10)))) → w_draw_207 C Q (fun l4' τ => ∃ k < n162, (fun n l4 τ => n = eMs (τ.1 47) 0 (if l4 = 0 then 2 else 0) (τ.1 10) T ∧ (frG dwF dwR σ τ ∧ 0 ≤ τ.1 47 ∧ (B ≤ τ.1 10 ∧ τ.1 10 ≤ T) ∧ 0 ≤ τ.1 63 ∧ τ.1 63 ≤ 8 ∧ (τ.1 47 = 0 → m1 τ B T ∧ (l4 ≠ 0 → ∃ k, k + (τ.1 63).toNatClampNeg < 8 ∧ prB (σ.2.2.1 5) (σ.2.2.1 7) (σ.2.2.1 39) T k (τ.1 10))))) k l4' τ) l5 s0 τ := by
        rintro y207_5 y207_s0 τ207 j207
        unfold w_draw_207
        obtain ⟨j1, j2, j3, j4, j5, j6, j7, j8, j9⟩ := j207
        have u := up88 j5 j6
        refine outcome_c hC  ?_ (fun σ_36 q37 => ?_)
        · clear h; rw [j4]; exact ⟨j5, u.2.2.1⟩  -- p21
        have a36 : σ_36.1 10 = τ207.1 10 := q37.1.1 10 (by decide)
        have g36 : σ_36.1 47 = τ207.1 47 := q37.1.1 47 (by decide)
        have f36 : frG dwF dwR σ σ_36 := frG_tr j1 (frG_oc q37.1 (by decide) (by decide) (by decide))
        have n36 : σ_36.1 63 = σ162.1 63 + 1 := by rw [q37.2.1, j4]
        refine isAt_c hC  ?_ (fun r38 q40 => ?_)
        · clear h; rw [a36]; exact ⟨Int32.le_trans hT.1 j3.1, Int32.lt_of_le_of_lt j3.2 hT.2⟩  -- p22
        refine ⟨_, ?_, rfl, ?_⟩
        · clear h; show eMs (σ_36.1 47) 0 (if r38 = 0 then 2 else 0) (σ_36.1 10) T < n162
          rw [hn162, j7, if_neg j8, a36, g36]
          exact eMs_lt (by decide) (fun f1 _ _ => (j9 f1).2.1) (Int32.le_trans hT.1 i162.2.2.1.1) j3.2
        · clear h; refine ⟨f36, by rw [g36]; exact j2, by rw [a36]; exact j3, by rw [n36]; exact u.1, by rw [n36]; exact u.2.1, fun z => ?_⟩
          rw [g36] at z
          obtain ⟨v1, v2, v3⟩ := j9 z
          refine ⟨m1_fr v1 (frG_oc q37.1 (by decide) (by decide) (by decide)) (q37.1.1 46 (by decide)) (q37.1.1 58 (by decide)) (q37.1.1 11 (by decide)) g36 (q37.1.1 13 (by decide)), fun nz => ?_⟩
          have s44 := q40.2.mp nz
          rw [rd, rd, f36.2.2.1 5 (by decide), f36.2.2.1 7 (by decide), a36] at s44
          obtain ⟨k, hk, hpr⟩ := v3 s44
          refine ⟨k, ?_, by rw [a36]; exact hpr⟩
          rw [n36, cn_succ j5 u.2.2.2]; omega
      refine ⟨fun c41 => ?_, fun c41 => ?_⟩
      · skip
        refine hj228 _ ?_
        · clear h; exact ⟨i162.1, i162.2.2.2.1, Int32.le_trans i162.2.2.2.2.1 (by decide), Or.inl i162.2.2.2.2.1⟩  -- k25
      · skip
        refine ⟨fun c42 => ?_, fun c42 => ?_⟩
        · skip
          refine hj228 _ ?_
          · clear h; exact ⟨i162.1, i162.2.2.2.1, Int32.le_trans i162.2.2.2.2.1 (by decide), Or.inl i162.2.2.2.2.1⟩  -- k26
        · skip
          obtain ⟨y1, y2, y3, y4, y5, y6⟩ := i162
          obtain ⟨w1, w2⟩ := y6 c42
          obtain ⟨k, hk, hpr⟩ := w2 c41
          obtain ⟨e1, e2, g1, g2, g3, g4, g5, g6, g7, g8⟩ := prB_e hpr
          have r5 := y1.2.2.1 5 (by decide)
          have r7 := y1.2.2.1 7 (by decide)
          have r39 := y1.2.2.1 39 (by decide)
          have l8 := lt8n y4 hk
          have b1 : B ≤ σ162.1 10 + 1 := Int32.le_trans y3.1 (Int32.le_of_lt g3)
          have b2 : e1 ≤ T := Int32.le_trans (Int32.le_of_lt g5) (Int32.le_trans g6 (Int32.le_of_lt g7))
          refine work_c hC B T ?_ (fun r43 σ_44 q45 => ?_)
          · clear h; exact ⟨w1, b1, Int32.le_trans g2 b2, e1, by rw [r5, r7, r39]; exact g1⟩  -- p27
          have f44 : frG dwF dwR σ σ_44 := frG_tr y1 (frG_mono q45.1 (by decide) (by decide))
          refine ⟨fun c46 => ?_, fun c46 => ?_⟩
          · skip
            refine work_c hC B T ?_ (fun r47 σ_48 q49 => ?_)
            · clear h; obtain ⟨v1, v2⟩ := q45.2.2.2 (le0 c46 q45.2.1)
              have ae : σ_44.1 10 = e1 := v2 e1 (by rw [r5, r7, r39]; exact g1)
              rw [ae]
              exact ⟨v1, Int32.le_trans b1 (Int32.le_trans g2 (Int32.le_of_lt g5)), Int32.le_trans g6 (Int32.le_of_lt g7), e2, by rw [f44.2.2.1 5 (by decide), f44.2.2.1 7 (by decide), f44.2.2.1 39 (by decide)]; exact g4⟩
            refine hj207 _ _ _ ?_
            · clear h; obtain ⟨v1, v2⟩ := q45.2.2.2 (le0 c46 q45.2.1)
              have ae : σ_44.1 10 = e1 := v2 e1 (by rw [r5, r7, r39]; exact g1)
              refine ⟨frG_tr f44 (frG_mono q49.1 (by decide) (by decide)), q49.2.1, q49.2.2.1, by rw [q49.1.1 63 (by decide), q45.1.1 63 (by decide)], y4, l8, c42, c41, fun z => ?_⟩
              obtain ⟨t1, t2⟩ := q49.2.2.2 z
              have ae2 : σ_48.1 10 = e2 := t2 e2 (by rw [ae, f44.2.2.1 5 (by decide), f44.2.2.1 7 (by decide), f44.2.2.1 39 (by decide)]; exact g4)
              rw [ae2]
              refine ⟨t1, Int32.lt_of_lt_of_le g3 (Int32.le_trans g2 (Int32.le_trans (Int32.le_of_lt g5) g6)), fun s44 => ?_⟩
              obtain ⟨j, hj, hpj⟩ := g8 s44
              exact ⟨j, by omega, hpj⟩
          · skip
            refine hj207 _ _ _ ?_
            · clear h; exact ⟨f44, q45.2.1, q45.2.2.1, q45.1.1 63 (by decide), y4, l8, c42, c41, fun z => absurd (by rw [z]; decide) c46⟩  -- k30
    · skip
      obtain ⟨e1, e2, g1, g2, g3, g4, g5⟩ := hd.2.1 (w12.mp c35)
      have b2 : e1 ≤ T := Int32.le_trans (Int32.le_of_lt g2) (Int32.le_trans g3 (Int32.le_of_lt g5))
      have g0 := ePa_ge g1
      refine work_c hC B T ?_ (fun r50 σ_51 q52 => ?_)
      · clear h; rw [a27, s27]; exact ⟨m27, x2, Int32.le_trans g0 b2, e1, g1⟩  -- p31
      have f51 : frG dwF dwR σ σ_51 := frG_tr f27 (frG_mono q52.1 (by decide) (by decide))
      have z51 : σ_51.1 63 = 0 := by rw [q52.1.1 63 (by decide)]; exact z27
      refine outcome_c hC  ?_ (fun σ_53 q54 => ?_)
      · clear h; rw [z51]; exact ⟨by decide, by decide⟩  -- p32
      have f53 : frG dwF dwR σ σ_53 := frG_tr f51 (frG_oc q54.1 (by decide) (by decide) (by decide))
      have z53 : σ_53.1 63 = 1 := by rw [q54.2.1, z51]; rfl
      have g53 : σ_53.1 47 = σ_51.1 47 := q54.1.1 47 (by decide)
      refine ⟨fun c55 => ?_, fun c55 => ?_⟩
      · skip
        refine work_c hC B T ?_ (fun r56 σ_57 q58 => ?_)
        · clear h; rw [g53] at c55
          obtain ⟨v1, v2⟩ := q52.2.2.2 (le0 c55 q52.2.1)
          have ae : σ_51.1 10 = e1 := v2 e1 (by rw [a27, s27]; exact g1)
          rw [q54.1.1 10 (by decide), ae]
          exact ⟨m1_fr v1 (frG_oc q54.1 (by decide) (by decide) (by decide)) (q54.1.1 46 (by decide)) (q54.1.1 58 (by decide)) (q54.1.1 11 (by decide)) g53 (q54.1.1 13 (by decide)), Int32.le_trans x2 (Int32.le_trans g0 (Int32.le_of_lt g2)), Int32.le_trans g3 (Int32.le_of_lt g5), e2, by rw [f53.2.2.1 5 (by decide), f53.2.2.1 7 (by decide), f53.2.2.1 39 (by decide)]; exact g4⟩
        refine outcome_c hC  ?_ (fun σ_59 q60 => ?_)
        · clear h; rw [q58.1.1 63 (by decide), z53]; exact ⟨by decide, by decide⟩  -- p34
        refine hj228 _ ?_
        · clear h; have z59 : σ_59.1 63 = 2 := by rw [q60.2.1, q58.1.1 63 (by decide), z53]; rfl
          exact ⟨frG_tr f53 (frG_tr (frG_mono q58.1 (by decide) (by decide)) (frG_oc q60.1 (by decide) (by decide) (by decide))), by rw [z59]; decide, by rw [z59]; decide, Or.inl (by rw [z59]; decide)⟩
      · skip
        refine outcome_c hC  ?_ (fun σ_61 q62 => ?_)
        · clear h; rw [z53]; exact ⟨by decide, by decide⟩  -- p36
        refine hj228 _ ?_
        · clear h; have z61 : σ_61.1 63 = 2 := by rw [q62.2.1, z53]; rfl
          exact ⟨frG_tr f53 (frG_oc q62.1 (by decide) (by decide) (by decide)), by rw [z61]; decide, by rw [z61]; decide, Or.inl (by rw [z61]; decide)⟩
  · skip
    obtain ⟨e, g1, g2⟩ := hd.1 (w11.mp c34)
    refine work_c hC B T ?_ (fun r63 σ_64 q65 => ?_)
    · clear h; rw [a27, s27]; exact ⟨m27, x2, Int32.le_trans (ePa_ge g1) (Int32.le_of_lt g2), e, g1⟩  -- p38
    have f64 : frG dwF dwR σ σ_64 := frG_tr f27 (frG_mono q65.1 (by decide) (by decide))
    refine ⟨fun c66 => ?_, fun c66 => ?_⟩
    · skip
      refine hj65 _ ?_
      · clear h; exact f64  -- k39
    · skip
      refine ⟨fun c67 => ?_, fun c67 => ?_⟩
      · skip
        refine hj65 _ ?_
        · clear h; exact f64  -- k40
      · skip
        refine ⟨fun c68 => ?_, fun c68 => ?_⟩
        · skip
          unfold w_draw_88
          refine ⟨fun n l4 l5 τ => n = (l4 - l5).toNatClampNeg ∧ (frG dwF dwR σ τ ∧ 1 ≤ l4 ∧ l4 ≤ 64 ∧ τ.1 63 = l5 ∧ 0 ≤ l5 ∧ l5 ≤ l4 ∧ ∀ i, i < l5.toNatClampNeg → τ.2.2.1 65 i = 1), ⟨_, rfl, ?_⟩, ?_⟩
          · clear h; exact ⟨f64, (n1 c67).1, c68, by rw [q65.1.1 63 (by decide)]; exact z27, by decide, (n1 c67).2, fun i i1 => absurd i1 (Nat.not_lt_zero i)⟩  -- j41
          rintro n88 x88_4 x88_5 σ88 ⟨hn88, i88⟩
          refine ⟨fun c69 => ?_, fun c69 => ?_⟩
          · skip
            refine hj228 _ ?_
            · clear h; obtain ⟨y1, y2, y3, y4, y5, y6, y7⟩ := i88
              have e : x88_5 = x88_4 := Int32.le_antisymm y6 c69
              exact ⟨y1, by rw [y4]; exact y5, by rw [y4, e]; exact y3, Or.inr (by rw [y4]; exact y7)⟩
          · skip
            obtain ⟨y1, y2, y3, y4, y5, y6, y7⟩ := i88
            have u := up_n y5 c69 y3
            refine outcome_c hC  ?_ (fun σ_70 q71 => ?_)
            · clear h; rw [y4]; exact ⟨y5, u.2.2.2.2.2⟩  -- p43
            intro x72 hx72
            refine ⟨_, cn_lt2 hn88 ?_ ?_, rfl, ?_⟩
            · clear h; rw [hx72]; exact u.1  -- d44
            · clear h; rw [hx72]; exact u.2.1  -- d45
            · clear h; rw [hx72]
              exact ⟨frG_tr y1 (frG_oc q71.1 (by decide) (by decide) (by decide)), y2, y3, by rw [q71.2.1, y4], u.2.2.1, u.2.2.2.1, fun i i1 => oc_ones y5 (Int32.lt_trans u.2.2.2.2.2 (by decide)) y4 q71.2.2.1 q71.2.2.2 y7 i i1⟩
        · skip
          refine hj65 _ ?_
          · clear h; exact f64  -- k47
