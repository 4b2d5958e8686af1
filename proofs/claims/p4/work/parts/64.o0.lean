set_option maxHeartbeats 1600000
/-! the reference: a program that runs: calls, ends of functions -/
/-- a program in order, its tables within their ranges -/
def rI (σ : rS) (B T : Int32) : Prop := tyAll σ ∧ progOK σ B T
abbrev rnF : List Nat := [10, 11, 12, 13, 46, 47, 48, 49, 58, 61, 62, 63, 66, 67]
abbrev rnR : List Nat := [50, 51, 52, 57, 59, 60, 64, 65, 68]
theorem rI_fr {σ τ : rS} {B T : Int32} (h : rI σ B T) (f : frG rnF rnR σ τ) : rI τ B T := by
  obtain ⟨h1, h2⟩ := h
  have rr := f.2.2.1
  have ff := f.1
  refine ⟨?_, progOK_L h1 h2 (fun t _ _ => by rw [rr 5 (by decide)]) (fun t _ _ => by rw [rr 7 (by decide)]) (fun t _ _ => by rw [rr 39 (by decide)]) (ff 18 (by decide)) (ff 19 (by decide)) (ff 40 (by decide)) (fun k hk j _ => ?_) (fun k hk j _ => ?_)⟩
  · obtain ⟨g1, g3, g4, g5, g6⟩ := h1
    refine ⟨?_, ?_, ?_, ?_, by rw [rr 37 (by decide)]; exact g6⟩
    · show tyF _ _ _ _ _ _ _ _
      rw [ff 15 (by decide), ff 16 (by decide), ff 17 (by decide), ff 18 (by decide), ff 19 (by decide), ff 40 (by decide), ff 41 (by decide), ff 42 (by decide)]
      exact g1
    · show tyN _ _ _ _ _ _
      rw [rr 20 (by decide), rr 22 (by decide), rr 25 (by decide), rr 28 (by decide), rr 26 (by decide), rr 27 (by decide)]
      exact g3
    · show tyA _ _
      rw [rr 23 (by decide), rr 24 (by decide)]
      exact g4
    · show tyS _ _ _ _ _ _ _ _
      rw [rr 29 (by decide), rr 33 (by decide), rr 34 (by decide), rr 35 (by decide), rr 36 (by decide), rr 38 (by decide), rr 43 (by decide), rr 44 (by decide)]
      exact g5
  · rcases hk with rfl | rfl | rfl | rfl | rfl | rfl | rfl | rfl
    · rw [rr 30 (by decide)]
    · rw [rr 31 (by decide)]
    · rw [rr 32 (by decide)]
    · rw [rr 33 (by decide)]
    · rw [rr 34 (by decide)]
    · rw [rr 35 (by decide)]
    · rw [rr 36 (by decide)]
    · rw [rr 37 (by decide)]
  · rcases hk with rfl | rfl
    · rw [rr 26 (by decide)]
    · rw [rr 29 (by decide)]
/-- the calls below the latest one stand at calling statements -/
def csL (σ : rS) (n : Int32) : Prop := ∀ c : Int32, 0 ≤ c → c < n → 0 ≤ rd σ 59 c ∧ rd σ 59 c < σ.1 19 ∧ rd σ 30 (rd σ 59 c) = 5
/-- calls of a program that runs, the latest at a statement -/
def csF (σ : rS) : Prop := (1 ≤ σ.1 58 ∧ σ.1 58 ≤ 12) ∧ csL σ (σ.1 58 - 1) ∧ 0 ≤ rd σ 59 (σ.1 58 - 1) ∧ rd σ 59 (σ.1 58 - 1) < σ.1 19
theorem frG_1 {F R : List Nat} {σ : rS} {k i : Nat} {x : Int32} (hk : k ∈ R) : frG F R σ (riU σ k i x) := ⟨fun _ _ => rfl, fun _ => rfl, fun q z => ri3 (fun e => z (by rw [e]; exact hk)), fun _ _ => rfl⟩
theorem frG_0 {F R : List Nat} {σ : rS} {k : Nat} {x : Int32} (hk : k ∈ F) : frG F R σ (siU σ k x) := ⟨fun q z => if_neg (fun e => z (by rw [e]; exact hk)), fun _ => rfl, fun _ _ => rfl, fun _ _ => rfl⟩
theorem c_m1 {x : Int32} (h1 : 1 ≤ x) (h2 : x ≤ 12) : 0 ≤ x - 1 ∧ x - 1 < 12 := by grind
theorem c_d0 {y : Int32} (h0 : 0 ≤ y) (h1 : y < 12) (h : ¬ y = 0) : 1 ≤ y ∧ y ≤ 12 ∧ 0 ≤ y - 1 ∧ y - 1 < 12 ∧ y - 1 < y := by grind
theorem c_d1 {x : Int32} (h1 : 1 ≤ x) (h2 : x ≤ 12) : x - 1 < x := by grind
theorem c_dn {x : Int32} (h1 : 1 ≤ x) (h2 : x ≤ 12) (h3 : ¬ x - 1 = 0) : 1 ≤ x - 1 ∧ x - 1 ≤ 12 ∧ 0 ≤ x - 1 - 1 ∧ x - 1 - 1 < 12 ∧ x - 1 - 1 < x - 1 ∧ x - 1 < x ∧ 0 ≤ x - 1 := by
  have m := c_m1 h1 h2
  have d := c_d0 m.1 m.2 h3
  exact ⟨d.1, d.2.1, d.2.2.1, d.2.2.2.1, d.2.2.2.2, c_d1 h1 h2, m.1⟩
theorem st_kind5 {σ : rS} {B T s : Int32} (h : rI σ B T) (h0 : 0 ≤ s) (h1 : s < σ.1 19) (hk : rd σ 30 s = 5) (hne : ¬ rd σ 31 s = rd σ 32 s) : 0 ≤ rd σ 31 s ∧ rd σ 31 s < 131074 ∧ validV (rd σ 39 (rd σ 31 s)) := by
  obtain ⟨-, h1', -, h3, -, -, h6, -⟩ := h
  rcases (h6 s h0 h1).1 with ⟨q, -⟩ | ⟨q, -⟩ | ⟨q, -⟩ | ⟨q, -⟩ | ⟨-, -, q⟩ | ⟨q, -⟩
  · rw [hk] at q; exact absurd q (by decide)
  · rw [hk] at q; exact absurd q (by decide)
  · rw [hk] at q; exact absurd q (by decide)
  · rw [hk] at q; exact absurd q (by decide)
  · obtain ⟨c1, c2, -, c4⟩ := q hne
    exact ⟨Int32.le_trans h1' c1, Int32.lt_trans c2 h3, c4⟩
  · rw [hk] at q; exact absurd q (by decide)
theorem s150 {σ : rS} {B T s : Int32} (h : rI σ B T) (h1 : s < σ.1 19) : s < 150 := by
  have t : tyF (σ.1 15) (σ.1 16) (σ.1 17) (σ.1 18) (σ.1 19) (σ.1 40) (σ.1 41) (σ.1 42) := h.1.1
  clear h
  grind [tyF]
theorem lt_pr {c x : Int32} (h1 : 1 ≤ x) (h2 : x ≤ 12) (h : c < x - 1) : c < x ∧ c ≠ x - 1 := by grind
theorem le_pr {c x y : Int32} (h1 : 1 ≤ x) (h2 : y ≤ 12) (h3 : x ≤ y) (h : c < x - 1) : c < y - 1 := by grind
theorem le_m1 {x y : Int32} (h1 : 1 ≤ x) (h3 : x ≤ y) : x - 1 ≤ y - 1 := by
  have e1 := i_sub (Int32.le_trans (by decide) h1) (by decide : (0 : Int32) ≤ 1)
  have e2 := i_sub (Int32.le_trans (by decide) (Int32.le_trans h1 h3)) (by decide : (0 : Int32) ≤ 1)
  have h := Int32.le_iff_toInt_le.mp h3
  refine Int32.le_iff_toInt_le.mpr ?_
  rw [e1, e2]; omega
theorem le_pr2 {x y : Int32} (h1 : 1 ≤ x) (h2 : y ≤ 12) (h3 : x ≤ y) (hz : ¬ x - 1 = 0) : x - 1 - 1 < y - 1 ∧ x - 1 ≤ y := by
  have d := c_dn h1 (Int32.le_trans h3 h2) hz
  exact ⟨Int32.lt_of_lt_of_le d.2.2.2.2.1 (le_m1 h1 h3), Int32.le_trans (Int32.le_of_lt d.2.2.2.2.2.1) h3⟩
theorem csF_set {τ : rS} {x : Int32} (h1 : 1 ≤ τ.1 58) (h12 : τ.1 58 ≤ 12) (hL : csL τ (τ.1 58 - 1)) (x0 : 0 ≤ x) (x1 : x < τ.1 19) : csF (riU τ 59 (τ.1 58 - 1).toNatClampNeg x) := by
  refine ⟨⟨h1, h12⟩, fun c c0 c1 => ?_, ?_, ?_⟩
  · have ne : c.toNatClampNeg ≠ (τ.1 58 - 1).toNatClampNeg := cn_ne c0 c1
    have e : rd (riU τ 59 (τ.1 58 - 1).toNatClampNeg x) 59 c = rd τ 59 c := by rw [rd, ri4, if_neg ne]
    rw [e]
    obtain ⟨a, b, d⟩ := hL c c0 c1
    exact ⟨a, b, by rw [rd, ri3 (by decide)]; exact d⟩
  · rw [rd, ri1, ri4, if_pos rfl]; exact x0
  · rw [rd, ri1, ri4, if_pos rfl, ri1]; exact x1
theorem csL_o {σ τ : rS} {n m : Int32} (h : csL σ n) (h59 : τ.2.2.1 59 = σ.2.2.1 59) (h30 : τ.2.2.1 30 = σ.2.2.1 30) (h19 : τ.1 19 = σ.1 19) (hm : ∀ c, c < m → c < n) : csL τ m := by
  intro c c0 c1
  simp only [rd]
  rw [h59, h30, h19]
  exact h c c0 (hm c c1)
theorem csF_o {σ τ : rS} (h : csF σ) (h59 : τ.2.2.1 59 = σ.2.2.1 59) (h30 : τ.2.2.1 30 = σ.2.2.1 30) (h19 : τ.1 19 = σ.1 19) (h58 : τ.1 58 = σ.1 58) : csF τ := by
  obtain ⟨h1, h2, h3, h4⟩ := h
  unfold csF
  simp only [rd]
  rw [h58, h59, h19]
  exact ⟨h1, csL_o h2 h59 h30 h19 (fun _ z => z), h3, h4⟩
theorem frG_S {F R : List Nat} {σ τ : rS} (h : (∀ k,  τ.1 k = σ.1 k) ∧ (∀ k,  τ.2.1 k = σ.2.1 k) ∧ (∀ k, k ≠ 57 → k ≠ 60 → τ.2.2.1 k = σ.2.2.1 k) ∧ (∀ k j, k ≠ 57 → k ≠ 60 → τ.2.2.1 k j = σ.2.2.1 k j) ∧ (∀ k j,  τ.2.2.2 k j = σ.2.2.2 k j)) (h1 : 57 ∈ R) (h2 : 60 ∈ R) : frG F R σ τ := ⟨fun k _ => h.1 k, h.2.1, fun k z => h.2.2.1 k (fun e => z (by rw [e]; exact h1)) (fun e => z (by rw [e]; exact h2)), h.2.2.2.2⟩
theorem vV_st {x c : Int32} (h : validV x) (h1 : 1 ≤ c) (h2 : c ≤ 12) : (400 ≤ x ∧ x < 434) ∨ (100 ≤ x ∧ x < 108 ∧ 1 ≤ c ∧ c ≤ 12) ∨ (0 ≤ x ∧ x < 34) := by grind [validV]
theorem up12 {x : Int32} (h1 : 1 ≤ x) (h2 : x ≤ 12) : x < x + 1 ∧ 0 ≤ x := by grind
theorem dn_up {x : Int32} : x = x - 1 + 1 := by grind
theorem up34 {x : Int32} (h0 : 0 ≤ x) (h : ¬ 34 ≤ x) : 0 ≤ 34 - (x + 1) ∧ 34 - (x + 1) < 34 - x ∧ 0 ≤ x + 1 ∧ x + 1 ≤ 34 ∧ x < 34 := by grind
theorem up8 {x : Int32} (h0 : 0 ≤ x) (h : ¬ 8 ≤ x) : 0 ≤ 8 - (x + 1) ∧ 8 - (x + 1) < 8 - x ∧ 0 ≤ x + 1 ∧ x + 1 ≤ 8 ∧ x < 8 ∧ x < 96 := by grind
theorem va_b {σ : rS} {B T x : Int32} (h : rI σ B T) (hx : ¬ σ.1 15 ≤ x) : x < 10 := by
  have t : tyF (σ.1 15) (σ.1 16) (σ.1 17) (σ.1 18) (σ.1 19) (σ.1 40) (σ.1 41) (σ.1 42) := h.1.1
  clear h
  grind [tyF]
theorem fn_10 {σ : rS} {B T x : Int32} (h : rI σ B T) (hx : x < σ.1 18) : x < 10 := by
  have t : tyF (σ.1 15) (σ.1 16) (σ.1 17) (σ.1 18) (σ.1 19) (σ.1 40) (σ.1 41) (σ.1 42) := h.1.1
  clear h
  grind [tyF]
theorem fo_b {σ : rS} {B T f : Int32} (h : rI σ B T) (f0 : 0 ≤ f) (f1 : f < σ.1 18) (hn : rd σ 29 f ≠ -1) : 0 ≤ rd σ 29 f ∧ rd σ 29 f < σ.1 19 := ⟨m1_0 (h.1.2.2.2.1.1 _).1 hn, h.2.2.2.2.2.2.2.2.2.2.1 f f0 f1⟩
theorem fl_b {σ : rS} {B T s : Int32} (h : rI σ B T) (s0 : 0 ≤ s) (s1 : s < σ.1 19) (hn : rd σ 37 s ≠ -1) : 0 ≤ rd σ 37 s ∧ rd σ 37 s < σ.1 19 := ⟨m1_0 (h.1.2.2.2.2 _).1 hn, h.2.2.2.2.2.2.2.2.2.2.2 s s0 s1⟩
theorem leave_c {C : rCx} (hC : cOK C) (B T : Int32) {σ : rS} {a1 : Int32} {Q : Int32 → rS → Prop} (hp : rI σ B T ∧ 1 ≤ σ.1 58 ∧ σ.1 58 ≤ 12 ∧ csL σ (σ.1 58 - 1)) (h : ∀ (v : Int32) (σ' : rS), (frG [58, 61] [57, 59, 60] σ σ' ∧ ((v = 0 ∧ csF σ') ∨ v = 1)) → Q v σ') : cI C 1 m_leave [.ref (co C), .int a1] σ Q := by
  refine m_leave_run hC ?_
  unfold w_leave_0
  obtain ⟨hI, h1, h12, hL⟩ := hp
  unfold w_leave_2
  refine ⟨fun n l2 τ => n = (τ.1 58).toNatClampNeg ∧ (frG [58] [57, 60] σ τ ∧ 1 ≤ τ.1 58 ∧ τ.1 58 ≤ σ.1 58), ⟨_, rfl, ?_⟩, ?_⟩
  · clear h; exact ⟨frG_refl, h1, Int32.le_refl _⟩  -- j1
  rintro n2 x2_2 σ2 ⟨hn2, i2⟩
  have hj69 : ∀ (l3 : Int32) (τ : rS), (frG [58] [57, 60] σ τ ∧ σ2.1 58 = τ.1 58 + 1 ∧ 1 ≤ τ.1 58 ∧ τ.1 58 ≤ σ.1 58 ∧ 0 ≤ l3 ∧ l3 < σ.1 19) → w_leave_69 C Q (fun l2' τ => ∃ k < n2, (fun n l2 τ => n = (τ.1 58).toNatClampNeg ∧ (frG [58] [57, 60] σ τ ∧ 1 ≤ τ.1 58 ∧ τ.1 58 ≤ σ.1 58)) k l2' τ) l3 τ := by
    rintro y69_3 τ69 j69
    unfold w_leave_69
    obtain ⟨jf, je, k1, k2, k4, k5⟩ := j69
    have k12 := Int32.le_trans k2 h12
    refine ⟨ib_150.mpr ?_, ?_⟩
    · clear h; exact ⟨k4, s150 hI k5⟩  -- b2
    refine ⟨fun c1 => ?_, fun c1 => ?_⟩
    · skip
      refine ⟨_, cn_lt2 hn2 ?_ ?_, rfl, ?_⟩
      · clear h; exact (up12 k1 k12).2  -- d3
      · clear h; rw [je]; exact (up12 k1 k12).1  -- d4
      · clear h; exact ⟨jf, k1, k2⟩  -- i5
    · skip
      refine ⟨ib_150.mpr ?_, ?_⟩
      · clear h; exact ⟨k4, s150 hI k5⟩  -- b6
      refine ⟨ib_12.mpr ?_, ?_⟩
      · clear h; exact c_m1 k1 k12  -- b7
      intro σ_2 hσ_2
      refine h _ _ ?_
      · clear h; have fl := fl_b hI k4 k5 (by rw [rd, ← jf.2.2.1 37 (by decide)]; exact c1)
        rw [rd, ← jf.2.2.1 37 (by decide), ← jf.1 19 (by decide)] at fl
        refine ⟨frG_tr (frG_mono jf (by decide) (by decide)) (by rw [hσ_2]; exact frG_1 (by decide)), Or.inl ⟨rfl, ?_⟩⟩
        rw [hσ_2]
        exact csF_set k1 k12 (csL_o hL (jf.2.2.1 59 (by decide)) (jf.2.2.1 30 (by decide)) (jf.1 19 (by decide)) (fun c hc => le_pr k1 h12 k2 hc)) fl.1 fl.2
  intro σ_3 hσ_3
  refine ⟨fun c4 => ?_, fun c4 => ?_⟩
  · skip
    refine ⟨ib_12.mpr ?_, ?_⟩
    · clear h; have e58 : σ_3.1 58 = σ2.1 58 - 1 := by rw [hσ_3, si1, if_pos rfl]
      have cd := c_dn i2.2.1 (Int32.le_trans i2.2.2 h12) (by rw [← e58]; exact c4)
      rw [e58]; exact ⟨cd.2.2.1, cd.2.2.2.1⟩
    intro x5 hx5
    have e58 : σ_3.1 58 = σ2.1 58 - 1 := by rw [hσ_3, si1, if_pos rfl]
    have cd := c_dn i2.2.1 (Int32.le_trans i2.2.2 h12) (by rw [← e58]; exact c4)
    have f3 : frG [58] [57, 60] σ σ_3 := frG_tr i2.1 (by rw [hσ_3]; exact frG_0 (by decide))
    have ex : x5 = rd σ 59 (σ_3.1 58 - 1) := by rw [hx5, f3.2.2.1 59 (by decide)]
    have lp := le_pr2 i2.2.1 h12 i2.2.2 (by rw [← e58]; exact c4)
    obtain ⟨g1, g2, g3⟩ := hL (σ_3.1 58 - 1) (by rw [e58]; exact cd.2.2.1) (by rw [e58]; exact lp.1)
    rw [← ex] at g1 g2 g3
    refine ⟨ib_150.mpr ?_, ?_⟩
    · clear h; exact ⟨g1, s150 hI g2⟩  -- b10
    refine ⟨ib_150.mpr ?_, ?_⟩
    · clear h; exact ⟨g1, s150 hI g2⟩  -- b11
    refine ⟨fun c6 => ?_, fun c6 => ?_⟩
    · skip
      refine hj69 _ _ ?_
      · clear h; exact ⟨f3, by rw [e58]; exact dn_up, by rw [e58]; exact cd.1, by rw [e58]; exact lp.2, g1, g2⟩  -- k12
    · skip
      refine ⟨ib_150.mpr ?_, ?_⟩
      · clear h; exact ⟨g1, s150 hI g2⟩  -- b13
      have k := st_kind5 hI g1 g2 g3 (by rw [rd, rd, ← f3.2.2.1 31 (by decide), ← f3.2.2.1 32 (by decide)]; exact c6)
      refine ⟨ib_131074.mpr ?_, ?_⟩
      · clear h; rw [f3.2.2.1 31 (by decide)]; exact ⟨k.1, k.2.1⟩  -- b14
      refine store_c hC  ?_ (fun σ_7 q8 => ?_)
      · clear h; rw [f3.2.2.1 31 (by decide), f3.2.2.1 39 (by decide), e58]
        exact vV_st k.2.2 cd.1 cd.2.1
      refine hj69 _ _ ?_
      · clear h; exact ⟨frG_tr f3 (frG_S q8 (by decide) (by decide)), by rw [q8.1 58, e58]; exact dn_up, by rw [q8.1 58, e58]; exact cd.1, by rw [q8.1 58, e58]; exact lp.2, g1, g2⟩  -- k16
  · skip
    intro σ_9 hσ_9
    refine h _ _ ?_
    · clear h; exact ⟨frG_tr (frG_mono i2.1 (by decide) (by decide)) (frG_tr (by rw [hσ_3]; exact frG_0 (by decide) : frG [58, 61] [57, 59, 60] σ2 σ_3) (by rw [hσ_9]; exact frG_0 (by decide))), Or.inr rfl⟩  -- q17

theorem moveTo_c {C : rCx} (hC : cOK C) (B T : Int32) {σ : rS} {a1 : Int32} {Q : Int32 → rS → Prop} (hp : rI σ B T ∧ 1 ≤ σ.1 58 ∧ σ.1 58 ≤ 12 ∧ csL σ (σ.1 58 - 1) ∧ (a1 ≠ -1 → 0 ≤ a1 ∧ a1 < σ.1 19)) (h : ∀ (v : Int32) (σ' : rS), (frG [58, 61] [57, 59, 60] σ σ' ∧ ((v = 0 ∧ csF σ') ∨ v = 1)) → Q v σ') : cI C 2 m_moveTo [.ref (co C), .int a1] σ Q := by
  refine m_moveTo_run hC ?_
  unfold w_moveTo_0
  obtain ⟨hI, h1, h12, hL, ha⟩ := hp
  refine ⟨fun c1 => ?_, fun c1 => ?_⟩
  · skip
    refine ⟨ib_12.mpr ?_, ?_⟩
    · clear h; exact c_m1 h1 h12  -- b1
    intro σ_2 hσ_2
    refine h _ _ ?_
    · clear h; exact ⟨by rw [hσ_2]; exact frG_1 (by decide), Or.inl ⟨rfl, by rw [hσ_2]; exact csF_set h1 h12 hL (ha c1).1 (ha c1).2⟩⟩  -- q2
  · skip
    refine leave_c hC B T ?_ (fun r3 σ_4 q5 => ?_)
    · clear h; exact ⟨hI, h1, h12, hL⟩  -- p3
    refine h _ _ ?_
    · clear h; exact q5  -- q4

theorem begin_c {C : rCx} (hC : cOK C) (B T : Int32) {σ : rS}  {Q : Int32 → rS → Prop} (hp : rI σ B T) (h : ∀ (v : Int32) (σ' : rS), (frG [58, 61] [57, 59, 60] σ σ' ∧ ((v = 0 ∧ csF σ') ∨ v = 1)) → Q v σ') : cI C 3 m_begin [.ref (co C)] σ Q := by
  refine m_begin_run hC ?_
  unfold w_begin_0
  unfold w_begin_2
  refine ⟨fun n l1 τ => n = (34 - l1).toNatClampNeg ∧ (frG [] [57] σ τ ∧ 0 ≤ l1 ∧ l1 ≤ 34), ⟨_, rfl, ?_⟩, ?_⟩
  · clear h; exact ⟨frG_refl, by decide, by decide⟩  -- j1
  rintro n2 x2_1 σ2 ⟨hn2, i2⟩
  have hj31 : ∀ (l1 : Int32) (s1 : Int32) (s2 : Int32) (τ : rS), (τ = σ2 ∧ l1 = x2_1 ∧ s1 = x2_1 ∧ ¬ 34 ≤ x2_1) → w_begin_31 C Q (fun l1' τ => ∃ k < n2, (fun n l1 τ => n = (34 - l1).toNatClampNeg ∧ (frG [] [57] σ τ ∧ 0 ≤ l1 ∧ l1 ≤ 34)) k l1' τ) l1 s1 s2 τ := by
    rintro y31_1 y31_s1 y31_s2 τ31 j31
    unfold w_begin_31
    obtain ⟨je, j1, j2, j3⟩ := j31
    have u := up34 i2.2.1 j3
    refine ⟨ib_34.mpr ?_, ?_⟩
    · clear h; rw [j2]; exact ⟨i2.2.1, u.2.2.2.2⟩  -- b2
    intro σ_1 hσ_1
    intro x2 hx2
    refine ⟨_, cn_lt2 hn2 ?_ ?_, rfl, ?_⟩
    · clear h; rw [hx2, j1]; exact u.1  -- d3
    · clear h; rw [hx2, j1]; exact u.2.1  -- d4
    · clear h; rw [hx2, j1]; exact ⟨frG_tr i2.1 (by rw [hσ_1, je]; exact frG_1 (by decide)), u.2.2.1, u.2.2.2.1⟩  -- i5
  refine ⟨fun c3 => ?_, fun c3 => ?_⟩
  · skip
    intro σ_4 hσ_4
    unfold w_begin_45
    refine ⟨fun n l1 τ => n = (8 - l1).toNatClampNeg ∧ (frG [58] [57, 60] σ τ ∧ τ.1 58 = 1 ∧ 0 ≤ l1 ∧ l1 ≤ 8), ⟨_, rfl, ?_⟩, ?_⟩
    · clear h; exact ⟨frG_tr (frG_mono i2.1 (by decide) (by decide)) (by rw [hσ_4]; exact frG_0 (by decide)), by rw [hσ_4, si1, if_pos rfl], by decide, by decide⟩  -- j6
    rintro n45 x45_1 σ45 ⟨hn45, i45⟩
    have m40 : σ45.1 40 = σ.1 40 := i45.1.1 40 (by decide)
    have pk := hp.2.2.2.2.2.2.2
    refine ⟨fun c5 => ?_, fun c5 => ?_⟩
    · skip
      refine ⟨ib_10.mpr ?_, ?_⟩
      · clear h; rw [m40]; exact ⟨pk.1, fn_10 hp pk.2.1⟩  -- b7
      refine moveTo_c hC B T ?_ (fun r6 σ_7 q8 => ?_)
      · clear h; refine ⟨rI_fr hp (frG_mono i45.1 (by decide) (by decide)), by rw [i45.2.1]; decide, by rw [i45.2.1]; decide, fun c c0 c1 => ?_, fun z => ?_⟩
        · rw [i45.2.1, show (1 : Int32) - 1 = 0 from by decide] at c1
          exact absurd c1 (Int32.not_lt.mpr c0)
        · rw [m40, i45.1.2.2.1 29 (by decide)] at z ⊢
          rw [i45.1.1 19 (by decide)]
          exact fo_b hp pk.1 pk.2.1 z
      refine h _ _ ?_
      · clear h; exact ⟨frG_tr (frG_mono i45.1 (by decide) (by decide)) q8.1, q8.2⟩  -- q9
    · skip
      have u := up8 i45.2.2.1 c5
      refine ⟨ib_96.mpr ?_, ?_⟩
      · clear h; exact ⟨i45.2.2.1, u.2.2.2.2.2⟩  -- b10
      intro σ_9 hσ_9
      intro x10 hx10
      refine ⟨_, cn_lt2 hn45 ?_ ?_, rfl, ?_⟩
      · clear h; rw [hx10]; exact u.1  -- d11
      · clear h; rw [hx10]; exact u.2.1  -- d12
      · clear h; rw [hx10]; exact ⟨frG_tr i45.1 (by rw [hσ_9]; exact frG_1 (by decide)), by rw [hσ_9, ri1]; exact i45.2.1, u.2.2.1, u.2.2.2.1⟩  -- i13
  · skip
    refine ⟨fun c11 => ?_, fun c11 => ?_⟩
    · skip
      refine hj31 _ _ _ _ ?_
      · clear h; exact ⟨rfl, rfl, rfl, c3⟩  -- k14
    · skip
      refine ⟨ib_10.mpr ?_, ?_⟩
      · clear h; exact ⟨i2.2.1, va_b hp (by rw [← i2.1.1 15 (by decide)]; exact c11)⟩  -- b15
      refine hj31 _ _ _ _ ?_
      · clear h; exact ⟨rfl, rfl, rfl, c3⟩  -- k16
