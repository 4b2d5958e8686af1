set_option maxHeartbeats 1600000
/-! the reference: a function -/
def frG (F R : List Nat) (σ τ : rS) : Prop := (∀ k, k ∉ F → τ.1 k = σ.1 k) ∧ (∀ k, τ.2.1 k = σ.2.1 k) ∧ (∀ k, k ∉ R → τ.2.2.1 k = σ.2.2.1 k) ∧ (∀ k j, τ.2.2.2 k j = σ.2.2.2 k j)
theorem frG_tr {F R : List Nat} {σ τ υ : rS} (h : frG F R σ τ) (g : frG F R τ υ) : frG F R σ υ := ⟨fun k z => (g.1 k z).trans (h.1 k z), fun k => (g.2.1 k).trans (h.2.1 k), fun k z => (g.2.2.1 k z).trans (h.2.2.1 k z), fun k j => (g.2.2.2 k j).trans (h.2.2.2 k j)⟩
theorem frG_refl {F R : List Nat} {σ : rS} : frG F R σ σ := ⟨fun _ _ => rfl, fun _ => rfl, fun _ _ => rfl, fun _ _ => rfl⟩
abbrev fFF : List Nat := [10, 11, 12, 13, 18, 19, 41, 42, 48, 49]
abbrev fRR : List Nat := [25, 26, 27, 28, 29, 30, 31, 32, 33, 34, 35, 36, 38, 39, 43, 44, 45, 50, 51, 52]
theorem frG_3 {σ τ : rS} (h : (∀ k, k ≠ 10 → k ≠ 11 → k ≠ 12 → τ.1 k = σ.1 k) ∧ τ.2 = σ.2) : frG fFF fRR σ τ := ⟨fun k z => h.1 k (fun e => z (by rw [e]; decide)) (fun e => z (by rw [e]; decide)) (fun e => z (by rw [e]; decide)), fun k => by rw [h.2], fun k _ => by rw [h.2], fun k j => by rw [h.2]⟩
theorem frG_4 {σ τ : rS} (h : (∀ k, k ≠ 10 → k ≠ 11 → k ≠ 12 → k ≠ 13 → τ.1 k = σ.1 k) ∧ τ.2 = σ.2) : frG fFF fRR σ τ := ⟨fun k z => h.1 k (fun e => z (by rw [e]; decide)) (fun e => z (by rw [e]; decide)) (fun e => z (by rw [e]; decide)) (fun e => z (by rw [e]; decide)), fun k => by rw [h.2], fun k _ => by rw [h.2], fun k j => by rw [h.2]⟩
theorem frG_B {σ τ : rS} (h : frB σ τ) : frG fFF fRR σ τ := by
  refine ⟨fun k z => h.1 k ?_ ?_ ?_ ?_ ?_ ?_ ?_ ?_, h.2.1, fun k z => h.2.2.1 k ?_ ?_ ?_ ?_ ?_ ?_ ?_ ?_ ?_ ?_ ?_ ?_ ?_ ?_ ?_ ?_ ?_ ?_, h.2.2.2.2⟩ <;> exact fun e => z (by rw [e]; decide)
theorem frG_ri {σ : rS} {k i : Nat} {x : Int32} (hk : k ∈ fRR) : frG fFF fRR σ (riU σ k i x) := ⟨fun _ _ => rfl, fun _ => rfl, fun q z => ri3 (fun e => z (by rw [e]; exact hk)), fun _ _ => rfl⟩
theorem frG_si {σ : rS} {k : Nat} {x : Int32} (hk : k ∈ fFF) : frG fFF fRR σ (siU σ k x) := ⟨fun q z => if_neg (fun e => z (by rw [e]; exact hk)), fun _ => rfl, fun _ _ => rfl, fun _ _ => rfl⟩
/-- first statements of the first n functions -/
def fA (τ : rS) (n : Int32) : Prop := ∀ f : Int32, 0 ≤ f → f < n → rd τ 29 f < τ.1 19
theorem fA_lk {σ τ : rS} {n : Int32} (h : fA σ n) (l : lkF σ τ) : fA τ n := fun f f0 f1 => l _ (h f f0 f1)
/-- from a function's beginning on -/
def fI (σ τ : rS) (B T : Int32) : Prop := frG fFF fRR σ τ ∧ p0 τ B T ∧ tS τ ∧ rHi (σ.2.2.1 39) (τ.2.2.1 39) T ∧ rLo (σ.2.2.1 39) (τ.2.2.1 39) B ∧ (τ.1 11 = 0 → σ.1 10 < τ.1 10 ∧ stA τ B (τ.1 10) ∧ fA τ (σ.1 18))
theorem fI_st {σ τ υ : rS} {B T : Int32} (h : fI σ τ B T) (hf : frG fFF fRR τ υ) (hp : p0 υ B T) (hs : tS υ) (h39 : υ.2.2.1 39 = τ.2.2.1 39) (hr : υ.2.2.1 30 = τ.2.2.1 30 ∧ υ.2.2.1 31 = τ.2.2.1 31 ∧ υ.2.2.1 32 = τ.2.2.1 32 ∧ υ.2.2.1 36 = τ.2.2.1 36 ∧ υ.2.2.1 33 = τ.2.2.1 33 ∧ υ.2.2.1 34 = τ.2.2.1 34 ∧ υ.2.2.1 35 = τ.2.2.1 35) (h19 : υ.1 19 = τ.1 19) (lf : lkF τ υ) (hl : υ.1 11 = 0 → τ.1 11 = 0 ∧ τ.1 10 ≤ υ.1 10) : fI σ υ B T := by
  obtain ⟨h1, h2, h3, h4, h5, h6⟩ := h
  have hA := aI_at (aI_refl h2)
  refine ⟨frG_tr h1 hf, hp, hs, by rw [h39]; exact h4, by rw [h39]; exact h5, fun f => ?_⟩
  obtain ⟨l1, l2⟩ := hl f
  obtain ⟨m1, m2, m3⟩ := h6 l1
  exact ⟨Int32.lt_of_lt_of_le m1 l2, stA_up h2.1.1 hA.2.2.2.2 m2 (hf.2.2.1 5 (by decide)) (hf.2.2.1 7 (by decide)) h19 hr (by rw [h39]; exact rLo_refl) l2, fA_lk m3 lf⟩
theorem tS_2 {τ υ : rS} (h : tS τ) (e : υ.2 = τ.2) : tS υ := by show tyS _ _ _ _ _ _ _ _; rw [e]; exact h
theorem fI_2 {σ τ υ : rS} {B T : Int32} (h : fI σ τ B T) (a : aI τ υ B T) (e : υ.2 = τ.2) (hf : frG fFF fRR τ υ) (h19 : υ.1 19 = τ.1 19) (hl : υ.1 11 = 0 → τ.1 11 = 0 ∧ τ.1 10 < υ.1 10) : fI σ υ B T :=
  fI_st h hf a.2.1 (tS_2 h.2.2.1 e) (by rw [e]) ⟨by rw [e], by rw [e], by rw [e], by rw [e], by rw [e], by rw [e], by rw [e]⟩ h19 (lkF_o (by rw [e]) h19) (fun f => ⟨(hl f).1, Int32.le_of_lt (hl f).2⟩)
theorem p0_f41 {σ : rS} {B T x : Int32} (h : p0 σ B T) (h0 : 0 ≤ x) (h1 : x < 10) : p0 (siU σ 41 x) B T := by
  obtain ⟨t1, t2, t3, t4, t5, t6, t7⟩ := h
  refine ⟨t1, t2, ?_, t4, t5, t6, t7⟩
  show tyF (σ.1 15) (σ.1 16) (σ.1 17) (σ.1 18) (σ.1 19) (σ.1 40) x (σ.1 42)
  clear t1 t2 t4 t5 t6 t7
  grind [tyF]
theorem p0_f18 {σ : rS} {B T x : Int32} (h : p0 σ B T) (h0 : 0 ≤ x) (h1 : x ≤ 10) : p0 (siU σ 18 x) B T := by
  obtain ⟨t1, t2, t3, t4, t5, t6, t7⟩ := h
  refine ⟨t1, t2, ?_, t4, t5, t6, t7⟩
  show tyF (σ.1 15) (σ.1 16) (σ.1 17) x (σ.1 19) (σ.1 40) (σ.1 41) (σ.1 42)
  clear t1 t2 t4 t5 t6 t7
  grind [tyF]
theorem p0_nr {σ : rS} {B T x : Int32} {k i : Nat} (h : p0 σ B T) (hk : (k = 26 ∧ 0 ≤ x ∧ x < 5) ∨ (k = 27 ∧ 0 ≤ x ∧ x < 9) ∨ (k = 28 ∧ 0 ≤ x ∧ x < 131074) ∨ (k = 25 ∧ 0 ≤ x ∧ x < 131074) ∨ k = 29) : p0 (riU σ k i x) B T := by
  obtain ⟨t1, t2, t3, t4, t5, t6, t7⟩ := h
  have rr : ∀ q, q ≠ k → (riU σ k i x).2.2.1 q = σ.2.2.1 q := fun q hq => ri3 hq
  refine ⟨?_, t2, t3, ?_, ?_, t6, t7⟩
  · obtain ⟨u1, u2, u3, u4, u5, u6⟩ := t1
    exact ⟨u1, u2, u3, ⟨by rw [rd, rr 5 (by omega)]; exact u4.1, u4.2⟩, u5, u6⟩
  · show tyN _ _ _ _ _ _
    obtain ⟨u1, u2, u3, u4, u5, u6⟩ := t4
    rcases hk with ⟨rfl, a, b⟩ | ⟨rfl, a, b⟩ | ⟨rfl, a, b⟩ | ⟨rfl, a, b⟩ | rfl
    · rw [rr 20 (by decide), rr 22 (by decide), rr 25 (by decide), rr 28 (by decide), rr 27 (by decide), ri_row]; exact ⟨u1, u2, u3, u4, eB_upd u5 a b, u6⟩
    · rw [rr 20 (by decide), rr 22 (by decide), rr 25 (by decide), rr 28 (by decide), rr 26 (by decide), ri_row]; exact ⟨u1, u2, u3, u4, u5, eB_upd u6 a b⟩
    · rw [rr 20 (by decide), rr 22 (by decide), rr 25 (by decide), rr 26 (by decide), rr 27 (by decide), ri_row]; exact ⟨u1, u2, u3, eB_upd u4 a b, u5, u6⟩
    · rw [rr 20 (by decide), rr 22 (by decide), rr 28 (by decide), rr 26 (by decide), rr 27 (by decide), ri_row]; exact ⟨u1, u2, eB_upd u3 a b, u4, u5, u6⟩
    · rw [rr 20 (by decide), rr 22 (by decide), rr 25 (by decide), rr 28 (by decide), rr 26 (by decide), rr 27 (by decide)]; exact ⟨u1, u2, u3, u4, u5, u6⟩
  · show tyA _ _
    rw [rr 23 (by omega), rr 24 (by omega)]; exact t5
theorem tS_nr {σ : rS} {x : Int32} {k i : Nat} (h : tS σ) (hk : k = 25 ∨ k = 26 ∨ k = 27 ∨ k = 28 ∨ (k = 29 ∧ -1 ≤ x ∧ x < 150)) : tS (riU σ k i x) := by
  have rr : ∀ q, q ≠ k → (riU σ k i x).2.2.1 q = σ.2.2.1 q := fun q hq => ri3 hq
  show tyS _ _ _ _ _ _ _ _
  obtain ⟨u1, u2⟩ := h
  rw [rr 33 (by omega), rr 34 (by omega), rr 35 (by omega), rr 36 (by omega), rr 38 (by omega), rr 43 (by omega), rr 44 (by omega)]
  refine ⟨?_, u2⟩
  by_cases e : k = 29
  · subst e
    rw [ri_row]
    rcases hk with q | q | q | q | q
    · exact absurd q (by decide)
    · exact absurd q (by decide)
    · exact absurd q (by decide)
    · exact absurd q (by decide)
    · exact eB_upd u1 q.2.1 q.2.2
  · rw [rr 29 (fun z => e z.symm)]; exact u1
theorem fI_nr {σ τ : rS} {B T x : Int32} {k i : Nat} (h : fI σ τ B T) (hk : (k = 26 ∧ 0 ≤ x ∧ x < 5) ∨ (k = 27 ∧ 0 ≤ x ∧ x < 9) ∨ (k = 28 ∧ 0 ≤ x ∧ x < 131074) ∨ (k = 25 ∧ 0 ≤ x ∧ x < 131074) ∨ (k = 29 ∧ x = -1)) : fI σ (riU τ k i x) B T := by
  have rr : ∀ q, q ≠ k → (riU τ k i x).2.2.1 q = τ.2.2.1 q := fun q hq => ri3 hq
  refine fI_st h (frG_ri ?_) (p0_nr h.2.1 ?_) (tS_nr h.2.2.1 ?_) (rr 39 (by omega)) ⟨rr 30 (by omega), rr 31 (by omega), rr 32 (by omega), rr 36 (by omega), rr 33 (by omega), rr 34 (by omega), rr 35 (by omega)⟩ rfl ?_ (fun f => ⟨f, Int32.le_refl _⟩)
  · rcases hk with q | q | q | q | q <;> (rw [q.1]; decide)
  · rcases hk with q | q | q | q | q
    · exact Or.inl q
    · exact Or.inr (Or.inl q)
    · exact Or.inr (Or.inr (Or.inl q))
    · exact Or.inr (Or.inr (Or.inr (Or.inl q)))
    · exact Or.inr (Or.inr (Or.inr (Or.inr q.1)))
  · rcases hk with q | q | q | q | q
    · exact Or.inr (Or.inl q.1)
    · exact Or.inr (Or.inr (Or.inl q.1))
    · exact Or.inr (Or.inr (Or.inr (Or.inl q.1)))
    · exact Or.inl q.1
    · exact Or.inr (Or.inr (Or.inr (Or.inr ⟨q.1, by rw [q.2]; decide, by rw [q.2]; decide⟩)))
  · by_cases e : 29 = k
    · subst e
      have ex : x = -1 := by
        rcases hk with q | q | q | q | q
        · exact absurd q.1 (by decide)
        · exact absurd q.1 (by decide)
        · exact absurd q.1 (by decide)
        · exact absurd q.1 (by decide)
        · exact q.2
      intro j hj
      rw [ri4, ri1]
      split
      · rw [ex]; exact Int32.lt_of_lt_of_le (by decide) (st_b h.2.1).1
      · exact hj
    · exact lkF_o (rr 29 e) rfl
theorem f_b {σ : rS} {B T : Int32} (h : p0 σ B T) : 0 ≤ σ.1 18 ∧ σ.1 18 ≤ 10 := by
  have := h.2.2.1
  clear h
  grind [tyF]
theorem f_up {x : Int32} (h0 : 0 ≤ x) (h1 : x < 10) : 0 ≤ x + 1 ∧ x + 1 ≤ 10 := by grind
theorem g_up {x : Int32} (h0 : 0 ≤ x) (h1 : x < 4) : 0 ≤ x + 1 ∧ x + 1 < 5 ∧ x + 1 < 9 ∧ x < 8 := by grind
theorem g_nl {x : Int32} (h0 : ¬ (10 : Int32) ≤ x) : x < 10 := by grind
theorem fI_open {σ τ υ : rS} {B T c : Int32} (h : fI σ τ B T) (q : ((∀ k, k ≠ 10 → k ≠ 11 → k ≠ 12 → k ≠ 13 → υ.1 k = τ.1 k) ∧ υ.2 = τ.2) ∧ tK υ B T ∧ (υ.1 11 = 0 ↔ τ.1 11 = 0 ∧ rd τ 5 (τ.1 10) = 3 ∧ rd τ 7 (τ.1 10) = c ∧ rd τ 5 (τ.1 10 + 1) ≠ 4 ∧ τ.1 13 ≠ 40) ∧ (υ.1 11 = 0 → υ.1 10 = τ.1 10 + 1 ∧ υ.1 13 = τ.1 13 + 1)) : fI σ υ B T ∧ υ.2 = τ.2 ∧ (υ.1 11 = 0 → τ.1 11 = 0 ∧ τ.1 10 < υ.1 10 ∧ υ.1 13 = τ.1 13 + 1) := by
  have a := aI_open (aI_refl h.2.1) q
  exact ⟨fI_2 h a.1 a.2.1 (frG_4 q.1) (q.1.1 19 (by decide) (by decide) (by decide) (by decide)) (fun f => ⟨(a.2.2 f).1, (a.2.2 f).2.1⟩), a.2.1, fun f => ⟨(a.2.2 f).1, (a.2.2 f).2.1, (a.2.2 f).2.2.2.1⟩⟩
theorem fI_close {σ τ υ : rS} {B T c : Int32} (h : fI σ τ B T) (q : ((∀ k, k ≠ 10 → k ≠ 11 → k ≠ 12 → k ≠ 13 → υ.1 k = τ.1 k) ∧ υ.2 = τ.2) ∧ tK υ B T ∧ (υ.1 11 = 0 ↔ τ.1 11 = 0 ∧ rd τ 5 (τ.1 10) = 3 ∧ rd τ 7 (τ.1 10) = c ∧ rd τ 5 (τ.1 10 + 1) ≠ 4) ∧ (υ.1 11 = 0 → υ.1 10 = τ.1 10 + 1 ∧ υ.1 13 = τ.1 13 - 1)) : fI σ υ B T ∧ υ.2 = τ.2 ∧ (υ.1 11 = 0 → τ.1 11 = 0 ∧ τ.1 10 < υ.1 10 ∧ υ.1 13 = τ.1 13 - 1) := by
  have a := aI_close (aI_refl h.2.1) q
  exact ⟨fI_2 h a.1 a.2.1 (frG_4 q.1) (q.1.1 19 (by decide) (by decide) (by decide) (by decide)) (fun f => ⟨(a.2.2 f).1, (a.2.2 f).2.1⟩), a.2.1, fun f => ⟨(a.2.2 f).1, (a.2.2 f).2.1, (a.2.2 f).2.2.2.1⟩⟩
theorem fI_go {σ τ υ : rS} {B T : Int32} (h : fI σ τ B T) (q : ((∀ k, k ≠ 10 → k ≠ 11 → k ≠ 12 → υ.1 k = τ.1 k) ∧ υ.2 = τ.2) ∧ tK υ B T ∧ (τ.1 11 ≠ 0 → υ = τ) ∧ (τ.1 11 = 0 → υ.1 10 = τ.1 10 + 1) ∧ (υ.1 11 = 0 ↔ τ.1 11 = 0 ∧ rd τ 5 (τ.1 10 + 1) ≠ 4)) : fI σ υ B T ∧ υ.2 = τ.2 ∧ (υ.1 11 = 0 → τ.1 11 = 0 ∧ τ.1 10 < υ.1 10) := by
  have a := aI_go (aI_refl h.2.1) q
  exact ⟨fI_2 h a.1 a.2.1 (frG_3 q.1) (q.1.1 19 (by decide) (by decide) (by decide)) (fun f => ⟨(a.2.2 f).1, (a.2.2 f).2.1⟩), a.2.1, fun f => ⟨(a.2.2 f).1, (a.2.2 f).2.1⟩⟩
theorem fI_fresh {σ τ υ : rS} {B T v m n : Int32} (h : fI σ τ B T) (q : ((∀ k, k ≠ 10 → k ≠ 11 → k ≠ 12 → υ.1 k = τ.1 k) ∧ υ.2 = τ.2) ∧ tK υ B T ∧ v = τ.1 10 ∧ (τ.1 11 ≠ 0 → υ = τ) ∧ (υ.1 11 = 0 → τ.1 11 = 0 ∧ rd τ 5 (τ.1 10) = 1 ∧ m < n ∧ υ.1 10 = τ.1 10 + 1 ∧ rd τ 5 (υ.1 10) ≠ 4)) : fI σ υ B T ∧ υ.2 = τ.2 ∧ (υ.1 11 = 0 → τ.1 11 = 0 ∧ τ.1 10 < υ.1 10 ∧ m < n) ∧ 0 ≤ v ∧ v < 131074 := by
  have a := aI_fr (aI_refl h.2.1) q.2.1 ⟨fun k z1 z2 z3 _ => q.1.1 k z1 z2 z3, q.1.2⟩ (fun z e => z (q.2.2.2.2 e).1)
  have l := fun f => at_up h.2.1.1 q.2.1.2.2.2.2.2 (q.2.2.2.2 f).2.2.2.1
  exact ⟨fI_2 h a q.1.2 (frG_3 q.1) (q.1.1 19 (by decide) (by decide) (by decide)) (fun f => ⟨(q.2.2.2.2 f).1, l f⟩), q.1.2, fun f => ⟨(q.2.2.2.2 f).1, l f, (q.2.2.2.2 f).2.2.1⟩, by rw [q.2.2.1]; exact (aI_at (aI_refl h.2.1)).2.2.2⟩
theorem fI_ts {σ τ υ : rS} {B T : Int32} (h : fI σ τ B T) (q : frB τ υ ∧ p0 υ B T ∧ tS υ ∧ rHi (τ.2.2.1 39) (υ.2.2.1 39) T ∧ rLo (τ.2.2.1 39) (υ.2.2.1 39) B ∧ (τ.1 11 ≠ 0 → υ.1 11 ≠ 0) ∧ (υ.1 11 = 0 → τ.1 11 = 0 ∧ τ.1 10 ≤ υ.1 10 ∧ rLo (τ.2.2.1 39) (υ.2.2.1 39) (τ.1 10) ∧ stA υ B (υ.1 10) ∧ υ.1 13 = 1 ∧ lkF τ υ)) : fI σ υ B T := by
  obtain ⟨h1, h2, h3, h4, h5, h6⟩ := h
  obtain ⟨q1, q2, q3, q4, q5, q6, q7⟩ := q
  refine ⟨frG_tr h1 (frG_B q1), q2, q3, rHi_tr h4 q4, rLo_tr h5 q5 (Int32.le_refl _), fun f => ?_⟩
  obtain ⟨m1, m2, m3, m4, m5, m6⟩ := q7 f
  exact ⟨Int32.lt_of_lt_of_le (h6 m1).1 m2, m4, fA_lk (h6 m1).2.2 m6⟩
theorem fI_si {σ τ : rS} {B T x : Int32} {k : Nat} (h : fI σ τ B T) (hk : k = 18 ∨ k = 41) (hp : p0 (siU τ k x) B T) : fI σ (siU τ k x) B T := by
  have e : ∀ q, q ≠ 18 → q ≠ 41 → (siU τ k x).1 q = τ.1 q := fun q z1 z2 => if_neg (by rcases hk with rfl | rfl; exact z1; exact z2)
  have e10 := e 10 (by decide) (by decide)
  have e11 := e 11 (by decide) (by decide)
  exact fI_st h (frG_si (by rcases hk with rfl | rfl <;> decide)) hp h.2.2.1 rfl ⟨rfl, rfl, rfl, rfl, rfl, rfl, rfl⟩ (e 19 (by decide) (by decide)) (lkF_o rfl (e 19 (by decide) (by decide))) (fun f => ⟨by rw [← e11]; exact f, by rw [e10]; exact Int32.le_refl _⟩)
theorem tellFunc_c {C : rCx} (hC : cOK C) (B T : Int32) {σ : rS}  {Q : rS → Prop} (hp : p0 σ B T ∧ tS σ ∧ σ.1 11 = 0 ∧ σ.1 13 = 0 ∧ stA σ B (σ.1 10) ∧ rd σ 5 (σ.1 10) ≠ 5 ∧ fA σ (σ.1 18)) (h : ∀ (σ' : rS), (fI σ σ' B T ∧ (σ'.1 11 = 0 → σ'.1 13 = 0 ∧ fA σ' (σ'.1 18))) → Q σ') : cV C 11 m_tellFunc [.ref (co C)] σ Q := by
  refine m_tellFunc_run hC ?_
  unfold w_tellFunc_0
  obtain ⟨hP, hS, h11, ho, hst, hn, hfa⟩ := hp
  have hA := aI_at (aI_refl hP)
  have hj218 : ∀ (l1 : Int32) (τ : rS), (fI σ τ B T ∧ 0 ≤ l1 ∧ l1 < 131074 ∧ (τ.1 11 = 0 → (τ.1 18 < 10 ∧ τ.1 18 = σ.1 18 ∧ rd τ 29 (σ.1 18) < τ.1 19) ∧ τ.1 13 = 1)) → w_tellFunc_218 C Q  l1 τ := by
    rintro y218_1 τ218 j218
    unfold w_tellFunc_218
    refine close_c hC B T ?_ (fun σ_1 q2 => ?_)
    · clear h; exact j218.1.2.1.1  -- p1
    refine open_c hC B T ?_ (fun σ_3 q4 => ?_)
    · clear h; exact q2.2.1  -- p2
    have a1 := fI_close j218.1 q2
    have a2 := fI_open a1.1 q4
    refine tellStatements_c hC B T ?_ (fun σ_5 q6 => ?_)
    · clear h; exact ⟨a2.1.2.1, a2.1.2.2.1, fun f => ⟨by obtain ⟨f1, l1, o1⟩ := a2.2.2 f; obtain ⟨f0, l0, o0⟩ := a1.2.2 f1; rw [o1, o0, (j218.2.2.2 f0).2]; rfl, (a2.1.2.2.2.2.2 f).2.1⟩⟩  -- p3
    have a3 := fI_ts a2.1 q6
    refine close_c hC B T ?_ (fun σ_7 q8 => ?_)
    · clear h; exact a3.2.1.1  -- p4
    have a4 := fI_close a3 q8
    refine isRight_c hC  (fun r9 q11 => ?_)
    refine ⟨fun c12 => ?_, fun c12 => ?_⟩
    · skip
      refine h _ ?_
      · clear h; exact ⟨a4.1, fun f => absurd c12 (q11.2.mpr f)⟩  -- q5
    · skip
      have f7 := q11.2.mp c12
      obtain ⟨f5, l5, o5⟩ := a4.2.2 f7
      obtain ⟨f3, -, -, -, o13, lf6⟩ := q6.2.2.2.2.2.2 f5
      obtain ⟨f1, l1, o1⟩ := a2.2.2 f3
      obtain ⟨f0, l0, o0⟩ := a1.2.2 f1
      have e18 : σ_7.1 18 = τ218.1 18 := by rw [q8.1.1 18 (by decide) (by decide) (by decide) (by decide), q6.1.1 18 (by decide) (by decide) (by decide) (by decide) (by decide) (by decide) (by decide) (by decide), q4.1.1 18 (by decide) (by decide) (by decide) (by decide), q2.1.1 18 (by decide) (by decide) (by decide) (by decide)]
      have l18 : σ_7.1 18 < 10 := by rw [e18]; exact (j218.2.2.2 f0).1.1
      have z18 := (f_b a4.1.2.1).1
      refine ⟨ib_10.mpr ?_, ?_⟩
      · clear h; exact ⟨z18, l18⟩  -- b6
      intro σ_13 hσ_13
      intro σ_14 hσ_14
      refine h _ ?_
      · clear h; have a5 : fI σ σ_13 B T := by rw [hσ_13]; exact fI_nr a4.1 (Or.inr (Or.inr (Or.inr (Or.inl ⟨rfl, j218.2.1, j218.2.2.1⟩))))
        have e13 : σ_13.1 18 = σ_7.1 18 := by rw [hσ_13, ri1]
        have u := f_up z18 l18
        have a6 : fI σ σ_14 B T := by rw [hσ_14, e13]; exact fI_si a5 (Or.inl rfl) (p0_f18 a5.2.1 u.1 u.2)
        have g1 : rd σ_1 29 (σ.1 18) < σ_1.1 19 := by rw [rd, a1.2.1, q2.1.1 19 (by decide) (by decide) (by decide) (by decide)]; exact (j218.2.2.2 f0).1.2.2
        have g3 : rd σ_3 29 (σ.1 18) < σ_3.1 19 := by rw [rd, a2.2.1, q4.1.1 19 (by decide) (by decide) (by decide) (by decide)]; exact g1
        have g5 : rd σ_5 29 (σ.1 18) < σ_5.1 19 := lf6 _ g3
        have g7 : rd σ_7 29 (σ.1 18) < σ_7.1 19 := by rw [rd, a4.2.1, q8.1.1 19 (by decide) (by decide) (by decide) (by decide)]; exact g5
        have e14 : σ_14.2.2.1 29 = σ_7.2.2.1 29 ∧ σ_14.1 19 = σ_7.1 19 ∧ σ_14.1 18 = σ.1 18 + 1 := ⟨by rw [hσ_14, si2, hσ_13, ri3 (by decide)], by rw [hσ_14, si1, if_neg (by decide), hσ_13, ri1], by rw [hσ_14, si1, if_pos rfl, e13, e18, (j218.2.2.2 f0).1.2.1]⟩
        have s18 : σ_7.1 18 = σ.1 18 := by rw [e18, (j218.2.2.2 f0).1.2.1]
        refine ⟨a6, fun _ => ⟨?_, fun f f0 f1 => ?_⟩⟩
        · rw [hσ_14, si1, if_neg (by decide), hσ_13, ri1, o5, o13]; rfl
        · rw [rd, e14.1, e14.2.1]
          rw [e14.2.2] at f1
          rcases s_cs (s18 ▸ z18) (Int32.le_of_lt (Int32.lt_of_lt_of_le (s18 ▸ l18) (by decide))) f1 with e | e
          · rw [e]; exact g7
          · exact (a4.1.2.2.2.2.2 f7).2.2 f f0 e
  have hh102 : ∀ (l1 : Int32) (l2 : Int32) (τ : rS), (fI σ τ B T ∧ 0 ≤ l1 ∧ l1 < 131074 ∧ nb l2 ∧ (τ.1 11 = 0 → (τ.1 18 < 10 ∧ τ.1 18 = σ.1 18 ∧ rd τ 29 (σ.1 18) < τ.1 19) ∧ τ.1 13 = 1 ∧ rd τ 26 (τ.1 41) = rd τ 27 (τ.1 41))) → w_tellFunc_102 C Q  l1 l2 τ := by
    intro z1 z2 τi hinit
    unfold w_tellFunc_102
    refine ⟨fun n l1 l2 τ => n = eMs (τ.1 11) 0 (if l2 = 0 then 2 else 0) (τ.1 10) T ∧ (fI σ τ B T ∧ 0 ≤ l1 ∧ l1 < 131074 ∧ nb l2 ∧ (τ.1 11 = 0 → (τ.1 18 < 10 ∧ τ.1 18 = σ.1 18 ∧ rd τ 29 (σ.1 18) < τ.1 19) ∧ τ.1 13 = 1 ∧ rd τ 26 (τ.1 41) = rd τ 27 (τ.1 41))), ⟨_, rfl, hinit⟩, ?_⟩
    clear hinit
    rintro n102 x102_1 x102_2 σ102 ⟨hn102, i102⟩
    have hj206 : ∀ (l1 : Int32) (s0 : Int32) (τ : rS), (σ102.1 11 = 0 ∧ x102_2 ≠ 0 ∧ fI σ τ B T ∧ 0 ≤ l1 ∧ l1 < 131074 ∧ nb s0 ∧ (τ.1 11 ≠ 0 → s0 = 0) ∧ (τ.1 11 = 0 → σ102.1 10 < τ.1 10 ∧ (s0 ≠ 0 → rd τ 5 (τ.1 10) = 3) ∧ (τ.1 18 < 10 ∧ τ.1 18 = σ.1 18 ∧ rd τ 29 (σ.1 18) < τ.1 19) ∧ τ.1 13 = 1 ∧ rd τ 26 (τ.1 41) = rd τ 27 (τ.1 41))) → w_tellFunc_206 C Q (fun l1' l2' τ => ∃ k < n102, (fun n l1 l2 τ => n = eMs (τ.1 11) 0 (if l2 = 0 then 2 else 0) (τ.1 10) T ∧ (fI σ τ B T ∧ 0 ≤ l1 ∧ l1 < 131074 ∧ nb l2 ∧ (τ.1 11 = 0 → (τ.1 18 < 10 ∧ τ.1 18 = σ.1 18 ∧ rd τ 29 (σ.1 18) < τ.1 19) ∧ τ.1 13 = 1 ∧ rd τ 26 (τ.1 41) = rd τ 27 (τ.1 41)))) k l1' l2' τ) l1 s0 τ := by
      rintro y206_1 y206_s0 τ206 j206
      unfold w_tellFunc_206
      refine ⟨fun c15 => ?_, fun c15 => ?_⟩
      · skip
        refine ⟨_, ?_, rfl, ?_⟩
        · clear h; obtain ⟨k1, k2, k3, k4, k5, k6, k7, k8⟩ := j206
          show eMs (τ206.1 11) 0 (if y206_s0 = 0 then 2 else 0) (τ206.1 10) T < n102
          rw [if_pos c15, hn102, k1, if_neg k2]
          exact eMs_lt (by decide) (fun _ _ z => absurd rfl z) (aI_at (aI_refl i102.1.2.1)).2.2.2.1 k3.2.1.1.2.2.2.2.2
        · clear h; obtain ⟨k1, k2, k3, k4, k5, k6, k7, k8⟩ := j206
          exact ⟨k3, k4, k5, k6, fun f => (k8 f).2.2⟩
      · skip
        refine go_c hC B T ?_ (fun σ_16 q17 => ?_)
        · clear h; obtain ⟨k1, k2, k3, k4, k5, k6, k7, k8⟩ := j206
          exact ⟨k3.2.1.1, fun f => by rw [(k8 f).2.1 c15]; decide⟩
        refine ⟨_, ?_, rfl, ?_⟩
        · clear h; obtain ⟨k1, k2, k3, k4, k5, k6, k7, k8⟩ := j206
          have b := fI_go k3 q17
          have f0 : τ206.1 11 = 0 := Decidable.byContradiction (fun z => c15 (k7 z))
          show eMs (σ_16.1 11) 0 (if y206_s0 = 0 then 2 else 0) (σ_16.1 10) T < n102
          rw [if_neg c15, hn102, k1, if_neg k2]
          exact eMs_lt (by decide) (fun f _ _ => Int32.lt_trans (k8 f0).1 (b.2.2 f).2) (aI_at (aI_refl i102.1.2.1)).2.2.2.1 b.1.2.1.1.2.2.2.2.2
        · clear h; obtain ⟨k1, k2, k3, k4, k5, k6, k7, k8⟩ := j206
          have b := fI_go k3 q17
          refine ⟨b.1, k4, k5, k6, fun f => ?_⟩
          have w := k8 (b.2.2 f).1
          have g := fun k (z1 : k ≠ 10) (z2 : k ≠ 11) (z3 : k ≠ 12) => q17.1.1 k z1 z2 z3
          exact ⟨⟨by rw [g 18 (by decide) (by decide) (by decide)]; exact w.2.2.1.1, by rw [g 18 (by decide) (by decide) (by decide)]; exact w.2.2.1.2.1, by rw [rd, b.2.1, g 19 (by decide) (by decide) (by decide)]; exact w.2.2.1.2.2⟩, by rw [g 13 (by decide) (by decide) (by decide)]; exact w.2.2.2.1, by simp only [rd]; rw [b.2.1, g 41 (by decide) (by decide) (by decide)]; exact w.2.2.2.2⟩
    have hj185 : ∀ (l1 : Int32) (τ : rS), (σ102.1 11 = 0 ∧ x102_2 ≠ 0 ∧ fI σ τ B T ∧ 0 ≤ l1 ∧ l1 < 131074 ∧ (τ.1 11 = 0 → σ102.1 10 < τ.1 10 ∧ (τ.1 18 < 10 ∧ τ.1 18 = σ.1 18 ∧ rd τ 29 (σ.1 18) < τ.1 19) ∧ τ.1 13 = 1 ∧ rd τ 26 (τ.1 41) = rd τ 27 (τ.1 41))) → w_tellFunc_185 C Q (fun l1' l2' τ => ∃ k < n102, (fun n l1 l2 τ => n = eMs (τ.1 11) 0 (if l2 = 0 then 2 else 0) (τ.1 10) T ∧ (fI σ τ B T ∧ 0 ≤ l1 ∧ l1 < 131074 ∧ nb l2 ∧ (τ.1 11 = 0 → (τ.1 18 < 10 ∧ τ.1 18 = σ.1 18 ∧ rd τ 29 (σ.1 18) < τ.1 19) ∧ τ.1 13 = 1 ∧ rd τ 26 (τ.1 41) = rd τ 27 (τ.1 41)))) k l1' l2' τ) l1 τ := by
      rintro y185_1 τ185 j185
      unfold w_tellFunc_185
      obtain ⟨k1, k2, k3, k4, k5, k6⟩ := j185
      refine isRight_c hC  (fun r18 q20 => ?_)
      refine ⟨fun c21 => ?_, fun c21 => ?_⟩
      · skip
        refine hj206 _ _ _ ?_
        · clear h; exact ⟨k1, k2, k3, k4, k5, nb_0, fun _ => rfl, fun f => absurd c21 (q20.2.mpr f)⟩  -- k13
      · skip
        refine isAt_c hC  ?_ (fun r22 q24 => ?_)
        · clear h; exact (aI_at (aI_refl k3.2.1)).2.2.2  -- p14
        refine ⟨fun c25 => ?_, fun c25 => ?_⟩
        · skip
          refine hj206 _ _ _ ?_
          · clear h; exact ⟨k1, k2, k3, k4, k5, nb_0, fun _ => rfl, fun f => ⟨(k6 f).1, fun z => absurd rfl z, (k6 f).2⟩⟩  -- k15
        · skip
          refine hj206 _ _ _ ?_
          · clear h; exact ⟨k1, k2, k3, k4, k5, nb_1, fun z => absurd (q20.2.mp c21) z, fun f => ⟨(k6 f).1, fun _ => (q24.2.mp c25).1, (k6 f).2⟩⟩  -- k16
    refine isRight_c hC  (fun r26 q28 => ?_)
    refine ⟨fun c29 => ?_, fun c29 => ?_⟩
    · skip
      refine hj218 _ _ ?_
      · clear h; exact ⟨i102.1, i102.2.1, i102.2.2.1, fun f => absurd c29 (q28.2.mpr f)⟩  -- k17
    · skip
      refine ⟨fun c30 => ?_, fun c30 => ?_⟩
      · skip
        refine hj218 _ _ ?_
        · clear h; exact ⟨i102.1, i102.2.1, i102.2.2.1, fun f => ⟨(i102.2.2.2.2 f).1, (i102.2.2.2.2 f).2.1⟩⟩  -- k18
      · skip
        refine ⟨ib_10.mpr ?_, ?_⟩
        · clear h; exact fn_b i102.1.2.1  -- b19
        refine fresh_c hC B T ?_ (fun r31 σ_32 q33 => ?_)
        · clear h; exact ⟨i102.1.2.1.1, i102.1.2.1.2.2.1, i102.1.2.1.2.2.2.1⟩  -- p20
        have f := q28.2.mp c29
        have b := fI_fresh i102.1 q33
        have w := i102.2.2.2.2 f
        have g := fun k (z1 : k ≠ 10) (z2 : k ≠ 11) (z3 : k ≠ 12) => q33.1.1 k z1 z2 z3
        refine isRight_c hC  (fun r34 q36 => ?_)
        refine ⟨fun c37 => ?_, fun c37 => ?_⟩
        · skip
          refine hj185 _ _ ?_
          · clear h; exact ⟨f, c30, b.1, i102.2.1, i102.2.2.1, fun f' => absurd c37 (q36.2.mpr f')⟩  -- k21
        · skip
          have f' := q36.2.mp c37
          have hv : rd σ_32 27 (σ_32.1 41) < 4 := by simp only [rd]; rw [b.2.1, g 41 (by decide) (by decide) (by decide)]; exact (b.2.2.1 f').2.2
          have v0 : 0 ≤ rd σ_32 27 (σ_32.1 41) := (vr_b b.1.2.1 _).1
          have hfn := fn_b b.1.2.1
          have gu := g_up v0 hv
          have w2 : rd σ_32 26 (σ_32.1 41) = rd σ_32 27 (σ_32.1 41) := by simp only [rd]; rw [b.2.1, g 41 (by decide) (by decide) (by decide)]; exact w.2.2
          refine ⟨ib_10.mpr ?_, ?_⟩
          · clear h; exact hfn  -- b22
          refine ⟨ib_80.mpr ?_, ?_⟩
          · clear h; exact ix_b hfn.1 hfn.2 v0 gu.2.2.2  -- b23
          intro σ_38 hσ_38
          refine ⟨ib_10.mpr ?_, ?_⟩
          · clear h; rw [hσ_38, ri1]; exact hfn  -- b24
          refine ⟨ib_10.mpr ?_, ?_⟩
          · clear h; rw [hσ_38, ri1]; exact hfn  -- b25
          intro σ_39 hσ_39
          refine ⟨ib_10.mpr ?_, ?_⟩
          · clear h; rw [hσ_39, ri1, hσ_38, ri1]; exact hfn  -- b26
          refine ⟨ib_10.mpr ?_, ?_⟩
          · clear h; rw [hσ_39, ri1, hσ_38, ri1]; exact hfn  -- b27
          intro σ_40 hσ_40
          refine hj185 _ _ ?_
          · clear h; have e38 : ∀ k, σ_38.1 k = σ_32.1 k := fun k => by rw [hσ_38, ri1]
            have e39 : ∀ k, σ_39.1 k = σ_32.1 k := fun k => by rw [hσ_39, ri1, e38]
            have e40 : ∀ k, σ_40.1 k = σ_32.1 k := fun k => by rw [hσ_40, ri1, e39]
            have x27 : σ_38.2.2.1 27 (σ_38.1 41).toNatClampNeg = rd σ_32 27 (σ_32.1 41) := by rw [e38, hσ_38, ri3 (by decide)]
            have x26 : σ_39.2.2.1 26 (σ_39.1 41).toNatClampNeg = rd σ_32 27 (σ_32.1 41) := by rw [e39, hσ_39, ri3 (by decide), hσ_38, ri3 (by decide)]; exact w2
            have c1 : fI σ σ_38 B T := by rw [hσ_38]; exact fI_nr b.1 (Or.inr (Or.inr (Or.inl ⟨rfl, b.2.2.2⟩)))
            have c2 : fI σ σ_39 B T := by rw [hσ_39, x27]; exact fI_nr c1 (Or.inr (Or.inl ⟨rfl, gu.1, gu.2.2.1⟩))
            have c3 : fI σ σ_40 B T := by rw [hσ_40, x26]; exact fI_nr c2 (Or.inl ⟨rfl, gu.1, gu.2.1⟩)
            refine ⟨f, c30, c3, i102.2.1, i102.2.2.1, fun _ => ⟨by rw [e40]; exact (b.2.2.1 f').2.1, ⟨by rw [e40, g 18 (by decide) (by decide) (by decide)]; exact w.1.1, by rw [e40, g 18 (by decide) (by decide) (by decide)]; exact w.1.2.1, by rw [rd, e40, hσ_40, ri3 (by decide), hσ_39, ri3 (by decide), hσ_38, ri3 (by decide), b.2.1, g 19 (by decide) (by decide) (by decide)]; exact w.1.2.2⟩, by rw [e40, g 13 (by decide) (by decide) (by decide)]; exact w.2.1, ?_⟩⟩
            have y26 : rd σ_40 26 (σ_40.1 41) = rd σ_32 27 (σ_32.1 41) + 1 := by rw [rd, e40, hσ_40, x26, e39, ri4, if_pos rfl]
            have y27 : rd σ_40 27 (σ_40.1 41) = rd σ_32 27 (σ_32.1 41) + 1 := by rw [rd, e40, hσ_40, ri3 (by decide), hσ_39, x27, e38, ri4, if_pos rfl]
            rw [y26, y27]
  have hj74 : ∀ (l1 : Int32) (τ : rS), (fI σ τ B T ∧ 0 ≤ l1 ∧ l1 < 131074 ∧ (τ.1 11 = 0 → (τ.1 18 < 10 ∧ τ.1 18 = σ.1 18 ∧ rd τ 29 (σ.1 18) < τ.1 19) ∧ τ.1 13 = 0 ∧ rd τ 26 (τ.1 41) = rd τ 27 (τ.1 41))) → w_tellFunc_74 C Q  l1 τ := by
    rintro y74_1 τ74 j74
    unfold w_tellFunc_74
    refine open_c hC B T ?_ (fun σ_41 q42 => ?_)
    · clear h; exact j74.1.2.1.1  -- p29
    have a1 := fI_open j74.1 q42
    have aw : σ_41.1 11 = 0 → (σ_41.1 18 < 10 ∧ σ_41.1 18 = σ.1 18 ∧ rd σ_41 29 (σ.1 18) < σ_41.1 19) ∧ σ_41.1 13 = 1 ∧ rd σ_41 26 (σ_41.1 41) = rd σ_41 27 (σ_41.1 41) := fun f => by
      obtain ⟨f0, l0, o0⟩ := a1.2.2 f
      obtain ⟨w1, w2, w3⟩ := j74.2.2.2 f0
      refine ⟨⟨by rw [q42.1.1 18 (by decide) (by decide) (by decide) (by decide)]; exact w1.1, by rw [q42.1.1 18 (by decide) (by decide) (by decide) (by decide)]; exact w1.2.1, by rw [rd, a1.2.1, q42.1.1 19 (by decide) (by decide) (by decide) (by decide)]; exact w1.2.2⟩, by rw [o0, w2]; rfl, ?_⟩
      simp only [rd]; rw [a1.2.1, q42.1.1 41 (by decide) (by decide) (by decide) (by decide)]; exact w3
    refine isRight_c hC  (fun r43 q45 => ?_)
    refine ⟨fun c46 => ?_, fun c46 => ?_⟩
    · skip
      refine hh102 _ _ _ ?_
      · clear h; exact ⟨a1.1, j74.2.1, j74.2.2.1, nb_0, aw⟩  -- j30
    · skip
      refine isAt_c hC  ?_ (fun r47 q49 => ?_)
      · clear h; exact (aI_at (aI_refl a1.1.2.1)).2.2.2  -- p31
      refine ⟨fun c50 => ?_, fun c50 => ?_⟩
      · skip
        refine hh102 _ _ _ ?_
        · clear h; exact ⟨a1.1, j74.2.1, j74.2.2.1, nb_0, aw⟩  -- j32
      · skip
        refine hh102 _ _ _ ?_
        · clear h; exact ⟨a1.1, j74.2.1, j74.2.2.1, nb_1, aw⟩  -- j33
  have hj34 : ∀ (l1 : Int32) (s1 : Int32) (τ : rS), (fI σ τ B T ∧ 0 ≤ l1 ∧ l1 < 131074 ∧ 0 ≤ s1 ∧ s1 < 10 ∧ (τ.1 11 = 0 → (τ.1 18 < 10 ∧ τ.1 18 = σ.1 18 ∧ s1 = σ.1 18) ∧ τ.1 13 = 0)) → w_tellFunc_34 C Q  l1 s1 τ := by
    rintro y34_1 y34_s1 τ34 j34
    unfold w_tellFunc_34
    intro σ_51 hσ_51
    have a1 : fI σ σ_51 B T := by rw [hσ_51]; exact fI_si j34.1 (Or.inr rfl) (p0_f41 j34.1.2.1 j34.2.2.2.1 j34.2.2.2.2.1)
    have e51 : ∀ k, k ≠ 41 → σ_51.1 k = τ34.1 k := fun k hk => by rw [hσ_51, si1, if_neg hk]
    refine isRight_c hC  (fun r52 q54 => ?_)
    refine ⟨fun c55 => ?_, fun c55 => ?_⟩
    · skip
      refine hj74 _ _ ?_
      · clear h; exact ⟨a1, j34.2.1, j34.2.2.1, fun f => absurd c55 (q54.2.mpr f)⟩  -- k34
    · skip
      refine ⟨ib_10.mpr ?_, ?_⟩
      · clear h; exact fn_b a1.2.1  -- b35
      intro σ_56 hσ_56
      refine ⟨ib_10.mpr ?_, ?_⟩
      · clear h; rw [hσ_56, ri1]; exact fn_b a1.2.1  -- b36
      intro σ_57 hσ_57
      refine ⟨ib_10.mpr ?_, ?_⟩
      · clear h; rw [hσ_57, ri1, hσ_56, ri1]; exact fn_b a1.2.1  -- b37
      intro σ_58 hσ_58
      refine hj74 _ _ ?_
      · clear h; have c1 : fI σ σ_56 B T := by rw [hσ_56]; exact fI_nr a1 (Or.inr (Or.inl ⟨rfl, by decide, by decide⟩))
        have c2 : fI σ σ_57 B T := by rw [hσ_57]; exact fI_nr c1 (Or.inl ⟨rfl, by decide, by decide⟩)
        have c3 : fI σ σ_58 B T := by rw [hσ_58]; exact fI_nr c2 (Or.inr (Or.inr (Or.inr (Or.inr ⟨rfl, rfl⟩))))
        have e58 : ∀ k, σ_58.1 k = σ_51.1 k := fun k => by rw [hσ_58, ri1, hσ_57, ri1, hσ_56, ri1]
        refine ⟨c3, j34.2.1, j34.2.2.1, fun f => ?_⟩
        have f0 : τ34.1 11 = 0 := by rw [← e51 11 (by decide), ← e58]; exact f
        have w := j34.2.2.2.2.2 f0
        refine ⟨⟨by rw [e58, e51 18 (by decide)]; exact w.1.1, by rw [e58, e51 18 (by decide)]; exact w.1.2.1, ?_⟩, by rw [e58, e51 13 (by decide)]; exact w.2, ?_⟩
        · have y41 : σ_57.1 41 = σ.1 18 := by rw [hσ_57, ri1, hσ_56, ri1, hσ_51, si1, if_pos rfl]; exact w.1.2.2
          rw [rd, hσ_58, ri1, y41, ri4, if_pos rfl]
          exact Int32.lt_of_lt_of_le (by decide) (st_b c2.2.1).1
        have y26 : rd σ_58 26 (σ_58.1 41) = 0 := by rw [rd, e58, hσ_58, ri3 (by decide), hσ_57, hσ_56, ri1, ri4, if_pos rfl]
        have y27 : rd σ_58 27 (σ_58.1 41) = 0 := by rw [rd, e58, hσ_58, ri3 (by decide), hσ_57, ri3 (by decide), hσ_56, ri4, if_pos rfl]
        rw [y26, y27]
  refine go_c hC B T ?_ (fun σ_59 q60 => ?_)
  · clear h; exact ⟨hP.1, fun _ => hn⟩  -- p39
  have aa := aI_go (aI_refl hP) q60
  have a0 : fI σ σ_59 B T := ⟨frG_3 q60.1, aa.1.2.1, tS_2 hS aa.2.1, by rw [aa.2.1]; exact rHi_refl, by rw [aa.2.1]; exact rLo_refl, fun f => ⟨(aa.2.2 f).2.1, stA_up hP.1.1 hA.2.2.2.2 hst (by rw [aa.2.1]) (by rw [aa.2.1]) (q60.1.1 19 (by decide) (by decide) (by decide)) ⟨by rw [aa.2.1], by rw [aa.2.1], by rw [aa.2.1], by rw [aa.2.1], by rw [aa.2.1], by rw [aa.2.1], by rw [aa.2.1]⟩ (by rw [aa.2.1]; exact rLo_refl) (Int32.le_of_lt (aa.2.2 f).2.1), fA_lk hfa (lkF_o (by rw [aa.2.1]) (q60.1.1 19 (by decide) (by decide) (by decide)))⟩⟩
  refine fresh_c hC B T ?_ (fun r61 σ_62 q63 => ?_)
  · clear h; exact ⟨a0.2.1.1, a0.2.1.2.2.1, a0.2.1.2.2.2.1⟩  -- p40
  have b := fI_fresh a0 q63
  have e62 : σ_62.1 18 = σ.1 18 := by rw [q63.1.1 18 (by decide) (by decide) (by decide), q60.1.1 18 (by decide) (by decide) (by decide)]
  have bw : σ_62.1 11 = 0 → (σ_62.1 18 < 10 ∧ σ_62.1 18 = σ.1 18) ∧ σ_62.1 13 = 0 := fun f => ⟨⟨by rw [q63.1.1 18 (by decide) (by decide) (by decide)]; exact (b.2.2.1 f).2.2, e62⟩, by rw [q63.1.1 13 (by decide) (by decide) (by decide), q60.1.1 13 (by decide) (by decide) (by decide)]; exact ho⟩
  refine ⟨fun c64 => ?_, fun c64 => ?_⟩
  · skip
    refine hj34 _ _ _ ?_
    · clear h; exact ⟨b.1, b.2.2.2.1, b.2.2.2.2, by decide, by decide, fun f => absurd (bw f).1.1 (Int32.not_lt.mpr c64)⟩  -- k41
  · skip
    refine hj34 _ _ _ ?_
    · clear h; exact ⟨b.1, b.2.2.2.1, b.2.2.2.2, (f_b b.1.2.1).1, g_nl c64, fun f => ⟨⟨(bw f).1.1, (bw f).1.2, e62⟩, (bw f).2⟩⟩  -- k42
