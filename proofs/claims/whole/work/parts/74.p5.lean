section
set_option maxHeartbeats 1600000
/-! the reference: rings, states that can end -/
/-- state a can end at once -/
def endN (σ : rS) (p : Int32) (a : Nat) : Prop := ∃ i : Int32, σ.2.2.1 76 a ≤ i ∧ i < σ.2.2.1 76 (a + 1) ∧ rd σ 77 i ≠ 0 ∧ (p = 0 ∨ σ.2.2.1 81 a = 0 ∨ i = σ.2.2.1 76 a + σ.2.2.1 83 a)
def endI (σ : rS) (p : Int32) (a : Nat) (i : Int32) : Prop := ∃ j : Int32, σ.2.2.1 76 a ≤ j ∧ j < i ∧ rd σ 77 j ≠ 0 ∧ (p = 0 ∨ σ.2.2.1 81 a = 0 ∨ j = σ.2.2.1 76 a + σ.2.2.1 83 a)
theorem endI_s {σ : rS} {p i : Int32} {a : Nat} (h0 : 0 ≤ i) (h1 : i < 20000) (h2 : σ.2.2.1 76 a ≤ i) : endI σ p a (i + 1) ↔ endI σ p a i ∨ (rd σ 77 i ≠ 0 ∧ (p = 0 ∨ σ.2.2.1 81 a = 0 ∨ i = σ.2.2.1 76 a + σ.2.2.1 83 a)) := by
  constructor
  · rintro ⟨j, g1, g2, g3⟩
    rcases i_sp h0 h1 g2 with e | e
    · subst e; exact Or.inr g3
    · exact Or.inl ⟨j, g1, e, g3⟩
  · rintro (⟨j, g1, g2, g3⟩ | g)
    · exact ⟨j, g1, Int32.lt_trans g2 (by grind), g3⟩
    · exact ⟨i, h2, by grind, g⟩
/-- states a and b are in one ring -/
def rng (r : Nat → Int64) (a b : Nat) : Prop := bR r a b = true ∧ bR r b a = true
/-- how many states below n are in a ring with a -/
def cntR (r : Nat → Int64) (a : Nat) : Nat → Nat
  | 0 => 0
  | n + 1 => cntR r a n + (if bR r a n = true ∧ bR r n a = true then 1 else 0)
theorem cntR_le {r : Nat → Int64} {a n : Nat} : cntR r a n ≤ n := by
  induction n with
  | zero => exact Nat.le_refl _
  | succ n ih =>
    show cntR r a n + (if bR r a n = true ∧ bR r n a = true then 1 else 0) ≤ n + 1
    split <;> omega
theorem cnt_in {r : Nat → Int64} {a n : Nat} (h : rng r a n) : cntR r a (n + 1) = cntR r a n + 1 := by
  show cntR r a n + (if bR r a n = true ∧ bR r n a = true then 1 else 0) = _
  rw [if_pos (show bR r a n = true ∧ bR r n a = true from h)]
theorem cnt_out {r : Nat → Int64} {a n : Nat} (h : ¬ rng r a n) : cntR r a (n + 1) = cntR r a n := by
  show cntR r a n + (if bR r a n = true ∧ bR r n a = true then 1 else 0) = _
  rw [if_neg (show ¬ (bR r a n = true ∧ bR r n a = true) from h)]
  rfl
theorem le_up {a b : Int32} (h0 : 0 ≤ a) (h1 : a ≤ b) (h2 : b < 1000) : 0 ≤ a + 1 ∧ a + 1 ≤ b + 1 ∧ a < 1000000 ∧ a ≤ b + 1 := by grind
theorem isRingWith_c {C : rCx} (hC : cOK C)  {σ : rS} {a1 : Int32} {a2 : Int32} {Q : Int32 → rS → Prop} (hp : 0 ≤ a1 ∧ a1 < 1000 ∧ 0 ≤ a2 ∧ a2 < 1000) (h : ∀ (v : Int32), (nb v ∧ (v ≠ 0 ↔ rng (σ.2.2.2 86) a1.toNatClampNeg a2.toNatClampNeg)) → Q v σ) : cI C 1 m_isRingWith [.ref (co C), .int a1, .int a2] σ Q := by
  refine m_isRingWith_run hC ?_
  unfold w_isRingWith_0
  refine leads_c hC  ?_ (fun r1 q3 => ?_)
  · clear h; exact hp  -- p1
  refine ⟨fun c4 => ?_, fun c4 => ?_⟩
  · skip
    refine h _ ?_
    · clear h; exact ⟨nb_0, fun z => absurd rfl z, fun z => absurd c4 (q3.2.mpr z.1)⟩  -- q2
  · skip
    refine leads_c hC  ?_ (fun r5 q7 => ?_)
    · clear h; exact ⟨hp.2.2.1, hp.2.2.2, hp.1, hp.2.1⟩  -- p3
    refine ⟨fun c8 => ?_, fun c8 => ?_⟩
    · skip
      refine h _ ?_
      · clear h; exact ⟨nb_0, fun z => absurd rfl z, fun z => absurd c8 (q7.2.mpr z.2)⟩  -- q4
    · skip
      refine h _ ?_
      · clear h; exact ⟨nb_1, fun _ => ⟨q3.2.mp c4, q7.2.mp c8⟩, fun _ => by decide⟩  -- q5

theorem endsAtOnce_c {C : rCx} (hC : cOK C)  {σ : rS} {a1 : Int32} {a2 : Int32} {Q : Int32 → rS → Prop} (hp : exO σ ∧ 0 ≤ a1 ∧ a1 < σ.1 70) (h : ∀ (v : Int32), (nb v ∧ (v ≠ 0 ↔ endN σ a2 a1.toNatClampNeg)) → Q v σ) : cI C 1 m_endsAtOnce [.ref (co C), .int a1, .int a2] σ Q := by
  refine m_endsAtOnce_run hC ?_
  unfold w_endsAtOnce_0
  obtain ⟨hO, h0, h1⟩ := hp
  have st := ex_st hO h0 h1
  refine ⟨ib_1001.mpr ?_, ?_⟩
  · clear h; exact ⟨h0, (k1001 h0 st.2.2.2.2.1).2.2.1⟩  -- b1
  intro x1 hx1
  unfold w_endsAtOnce_10
  refine ⟨fun n l1 l2 l3 l4 τ => n = (σ.2.2.1 76 (a1 + 1).toNatClampNeg - l4).toNatClampNeg ∧ (σ = τ ∧ l1 = a1 ∧ l2 = a2 ∧ nb l3 ∧ σ.2.2.1 76 a1.toNatClampNeg ≤ l4 ∧ l4 ≤ σ.2.2.1 76 (a1 + 1).toNatClampNeg ∧ (l3 ≠ 0 ↔ endI σ a2 a1.toNatClampNeg l4)), ⟨_, rfl, ?_⟩, ?_⟩
  · clear h; refine ⟨rfl, rfl, rfl, nb_0, by rw [hx1]; exact Int32.le_refl _, by rw [hx1, st.2.2.2.1]; exact st.2.1, fun z => absurd rfl z, fun z => ?_⟩
    obtain ⟨j, g1, g2, -⟩ := z
    rw [hx1] at g2
    exact absurd g2 (Int32.not_lt.mpr g1)
  rintro n10 x10_1 x10_2 x10_3 x10_4 _ ⟨hn10, rfl, i10⟩
  have hj53 : ∀ (l1 : Int32) (l2 : Int32) (l4 : Int32) (s0 : Int32) (τ : rS), (σ = τ ∧ l1 = a1 ∧ l2 = a2 ∧ l4 = x10_4 ∧ ¬ σ.2.2.1 76 (a1 + 1).toNatClampNeg ≤ x10_4 ∧ nb s0 ∧ (s0 ≠ 0 ↔ endI σ a2 a1.toNatClampNeg (x10_4 + 1))) → w_endsAtOnce_53 C Q (fun l1' l2' l3' l4' τ => ∃ k < n10, (fun n l1 l2 l3 l4 τ => n = (σ.2.2.1 76 (a1 + 1).toNatClampNeg - l4).toNatClampNeg ∧ (σ = τ ∧ l1 = a1 ∧ l2 = a2 ∧ nb l3 ∧ σ.2.2.1 76 a1.toNatClampNeg ≤ l4 ∧ l4 ≤ σ.2.2.1 76 (a1 + 1).toNatClampNeg ∧ (l3 ≠ 0 ↔ endI σ a2 a1.toNatClampNeg l4))) k l1' l2' l3' l4' τ) l1 l2 l4 s0 τ := by
    rintro y53_1 y53_2 y53_4 y53_s0 _ ⟨rfl, j53⟩
    unfold w_endsAtOnce_53
    intro x2 hx2
    obtain ⟨e1, e2, g1, g2, g3, g4⟩ := i10
    obtain ⟨f1, f2, f3, f4, f5, f6⟩ := j53
    have n1 : σ.2.2.1 76 (a1 + 1).toNatClampNeg ≤ 20000 := by rw [st.2.2.2.1]; exact Int32.le_trans st.2.2.1 hO.2.2.1.2
    have q := u2 (Int32.le_trans st.1.1 g2) f4 n1
    refine ⟨_, cn_lt2 hn10 ?_ ?_, rfl, ?_⟩
    · clear h; rw [hx2, f3]; exact q.1  -- d3
    · clear h; rw [hx2, f3]; exact q.2.1  -- d4
    · clear h; rw [hx2, f3]; exact ⟨rfl, f1, f2, f5, Int32.le_trans g2 q.2.2.2.1, q.2.2.2.2.1, f6⟩  -- i5
  obtain ⟨e1, e2, g1, g2, g3, g4⟩ := i10
  have n1 : σ.2.2.1 76 (a1 + 1).toNatClampNeg ≤ 20000 := by rw [st.2.2.2.1]; exact Int32.le_trans st.2.2.1 hO.2.2.1.2
  have i0 := Int32.le_trans st.1.1 g2
  refine ⟨ib_1001.mpr ?_, ?_⟩
  · clear h; rw [e1]; exact ⟨st.2.2.2.2.2.1, st.2.2.2.2.2.2⟩  -- b6
  refine ⟨fun c3 => ?_, fun c3 => ?_⟩
  · skip
    refine ⟨?_, h _ ?_⟩
    · clear h; exact g1  -- b7
    · clear h; rw [e1] at c3
      have e : x10_4 = σ.2.2.1 76 (a1.toNatClampNeg + 1) := by rw [← st.2.2.2.1]; exact Int32.le_antisymm g3 c3
      rw [e] at g4
      exact ⟨g1, g4⟩
  · skip
    have c3' : ¬ σ.2.2.1 76 (a1 + 1).toNatClampNeg ≤ x10_4 := by rw [e1] at c3; exact c3
    have q := u2 i0 c3' n1
    have es : endI σ a2 a1.toNatClampNeg (x10_4 + 1) ↔ endI σ a2 a1.toNatClampNeg x10_4 ∨ (rd σ 77 x10_4 ≠ 0 ∧ (a2 = 0 ∨ σ.2.2.1 81 a1.toNatClampNeg = 0 ∨ x10_4 = σ.2.2.1 76 a1.toNatClampNeg + σ.2.2.1 83 a1.toNatClampNeg)) := endI_s i0 q.2.2.2.2.2.2 g2
    refine ⟨fun c4 => ?_, fun c4 => ?_⟩
    · skip
      refine hj53 _ _ _ _ _ ?_
      · clear h; exact ⟨rfl, e1, e2, rfl, c3', nb_1, fun _ => es.mpr (Or.inl (g4.mp c4)), fun _ => by decide⟩  -- k9
    · skip
      refine ⟨ib_20000.mpr ?_, ?_⟩
      · clear h; exact ⟨i0, q.2.2.2.2.2.2⟩  -- b10
      refine ⟨fun c5 => ?_, fun c5 => ?_⟩
      · skip
        refine hj53 _ _ _ _ _ ?_
        · clear h; refine ⟨rfl, e1, e2, rfl, c3', nb_0, fun z => absurd rfl z, fun z => ?_⟩
          rcases es.mp z with y | y
          · exact absurd c4 (g4.mpr y)
          · exact absurd c5 y.1
      · skip
        refine isTaken_c hC  ?_ (fun r6 q8 => ?_)
        · clear h; rw [e1]; exact ⟨h0, st.2.2.2.2.1⟩  -- p12
        have tk := q8.2
        rw [e1, e2] at tk
        refine ⟨fun c9 => ?_, fun c9 => ?_⟩
        · skip
          refine hj53 _ _ _ _ _ ?_
          · clear h; refine ⟨rfl, e1, e2, rfl, c3', nb_0, fun z => absurd rfl z, fun z => ?_⟩
            rcases es.mp z with y | y
            · exact absurd c4 (g4.mpr y)
            · exact absurd c9 (tk.mpr y.2)
        · skip
          refine hj53 _ _ _ _ _ ?_
          · clear h; exact ⟨rfl, e1, e2, rfl, c3', nb_1, fun _ => es.mpr (Or.inr ⟨c5, tk.mp c9⟩), fun _ => by decide⟩  -- k14

theorem canEnd_c {C : rCx} (hC : cOK C)  {σ : rS} {a1 : Int32} {a2 : Int32} {Q : Int32 → rS → Prop} (hp : exO σ ∧ 0 ≤ a1 ∧ a1 < σ.1 70) (h : ∀ (v : Int32), (nb v ∧ (v ≠ 0 ↔ endN σ a2 a1.toNatClampNeg ∨ ∃ m, m < (σ.1 70).toNatClampNeg ∧ bR (σ.2.2.2 86) a1.toNatClampNeg m = true ∧ endN σ a2 m)) → Q v σ) : cI C 2 m_canEnd [.ref (co C), .int a1, .int a2] σ Q := by
  refine m_canEnd_run hC ?_
  unfold w_canEnd_0
  obtain ⟨hO, h0, h1⟩ := hp
  refine endsAtOnce_c hC  ?_ (fun r1 q3 => ?_)
  · clear h; exact ⟨hO, h0, h1⟩  -- p1
  unfold w_canEnd_10
  refine ⟨fun n l1 l2 l3 l4 τ => n = (σ.1 70 - l4).toNatClampNeg ∧ (σ = τ ∧ l1 = a1 ∧ l2 = a2 ∧ nb l3 ∧ 0 ≤ l4 ∧ l4 ≤ σ.1 70 ∧ (l3 ≠ 0 ↔ endN σ a2 a1.toNatClampNeg ∨ ∃ m, m < l4.toNatClampNeg ∧ bR (σ.2.2.2 86) a1.toNatClampNeg m = true ∧ endN σ a2 m)), ⟨_, rfl, ?_⟩, ?_⟩
  · clear h; refine ⟨rfl, rfl, rfl, q3.1, by decide, hO.1.1, q3.2.trans ⟨fun z => Or.inl z, fun z => ?_⟩⟩
    rcases z with z | ⟨m, hm, -⟩
    · exact z
    · exact absurd hm (Nat.not_lt_zero m)
  rintro n10 x10_1 x10_2 x10_3 x10_4 _ ⟨hn10, rfl, i10⟩
  have hj48 : ∀ (l1 : Int32) (l2 : Int32) (l4 : Int32) (s0 : Int32) (τ : rS), (σ = τ ∧ l1 = a1 ∧ l2 = a2 ∧ l4 = x10_4 ∧ x10_3 = 0 ∧ ¬ σ.1 70 ≤ x10_4 ∧ nb s0 ∧ (s0 ≠ 0 ↔ bR (σ.2.2.2 86) a1.toNatClampNeg x10_4.toNatClampNeg = true ∧ endN σ a2 x10_4.toNatClampNeg)) → w_canEnd_48 C Q (fun l1' l2' l3' l4' τ => ∃ k < n10, (fun n l1 l2 l3 l4 τ => n = (σ.1 70 - l4).toNatClampNeg ∧ (σ = τ ∧ l1 = a1 ∧ l2 = a2 ∧ nb l3 ∧ 0 ≤ l4 ∧ l4 ≤ σ.1 70 ∧ (l3 ≠ 0 ↔ endN σ a2 a1.toNatClampNeg ∨ ∃ m, m < l4.toNatClampNeg ∧ bR (σ.2.2.2 86) a1.toNatClampNeg m = true ∧ endN σ a2 m))) k l1' l2' l3' l4' τ) l1 l2 l4 s0 τ := by
    rintro y48_1 y48_2 y48_4 y48_s0 _ ⟨rfl, j48⟩
    unfold w_canEnd_48
    intro x4 hx4
    obtain ⟨e1, e2, g1, g2, g3, g4⟩ := i10
    obtain ⟨f1, f2, f3, f4, f5, f6, f7⟩ := j48
    have u := uk g2 f5 hO.1.2
    have k1 := cn_succ g2 (Int32.lt_trans u.2.2.2.2.2 (by decide))
    refine ⟨_, cn_lt2 hn10 ?_ ?_, rfl, ?_⟩
    · clear h; rw [hx4, f3]; exact u.1  -- d3
    · clear h; rw [hx4, f3]; exact u.2.1  -- d4
    · clear h; rw [hx4, f3]
      refine ⟨rfl, f1, f2, f6, u.2.2.1, u.2.2.2.1, ?_⟩
      rw [f7, k1]
      constructor
      · exact fun z => Or.inr ⟨x10_4.toNatClampNeg, by omega, z.1, z.2⟩
      · rintro (z | ⟨m, hm, z1, z2⟩)
        · exact absurd f4 (g4.mpr (Or.inl z))
        · by_cases e : m = x10_4.toNatClampNeg
          · rw [e] at z1 z2; exact ⟨z1, z2⟩
          · exact absurd f4 (g4.mpr (Or.inr ⟨m, by omega, z1, z2⟩))
  obtain ⟨e1, e2, g1, g2, g3, g4⟩ := i10
  refine ⟨fun c5 => ?_, fun c5 => ?_⟩
  · skip
    refine ⟨?_, h _ ?_⟩
    · clear h; exact g1  -- b6
    · clear h; have e : x10_4 = σ.1 70 := Int32.le_antisymm g3 c5
      rw [e] at g4
      exact ⟨g1, g4⟩
  · skip
    refine ⟨fun c6 => ?_, fun c6 => ?_⟩
    · skip
      refine ⟨?_, h _ ?_⟩
      · clear h; exact g1  -- b8
      · clear h; refine ⟨g1, fun _ => ?_, fun _ => c6⟩
        have l := cn_l g3 g2
        rcases g4.mp c6 with z | ⟨m, hm, z⟩
        · exact Or.inl z
        · exact Or.inr ⟨m, by omega, z⟩
    · skip
      have u := uk g2 c5 hO.1.2
      refine leads_c hC  ?_ (fun r7 q9 => ?_)
      · clear h; rw [e1]; exact ⟨h0, Int32.lt_of_lt_of_le h1 hO.1.2, g2, u.2.2.2.2.2⟩  -- p10
      have ql := q9.2
      rw [e1] at ql
      refine ⟨fun c10 => ?_, fun c10 => ?_⟩
      · skip
        refine hj48 _ _ _ _ _ ?_
        · clear h; exact ⟨rfl, e1, e2, rfl, c6, c5, nb_0, fun z => absurd rfl z, fun z => absurd c10 (ql.mpr z.1)⟩  -- k11
      · skip
        refine endsAtOnce_c hC  ?_ (fun r11 q13 => ?_)
        · clear h; exact ⟨hO, g2, u.2.2.2.2.1⟩  -- p12
        have qe := q13.2
        rw [e2] at qe
        refine ⟨fun c14 => ?_, fun c14 => ?_⟩
        · skip
          refine hj48 _ _ _ _ _ ?_
          · clear h; exact ⟨rfl, e1, e2, rfl, c6, c5, nb_0, fun z => absurd rfl z, fun z => absurd c14 (qe.mpr z.2)⟩  -- k13
        · skip
          refine hj48 _ _ _ _ _ ?_
          · clear h; exact ⟨rfl, e1, e2, rfl, c6, c5, nb_1, fun _ => ⟨ql.mp c10, qe.mp c14⟩, fun _ => by decide⟩  -- k14

theorem ringOf_c {C : rCx} (hC : cOK C)  {σ : rS} {a1 : Int32} {Q : Int32 → rS → Prop} (hp : 0 ≤ a1 ∧ a1 < σ.1 70 ∧ σ.1 70 ≤ 1000) (h : ∀ (v : Int32), (0 ≤ v ∧ v ≤ 1000 ∧ (bR (σ.2.2.2 86) a1.toNatClampNeg a1.toNatClampNeg = true → (∀ m, m < a1.toNatClampNeg → ¬ rng (σ.2.2.2 86) a1.toNatClampNeg m) → v.toNatClampNeg = cntR (σ.2.2.2 86) a1.toNatClampNeg (σ.1 70).toNatClampNeg)) → Q v σ) : cI C 2 m_ringOf [.ref (co C), .int a1] σ Q := by
  refine m_ringOf_run hC ?_
  unfold w_ringOf_0
  obtain ⟨h0, h1, h2⟩ := hp
  refine leads_c hC  ?_ (fun r1 q3 => ?_)
  · clear h; exact ⟨h0, Int32.lt_of_lt_of_le h1 h2, h0, Int32.lt_of_lt_of_le h1 h2⟩  -- p1
  refine ⟨fun c4 => ?_, fun c4 => ?_⟩
  · skip
    unfold w_ringOf_15
    refine ⟨fun n l1 l2 l3 τ => n = (σ.1 70 - l3).toNatClampNeg ∧ (σ = τ ∧ l1 = a1 ∧ 0 ≤ l2 ∧ l2 ≤ l3 ∧ 0 ≤ l3 ∧ l3 ≤ σ.1 70 ∧ l2.toNatClampNeg = cntR (σ.2.2.2 86) a1.toNatClampNeg l3.toNatClampNeg), ⟨_, rfl, ?_⟩, ?_⟩
    · clear h; exact ⟨rfl, rfl, by decide, by decide, by decide, Int32.le_trans h0 (Int32.le_of_lt h1), rfl⟩  -- j2
    rintro n15 x15_1 x15_2 x15_3 _ ⟨hn15, rfl, i15⟩
    obtain ⟨e1, g1, g2, g3, g4, g5⟩ := i15
    refine ⟨fun c5 => ?_, fun c5 => ?_⟩
    · skip
      refine h _ ?_
      · clear h; have e : x15_3 = σ.1 70 := Int32.le_antisymm g4 c5
        rw [e] at g5
        exact ⟨g1, Int32.le_trans g2 (Int32.le_trans g4 h2), fun _ _ => g5⟩
    · skip
      have u := uk g3 c5 h2
      have k3 := cn_succ g3 (Int32.lt_trans u.2.2.2.2.2 (by decide))
      have lu := le_up g1 g2 u.2.2.2.2.2
      refine isRingWith_c hC  ?_ (fun r6 q8 => ?_)
      · clear h; rw [e1]; exact ⟨h0, Int32.lt_of_lt_of_le h1 h2, g3, u.2.2.2.2.2⟩  -- p4
      have qr := q8.2
      rw [e1] at qr
      refine ⟨fun c9 => ?_, fun c9 => ?_⟩
      · skip
        intro x10 hx10
        refine ⟨_, cn_lt2 hn15 ?_ ?_, rfl, ?_⟩
        · clear h; rw [hx10]; exact u.1  -- d5
        · clear h; rw [hx10]; exact u.2.1  -- d6
        · clear h; rw [hx10]
          refine ⟨rfl, e1, g1, lu.2.2.2, u.2.2.1, u.2.2.2.1, ?_⟩
          rw [k3, cnt_out (fun z => absurd c9 (qr.mpr z))]
          exact g5
      · skip
        refine ⟨fun c11 => ?_, fun c11 => ?_⟩
        · skip
          intro x12 hx12
          intro x13 hx13
          refine ⟨_, cn_lt2 hn15 ?_ ?_, rfl, ?_⟩
          · clear h; rw [hx13]; exact u.1  -- d8
          · clear h; rw [hx13]; exact u.2.1  -- d9
          · clear h; rw [hx12, hx13]
            refine ⟨rfl, e1, lu.1, lu.2.1, u.2.2.1, u.2.2.2.1, ?_⟩
            rw [k3, cn_succ g1 lu.2.2.1, cnt_in (qr.mp c9), g5]
        · skip
          refine h _ ?_
          · clear h; rw [e1] at c11
            exact ⟨by decide, by decide, fun _ hm => absurd (qr.mp c9) (hm _ (cn_lt g3 (Int32.not_le.mp c11)))⟩
  · skip
    refine h _ ?_
    · clear h; exact ⟨by decide, by decide, fun z => absurd c4 (q3.2.mpr z)⟩  -- q12

/-- the least state of a ring -/
theorem rng_least {r : Nat → Int64} {k : Nat} (h : bR r k k = true) : ∃ m, m ≤ k ∧ rng r k m ∧ ∀ j, j < m → ¬ rng r k j := by
  have : ∀ n, n ≤ k + 1 → (∀ j, j < n → ¬ rng r k j) ∨ ∃ m, m < n ∧ rng r k m ∧ ∀ j, j < m → ¬ rng r k j := by
    intro n
    induction n with
    | zero => exact fun _ => Or.inl (fun j hj => absurd hj (Nat.not_lt_zero j))
    | succ n ih =>
      intro hn
      rcases ih (by omega) with z | ⟨m, m1, m2, m3⟩
      · by_cases e : rng r k n
        · exact Or.inr ⟨n, by omega, e, z⟩
        · refine Or.inl (fun j hj => ?_)
          by_cases ej : j = n
          · rw [ej]; exact e
          · exact z j (by omega)
      · exact Or.inr ⟨m, by omega, m2, m3⟩
  rcases this (k + 1) (Nat.le_refl _) with z | ⟨m, m1, m2, m3⟩
  · exact absurd ⟨h, h⟩ (z k (by omega))
  · exact ⟨m, by omega, m2, m3⟩
theorem cntR_pos {r : Nat → Int64} {a n m : Nat} (hm : m < n) (h : rng r a m) : 0 < cntR r a n := by
  induction n with
  | zero => omega
  | succ n ih =>
    show 0 < cntR r a n + (if bR r a n = true ∧ bR r n a = true then 1 else 0)
    by_cases e : m = n
    · subst e; rw [if_pos (show bR r a m = true ∧ bR r m a = true from h)]; omega
    · have := ih (by omega); omega
abbrev fgF : List Nat := [88, 89]
abbrev fgR : List Nat := [87]
/-- fields of a list, rows of a list, and rows of bits differ -/
def frM (F R : List Nat) (σ τ : rS) : Prop := (∀ k, k ∉ F → τ.1 k = σ.1 k) ∧ τ.2.1 = σ.2.1 ∧ (∀ k, k ∉ R → τ.2.2.1 k = σ.2.2.1 k) ∧ ∀ k, k ≠ 86 → τ.2.2.2 k = σ.2.2.2 k
theorem frM_tr {F R : List Nat} {σ τ υ : rS} (h : frM F R σ τ) (g : frM F R τ υ) : frM F R σ υ := ⟨fun k z => (g.1 k z).trans (h.1 k z), g.2.1.trans h.2.1, fun k z => (g.2.2.1 k z).trans (h.2.2.1 k z), fun k z => (g.2.2.2 k z).trans (h.2.2.2 k z)⟩
theorem frM_L {F R : List Nat} {σ τ : rS} (h : frL σ τ) : frM F R σ τ := ⟨fun k _ => by rw [h.1], h.2.1, fun k _ => by rw [h.2.2.1], h.2.2.2⟩
theorem frM_0 {F R : List Nat} {σ : rS} {k : Nat} {x : Int32} (hk : k ∈ F) : frM F R σ (siU σ k x) := ⟨fun q z => if_neg (fun e => z (by rw [e]; exact hk)), rfl, fun _ _ => rfl, fun _ _ => rfl⟩
theorem frM_1 {F R : List Nat} {σ : rS} {k i : Nat} {x : Int32} (hk : k ∈ R) : frM F R σ (riU σ k i x) := ⟨fun _ _ => rfl, rfl, fun q z => ri3 (fun e => z (by rw [e]; exact hk)), fun _ _ => rfl⟩
theorem exO_o {σ τ : rS} (h : exO σ) (hf : ∀ k, k = 70 ∨ k = 71 ∨ k = 72 → τ.1 k = σ.1 k) (hr : ∀ k, k = 76 ∨ k = 77 ∨ k = 78 ∨ k = 79 ∨ k = 80 ∨ k = 81 → τ.2.2.1 k = σ.2.2.1 k) : exO τ := by
  obtain ⟨h1, h2, h3, h4, h5⟩ := h
  unfold exO
  rw [hf 70 (by decide), hf 71 (by decide), hf 72 (by decide)]
  refine ⟨h1, h2, h3, fun j j0 j1 => stOK_m (h4 j j0 j1) (by rw [rd, hr 76 (by decide)]) (by rw [rd, hr 76 (by decide)]) (by rw [rd, hr 80 (by decide)]) (by rw [rd, hr 81 (by decide)]) (by rw [hf 72 (by decide)]; exact Int32.le_refl _) (fun i _ => by rw [hr 79 (by decide)]), fun i hi => nx_mono (h5 i hi) (by rw [hr 77 (by decide)]) (by rw [hr 78 (by decide)]) (by rw [hf 70 (by decide)]; exact Int32.le_refl _) (by rw [hf 71 (by decide)]; exact Int32.le_refl _)⟩
theorem edN_o {σ τ : rS} {p l : Int32} {o a b : Nat} (hr : ∀ k, k = 76 ∨ k = 77 ∨ k = 78 ∨ k = 81 ∨ k = 83 → τ.2.2.1 k = σ.2.2.1 k) (hl : l ≠ 0) : edN τ p o l a b ↔ edN σ p o l a b := by
  unfold edN edI edg
  simp only [rd]
  rw [hr 76 (by decide), hr 77 (by decide), hr 78 (by decide), hr 81 (by decide), hr 83 (by decide)]
  constructor
  · rintro ⟨i, a1, a2, a3, a4, a5, -⟩
    exact ⟨i, a1, a2, a3, a4, a5, Or.inl hl⟩
  · rintro ⟨i, a1, a2, a3, a4, a5, -⟩
    exact ⟨i, a1, a2, a3, a4, a5, Or.inl hl⟩
theorem vb2 {x : Int32} (h : x = 0 ∨ x = 1) : nb (vp_nar .boolean x) := by
  rcases h with rfl | rfl
  · exact nb_0
  · exact nb_1
theorem r_up {x y : Int32} (h0 : 0 ≤ x) (h1 : x ≤ y) (hy : y < 1000) : 0 ≤ x + 0 ∧ x + 0 ≤ y + 1 ∧ 0 ≤ x + 1 ∧ x + 1 ≤ y + 1 ∧ x + 0 = x ∧ ¬ x + 1 = 0 := by grind
theorem findRings_c {C : rCx} (hC : cOK C)  {σ : rS}  {Q : rS → Prop} (hp : exO σ) (h : ∀ (σ' : rS), (frM fgF fgR σ σ' ∧ 0 ≤ σ'.1 88 ∧ (σ'.1 88 = 0 → ∀ a, a < (σ.1 70).toNatClampNeg → ¬ Tr (edN σ 0 87 1) a a)) → Q σ') : cV C 3 m_findRings [.ref (co C)] σ Q := by
  refine m_findRings_run hC ?_
  unfold w_findRings_0
  refine findReach_c hC  ?_ (fun σ_1 q2 => ?_)
  · clear h; exact ⟨hp, Or.inl rfl⟩  -- p1
  intro σ_3 hσ_3
  intro σ_4 hσ_4
  have f4 : frM fgF fgR σ σ_4 := frM_tr (frM_L q2.1) (by rw [hσ_4, hσ_3]; exact frM_tr (frM_0 (by decide)) (frM_0 (by decide)))
  have v88 : σ_4.1 88 = 0 := by rw [hσ_4, si1, if_neg (by decide), hσ_3, si1, if_pos rfl]
  unfold w_findRings_22
  refine ⟨fun n l1 τ => n = (σ.1 70 - l1).toNatClampNeg ∧ (frM fgF fgR σ τ ∧ τ.2.2.2 86 = σ_1.2.2.2 86 ∧ 0 ≤ l1 ∧ l1 ≤ σ.1 70 ∧ 0 ≤ τ.1 88 ∧ τ.1 88 ≤ l1 ∧ (τ.1 88 = 0 → ∀ a, a < l1.toNatClampNeg → bR (σ_1.2.2.2 86) a a = true → ∃ m, m < a ∧ rng (σ_1.2.2.2 86) a m)), ⟨_, rfl, ?_⟩, ?_⟩
  · clear h; exact ⟨f4, by rw [hσ_4, si2, hσ_3, si2], by decide, hp.1.1, by rw [v88]; decide, by rw [v88]; decide, fun _ a ha => absurd ha (Nat.not_lt_zero a)⟩  -- j2
  rintro n22 x22_1 σ22 ⟨hn22, i22⟩
  have hj91 : ∀ (l1 : Int32) (s1 : Int32) (τ : rS), (frM fgF fgR σ τ ∧ τ.2.2.2 86 = σ_1.2.2.2 86 ∧ l1 = x22_1 ∧ ¬ σ.1 70 ≤ x22_1 ∧ 0 ≤ τ.1 88 ∧ τ.1 88 ≤ x22_1 + 1 ∧ (τ.1 88 = 0 → ∀ a, a < (x22_1 + 1).toNatClampNeg → bR (σ_1.2.2.2 86) a a = true → ∃ m, m < a ∧ rng (σ_1.2.2.2 86) a m)) → w_findRings_91 C Q (fun l1' τ => ∃ k < n22, (fun n l1 τ => n = (σ.1 70 - l1).toNatClampNeg ∧ (frM fgF fgR σ τ ∧ τ.2.2.2 86 = σ_1.2.2.2 86 ∧ 0 ≤ l1 ∧ l1 ≤ σ.1 70 ∧ 0 ≤ τ.1 88 ∧ τ.1 88 ≤ l1 ∧ (τ.1 88 = 0 → ∀ a, a < l1.toNatClampNeg → bR (σ_1.2.2.2 86) a a = true → ∃ m, m < a ∧ rng (σ_1.2.2.2 86) a m))) k l1' τ) l1 s1 τ := by
    rintro y91_1 y91_s1 τ91 j91
    unfold w_findRings_91
    intro σ_5 hσ_5
    intro x6 hx6
    obtain ⟨g1, g2, g3, g4, g5, g6, g7⟩ := i22
    obtain ⟨f1, f2, f3, f4', f5, f6, f7⟩ := j91
    have u := uk g3 f4' hp.1.2
    have e5 : σ_5.1 88 = τ91.1 88 := by rw [hσ_5, si1, if_neg (by decide)]
    refine ⟨_, cn_lt2 hn22 ?_ ?_, rfl, ?_⟩
    · clear h; rw [hx6, f3]; exact u.1  -- d3
    · clear h; rw [hx6, f3]; exact u.2.1  -- d4
    · clear h; rw [hx6, f3]; exact ⟨frM_tr f1 (by rw [hσ_5]; exact frM_0 (by decide)), by rw [hσ_5, si2]; exact f2, u.2.2.1, u.2.2.2.1, by rw [e5]; exact f5, by rw [e5]; exact f6, by rw [e5]; exact f7⟩  -- i5
  have hj70 : ∀ (l1 : Int32) (l2 : Int32) (s1 : Int32) (s2 : Int32) (τ : rS), (frM fgF fgR σ τ ∧ τ.2.2.2 86 = σ_1.2.2.2 86 ∧ l1 = x22_1 ∧ ¬ σ.1 70 ≤ x22_1 ∧ s1 = σ22.1 88 ∧ (s2 = 0 ∨ s2 = 1) ∧ (s2 = 0 → bR (σ_1.2.2.2 86) x22_1.toNatClampNeg x22_1.toNatClampNeg = true → ∃ m, m < x22_1.toNatClampNeg ∧ rng (σ_1.2.2.2 86) x22_1.toNatClampNeg m)) → w_findRings_70 C Q (fun l1' τ => ∃ k < n22, (fun n l1 τ => n = (σ.1 70 - l1).toNatClampNeg ∧ (frM fgF fgR σ τ ∧ τ.2.2.2 86 = σ_1.2.2.2 86 ∧ 0 ≤ l1 ∧ l1 ≤ σ.1 70 ∧ 0 ≤ τ.1 88 ∧ τ.1 88 ≤ l1 ∧ (τ.1 88 = 0 → ∀ a, a < l1.toNatClampNeg → bR (σ_1.2.2.2 86) a a = true → ∃ m, m < a ∧ rng (σ_1.2.2.2 86) a m))) k l1' τ) l1 l2 s1 s2 τ := by
    rintro y70_1 y70_2 y70_s1 y70_s2 τ70 j70
    unfold w_findRings_70
    intro σ_7 hσ_7
    obtain ⟨g1, g2, g3, g4, g5, g6, g7⟩ := i22
    obtain ⟨f1, f2, f3, f4', f5, f6, f7⟩ := j70
    have u := uk g3 f4' hp.1.2
    have e7 : σ_7.1 88 = y70_s1 + y70_s2 := by rw [hσ_7, si1, if_pos rfl]
    have ru := r_up g5 g6 u.2.2.2.2.2
    have fin : frM fgF fgR σ σ_7 ∧ σ_7.2.2.2 86 = σ_1.2.2.2 86 ∧ y70_1 = x22_1 ∧ ¬ σ.1 70 ≤ x22_1 ∧ 0 ≤ σ_7.1 88 ∧ σ_7.1 88 ≤ x22_1 + 1 ∧ (σ_7.1 88 = 0 → ∀ a, a < (x22_1 + 1).toNatClampNeg → bR (σ_1.2.2.2 86) a a = true → ∃ m, m < a ∧ rng (σ_1.2.2.2 86) a m) := by
      rw [e7, f5]
      refine ⟨frM_tr f1 (by rw [hσ_7]; exact frM_0 (by decide)), by rw [hσ_7, si2]; exact f2, f3, f4', ?_, ?_, fun z a ha hb => ?_⟩
      · rcases f6 with y | y
        · rw [y]; exact ru.1
        · rw [y]; exact ru.2.2.1
      · rcases f6 with y | y
        · rw [y]; exact ru.2.1
        · rw [y]; exact ru.2.2.2.1
      · rw [cn_succ g3 (Int32.lt_trans u.2.2.2.2.2 (by decide))] at ha
        have s0 : y70_s2 = 0 := by
          rcases f6 with y | y
          · exact y
          · rw [y] at z; exact absurd z ru.2.2.2.2.2
        rw [s0, ru.2.2.2.2.1] at z
        by_cases e : a = x22_1.toNatClampNeg
        · rw [e] at hb ⊢; exact f7 s0 hb
        · exact g7 z a (by omega) hb
    refine ⟨fun c8 => ?_, fun c8 => ?_⟩
    · skip
      refine hj91 _ _ _ ?_
      · clear h; exact fin  -- k6
    · skip
      refine hj91 _ _ _ ?_
      · clear h; exact fin  -- k7
  have hj49 : ∀ (l1 : Int32) (s1 : Int32) (s2 : Int32) (τ : rS), (frM fgF fgR σ τ ∧ τ = σ22 ∧ l1 = x22_1 ∧ s1 = x22_1 ∧ (s2 = 0 ∨ s2 = 1) ∧ ¬ σ.1 70 ≤ x22_1) → w_findRings_49 C Q (fun l1' τ => ∃ k < n22, (fun n l1 τ => n = (σ.1 70 - l1).toNatClampNeg ∧ (frM fgF fgR σ τ ∧ τ.2.2.2 86 = σ_1.2.2.2 86 ∧ 0 ≤ l1 ∧ l1 ≤ σ.1 70 ∧ 0 ≤ τ.1 88 ∧ τ.1 88 ≤ l1 ∧ (τ.1 88 = 0 → ∀ a, a < l1.toNatClampNeg → bR (σ_1.2.2.2 86) a a = true → ∃ m, m < a ∧ rng (σ_1.2.2.2 86) a m))) k l1' τ) l1 s1 s2 τ := by
    rintro y49_1 y49_s1 y49_s2 τ49 j49
    unfold w_findRings_49
    obtain ⟨g1, g2, g3, g4, g5, g6, g7⟩ := i22
    obtain ⟨f1, f2, f3, f4', f5, f6⟩ := j49
    have u := uk g3 f6 hp.1.2
    have xn : x22_1.toNatClampNeg < (σ.1 70).toNatClampNeg := cn_lt g3 u.2.2.2.2.1
    refine ⟨ib_1000.mpr ?_, ?_⟩
    · clear h; rw [f4']; exact ⟨g3, u.2.2.2.2.2⟩  -- b8
    intro σ_9 hσ_9
    have e9 : ∀ k, σ_9.1 k = σ22.1 k := fun k => by rw [hσ_9, ri1, f2]
    have l9 : σ_9.2.2.2 86 = σ_1.2.2.2 86 := by rw [hσ_9, f2]; exact g2
    have f9 : frM fgF fgR σ σ_9 := frM_tr f1 (by rw [hσ_9]; exact frM_1 (by decide))
    have e70 : σ_9.1 70 = σ.1 70 := f9.1 70 (by decide)
    refine ringOf_c hC  ?_ (fun r10 q12 => ?_)
    · clear h; rw [f3, e70]; exact ⟨g3, u.2.2.2.2.1, hp.1.2⟩  -- p9
    refine ⟨fun c13 => ?_, fun c13 => ?_⟩
    · skip
      refine hj70 _ _ _ _ _ ?_
      · clear h; refine ⟨f9, l9, f3, f6, e9 88, Or.inl rfl, fun _ hb => Classical.byContradiction (fun nx => ?_)⟩
        have q := q12.2.2
        rw [l9, f3, e70] at q
        have c := q hb (fun m hm y => nx ⟨m, hm, y⟩)
        have p := cntR_pos (r := σ_1.2.2.2 86) xn ⟨hb, hb⟩
        have z := cn_zero c13
        omega
    · skip
      refine hj70 _ _ _ _ _ ?_
      · clear h; exact ⟨f9, l9, f3, f6, e9 88, Or.inr rfl, fun z => absurd z (by decide)⟩  -- k11
  obtain ⟨g1, g2, g3, g4, g5, g6, g7⟩ := i22
  have e70 : σ22.1 70 = σ.1 70 := g1.1 70 (by decide)
  refine ⟨fun c14 => ?_, fun c14 => ?_⟩
  · skip
    refine h _ ?_
    · clear h; refine ⟨g1, g5, fun z a ha T => ?_⟩
      have e : x22_1 = σ.1 70 := Int32.le_antisymm g4 (by rw [← e70]; exact c14)
      rw [e] at g7
      have bt := q2.2
      obtain ⟨m, m1, m2, m3⟩ := rng_least ((bt a a ha ha).mpr T)
      have hm : m < (σ.1 70).toNatClampNeg := by omega
      have tam := (bt a m ha hm).mp m2.1
      have tma := (bt m a hm ha).mp m2.2
      obtain ⟨j, j1, j2⟩ := g7 z m hm ((bt m m hm hm).mpr (Tr_tr tma tam))
      have hj : j < (σ.1 70).toNatClampNeg := by omega
      exact m3 j j1 ⟨(bt a j ha hj).mpr (Tr_tr tam ((bt m j hm hj).mp j2.1)), (bt j a hj ha).mpr (Tr_tr ((bt j m hj hm).mp j2.2) tma)⟩
  · skip
    have c14' : ¬ σ.1 70 ≤ x22_1 := by rw [← e70]; exact c14
    have u := uk g3 c14' hp.1.2
    refine canEnd_c hC  ?_ (fun r15 q17 => ?_)
    · clear h; exact ⟨exO_o hp (fun k hk => g1.1 k (by rcases hk with rfl | rfl | rfl <;> decide)) (fun k hk => g1.2.2.1 k (by rcases hk with rfl | rfl | rfl | rfl | rfl | rfl <;> decide)), g3, by rw [e70]; exact u.2.2.2.2.1⟩  -- p13
    refine ⟨fun c18 => ?_, fun c18 => ?_⟩
    · skip
      refine hj49 _ _ _ _ ?_
      · clear h; exact ⟨g1, rfl, rfl, rfl, Or.inl rfl, c14'⟩  -- k14
    · skip
      refine hj49 _ _ _ _ ?_
      · clear h; exact ⟨g1, rfl, rfl, rfl, Or.inr rfl, c14'⟩  -- k15

end
section
set_option maxHeartbeats 1600000
/-! the reference: explore -/
abbrev xpF : List Nat := [0, 10, 11, 12, 13, 46, 47, 48, 49, 58, 61, 62, 63, 66, 67, 69, 70, 71, 72, 85, 88, 89, 94, 114]
abbrev xpR : List Nat := [50, 51, 52, 57, 59, 60, 64, 65, 68, 73, 74, 75, 76, 77, 78, 79, 80, 81, 82, 83, 84, 87]
theorem frM_G {F F' R R' : List Nat} {σ τ : rS} (h : frG F R σ τ) (hF : ∀ k, k ∈ F → k ∈ F') (hR : ∀ k, k ∈ R → k ∈ R') : frM F' R' σ τ := ⟨fun k z => h.1 k (fun e => z (hF k e)), funext h.2.1, fun k z => h.2.2.1 k (fun e => z (hR k e)), fun k _ => funext (h.2.2.2 k)⟩
theorem frM_mono {F F' R R' : List Nat} {σ τ : rS} (h : frM F R σ τ) (hF : ∀ k, k ∈ F → k ∈ F') (hR : ∀ k, k ∈ R → k ∈ R') : frM F' R' σ τ := ⟨fun k z => h.1 k (fun e => z (hF k e)), h.2.1, fun k z => h.2.2.1 k (fun e => z (hR k e)), h.2.2.2⟩
theorem frM_refl {F R : List Nat} {σ : rS} : frM F R σ σ := ⟨fun _ _ => rfl, rfl, fun _ _ => rfl, fun _ _ => rfl⟩
/-- a program's order hangs on its own fields and rows alone -/
theorem rI_gen {σ τ : rS} {B T : Int32} (h : rI σ B T) (ff : ∀ k, k ∈ [15, 16, 17, 18, 19, 40, 41, 42] → τ.1 k = σ.1 k) (rr : ∀ k, k ∈ [5, 7, 20, 22, 23, 24, 25, 26, 27, 28, 29, 30, 31, 32, 33, 34, 35, 36, 37, 38, 39, 43, 44] → τ.2.2.1 k = σ.2.2.1 k) : rI τ B T := by
  obtain ⟨h1, h2⟩ := h
  refine ⟨?_, progOK_L h1 h2 (fun t _ _ => by rw [rr 5 (by decide)]) (fun t _ _ => by rw [rr 7 (by decide)]) (fun t _ _ => by rw [rr 39 (by decide)]) (ff 18 (by decide)) (ff 19 (by decide)) (ff 40 (by decide)) (fun k hk j _ => ?_) (fun k hk j _ => ?_)⟩
  · obtain ⟨g1, g3, g4, g5, g6⟩ := h1
    refine ⟨?_, ?_, ?_, ?_, by rw [rr 37 (by decide)]; exact g6⟩
    · show tyF _ _ _ _ _ _ _ _
      rw [ff 15 (by decide), ff 16 (by decide), ff 17 (by decide), ff 18 (by decide), ff 19 (by decide), ff 40 (by decide), ff 41 (by decide), ff 42 (by decide)]
      exact g1
    · show tyN _ _ _ _ _ _
      rw [rr 20 (by decide), rr 22 (by decide), rr 25 (by decide), rr 28 (by decide), rr 26 (by decide), rr 27 (by decide)]
      exact g3
    · show tyA _ _
      rw [rr 23 (by decide), rr 24 (by decide)]
      exact g4
    · show tyS _ _ _ _ _ _ _ _
      rw [rr 29 (by decide), rr 33 (by decide), rr 34 (by decide), rr 35 (by decide), rr 36 (by decide), rr 38 (by decide), rr 43 (by decide), rr 44 (by decide)]
      exact g5
  · rcases hk with rfl | rfl | rfl | rfl | rfl | rfl | rfl | rfl
    · rw [rr 30 (by decide)]
    · rw [rr 31 (by decide)]
    · rw [rr 32 (by decide)]
    · rw [rr 33 (by decide)]
    · rw [rr 34 (by decide)]
    · rw [rr 35 (by decide)]
    · rw [rr 36 (by decide)]
    · rw [rr 37 (by decide)]
  · rcases hk with rfl | rfl
    · rw [rr 26 (by decide)]
    · rw [rr 29 (by decide)]
theorem rI_M {F R : List Nat} {σ τ : rS} {B T : Int32} (h : rI σ B T) (f : frM F R σ τ) (hF : ∀ k, k ∈ [15, 16, 17, 18, 19, 40, 41, 42] → k ∉ F) (hR : ∀ k, k ∈ [5, 7, 20, 22, 23, 24, 25, 26, 27, 28, 29, 30, 31, 32, 33, 34, 35, 36, 37, 38, 39, 43, 44] → k ∉ R) : rI τ B T := rI_gen h (fun k hk => f.1 k (hF k hk)) (fun k hk => f.2.2.1 k (hR k hk))
theorem ty_M {F R : List Nat} {σ τ : rS} (h : tyAll σ) (f : frM F R σ τ) (hF : ∀ k, k ∈ [15, 16, 17, 18, 19, 40, 41, 42] → k ∉ F) (hR : ∀ k, k ∈ [5, 7, 20, 22, 23, 24, 25, 26, 27, 28, 29, 30, 31, 32, 33, 34, 35, 36, 37, 38, 39, 43, 44] → k ∉ R) : tyAll τ := by
  obtain ⟨g1, g3, g4, g5, g6⟩ := h
  have ff : ∀ k, k ∈ [15, 16, 17, 18, 19, 40, 41, 42] → τ.1 k = σ.1 k := fun k hk => f.1 k (hF k hk)
  have rr : ∀ k, k ∈ [5, 7, 20, 22, 23, 24, 25, 26, 27, 28, 29, 30, 31, 32, 33, 34, 35, 36, 37, 38, 39, 43, 44] → τ.2.2.1 k = σ.2.2.1 k := fun k hk => f.2.2.1 k (hR k hk)
  refine ⟨?_, ?_, ?_, ?_, by rw [rr 37 (by decide)]; exact g6⟩
  · show tyF _ _ _ _ _ _ _ _
    rw [ff 15 (by decide), ff 16 (by decide), ff 17 (by decide), ff 18 (by decide), ff 19 (by decide), ff 40 (by decide), ff 41 (by decide), ff 42 (by decide)]
    exact g1
  · show tyN _ _ _ _ _ _
    rw [rr 20 (by decide), rr 22 (by decide), rr 25 (by decide), rr 28 (by decide), rr 26 (by decide), rr 27 (by decide)]
    exact g3
  · show tyA _ _
    rw [rr 23 (by decide), rr 24 (by decide)]
    exact g4
  · show tyS _ _ _ _ _ _ _ _
    rw [rr 29 (by decide), rr 33 (by decide), rr 34 (by decide), rr 35 (by decide), rr 36 (by decide), rr 38 (by decide), rr 43 (by decide), rr 44 (by decide)]
    exact g5
/-- a state's row: its ranges -/
def rowR (σ : rS) (j : Int32) : Prop := 1 ≤ rd σ 73 (143 * j) ∧ rd σ 73 (143 * j) ≤ 12 ∧ ∀ c : Int32, 0 ≤ c → c < rd σ 73 (143 * j) → 0 ≤ rd σ 73 (143 * j + 35 + 9 * c) ∧ rd σ 73 (143 * j + 35 + 9 * c) < 150
/-- what holds of states and nexts at all times -/
def exP (σ : rS) : Prop := exO σ ∧ (∀ j : Int32, 0 ≤ j → j < σ.1 70 → rowR σ j) ∧ (∀ j : Int32, 0 ≤ j → j < σ.1 70 → (rd σ 81 j = 0 → rd σ 83 j = 0) ∧ (rd σ 81 j ≠ 0 → 0 ≤ rd σ 83 j ∧ rd σ 83 j < rd σ 76 (j + 1) - rd σ 76 j)) ∧ 0 ≤ σ.1 88 ∧ (σ.1 88 = 0 → ∀ a, a < (σ.1 70).toNatClampNeg → ¬ Tr (edN σ 0 87 1) a a)
theorem Tr_congr {E F : Nat → Nat → Prop} (h : ∀ a b, E a b → F a b) {a b : Nat} (t : Tr E a b) : Tr F a b := by
  obtain ⟨k, t⟩ := t
  refine ⟨k, ?_⟩
  induction k generalizing a with
  | zero => exact h a b t
  | succ k ih =>
    obtain ⟨c, t1, t2⟩ := t
    exact ⟨c, h a c t1, ih t2⟩
theorem exP_o {σ τ : rS} (h : exP σ) (hf : ∀ k, k = 70 ∨ k = 71 ∨ k = 72 ∨ k = 88 → τ.1 k = σ.1 k) (hr : ∀ k, k = 73 ∨ k = 76 ∨ k = 77 ∨ k = 78 ∨ k = 79 ∨ k = 80 ∨ k = 81 ∨ k = 83 → τ.2.2.1 k = σ.2.2.1 k) : exP τ := by
  obtain ⟨h1, h2, h3, h4, h5⟩ := h
  refine ⟨exO_o h1 (fun k hk => hf k (by omega)) (fun k hk => hr k (by omega)), ?_, ?_, by rw [hf 88 (by decide)]; exact h4, ?_⟩
  · rw [hf 70 (by decide)]
    intro j j0 j1
    have := h2 j j0 j1
    unfold rowR at this ⊢
    simp only [rd] at this ⊢
    rw [hr 73 (by decide)]; exact this
  · rw [hf 70 (by decide)]
    intro j j0 j1
    simp only [rd]
    rw [hr 76 (by decide), hr 81 (by decide), hr 83 (by decide)]
    exact h3 j j0 j1
  · rw [hf 70 (by decide), hf 88 (by decide)]
    intro z a ha t
    exact h5 z a ha (Tr_congr (fun a b e => (edN_o (fun k hk => hr k (by omega)) (by decide)).mp e) t)
theorem exP_0 {τ : rS} (h70 : τ.1 70 = 0) (h71 : τ.1 71 = 0) (h72 : τ.1 72 = 0) (h88 : 0 ≤ τ.1 88) : exP τ := by
  refine ⟨⟨by rw [h70]; decide, by rw [h71]; decide, by rw [h72]; decide, fun j j0 j1 => ?_, fun i hi => ?_⟩, fun j j0 j1 => ?_, fun j j0 j1 => ?_, h88, fun _ a ha => ?_⟩
  · rw [h70] at j1; exact absurd j1 (Int32.not_lt.mpr j0)
  · rw [h72] at hi; exact absurd hi (Nat.not_lt_zero i)
  · rw [h70] at j1; exact absurd j1 (Int32.not_lt.mpr j0)
  · rw [h70] at j1; exact absurd j1 (Int32.not_lt.mpr j0)
  · rw [h70] at ha; exact absurd ha (Nat.not_lt_zero a)
theorem sub_pos {a b : Int32} (h0 : 0 ≤ a) (h : a < b) : 0 < b - a := by
  have e := i_sub (Int32.le_trans h0 (Int32.le_of_lt h)) h0
  have l := Int32.lt_iff_toInt_lt.mp h
  exact Int32.lt_iff_toInt_lt.mpr (by rw [e, Int32.toInt_zero]; omega)
theorem exV_o {τ υ : rS} {B T k : Int32} (h : exV τ B T k) (hf : ∀ k, k ≠ 69 → υ.1 k = τ.1 k) (hr : ∀ k, k ≠ 83 → υ.2.2.1 k = τ.2.2.1 k) : exV υ B T k := by
  obtain ⟨hI, hR, hrow, hnx, hk, hst, hz, hns⟩ := h
  have f70 := hf 70 (by decide)
  have f71 := hf 71 (by decide)
  have f72 := hf 72 (by decide)
  refine ⟨rI_gen hI (fun k hk => hf k (fun e => by subst e; exact absurd hk (by decide))) (fun k hk => hr k (fun e => by subst e; exact absurd hk (by decide))), by unfold exRR9; rw [f70, f71, f72, hf 85 (by decide)]; exact hR, fun j j0 j1 => row_o (hrow j j0 (by rw [← f70]; exact j1)) (hr 73 (by decide)) (hr 30 (by decide)) (hf 19 (by decide)), fun i hi => ?_, by rw [f70]; exact hk, fun j j0 j1 => stOK_m (hst j j0 j1) (by rw [rd, hr 76 (by decide)]) (by rw [rd, hr 76 (by decide)]) (by rw [rd, hr 80 (by decide)]) (by rw [rd, hr 81 (by decide)]) (by rw [f72]; exact Int32.le_refl _) (fun i _ => by rw [hr 79 (by decide)]), by rw [f72]; exact hz, by rw [f72, rd, hr 76 (by decide)]; exact hns⟩
  rw [f72] at hi
  exact nx_mono (hnx i hi) (by rw [hr 77 (by decide)]) (by rw [hr 78 (by decide)]) (by rw [f70]; exact Int32.le_refl _) (by rw [f71]; exact Int32.le_refl _)
theorem exV_0 {υ : rS} {B T : Int32} (hI : rI υ B T) (hR : exRR9 υ) (h72 : υ.1 72 = 0) (hrow : ∀ j : Int32, 0 ≤ j → j < υ.1 70 → rowOK υ j) : exV υ B T 0 := by
  refine ⟨hI, hR, hrow, fun i hi => ?_, ⟨by decide, hR.1.1⟩, fun j j0 j1 => absurd j1 (Int32.not_lt.mpr j0), fun _ => h72, fun z => absurd z (by decide)⟩
  rw [h72] at hi
  exact absurd hi (Nat.not_lt_zero i)
theorem exO_V {τ : rS} {B T : Int32} (h : exV τ B T (τ.1 70)) : exO τ := by
  obtain ⟨hI, hR, hrow, hnx, hk, hst, hz, hns⟩ := h
  exact ⟨⟨hR.1.1, Int32.le_trans hR.1.2.1 hR.1.2.2⟩, hR.2.1, hR.2.2, hst, hnx⟩
theorem u1001 {x : Int32} (h0 : 0 ≤ x) (h : x < 1000) : 0 ≤ 1001 - (x + 1) ∧ 1001 - (x + 1) < 1001 - x ∧ 0 ≤ x + 1 ∧ x + 1 ≤ 1000 := by grind
theorem explore_c {C : rCx} (hC : cOK C)  {σ : rS} {a1 : Int32} {Q : Int32 → rS → Prop} (hp : tyAll σ ∧ (σ.1 14 ≠ 0 → ∃ T, progOK σ (σ.1 3) T) ∧ exP σ) (h : ∀ (v : Int32) (σ' : rS), (frM xpF xpR σ σ' ∧ exP σ' ∧ tyAll σ' ∧ (σ'.1 14 ≠ 0 → ∃ T, progOK σ' (σ'.1 3) T) ∧ (((∀ k, k ≠ 0 → σ'.1 k = σ.1 k) ∧ σ'.2 = σ.2) ∨ (σ'.1 94 = 0 ∧ σ'.1 114 = 0))) → Q v σ') : cI C 11 m_explore [.ref (co C), .int a1] σ Q := by
  refine m_explore_run hC ?_
  unfold w_explore_0
  obtain ⟨hT, hP, hX⟩ := hp
  have hT' : ∃ T, σ.1 14 ≠ 0 → rI σ (σ.1 3) T := by
    by_cases z : σ.1 14 = 0
    · exact ⟨0, fun y => absurd z y⟩
    · obtain ⟨T, g⟩ := hP z
      exact ⟨T, fun _ => ⟨hT, g⟩⟩
  obtain ⟨T, hI⟩ := hT'
  have ft : ∀ υ, frM xpF xpR σ υ → tyAll υ ∧ (υ.1 14 ≠ 0 → ∃ T, progOK υ (υ.1 3) T) := fun υ f => ⟨ty_M hT f (by decide) (by decide), fun z => ⟨T, by rw [f.1 3 (by decide)]; exact (rI_M (hI (by rw [← f.1 14 (by decide)]; exact z)) f (by decide) (by decide)).2⟩⟩
  have hj136 : ∀ (l2 : Int32) (τ : rS), (frM xpF xpR σ τ ∧ rI τ (σ.1 3) T ∧ exRR9 τ ∧ nb l2 ∧ τ.1 94 = 0 ∧ τ.1 114 = 0 ∧ τ.1 88 = σ.1 88 ∧ (l2 ≠ 0 → exV τ (σ.1 3) T (τ.1 70))) → w_explore_136 C Q  l2 τ := by
    rintro y136_2 τ136 j136
    unfold w_explore_136
    obtain ⟨g1, g2, g3, g4, g5, g6, g7, g8⟩ := j136
    refine ⟨?_, ?_⟩
    · clear h; exact g4  -- b1
    intro σ_1 hσ_1
    refine ⟨fun c2 => ?_, fun c2 => ?_⟩
    · skip
      unfold w_explore_164
      refine ⟨fun n l3 τ => n = (τ.1 70 - l3).toNatClampNeg ∧ (frM xpF xpR σ τ ∧ 0 ≤ l3 ∧ l3 ≤ τ.1 70 ∧ τ.1 94 = 0 ∧ τ.1 114 = 0 ∧ exV τ (σ.1 3) T (τ.1 70) ∧ ∀ j : Int32, 0 ≤ j → j < l3 → rd τ 83 j = 0), ⟨_, rfl, ?_⟩, ?_⟩
      · clear h; have e1 : ∀ k, k ≠ 69 → σ_1.1 k = τ136.1 k := fun k hk => by rw [hσ_1, si1, if_neg hk]
        have V := g8 c2
        rw [e1 70 (by decide)]
        exact ⟨frM_tr g1 (by rw [hσ_1]; exact frM_0 (by decide)), by decide, V.2.1.1.1, by rw [e1 94 (by decide)]; exact g5, by rw [e1 114 (by decide)]; exact g6, exV_o V e1 (fun k _ => by rw [hσ_1, si2]), fun j j0 j1 => absurd j1 (Int32.not_lt.mpr j0)⟩
      rintro n164 x164_3 σ164 ⟨hn164, i164⟩
      obtain ⟨w1, w2, w3, w4, w5, w6, w7⟩ := i164
      refine ⟨fun c3 => ?_, fun c3 => ?_⟩
      · skip
        refine findRings_c hC  ?_ (fun σ_4 q5 => ?_)
        · clear h; exact exO_V w6  -- p3
        refine h _ _ ?_
        · clear h; have e : x164_3 = σ164.1 70 := Int32.le_antisymm w3 c3
          rw [e] at w7
          have F : frM xpF xpR σ σ_4 := frM_tr w1 (frM_mono q5.1 (by decide) (by decide))
          have e70 : σ_4.1 70 = σ164.1 70 := q5.1.1 70 (by decide)
          have rr : ∀ k, k ≠ 87 → σ_4.2.2.1 k = σ164.2.2.1 k := fun k hk => q5.1.2.2.1 k (fun z => hk (by simpa using z))
          refine ⟨F, ⟨exO_o (exO_V w6) (fun k hk => q5.1.1 k (by rcases hk with rfl | rfl | rfl <;> decide)) (fun k hk => rr k (by omega)), fun j j0 j1 => ?_, fun j j0 j1 => ?_, q5.2.1, fun z a ha t => ?_⟩, (ft _ F).1, (ft _ F).2, Or.inr ⟨by rw [q5.1.1 94 (by decide)]; exact w4, by rw [q5.1.1 114 (by decide)]; exact w5⟩⟩
          · rw [e70] at j1
            obtain ⟨r1, r2, r3, -⟩ := w6.2.2.1 j j0 j1
            unfold rowR
            simp only [rd]
            rw [rr 73 (by decide)]
            exact ⟨r1, r2, fun c c0 c1 => ⟨(r3 c c0 c1).1, s150 w6.1 (r3 c c0 c1).2⟩⟩
          · rw [e70] at j1
            have sj := (w6.2.2.2.2.2.1 j j0 j1).1
            have p := w7 j j0 j1
            simp only [rd] at p sj ⊢
            rw [rr 83 (by decide), rr 76 (by decide), p]
            exact ⟨fun _ => rfl, fun _ => ⟨by decide, sub_pos sj.1 sj.2.1⟩⟩
          · rw [e70] at ha
            exact q5.2.2 z a ha (Tr_congr (fun a b e => (edN_o (fun k hk => rr k (by omega)) (by decide)).mp e) t)
      · skip
        have u := uk w2 c3 (Int32.le_trans w6.2.1.1.2.1 w6.2.1.1.2.2)
        refine ⟨ib_1000.mpr ?_, ?_⟩
        · clear h; exact ⟨w2, u.2.2.2.2.2⟩  -- b5
        intro σ_6 hσ_6
        intro x7 hx7
        refine ⟨_, cn_lt2 hn164 ?_ ?_, rfl, ?_⟩
        · clear h; rw [hx7, hσ_6, ri1]; exact u.1  -- d6
        · clear h; rw [hx7, hσ_6, ri1]; exact u.2.1  -- d7
        · clear h; have e6 : ∀ k, σ_6.1 k = σ164.1 k := fun k => by rw [hσ_6, ri1]
          rw [hx7, e6 70]
          refine ⟨frM_tr w1 (by rw [hσ_6]; exact frM_1 (by decide)), u.2.2.1, u.2.2.2.1, by rw [e6]; exact w4, by rw [e6]; exact w5, exV_o w6 (fun k _ => e6 k) (fun k hk => by rw [hσ_6, ri3 hk]), fun j j0 j1 => ?_⟩
          rw [rd, hσ_6, ri4]
          split
          · rfl
          · rename_i ne
            refine w7 j j0 ?_
            rcases l1k w2 u.2.2.2.2.2 j1 with z | z
            · exact absurd (by rw [z]) ne
            · exact z
    · skip
      intro σ_8 hσ_8
      intro σ_9 hσ_9
      intro σ_10 hσ_10
      refine h _ _ ?_
      · clear h; have F : frM xpF xpR σ σ_10 := frM_tr g1 (frM_tr (by rw [hσ_1]; exact frM_0 (by decide) : frM xpF xpR τ136 σ_1) (by rw [hσ_10, hσ_9, hσ_8]; exact frM_tr (frM_tr (frM_0 (by decide)) (frM_0 (by decide))) (frM_0 (by decide))))
        have k : ∀ k, k ≠ 69 → k ≠ 70 → k ≠ 71 → k ≠ 72 → σ_10.1 k = τ136.1 k := fun k z1 z2 z3 z4 => by rw [hσ_10, si1, if_neg z4, hσ_9, si1, if_neg z3, hσ_8, si1, if_neg z2, hσ_1, si1, if_neg z1]
        exact ⟨F, exP_0 (by rw [hσ_10, si1, if_neg (by decide), hσ_9, si1, if_neg (by decide), hσ_8, si1, if_pos rfl]) (by rw [hσ_10, si1, if_neg (by decide), hσ_9, si1, if_pos rfl]) (by rw [hσ_10, si1, if_pos rfl]) (by rw [k 88 (by decide) (by decide) (by decide) (by decide), g7]; exact hX.2.2.2.1), (ft _ F).1, (ft _ F).2, Or.inr ⟨by rw [k 94 (by decide) (by decide) (by decide) (by decide)]; exact g5, by rw [k 114 (by decide) (by decide) (by decide) (by decide)]; exact g6⟩⟩
  have hh112 : ∀ (l2 : Int32) (l3 : Int32) (τ : rS), (frM xpF xpR σ τ ∧ rI τ (σ.1 3) T ∧ exRR9 τ ∧ 0 ≤ l3 ∧ l3 ≤ 1000 ∧ nb l2 ∧ τ.1 94 = 0 ∧ τ.1 114 = 0 ∧ τ.1 88 = σ.1 88 ∧ (l2 ≠ 0 → exV τ (σ.1 3) T l3)) → w_explore_112 C Q  l2 l3 τ := by
    intro z2 z3 τi hinit
    unfold w_explore_112
    refine ⟨fun n l2 l3 τ => n = (1001 - l3).toNatClampNeg ∧ (frM xpF xpR σ τ ∧ rI τ (σ.1 3) T ∧ exRR9 τ ∧ 0 ≤ l3 ∧ l3 ≤ 1000 ∧ nb l2 ∧ τ.1 94 = 0 ∧ τ.1 114 = 0 ∧ τ.1 88 = σ.1 88 ∧ (l2 ≠ 0 → exV τ (σ.1 3) T l3)), ⟨_, rfl, hinit⟩, ?_⟩
    clear hinit
    rintro n112 x112_2 x112_3 σ112 ⟨hn112, i112⟩
    obtain ⟨v1, v2, v3, v4, v5, v6, v7, v8, v9, v10⟩ := i112
    refine ⟨fun c11 => ?_, fun c11 => ?_⟩
    · skip
      refine hj136 _ _ ?_
      · clear h; refine ⟨v1, v2, v3, v6, v7, v8, v9, fun z => ?_⟩
        have V := v10 z
        have e : x112_3 = σ112.1 70 := Int32.le_antisymm V.2.2.2.2.1.2 c11
        rw [e] at V
        exact V
    · skip
      refine ⟨fun c12 => ?_, fun c12 => ?_⟩
      · skip
        refine hj136 _ _ ?_
        · clear h; exact ⟨v1, v2, v3, v6, v7, v8, v9, fun z => absurd c12 z⟩  -- k11
      · skip
        refine expand_c hC (σ.1 3) T ?_ (fun r13 σ_14 q15 => ?_)
        · clear h; exact ⟨v10 c12, Int32.not_le.mp c11⟩  -- p12
        intro x16 hx16
        have u := u1001 v4 (Int32.lt_of_lt_of_le (Int32.not_le.mp c11) (Int32.le_trans v3.1.2.1 v3.1.2.2))
        refine ⟨_, cn_lt2 hn112 ?_ ?_, rfl, ?_⟩
        · clear h; rw [hx16]; exact u.1  -- d13
        · clear h; rw [hx16]; exact u.2.1  -- d14
        · clear h; rw [hx16]; exact ⟨frM_tr v1 (frM_G q15.1 (by decide) (by decide)), q15.2.1.1, q15.2.1.2.1, u.2.2.1, u.2.2.2, q15.2.2.1, by rw [q15.1.1 94 (by decide)]; exact v7, by rw [q15.1.1 114 (by decide)]; exact v8, by rw [q15.1.1 88 (by decide)]; exact v9, q15.2.2.2⟩  -- i15
  have hj28 : ∀ (l1 : Int32) (s1 : Int32) (τ : rS), (σ = τ ∧ l1 = a1 ∧ (s1 ≤ 0 → σ.1 14 ≠ 0 ∧ 1 ≤ a1 ∧ a1 ≤ 1000)) → w_explore_28 C Q  l1 s1 τ := by
    rintro y28_1 y28_s1 _ ⟨rfl, j28⟩
    unfold w_explore_28
    intro σ_17 hσ_17
    refine ⟨fun c18 => ?_, fun c18 => ?_⟩
    · skip
      intro σ_19 hσ_19
      intro σ_20 hσ_20
      intro σ_21 hσ_21
      intro σ_22 hσ_22
      intro σ_23 hσ_23
      intro σ_24 hσ_24
      refine begin_c hC (σ.1 3) T ?_ (fun r25 σ_26 q27 => ?_)
      · clear h; have e0 : σ_17.1 0 = y28_s1 := by rw [hσ_17, si1, if_pos rfl]
        have w := j28.2 (by rw [← e0]; exact c18)
        have F : frM xpF xpR σ σ_24 := by rw [hσ_24, hσ_23, hσ_22, hσ_21, hσ_20, hσ_19, hσ_17]; exact frM_tr (frM_tr (frM_tr (frM_tr (frM_tr (frM_tr (frM_0 (by decide)) (frM_0 (by decide))) (frM_0 (by decide))) (frM_0 (by decide))) (frM_0 (by decide))) (frM_0 (by decide))) (frM_0 (by decide))
        exact rI_M (hI w.1) F (by decide) (by decide)
      have e0 : σ_17.1 0 = y28_s1 := by rw [hσ_17, si1, if_pos rfl]
      have w := j28.2 (by rw [← e0]; exact c18)
      have F24 : frM xpF xpR σ σ_24 := by rw [hσ_24, hσ_23, hσ_22, hσ_21, hσ_20, hσ_19, hσ_17]; exact frM_tr (frM_tr (frM_tr (frM_tr (frM_tr (frM_tr (frM_0 (by decide)) (frM_0 (by decide))) (frM_0 (by decide))) (frM_0 (by decide))) (frM_0 (by decide))) (frM_0 (by decide))) (frM_0 (by decide))
      have I24 : rI σ_24 (σ.1 3) T := rI_M (hI w.1) F24 (by decide) (by decide)
      have v114 : σ_24.1 114 = 0 := by rw [hσ_24, si1, if_pos rfl]
      have v94 : σ_24.1 94 = 0 := by rw [hσ_24, si1, if_neg (by decide), hσ_23, si1, if_pos rfl]
      have v72 : σ_24.1 72 = 0 := by rw [hσ_24, si1, if_neg (by decide), hσ_23, si1, if_neg (by decide), hσ_22, si1, if_pos rfl]
      have v71 : σ_24.1 71 = 0 := by rw [hσ_24, si1, if_neg (by decide), hσ_23, si1, if_neg (by decide), hσ_22, si1, if_neg (by decide), hσ_21, si1, if_pos rfl]
      have v70 : σ_24.1 70 = 0 := by rw [hσ_24, si1, if_neg (by decide), hσ_23, si1, if_neg (by decide), hσ_22, si1, if_neg (by decide), hσ_21, si1, if_neg (by decide), hσ_20, si1, if_pos rfl]
      have v85 : σ_24.1 85 = a1 := by rw [hσ_24, si1, if_neg (by decide), hσ_23, si1, if_neg (by decide), hσ_22, si1, if_neg (by decide), hσ_21, si1, if_neg (by decide), hσ_20, si1, if_neg (by decide), hσ_19, si1, if_pos rfl]; exact j28.1
      have v88 : σ_24.1 88 = σ.1 88 := by rw [hσ_24, si1, if_neg (by decide), hσ_23, si1, if_neg (by decide), hσ_22, si1, if_neg (by decide), hσ_21, si1, if_neg (by decide), hσ_20, si1, if_neg (by decide), hσ_19, si1, if_neg (by decide), hσ_17, si1, if_neg (by decide)]
      have F26 : frM xpF xpR σ σ_26 := frM_tr F24 (frM_G q27.1 (by decide) (by decide))
      have I26 : rI σ_26 (σ.1 3) T := rI_fr I24 (frG_mono q27.1 (by decide) (by decide))
      have k26 : ∀ k, k ≠ 58 → k ≠ 61 → σ_26.1 k = σ_24.1 k := fun k z1 z2 => q27.1.1 k (by simp [z1, z2])
      refine ⟨fun c28 => ?_, fun c28 => ?_⟩
      · skip
        refine endingNumber_c hC  ?_ (fun r29 σ_30 q31 => ?_)
        · clear h; rw [k26 71 (by decide) (by decide), v71]; exact ⟨by decide, by decide⟩  -- p17
        have k30 : ∀ k, k ≠ 58 → k ≠ 61 → k ≠ 71 → σ_30.1 k = σ_24.1 k := fun k z1 z2 z3 => (q31.1.1 k (by simp [z3])).trans (k26 k z1 z2)
        have I30 : rI σ_30 (σ.1 3) T := rI_ex I26 (frG_mono q31.1 (by decide) (by decide))
        have R30 : exRR9 σ_30 := by
          unfold exRR9
          rw [k30 70 (by decide) (by decide) (by decide), k30 72 (by decide) (by decide) (by decide), k30 85 (by decide) (by decide) (by decide), v70, v72, v85]
          exact ⟨⟨by decide, Int32.le_trans (by decide) w.2.1, w.2.2⟩, ⟨q31.2.1.1, q31.2.1.2.2⟩, by decide, by decide⟩
        have fin : ∀ l2 : Int32, nb l2 → (l2 ≠ 0 → exV σ_30 (σ.1 3) T 0) → frM xpF xpR σ σ_30 ∧ rI σ_30 (σ.1 3) T ∧ exRR9 σ_30 ∧ (0 : Int32) ≤ 0 ∧ (0 : Int32) ≤ 1000 ∧ nb l2 ∧ σ_30.1 94 = 0 ∧ σ_30.1 114 = 0 ∧ σ_30.1 88 = σ.1 88 ∧ (l2 ≠ 0 → exV σ_30 (σ.1 3) T 0) := fun l2 h1 h2 => ⟨frM_tr F26 (frM_G q31.1 (by decide) (by decide)), I30, R30, by decide, by decide, h1, by rw [k30 94 (by decide) (by decide) (by decide)]; exact v94, by rw [k30 114 (by decide) (by decide) (by decide)]; exact v114, by rw [k30 88 (by decide) (by decide) (by decide)]; exact v88, h2⟩
        refine ⟨fun c32 => ?_, fun c32 => ?_⟩
        · skip
          refine hh112 _ _ _ ?_
          · clear h; exact fin _ nb_0 (fun z => absurd rfl z)  -- j18
        · skip
          refine hh112 _ _ _ ?_
          · clear h; refine fin _ nb_1 (fun _ => exV_0 I30 R30 (by rw [k30 72 (by decide) (by decide) (by decide)]; exact v72) (fun j j0 j1 => ?_))
            rw [k30 70 (by decide) (by decide) (by decide), v70] at j1
            exact absurd j1 (Int32.not_lt.mpr j0)
      · skip
        refine stateNumber_c hC  ?_ (fun r33 σ_34 q35 => ?_)
        · clear h; refine ⟨?_, ?_, ?_, ?_⟩
          · rcases q27.2 with z | z
            · exact z.2
            · exact absurd (c28.symm.trans z) (by decide)
          · rw [k26 70 (by decide) (by decide), v70]; decide
          · rw [k26 70 (by decide) (by decide), k26 85 (by decide) (by decide), v70, v85]; exact Int32.le_trans (by decide) w.2.1
          · rw [k26 85 (by decide) (by decide), v85]; exact w.2.2
        have k34 : ∀ k, k ≠ 58 → k ≠ 61 → k ≠ 70 → σ_34.1 k = σ_24.1 k := fun k z1 z2 z3 => (q35.1.1 k (by simp [z3])).trans (k26 k z1 z2)
        have I34 : rI σ_34 (σ.1 3) T := rI_ex I26 (frG_mono q35.1 (by decide) (by decide))
        have R34 : exRR9 σ_34 := by
          have q := q35.2.1
          rw [k26 85 (by decide) (by decide), v85] at q
          unfold exRR9
          rw [k34 71 (by decide) (by decide) (by decide), k34 72 (by decide) (by decide) (by decide), k34 85 (by decide) (by decide) (by decide), v71, v72, v85]
          exact ⟨⟨q.1, q.2.2, w.2.2⟩, by decide, by decide⟩
        have fin : ∀ l2 : Int32, nb l2 → frM xpF xpR σ σ_34 ∧ rI σ_34 (σ.1 3) T ∧ exRR9 σ_34 ∧ (0 : Int32) ≤ 0 ∧ (0 : Int32) ≤ 1000 ∧ nb l2 ∧ σ_34.1 94 = 0 ∧ σ_34.1 114 = 0 ∧ σ_34.1 88 = σ.1 88 ∧ (l2 ≠ 0 → exV σ_34 (σ.1 3) T 0) := fun l2 h1 => ⟨frM_tr F26 (frM_G q35.1 (by decide) (by decide)), I34, R34, by decide, by decide, h1, by rw [k34 94 (by decide) (by decide) (by decide)]; exact v94, by rw [k34 114 (by decide) (by decide) (by decide)]; exact v114, by rw [k34 88 (by decide) (by decide) (by decide)]; exact v88, fun _ => exV_0 I34 R34 (by rw [k34 72 (by decide) (by decide) (by decide)]; exact v72) (fun j j0 j1 => q35.2.2.2.2 j j0 (by rw [k26 70 (by decide) (by decide), v70]; exact j0) j1)⟩
        refine ⟨fun c36 => ?_, fun c36 => ?_⟩
        · skip
          refine hh112 _ _ _ ?_
          · clear h; exact fin _ nb_0  -- j21
        · skip
          refine hh112 _ _ _ ?_
          · clear h; exact fin _ nb_1  -- j22
    · skip
      refine h _ _ ?_
      · clear h; have F : frM xpF xpR σ σ_17 := by rw [hσ_17]; exact frM_0 (by decide)
        exact ⟨F, exP_o hX (fun k hk => by rw [hσ_17, si1, if_neg (by omega)]) (fun k _ => by rw [hσ_17, si2]), (ft _ F).1, (ft _ F).2, Or.inl ⟨fun k hk => by rw [hσ_17, si1, if_neg hk], by rw [hσ_17, si2]⟩⟩
  refine ⟨fun c37 => ?_, fun c37 => ?_⟩
  · skip
    refine within_c hC  (fun r38 q40 => ?_)
    refine ⟨fun c41 => ?_, fun c41 => ?_⟩
    · skip
      refine hj28 _ _ _ ?_
      · clear h; exact ⟨rfl, rfl, fun _ => ⟨c37, q40.2.mp c41⟩⟩  -- k24
    · skip
      refine hj28 _ _ _ ?_
      · clear h; exact ⟨rfl, rfl, fun z => absurd z (by decide)⟩  -- k25
  · skip
    refine hj28 _ _ _ ?_
    · clear h; exact ⟨rfl, rfl, fun z => absurd z (by decide)⟩  -- k26

end
section
set_option maxHeartbeats 1600000
/-! the reference: calls that read -/
theorem vc34 {σ : rS} (h : tyAll σ) : 0 ≤ σ.1 15 + σ.1 17 ∧ σ.1 15 + σ.1 17 ≤ 34 := by
  have t : tyF (σ.1 15) (σ.1 16) (σ.1 17) (σ.1 18) (σ.1 19) (σ.1 40) (σ.1 41) (σ.1 42) := h.1
  obtain ⟨a1, a2, a3, a4, a5, a6, -⟩ := t
  clear h
  grind
theorem nx_in {a b i : Int32} (a0 : 0 ≤ a) (ab : a ≤ b) (b1 : b ≤ 20000) (i0 : 0 ≤ i) (i1 : i < b - a) : 0 ≤ a + i ∧ a + i < b := by
  have e := i_sub (Int32.le_trans a0 ab) a0
  have l := Int32.lt_iff_toInt_lt.mp i1
  have h1 := ti b1
  have h2 := t0 a0
  have h3 := t0 i0
  rw [show (20000 : Int32).toInt = 20000 from rfl] at h1
  rw [e] at l
  have f := i_add a0 i0 (by omega)
  exact ⟨Int32.le_iff_toInt_le.mpr (by rw [f, Int32.toInt_zero]; omega), Int32.lt_iff_toInt_lt.mpr (by rw [f]; omega)⟩
theorem xe2 {k i : Int32} (k0 : 0 ≤ k) (k1 : k < 1000) (i0 : -1 ≤ i) (i1 : i < 34) : 0 ≤ 35 * k + 1 + i ∧ 35 * k + 1 + i < 35000 := by grind
theorem lt_89 {a x : Int32} (h : ¬ x ≤ a) (hx : x < 9) : a < 8 := by grind
theorem edN_0 {σ τ : rS} {l : Int32} {o a b : Nat} (hr : ∀ k, k = 76 ∨ k = 77 ∨ k = 78 → τ.2.2.1 k = σ.2.2.1 k) (hl : l ≠ 0) (h : edN τ 0 o l a b) : edN σ 0 o l a b := by
  unfold edN edI edg at h ⊢
  simp only [rd] at h ⊢
  rw [hr 76 (by decide), hr 77 (by decide), hr 78 (by decide)] at h
  obtain ⟨i, a1, a2, a3, a4, -, -⟩ := h
  exact ⟨i, a1, a2, a3, a4, Or.inl trivial, Or.inl hl⟩
theorem st_ns {σ : rS} {j : Int32} (h : exO σ) (j0 : 0 ≤ j) (j1 : j < σ.1 70) : 0 ≤ rd σ 76 j ∧ rd σ 76 j ≤ rd σ 76 (j + 1) ∧ rd σ 76 (j + 1) ≤ 20000 := by
  have s := (h.2.2.2.1 j j0 j1).1
  exact ⟨s.1, Int32.le_of_lt s.2.1, Int32.le_trans s.2.2 h.2.2.1.2⟩
theorem count_c {C : rCx} (hC : cOK C)  {σ : rS} {a1 : Int32} {Q : Int32 → rS → Prop} (hp : 0 ≤ σ.1 70 ∧ σ.1 70 ≤ 1000) (h : ∀ (v : Int32) (σ' : rS), (frG [0] [] σ σ') → Q v σ') : cI C 1 m_count [.ref (co C), .int a1] σ Q := by
  refine m_count_run hC ?_
  unfold w_count_0
  have hj98 : ∀ (l1 : Int32) (l2 : Int32) (l3 : Int32) (s0 : Int32) (τ : rS), (l1 = a1 ∧ frG [0] [] σ τ) → w_count_98 C Q  l1 l2 l3 s0 τ := by
    rintro y98_1 y98_2 y98_3 y98_s0 τ98 j98
    unfold w_count_98
    refine ⟨fun c1 => ?_, fun c1 => ?_, fun c1 => ?_, fun c1 => ?_, fun c1 => ?_, fun c1 => ?_, fun c1 => ?_, fun c1 => ?_, fun c1 => ?_, fun c1 => ?_, fun c1 => ?_, fun c1 => ?_⟩
    · skip
      refine h _ _ ?_
      · clear h; exact j98.2  -- q1
    · skip
      refine ⟨fun c2 => ?_, fun c2 => ?_⟩
      · skip
        refine h _ _ ?_
        · clear h; exact j98.2  -- q2
      · skip
        refine h _ _ ?_
        · clear h; exact j98.2  -- q3
    · skip
      refine ⟨fun c3 => ?_, fun c3 => ?_⟩
      · skip
        refine h _ _ ?_
        · clear h; exact j98.2  -- q4
      · skip
        refine h _ _ ?_
        · clear h; exact j98.2  -- q5
    · skip
      refine ⟨fun c4 => ?_, fun c4 => ?_⟩
      · skip
        refine h _ _ ?_
        · clear h; exact j98.2  -- q6
      · skip
        refine h _ _ ?_
        · clear h; exact j98.2  -- q7
    · skip
      refine ⟨fun c5 => ?_, fun c5 => ?_⟩
      · skip
        refine h _ _ ?_
        · clear h; exact j98.2  -- q8
      · skip
        refine h _ _ ?_
        · clear h; exact j98.2  -- q9
    · skip
      refine h _ _ ?_
      · clear h; exact j98.2  -- q10
    · skip
      refine h _ _ ?_
      · clear h; exact j98.2  -- q11
    · skip
      refine h _ _ ?_
      · clear h; exact j98.2  -- q12
    · skip
      refine ⟨fun c6 => ?_, fun c6 => ?_⟩
      · skip
        refine h _ _ ?_
        · clear h; exact j98.2  -- q13
      · skip
        refine h _ _ ?_
        · clear h; exact j98.2  -- q14
    · skip
      refine ⟨fun c7 => ?_, fun c7 => ?_⟩
      · skip
        refine h _ _ ?_
        · clear h; exact j98.2  -- q15
      · skip
        refine h _ _ ?_
        · clear h; exact j98.2  -- q16
    · skip
      refine h _ _ ?_
      · clear h; exact j98.2  -- q17
    · skip
      refine h _ _ ?_
      · clear h; exact j98.2  -- q18
  have hj16 : ∀ (l1 : Int32) (s1 : Int32) (τ : rS), (l1 = a1 ∧ σ = τ) → w_count_16 C Q  l1 s1 τ := by
    rintro y16_1 y16_s1 τ16 j16
    unfold w_count_16
    intro σ_8 hσ_8
    have f8 : frG [0] [] σ σ_8 := by rw [hσ_8, ← j16.2]; exact frG_0 (by decide)
    refine ⟨fun c9 => ?_, fun c9 => ?_⟩
    · skip
      unfold w_count_35
      refine ⟨fun n l1 l2 l3 l4 τ => n = (σ.1 70 - l4).toNatClampNeg ∧ (l1 = a1 ∧ frG [0] [] σ τ ∧ 0 ≤ l4 ∧ l4 ≤ σ.1 70), ⟨_, rfl, ?_⟩, ?_⟩
      · clear h; exact ⟨j16.1, f8, by decide, hp.1⟩  -- j19
      rintro n35 x35_1 x35_2 x35_3 x35_4 σ35 ⟨hn35, i35⟩
      have hj78 : ∀ (l1 : Int32) (l2 : Int32) (l4 : Int32) (s0 : Int32) (s1 : Int32) (τ : rS), (l1 = a1 ∧ frG [0] [] σ τ ∧ l4 = x35_4 ∧ ¬ σ.1 70 ≤ x35_4) → w_count_78 C Q (fun l1' l2' l3' l4' τ => ∃ k < n35, (fun n l1 l2 l3 l4 τ => n = (σ.1 70 - l4).toNatClampNeg ∧ (l1 = a1 ∧ frG [0] [] σ τ ∧ 0 ≤ l4 ∧ l4 ≤ σ.1 70)) k l1' l2' l3' l4' τ) l1 l2 l4 s0 s1 τ := by
        rintro y78_1 y78_2 y78_4 y78_s0 y78_s1 τ78 j78
        unfold w_count_78
        intro x10 hx10
        intro x11 hx11
        have u := uk i35.2.2.1 j78.2.2.2 hp.2
        refine ⟨_, cn_lt2 hn35 ?_ ?_, rfl, ?_⟩
        · clear h; rw [hx11, j78.2.2.1]; exact u.1  -- d20
        · clear h; rw [hx11, j78.2.2.1]; exact u.2.1  -- d21
        · clear h; rw [hx11, j78.2.2.1]; exact ⟨j78.1, j78.2.1, u.2.2.1, u.2.2.2.1⟩  -- i22
      have hj60 : ∀ (l1 : Int32) (l3 : Int32) (l4 : Int32) (s0 : Int32) (s1 : Int32) (τ : rS), (l1 = a1 ∧ frG [0] [] σ τ ∧ l4 = x35_4 ∧ ¬ σ.1 70 ≤ x35_4) → w_count_60 C Q (fun l1' l2' l3' l4' τ => ∃ k < n35, (fun n l1 l2 l3 l4 τ => n = (σ.1 70 - l4).toNatClampNeg ∧ (l1 = a1 ∧ frG [0] [] σ τ ∧ 0 ≤ l4 ∧ l4 ≤ σ.1 70)) k l1' l2' l3' l4' τ) l1 l3 l4 s0 s1 τ := by
        rintro y60_1 y60_3 y60_4 y60_s0 y60_s1 τ60 j60
        unfold w_count_60
        intro x12 hx12
        refine ⟨ib_1000.mpr ?_, ?_⟩
        · clear h; rw [j60.2.2.1]; exact ⟨i35.2.2.1, (uk i35.2.2.1 j60.2.2.2 hp.2).2.2.2.2.2⟩  -- b23
        refine ⟨fun c13 => ?_, fun c13 => ?_⟩
        · skip
          refine hj78 _ _ _ _ _ _ ?_
          · clear h; exact j60  -- k24
        · skip
          refine hj78 _ _ _ _ _ _ ?_
          · clear h; exact j60  -- k25
      refine ⟨fun c14 => ?_, fun c14 => ?_⟩
      · skip
        refine ⟨fun c15 => ?_, fun c15 => ?_⟩
        · skip
          refine hj98 _ _ _ _ _ ?_
          · clear h; exact ⟨i35.1, i35.2.1⟩  -- k26
        · skip
          refine hj98 _ _ _ _ _ ?_
          · clear h; exact ⟨i35.1, i35.2.1⟩  -- k27
      · skip
        have c' : ¬ σ.1 70 ≤ x35_4 := by rw [← i35.2.1.1 70 (by decide)]; exact c14
        refine ⟨ib_1000.mpr ?_, ?_⟩
        · clear h; exact ⟨i35.2.2.1, (uk i35.2.2.1 c' hp.2).2.2.2.2.2⟩  -- b28
        refine ⟨fun c16 => ?_, fun c16 => ?_⟩
        · skip
          refine hj60 _ _ _ _ _ _ ?_
          · clear h; exact ⟨i35.1, i35.2.1, rfl, c'⟩  -- k29
        · skip
          refine hj60 _ _ _ _ _ _ ?_
          · clear h; exact ⟨i35.1, i35.2.1, rfl, c'⟩  -- k30
    · skip
      refine h _ _ ?_
      · clear h; exact f8  -- q31
  refine within_c hC  (fun r17 q19 => ?_)
  refine ⟨fun c20 => ?_, fun c20 => ?_⟩
  · skip
    refine hj16 _ _ _ ?_
    · clear h; exact ⟨rfl, rfl⟩  -- k32
  · skip
    refine hj16 _ _ _ ?_
    · clear h; exact ⟨rfl, rfl⟩  -- k33

theorem latestAt_c {C : rCx} (hC : cOK C)  {σ : rS} {a1 : Int32} {Q : Int32 → rS → Prop} (hp : 0 ≤ a1 ∧ a1 < 1000 ∧ rowR σ a1) (h : ∀ (v : Int32), (0 ≤ v ∧ v < 150) → Q v σ) : cI C 0 m_latestAt [.ref (co C), .int a1] σ Q := by
  refine m_latestAt_run hC ?_
  unfold w_latestAt_0
  obtain ⟨h0, h1, r1, r2, r3⟩ := hp
  have m := c_m1 r1 r2
  have d := c_d1 r1 r2
  refine ⟨ib_143000.mpr ?_, ?_⟩
  · clear h; exact (xr h0 h1 (Int32.le_refl 0) (by decide)).2  -- b1
  refine ⟨ib_143000.mpr ?_, ?_⟩
  · clear h; exact (xr9 h0 h1 m.1 m.2 (Int32.le_refl 0) (by decide)).2  -- b2
  refine h _ ?_
  · clear h; exact r3 _ m.1 d  -- q3

theorem state_c {C : rCx} (hC : cOK C)  {σ : rS} {a1 : Int32} {a2 : Int32} {Q : Int32 → rS → Prop} (hp : exP σ) (h : ∀ (v : Int32) (σ' : rS), (frG [0] [] σ σ') → Q v σ') : cI C 1 m_state [.ref (co C), .int a1, .int a2] σ Q := by
  refine m_state_run hC ?_
  unfold w_state_0
  have hj23 : ∀ (l1 : Int32) (l2 : Int32) (s1 : Int32) (τ : rS), (σ = τ ∧ l1 = a1 ∧ l2 = a2 ∧ (s1 ≤ 0 → 0 ≤ a1 ∧ a1 < σ.1 70)) → w_state_23 C Q  l1 l2 s1 τ := by
    rintro y23_1 y23_2 y23_s1 _ ⟨rfl, j23⟩
    unfold w_state_23
    intro σ_1 hσ_1
    have e0 : σ_1.1 0 = y23_s1 := by rw [hσ_1, si1, if_pos rfl]
    obtain ⟨e1, e2, jw⟩ := j23
    refine ⟨fun c2 => ?_, fun c2 => ?_⟩
    · skip
      refine ⟨fun c3 => ?_, fun c3 => ?_, fun c3 => ?_, fun c3 => ?_, fun c3 => ?_, fun c3 => ?_⟩
      · skip
        refine ⟨ib_1000.mpr ?_, ?_⟩
        · clear h; have w := jw (by rw [← e0]; exact c2)
          rw [e1]; exact ⟨w.1, Int32.lt_of_lt_of_le w.2 hp.1.1.2⟩
        refine h _ _ ?_
        · clear h; rw [hσ_1]; exact frG_0 (by decide)  -- q2
      · skip
        refine latestAt_c hC  ?_ (fun r4 q6 => ?_)
        · clear h; have w := jw (by rw [← e0]; exact c2)
          have r := hp.2.1 a1 w.1 w.2
          rw [e1, hσ_1]; exact ⟨w.1, Int32.lt_of_lt_of_le w.2 hp.1.1.2, r⟩
        refine h _ _ ?_
        · clear h; rw [hσ_1]; exact frG_0 (by decide)  -- q4
      · skip
        refine ⟨ib_143000.mpr ?_, ?_⟩
        · clear h; have w := jw (by rw [← e0]; exact c2)
          rw [e1]; exact (xr w.1 (Int32.lt_of_lt_of_le w.2 hp.1.1.2) (Int32.le_refl 0) (by decide)).2
        refine h _ _ ?_
        · clear h; rw [hσ_1]; exact frG_0 (by decide)  -- q6
      · skip
        refine ⟨ib_1001.mpr ?_, ?_⟩
        · clear h; have w := jw (by rw [← e0]; exact c2)
          have k := k1001 w.1 (Int32.lt_of_lt_of_le w.2 hp.1.1.2)
          rw [e1]; exact ⟨k.1, k.2.1⟩
        refine ⟨ib_1001.mpr ?_, ?_⟩
        · clear h; have w := jw (by rw [← e0]; exact c2)
          have k := k1001 w.1 (Int32.lt_of_lt_of_le w.2 hp.1.1.2)
          rw [e1]; exact ⟨w.1, k.2.2.1⟩
        refine h _ _ ?_
        · clear h; rw [hσ_1]; exact frG_0 (by decide)  -- q9
      · skip
        refine ⟨ib_1000.mpr ?_, ?_⟩
        · clear h; have w := jw (by rw [← e0]; exact c2)
          rw [e1]; exact ⟨w.1, Int32.lt_of_lt_of_le w.2 hp.1.1.2⟩
        refine ⟨fun c7 => ?_, fun c7 => ?_⟩
        · skip
          refine h _ _ ?_
          · clear h; rw [hσ_1]; exact frG_0 (by decide)  -- q11
        · skip
          refine h _ _ ?_
          · clear h; rw [hσ_1]; exact frG_0 (by decide)  -- q12
      · skip
        refine ⟨ib_1000.mpr ?_, ?_⟩
        · clear h; have w := jw (by rw [← e0]; exact c2)
          rw [e1]; exact ⟨w.1, Int32.lt_of_lt_of_le w.2 hp.1.1.2⟩
        refine ⟨fun c8 => ?_, fun c8 => ?_⟩
        · skip
          refine h _ _ ?_
          · clear h; rw [hσ_1]; exact frG_0 (by decide)  -- q14
        · skip
          refine h _ _ ?_
          · clear h; rw [hσ_1]; exact frG_0 (by decide)  -- q15
    · skip
      refine h _ _ ?_
      · clear h; rw [hσ_1]; exact frG_0 (by decide)  -- q16
  refine isState_c hC  (fun r9 q11 => ?_)
  refine ⟨fun c12 => ?_, fun c12 => ?_⟩
  · skip
    refine hj23 _ _ _ _ ?_
    · clear h; exact ⟨rfl, rfl, rfl, fun z => absurd z (by decide)⟩  -- k17
  · skip
    refine within_c hC  (fun r13 q15 => ?_)
    refine ⟨fun c16 => ?_, fun c16 => ?_⟩
    · skip
      refine hj23 _ _ _ _ ?_
      · clear h; exact ⟨rfl, rfl, rfl, fun _ => (q11.2.mp c12).2⟩  -- k18
    · skip
      refine hj23 _ _ _ _ ?_
      · clear h; exact ⟨rfl, rfl, rfl, fun z => absurd z (by decide)⟩  -- k19

theorem value_c {C : rCx} (hC : cOK C)  {σ : rS} {a1 : Int32} {a2 : Int32} {a3 : Int32} {Q : Int32 → rS → Prop} (hp : exP σ ∧ tyAll σ) (h : ∀ (v : Int32) (σ' : rS), (frG [0] [] σ σ') → Q v σ') : cI C 1 m_value [.ref (co C), .int a1, .int a2, .int a3] σ Q := by
  refine m_value_run hC ?_
  unfold w_value_0
  have hj126 : ∀ (l1 : Int32) (l2 : Int32) (l3 : Int32) (s1 : Int32) (τ : rS), (σ = τ ∧ l1 = a1 ∧ l2 = a2 ∧ l3 = a3 ∧ (s1 ≤ 0 → 0 ≤ a1 ∧ a1 < σ.1 70 ∧ 0 ≤ a3 ∧ ((a2 = -1 ∧ a3 < 34) ∨ (0 ≤ a2 ∧ a2 < 12 ∧ a3 < 8)))) → w_value_126 C Q  l1 l2 l3 s1 τ := by
    rintro y126_1 y126_2 y126_3 y126_s1 _ ⟨rfl, j126⟩
    unfold w_value_126
    intro σ_1 hσ_1
    have e0 : σ_1.1 0 = y126_s1 := by rw [hσ_1, si1, if_pos rfl]
    obtain ⟨e1, e2, e3, jw⟩ := j126
    refine ⟨fun c2 => ?_, fun c2 => ?_⟩
    · skip
      refine ⟨fun c3 => ?_, fun c3 => ?_⟩
      · skip
        refine ⟨ib_143000.mpr ?_, ?_⟩
        · clear h; obtain ⟨w1, w2, w3, w4⟩ := jw (by rw [← e0]; exact c2)
          rw [e2] at c3
          rw [e1, e2, e3]
          rcases w4 with z | z
          · exact absurd z.1 c3
          · exact (xr9 w1 (Int32.lt_of_lt_of_le w2 hp.1.1.1.2) z.1 z.2.1 w3 z.2.2).1
        refine h _ _ ?_
        · clear h; rw [hσ_1]; exact frG_0 (by decide)  -- q2
      · skip
        refine ⟨ib_143000.mpr ?_, ?_⟩
        · clear h; obtain ⟨w1, w2, w3, w4⟩ := jw (by rw [← e0]; exact c2)
          rw [e2] at c3
          rw [e1, e3]
          rcases w4 with z | z
          · exact xr1 w1 (Int32.lt_of_lt_of_le w2 hp.1.1.1.2) w3 z.2
          · rw [c3] at z; exact absurd z.1 (by decide)
        refine h _ _ ?_
        · clear h; rw [hσ_1]; exact frG_0 (by decide)  -- q4
    · skip
      refine h _ _ ?_
      · clear h; rw [hσ_1]; exact frG_0 (by decide)  -- q5
  have hj115 : ∀ (l1 : Int32) (l2 : Int32) (l3 : Int32) (l4 : Int32) (τ : rS), (σ = τ ∧ l1 = a1 ∧ l2 = a2 ∧ l3 = a3 ∧ (l4 ≠ 0 → 0 ≤ a1 ∧ a1 < σ.1 70 ∧ 0 ≤ a3 ∧ ((a2 = -1 ∧ a3 < 34) ∨ (0 ≤ a2 ∧ a2 < 12 ∧ a3 < 8)))) → w_value_115 C Q  l1 l2 l3 l4 τ := by
    rintro y115_1 y115_2 y115_3 y115_4 _ ⟨rfl, j115⟩
    unfold w_value_115
    obtain ⟨e1, e2, e3, jw⟩ := j115
    refine ⟨fun c4 => ?_, fun c4 => ?_⟩
    · skip
      refine hj126 _ _ _ _ _ ?_
      · clear h; exact ⟨rfl, e1, e2, e3, fun z => absurd z (by decide)⟩  -- k6
    · skip
      refine hj126 _ _ _ _ _ ?_
      · clear h; exact ⟨rfl, e1, e2, e3, fun _ => jw c4⟩  -- k7
  have hj57 : ∀ (l1 : Int32) (l2 : Int32) (l3 : Int32) (l4 : Int32) (τ : rS), (σ = τ ∧ l1 = a1 ∧ l2 = a2 ∧ l3 = a3 ∧ (l4 ≠ 0 → 0 ≤ a1 ∧ a1 < σ.1 70 ∧ 0 ≤ a3 ∧ 0 ≤ a2)) → w_value_57 C Q  l1 l2 l3 l4 τ := by
    rintro y57_1 y57_2 y57_3 y57_4 _ ⟨rfl, j57⟩
    unfold w_value_57
    obtain ⟨e1, e2, e3, jw⟩ := j57
    refine ⟨fun c5 => ?_, fun c5 => ?_⟩
    · skip
      refine hj115 _ _ _ _ _ ?_
      · clear h; exact ⟨rfl, e1, e2, e3, fun z => absurd c5 z⟩  -- k8
    · skip
      obtain ⟨w1, w2, w3, w4⟩ := jw c5
      have k1 := Int32.lt_of_lt_of_le w2 hp.1.1.1.2
      obtain ⟨r1, r2, r3⟩ := hp.1.2.1 a1 w1 w2
      refine ⟨ib_143000.mpr ?_, ?_⟩
      · clear h; rw [e1]; exact (xr w1 k1 (Int32.le_refl 0) (by decide)).2  -- b9
      refine ⟨fun c6 => ?_, fun c6 => ?_⟩
      · skip
        refine hj115 _ _ _ _ _ ?_
        · clear h; exact ⟨rfl, e1, e2, e3, fun z => absurd rfl z⟩  -- k10
      · skip
        rw [e1, e2] at c6
        have c12 : a2 < 12 := Int32.lt_of_lt_of_le (Int32.not_le.mp c6) r2
        have at_ := r3 a2 w4 (Int32.not_le.mp c6)
        refine ⟨ib_143000.mpr ?_, ?_⟩
        · clear h; rw [e1, e2]; exact (xr9 w1 k1 w4 c12 (Int32.le_refl 0) (by decide)).2  -- b11
        refine ⟨ib_150.mpr ?_, ?_⟩
        · clear h; rw [e1, e2]; exact at_  -- b12
        refine ⟨ib_10.mpr ?_, ?_⟩
        · clear h; exact hp.2.2.2.2.1.2.2.2.2.2.1 _  -- b13
        refine ⟨fun c7 => ?_, fun c7 => ?_⟩
        · skip
          refine hj115 _ _ _ _ _ ?_
          · clear h; exact ⟨rfl, e1, e2, e3, fun z => absurd rfl z⟩  -- k14
        · skip
          refine hj115 _ _ _ _ _ ?_
          · clear h; rw [e3] at c7
            exact ⟨rfl, e1, e2, e3, fun _ => ⟨w1, w2, w3, Or.inr ⟨w4, c12, lt_89 c7 (hp.2.2.1.2.2.2.2.2 _).2⟩⟩⟩
  have hj22 : ∀ (l1 : Int32) (l2 : Int32) (l3 : Int32) (s0 : Int32) (τ : rS), (σ = τ ∧ l1 = a1 ∧ l2 = a2 ∧ l3 = a3 ∧ nb s0 ∧ (s0 ≠ 0 → 0 ≤ a1 ∧ a1 < σ.1 70 ∧ 0 ≤ a3 ∧ -1 ≤ a2)) → w_value_22 C Q  l1 l2 l3 s0 τ := by
    rintro y22_1 y22_2 y22_3 y22_s0 _ ⟨rfl, j22⟩
    unfold w_value_22
    obtain ⟨e1, e2, e3, jn, jw⟩ := j22
    refine ⟨fun c8 => ?_, fun c8 => ?_⟩
    · skip
      refine hj57 _ _ _ _ _ ?_
      · clear h; exact ⟨rfl, e1, e2, e3, fun z => absurd c8 z⟩  -- k16
    · skip
      refine ⟨fun c9 => ?_, fun c9 => ?_⟩
      · skip
        refine hj57 _ _ _ _ _ ?_
        · clear h; obtain ⟨w1, w2, w3, w4⟩ := jw c8
          rw [e2] at c9
          exact ⟨rfl, e1, e2, e3, fun _ => ⟨w1, w2, w3, m1_0 w4 c9⟩⟩
      · skip
        refine ⟨fun c10 => ?_, fun c10 => ?_⟩
        · skip
          refine hj115 _ _ _ _ _ ?_
          · clear h; exact ⟨rfl, e1, e2, e3, fun z => absurd rfl z⟩  -- k18
        · skip
          refine hj115 _ _ _ _ _ ?_
          · clear h; obtain ⟨w1, w2, w3, w4⟩ := jw c8
            rw [e2] at c9
            rw [e3] at c10
            exact ⟨rfl, e1, e2, e3, fun _ => ⟨w1, w2, w3, Or.inl ⟨c9, Int32.lt_of_lt_of_le (Int32.not_le.mp c10) (vc34 hp.2).2⟩⟩⟩
  refine isState_c hC  (fun r11 q13 => ?_)
  refine ⟨fun c14 => ?_, fun c14 => ?_⟩
  · skip
    refine hj22 _ _ _ _ _ ?_
    · clear h; exact ⟨rfl, rfl, rfl, rfl, nb_0, fun z => absurd rfl z⟩  -- k20
  · skip
    refine ⟨fun c15 => ?_, fun c15 => ?_⟩
    · skip
      refine hj22 _ _ _ _ _ ?_
      · clear h; exact ⟨rfl, rfl, rfl, rfl, nb_0, fun z => absurd rfl z⟩  -- k21
    · skip
      refine ⟨fun c16 => ?_, fun c16 => ?_⟩
      · skip
        refine hj22 _ _ _ _ _ ?_
        · clear h; exact ⟨rfl, rfl, rfl, rfl, nb_0, fun z => absurd rfl z⟩  -- k22
      · skip
        refine hj22 _ _ _ _ _ ?_
        · clear h; exact ⟨rfl, rfl, rfl, rfl, nb_1, fun _ => ⟨(q13.2.mp c14).2.1, (q13.2.mp c14).2.2, Int32.not_lt.mp c15, Int32.not_lt.mp c16⟩⟩  -- k23

theorem next_c {C : rCx} (hC : cOK C)  {σ : rS} {a1 : Int32} {a2 : Int32} {a3 : Int32} {Q : Int32 → rS → Prop} (hp : exP σ) (h : ∀ (v : Int32) (σ' : rS), (frG [0] [] σ σ') → Q v σ') : cI C 1 m_next [.ref (co C), .int a1, .int a2, .int a3] σ Q := by
  refine m_next_run hC ?_
  unfold w_next_0
  have hj46 : ∀ (l1 : Int32) (l2 : Int32) (l3 : Int32) (s1 : Int32) (τ : rS), (σ = τ ∧ l1 = a1 ∧ l2 = a2 ∧ l3 = a3 ∧ (s1 ≤ 0 → 0 ≤ a1 ∧ a1 < σ.1 70 ∧ 0 ≤ a2 ∧ a2 < rd σ 76 (a1 + 1) - rd σ 76 a1)) → w_next_46 C Q  l1 l2 l3 s1 τ := by
    rintro y46_1 y46_2 y46_3 y46_s1 _ ⟨rfl, j46⟩
    unfold w_next_46
    intro σ_1 hσ_1
    have e0 : σ_1.1 0 = y46_s1 := by rw [hσ_1, si1, if_pos rfl]
    obtain ⟨e1, e2, e3, jw⟩ := j46
    refine ⟨fun c2 => ?_, fun c2 => ?_⟩
    · skip
      refine ⟨ib_1001.mpr ?_, ?_⟩
      · clear h; have w := jw (by rw [← e0]; exact c2)
        have k := k1001 w.1 (Int32.lt_of_lt_of_le w.2.1 hp.1.1.2)
        rw [e1]; exact ⟨w.1, k.2.2.1⟩
      intro x3 hx3
      have w := jw (by rw [← e0]; exact c2)
      have sn := st_ns hp.1 w.1 w.2.1
      have ni := nx_in sn.1 sn.2.1 sn.2.2 w.2.2.1 w.2.2.2
      have ex : x3 = rd σ 76 a1 + a2 := by rw [hx3, e1, e2, hσ_1, si2]
      have b : 0 ≤ x3 ∧ x3 < 20000 := by rw [ex]; exact ⟨ni.1, Int32.lt_of_lt_of_le ni.2 sn.2.2⟩
      refine ⟨fun c4 => ?_, fun c4 => ?_⟩
      · skip
        refine ⟨fun c5 => ?_, fun c5 => ?_⟩
        · skip
          refine ⟨ib_20000.mpr ?_, ?_⟩
          · clear h; exact b  -- b2
          refine h _ _ ?_
          · clear h; rw [hσ_1]; exact frG_0 (by decide)  -- q3
        · skip
          refine ⟨ib_20000.mpr ?_, ?_⟩
          · clear h; exact b  -- b4
          refine h _ _ ?_
          · clear h; rw [hσ_1]; exact frG_0 (by decide)  -- q5
      · skip
        refine ⟨ib_20000.mpr ?_, ?_⟩
        · clear h; exact b  -- b6
        refine h _ _ ?_
        · clear h; rw [hσ_1]; exact frG_0 (by decide)  -- q7
    · skip
      refine h _ _ ?_
      · clear h; rw [hσ_1]; exact frG_0 (by decide)  -- q8
  refine isState_c hC  (fun r6 q8 => ?_)
  refine ⟨fun c9 => ?_, fun c9 => ?_⟩
  · skip
    refine hj46 _ _ _ _ _ ?_
    · clear h; exact ⟨rfl, rfl, rfl, rfl, fun z => absurd z (by decide)⟩  -- k9
  · skip
    refine ⟨fun c10 => ?_, fun c10 => ?_⟩
    · skip
      refine hj46 _ _ _ _ _ ?_
      · clear h; exact ⟨rfl, rfl, rfl, rfl, fun z => absurd z (by decide)⟩  -- k10
    · skip
      have w := q8.2.mp c9
      have k := k1001 w.2.1 (Int32.lt_of_lt_of_le w.2.2 hp.1.1.2)
      refine ⟨ib_1001.mpr ?_, ?_⟩
      · clear h; exact ⟨k.1, k.2.1⟩  -- b11
      refine ⟨ib_1001.mpr ?_, ?_⟩
      · clear h; exact ⟨w.2.1, k.2.2.1⟩  -- b12
      refine ⟨fun c11 => ?_, fun c11 => ?_⟩
      · skip
        refine hj46 _ _ _ _ _ ?_
        · clear h; exact ⟨rfl, rfl, rfl, rfl, fun z => absurd z (by decide)⟩  -- k13
      · skip
        refine within_c hC  (fun r12 q14 => ?_)
        refine ⟨fun c15 => ?_, fun c15 => ?_⟩
        · skip
          refine hj46 _ _ _ _ _ ?_
          · clear h; exact ⟨rfl, rfl, rfl, rfl, fun _ => ⟨w.2.1, w.2.2, Int32.not_lt.mp c10, Int32.not_le.mp c11⟩⟩  -- k14
        · skip
          refine hj46 _ _ _ _ _ ?_
          · clear h; exact ⟨rfl, rfl, rfl, rfl, fun z => absurd z (by decide)⟩  -- k15

theorem ending_c {C : rCx} (hC : cOK C)  {σ : rS} {a1 : Int32} {a2 : Int32} {Q : Int32 → rS → Prop} (hp : exP σ ∧ tyAll σ) (h : ∀ (v : Int32) (σ' : rS), (frG [0] [] σ σ') → Q v σ') : cI C 0 m_ending [.ref (co C), .int a1, .int a2] σ Q := by
  refine m_ending_run hC ?_
  unfold w_ending_0
  have hj43 : ∀ (l1 : Int32) (l2 : Int32) (s1 : Int32) (τ : rS), (σ = τ ∧ l1 = a1 ∧ l2 = a2 ∧ (s1 ≤ 0 → 0 ≤ a1 ∧ a1 < 1000 ∧ -1 ≤ a2 ∧ a2 < 34)) → w_ending_43 C Q  l1 l2 s1 τ := by
    rintro y43_1 y43_2 y43_s1 _ ⟨rfl, j43⟩
    unfold w_ending_43
    intro σ_1 hσ_1
    have e0 : σ_1.1 0 = y43_s1 := by rw [hσ_1, si1, if_pos rfl]
    obtain ⟨e1, e2, jw⟩ := j43
    refine ⟨fun c2 => ?_, fun c2 => ?_⟩
    · skip
      refine ⟨ib_35000.mpr ?_, ?_⟩
      · clear h; obtain ⟨w1, w2, w3, w4⟩ := jw (by rw [← e0]; exact c2)
        rw [e1, e2]; exact xe2 w1 w2 w3 w4
      refine h _ _ ?_
      · clear h; rw [hσ_1]; exact frG_0 (by decide)  -- q2
    · skip
      refine h _ _ ?_
      · clear h; rw [hσ_1]; exact frG_0 (by decide)  -- q3
  refine ⟨fun c3 => ?_, fun c3 => ?_⟩
  · skip
    refine hj43 _ _ _ _ ?_
    · clear h; exact ⟨rfl, rfl, rfl, fun z => absurd z (by decide)⟩  -- k4
  · skip
    refine ⟨fun c4 => ?_, fun c4 => ?_⟩
    · skip
      refine hj43 _ _ _ _ ?_
      · clear h; exact ⟨rfl, rfl, rfl, fun z => absurd z (by decide)⟩  -- k5
    · skip
      refine ⟨fun c5 => ?_, fun c5 => ?_⟩
      · skip
        refine hj43 _ _ _ _ ?_
        · clear h; exact ⟨rfl, rfl, rfl, fun z => absurd z (by decide)⟩  -- k6
      · skip
        refine ⟨fun c6 => ?_, fun c6 => ?_⟩
        · skip
          refine hj43 _ _ _ _ ?_
          · clear h; exact ⟨rfl, rfl, rfl, fun z => absurd z (by decide)⟩  -- k7
        · skip
          refine ⟨fun c7 => ?_, fun c7 => ?_⟩
          · skip
            refine hj43 _ _ _ _ ?_
            · clear h; exact ⟨rfl, rfl, rfl, fun _ => ⟨Int32.not_lt.mp c4, Int32.lt_of_lt_of_le (Int32.not_le.mp c5) hp.1.1.2.1.2, Int32.not_lt.mp c6, Int32.lt_of_lt_of_le c7 (vc34 hp.2).2⟩⟩  -- k8
          · skip
            refine hj43 _ _ _ _ ?_
            · clear h; exact ⟨rfl, rfl, rfl, fun z => absurd z (by decide)⟩  -- k9

theorem decide_c {C : rCx} (hC : cOK C)  {σ : rS} {a1 : Int32} {a2 : Int32} {Q : Int32 → rS → Prop} (hp : exP σ) (h : ∀ (v : Int32) (σ' : rS), (frG [0, 94] [83] σ σ' ∧ exP σ' ∧ (frG [0] [] σ σ' ∨ σ'.1 94 = 0)) → Q v σ') : cI C 1 m_decide [.ref (co C), .int a1, .int a2] σ Q := by
  refine m_decide_run hC ?_
  unfold w_decide_0
  have hj46 : ∀ (l1 : Int32) (l2 : Int32) (s1 : Int32) (τ : rS), (σ = τ ∧ l1 = a1 ∧ l2 = a2 ∧ (s1 ≤ 0 → 0 ≤ a1 ∧ a1 < σ.1 70 ∧ 0 ≤ a2 ∧ a2 < rd σ 76 (a1 + 1) - rd σ 76 a1 ∧ rd σ 81 a1 ≠ 0)) → w_decide_46 C Q  l1 l2 s1 τ := by
    rintro y46_1 y46_2 y46_s1 _ ⟨rfl, j46⟩
    unfold w_decide_46
    intro σ_1 hσ_1
    have e0 : σ_1.1 0 = y46_s1 := by rw [hσ_1, si1, if_pos rfl]
    obtain ⟨e1, e2, jw⟩ := j46
    refine ⟨fun c2 => ?_, fun c2 => ?_⟩
    · skip
      refine ⟨ib_1000.mpr ?_, ?_⟩
      · clear h; have w := jw (by rw [← e0]; exact c2)
        rw [e1]; exact ⟨w.1, Int32.lt_of_lt_of_le w.2.1 hp.1.1.2⟩
      intro x3 hx3
      refine ⟨ib_1000.mpr ?_, ?_⟩
      · clear h; have w := jw (by rw [← e0]; exact c2)
        rw [e1]; exact ⟨w.1, Int32.lt_of_lt_of_le w.2.1 hp.1.1.2⟩
      intro σ_4 hσ_4
      intro σ_5 hσ_5
      refine h _ _ ?_
      · clear h; have w := jw (by rw [← e0]; exact c2)
        have k5 : ∀ k, k ≠ 0 → k ≠ 94 → σ_5.1 k = σ.1 k := fun k z1 z2 => by rw [hσ_5, si1, if_neg z2, hσ_4, ri1, hσ_1, si1, if_neg z1]
        have r5 : ∀ k, k ≠ 83 → σ_5.2.2.1 k = σ.2.2.1 k := fun k hk => by rw [hσ_5, si2, hσ_4, ri3 hk, hσ_1, si2]
        have r83 : σ_5.2.2.1 83 = upd (σ.2.2.1 83) a1.toNatClampNeg a2 := by rw [hσ_5, si2, hσ_4, ri_row, hσ_1, si2, e1, e2]
        have e70 := k5 70 (by decide) (by decide)
        obtain ⟨h1, h2, h3, h4, h5⟩ := hp
        refine ⟨?_, ⟨exO_o h1 (fun k hk => k5 k (by omega) (by omega)) (fun k hk => r5 k (by omega)), fun j j0 j1 => ?_, fun j j0 j1 => ?_, by rw [k5 88 (by decide) (by decide)]; exact h4, fun z a ha t => ?_⟩, Or.inr (by rw [hσ_5, si1, if_pos rfl])⟩
        · rw [hσ_5, hσ_4, hσ_1]; exact frG_tr (frG_tr (frG_0 (by decide)) (frG_1 (by decide))) (frG_0 (by decide))
        · rw [e70] at j1
          have := h2 j j0 j1
          unfold rowR at this ⊢
          simp only [rd] at this ⊢
          rw [r5 73 (by decide)]; exact this
        · rw [e70] at j1
          simp only [rd]
          rw [r5 76 (by decide), r5 81 (by decide), r83]
          by_cases e : j.toNatClampNeg = a1.toNatClampNeg
          · have ej := cn_inj j0 w.1 e
            rw [e, upd_eq, ej]
            exact ⟨fun z => absurd z w.2.2.2.2, fun _ => ⟨w.2.2.1, w.2.2.2.1⟩⟩
          · rw [upd_ne e]; exact h3 j j0 j1
        · rw [k5 88 (by decide) (by decide)] at z
          rw [e70] at ha
          exact h5 z a ha (Tr_congr (fun a b e => edN_0 (fun k hk => r5 k (by omega)) (by decide) e) t)
    · skip
      refine h _ _ ?_
      · clear h; have F : frG [0] [] σ σ_1 := by rw [hσ_1]; exact frG_0 (by decide)
        exact ⟨frG_mono F (by decide) (by decide), exP_o hp (fun k hk => by rw [hσ_1, si1, if_neg (by omega)]) (fun k _ => by rw [hσ_1, si2]), Or.inl F⟩
  refine isState_c hC  (fun r6 q8 => ?_)
  refine ⟨fun c9 => ?_, fun c9 => ?_⟩
  · skip
    refine hj46 _ _ _ _ ?_
    · clear h; exact ⟨rfl, rfl, rfl, fun z => absurd z (by decide)⟩  -- k5
  · skip
    have w := q8.2.mp c9
    have k1 := Int32.lt_of_lt_of_le w.2.2 hp.1.1.2
    have k := k1001 w.2.1 k1
    refine ⟨ib_1000.mpr ?_, ?_⟩
    · clear h; exact ⟨w.2.1, k1⟩  -- b6
    refine ⟨fun c10 => ?_, fun c10 => ?_⟩
    · skip
      refine hj46 _ _ _ _ ?_
      · clear h; exact ⟨rfl, rfl, rfl, fun z => absurd z (by decide)⟩  -- k7
    · skip
      refine ⟨fun c11 => ?_, fun c11 => ?_⟩
      · skip
        refine hj46 _ _ _ _ ?_
        · clear h; exact ⟨rfl, rfl, rfl, fun z => absurd z (by decide)⟩  -- k8
      · skip
        refine ⟨ib_1001.mpr ?_, ?_⟩
        · clear h; exact ⟨k.1, k.2.1⟩  -- b9
        refine ⟨ib_1001.mpr ?_, ?_⟩
        · clear h; exact ⟨w.2.1, k.2.2.1⟩  -- b10
        refine ⟨fun c12 => ?_, fun c12 => ?_⟩
        · skip
          refine hj46 _ _ _ _ ?_
          · clear h; exact ⟨rfl, rfl, rfl, fun _ => ⟨w.2.1, w.2.2, Int32.not_lt.mp c11, c12, c10⟩⟩  -- k11
        · skip
          refine hj46 _ _ _ _ ?_
          · clear h; exact ⟨rfl, rfl, rfl, fun z => absurd z (by decide)⟩  -- k12

theorem decided_c {C : rCx} (hC : cOK C)  {σ : rS} {a1 : Int32} {Q : Int32 → rS → Prop} (hp : exP σ) (h : ∀ (v : Int32) (σ' : rS), (frG [0] [] σ σ') → Q v σ') : cI C 1 m_decided [.ref (co C), .int a1] σ Q := by
  refine m_decided_run hC ?_
  unfold w_decided_0
  have hj23 : ∀ (l1 : Int32) (s1 : Int32) (τ : rS), (σ = τ ∧ l1 = a1 ∧ (s1 ≤ 0 → 0 ≤ a1 ∧ a1 < σ.1 70)) → w_decided_23 C Q  l1 s1 τ := by
    rintro y23_1 y23_s1 _ ⟨rfl, j23⟩
    unfold w_decided_23
    intro σ_1 hσ_1
    have e0 : σ_1.1 0 = y23_s1 := by rw [hσ_1, si1, if_pos rfl]
    obtain ⟨e1, jw⟩ := j23
    refine ⟨fun c2 => ?_, fun c2 => ?_⟩
    · skip
      refine ⟨ib_1000.mpr ?_, ?_⟩
      · clear h; have w := jw (by rw [← e0]; exact c2)
        rw [e1]; exact ⟨w.1, Int32.lt_of_lt_of_le w.2 hp.1.1.2⟩
      refine h _ _ ?_
      · clear h; rw [hσ_1]; exact frG_0 (by decide)  -- q2
    · skip
      refine h _ _ ?_
      · clear h; rw [hσ_1]; exact frG_0 (by decide)  -- q3
  refine isState_c hC  (fun r3 q5 => ?_)
  refine ⟨fun c6 => ?_, fun c6 => ?_⟩
  · skip
    refine hj23 _ _ _ ?_
    · clear h; exact ⟨rfl, rfl, fun z => absurd z (by decide)⟩  -- k4
  · skip
    have w := q5.2.mp c6
    refine ⟨ib_1000.mpr ?_, ?_⟩
    · clear h; exact ⟨w.2.1, Int32.lt_of_lt_of_le w.2.2 hp.1.1.2⟩  -- b5
    refine ⟨fun c7 => ?_, fun c7 => ?_⟩
    · skip
      refine hj23 _ _ _ ?_
      · clear h; exact ⟨rfl, rfl, fun _ => w.2⟩  -- k6
    · skip
      refine hj23 _ _ _ ?_
      · clear h; exact ⟨rfl, rfl, fun z => absurd z (by decide)⟩  -- k7

end
section
set_option maxHeartbeats 1600000
/-! the reference: numbers by their values: trim, copy, set -/
/-- only the numbers of a list differ -/
def frN (l : List Nat) (σ τ : rS) : Prop := τ.1 = σ.1 ∧ τ.2.1 = σ.2.1 ∧ (∀ k, k ≠ 90 → k ≠ 91 → τ.2.2.1 k = σ.2.2.1 k) ∧ τ.2.2.2 = σ.2.2.2 ∧ ∀ k, k ∉ l → τ.2.2.1 91 k = σ.2.2.1 91 k ∧ ∀ i, i < 40000 → τ.2.2.1 90 (40000 * k + i) = σ.2.2.1 90 (40000 * k + i)
theorem frN_refl {l : List Nat} {σ : rS} : frN l σ σ := ⟨rfl, rfl, fun _ _ _ => rfl, rfl, fun _ _ => ⟨rfl, fun _ _ => rfl⟩⟩
theorem frN_tr {l : List Nat} {σ τ υ : rS} (h : frN l σ τ) (g : frN l τ υ) : frN l σ υ := ⟨g.1.trans h.1, g.2.1.trans h.2.1, fun k z1 z2 => (g.2.2.1 k z1 z2).trans (h.2.2.1 k z1 z2), g.2.2.2.1.trans h.2.2.2.1, fun k z => ⟨(g.2.2.2.2 k z).1.trans (h.2.2.2.2 k z).1, fun i hi => ((g.2.2.2.2 k z).2 i hi).trans ((h.2.2.2.2 k z).2 i hi)⟩⟩
theorem frN_mono {l m : List Nat} {σ τ : rS} (h : frN l σ τ) (hl : ∀ k, k ∈ l → k ∈ m) : frN m σ τ := ⟨h.1, h.2.1, h.2.2.1, h.2.2.2.1, fun k z => h.2.2.2.2 k (fun e => z (hl k e))⟩
theorem nL_le {σ : rS} {r : Nat} (h : numO σ r) : nL σ r ≤ 40000 := cn_le (y := 40000) rfl h.2.1
theorem nV_fr {l : List Nat} {σ τ : rS} {k : Nat} (f : frN l σ τ) (hk : k ∉ l) (h : numO σ k) : numO τ k ∧ nV τ k = nV σ k ∧ nL τ k = nL σ k := by
  have g := f.2.2.2.2 k hk
  have el : nL τ k = nL σ k := by show (τ.2.2.1 91 k).toNatClampNeg = _; rw [g.1]
  have le := nL_le h
  refine ⟨⟨by rw [g.1]; exact h.1, by rw [g.1]; exact h.2.1, fun i hi => ?_, ?_⟩, ?_, el⟩
  · rw [el] at hi
    rw [g.2 i (by omega)]; exact h.2.2.1 i hi
  · rw [el]
    rcases h.2.2.2 with z | ⟨m, z1, z2⟩
    · exact Or.inl z
    · exact Or.inr ⟨m, z1, by rw [g.2 m (by omega)]; exact z2⟩
  · unfold nV
    rw [el]
    exact dv_congr (fun i hi => g.2 i (by omega))
/-- a number's places alone are changed -/
theorem frN_90 {σ : rS} {r i : Nat} {x : Int32} (hi : i < 40000) : frN [r] σ (riU σ 90 (40000 * r + i) x) := by
  refine ⟨rfl, rfl, fun k z1 _ => ri3 z1, rfl, fun k hk => ⟨by rw [ri3 (by decide)], fun j hj => ?_⟩⟩
  have ne : k ≠ r := fun e => hk (by rw [e]; exact List.mem_singleton.mpr rfl)
  rw [ri4, if_neg (by omega)]
theorem frN_91 {σ : rS} {r : Nat} {x : Int32} : frN [r] σ (riU σ 91 r x) := by
  refine ⟨rfl, rfl, fun k _ z2 => ri3 z2, rfl, fun k hk => ⟨?_, fun j hj => by rw [ri3 (by decide)]⟩⟩
  have ne : k ≠ r := fun e => hk (by rw [e]; exact List.mem_singleton.mpr rfl)
  rw [ri4, if_neg ne]
theorem FR_funext {σ τ : rS} (h : (∀ k,  τ.1 k = σ.1 k) ∧ (∀ k,  τ.2.1 k = σ.2.1 k) ∧ (∀ k, k ≠ 91 → τ.2.2.1 k = σ.2.2.1 k) ∧ (∀ k j, k ≠ 91 → τ.2.2.1 k j = σ.2.2.1 k j) ∧ (∀ k j,  τ.2.2.2 k j = σ.2.2.2 k j)) : τ.1 = σ.1 ∧ τ.2.1 = σ.2.1 ∧ τ.2.2.2 = σ.2.2.2 := ⟨funext h.1, funext h.2.1, funext (fun k => funext (h.2.2.2.2 k))⟩
/-- trim, by values: the number of n places in order -/
theorem trim_v {C : rCx} (hC : cOK C) {σ : rS} {a1 : Int32} {Q : rS → Prop} (hp : 0 ≤ a1 ∧ a1 < 30 ∧ 0 ≤ rd σ 91 a1 ∧ rd σ 91 a1 ≤ 40000 ∧ dgO (σ.2.2.1 90) (40000 * a1.toNatClampNeg) (nL σ a1.toNatClampNeg)) (h : ∀ (σ' : rS), (frN [a1.toNatClampNeg] σ σ' ∧ numO σ' a1.toNatClampNeg ∧ nV σ' a1.toNatClampNeg = dv (σ.2.2.1 90) (40000 * a1.toNatClampNeg) (nL σ a1.toNatClampNeg) ∧ nL σ' a1.toNatClampNeg ≤ nL σ a1.toNatClampNeg) → Q σ') : cV C 0 m_trim [.ref (co C), .int a1] σ Q := by
  obtain ⟨h0, h1, h2, h3, hd⟩ := hp
  refine trim_c hC ⟨h0, h1, h2, h3⟩ (fun σ' q => h σ' ?_)
  obtain ⟨f, q1, q2, q3, q4, q5⟩ := q
  have fx := FR_funext f
  have r90 : σ'.2.2.1 90 = σ.2.2.1 90 := f.2.2.1 90 (by decide)
  have le : nL σ' a1.toNatClampNeg ≤ nL σ a1.toNatClampNeg := by
    have e1 := cn_int q2
    have e2 := cn_int h2
    have l := Int32.le_iff_toInt_le.mp q3
    show (rd σ' 91 a1).toNatClampNeg ≤ (rd σ 91 a1).toNatClampNeg
    omega
  refine ⟨⟨fx.1, fx.2.1, fun k _ z2 => f.2.2.1 k z2, fx.2.2, fun k hk => ⟨q1 k (fun e => hk (by rw [e]; exact List.mem_singleton.mpr rfl)), fun i _ => by rw [r90]⟩⟩, ⟨q2, Int32.le_trans q3 h3, fun i hi => by rw [r90]; exact hd i (by omega), ?_⟩, ?_, le⟩
  · rcases q5 with z | z
    · exact Or.inl (cn_zero z)
    · by_cases e : rd σ' 91 a1 ≤ 0
      · exact Or.inl (cn_zero e)
      · have pm := pos_m e (Int32.le_trans q3 h3)
        refine Or.inr ⟨(rd σ' 91 a1 - 1).toNatClampNeg, cn_pred pm.2.2.2.2.1 pm.2.2.2.2.2.1, ?_⟩
        rw [r90]
        intro zz
        have dd := hd (rd σ' 91 a1 - 1).toNatClampNeg (by have := cn_pred pm.2.2.2.2.1 pm.2.2.2.2.2.1; show _ < _; have l2 : (rd σ' 91 a1).toNatClampNeg ≤ nL σ a1.toNatClampNeg := le; omega)
        exact z (cn_inj dd.1 (Int32.le_refl 0) (by rw [zz]; rfl))
  · unfold nV
    rw [r90]
    exact (dv_zero le (fun i hi1 hi2 => q4 i hi1 hi2)).symm
theorem copy_v {C : rCx} (hC : cOK C) {σ : rS} {a1 a2 : Int32} {Q : rS → Prop} (hp : 0 ≤ a1 ∧ a1 < 30 ∧ 0 ≤ a2 ∧ a2 < 30 ∧ a1 ≠ a2 ∧ numO σ a2.toNatClampNeg) (h : ∀ (σ' : rS), (frN [a1.toNatClampNeg] σ σ' ∧ numO σ' a1.toNatClampNeg ∧ nV σ' a1.toNatClampNeg = nV σ a2.toNatClampNeg ∧ nL σ' a1.toNatClampNeg = nL σ a2.toNatClampNeg) → Q σ') : cV C 0 m_copy [.ref (co C), .int a1, .int a2] σ Q := by
  obtain ⟨h0, h1, h2, h3, hne, hn⟩ := hp
  refine copy_c hC ⟨h0, h1, h2, h3, hne, hn.1, hn.2.1⟩ (fun σ' q => h σ' ?_)
  obtain ⟨f, q1, q2, q3, q4⟩ := q
  have el : nL σ' a1.toNatClampNeg = nL σ a2.toNatClampNeg := by show (rd σ' 91 a1).toNatClampNeg = _; rw [q2]
  have le := nL_le hn
  refine ⟨⟨funext f.1, funext f.2.1, fun k z1 z2 => f.2.2.1 k z1 z2, funext (fun k => funext (f.2.2.2.2 k)), fun k hk => ?_⟩, ⟨by show 0 ≤ rd σ' 91 a1; rw [q2]; exact hn.1, by show rd σ' 91 a1 ≤ 40000; rw [q2]; exact hn.2.1, fun i hi => ?_, ?_⟩, ?_, el⟩
  · have ne : k ≠ a1.toNatClampNeg := fun e => hk (by rw [e]; exact List.mem_singleton.mpr rfl)
    exact ⟨q1 k ne, fun i hi => q4 _ (by omega)⟩
  · rw [el] at hi
    rw [q3 i hi]; exact hn.2.2.1 i hi
  · rw [el]
    rcases hn.2.2.2 with z | ⟨m, z1, z2⟩
    · exact Or.inl z
    · exact Or.inr ⟨m, z1, by rw [q3 m (by rw [show (rd σ 91 a2).toNatClampNeg = nL σ a2.toNatClampNeg from rfl]; omega)]; exact z2⟩
  · unfold nV
    rw [el]
    exact dv_congr (fun i hi => q3 i hi)
/-- the first k places, none behind the number's own -/
theorem dv_min {f : Nat → Int32} {o L k : Nat} : dv f o (min (k + 1) L) = dv f o (min k L) + (if k < L then (f (o + k)).toNatClampNeg * 65536 ^ k else 0) := by
  by_cases h : k < L
  · rw [if_pos h, show min (k + 1) L = k + 1 by omega, show min k L = k by omega]
    rfl
  · rw [if_neg h, show min (k + 1) L = L by omega, show min k L = L by omega]
    rfl
theorem c300 {a : Int32} (h0 : 0 ≤ a) (h1 : a < 30) : a.toNatClampNeg < 30 := by have := cn_lt h0 h1; rwa [show (30 : Int32).toNatClampNeg = 30 from rfl] at this
/-! the reference: a long number set -/
theorem l_nn {x : Int64} (h : 0 ≤ x) : x.toInt = x.toBitVec.toNat := by
  have h := Int64.le_iff_toInt_le.mp h
  rw [Int64.toInt_zero] at h
  have c : x.toInt = if 2 * x.toBitVec.toNat < 2 ^ 64 then (x.toBitVec.toNat : Int) else (x.toBitVec.toNat : Int) - (2 ^ 64 : Nat) := BitVec.toInt_eq_toNat_cond x.toBitVec
  have l : x.toBitVec.toNat < 2 ^ 64 := x.toBitVec.isLt
  split at c <;> omega
/-- the lowest 16 bits of a long number that is not negative -/
theorem l_and {x : Int64} (h : 0 ≤ x) : ((x &&& 65535).toInt32).toInt = x.toInt % 65536 ∧ 0 ≤ (x &&& 65535).toInt32 ∧ (x &&& 65535).toInt32 < 65536 := by
  have e : (x &&& 65535).toBitVec.toNat = x.toBitVec.toNat % 65536 := by
    rw [Int64.toBitVec_and, BitVec.toNat_and, show (65535 : Int64).toBitVec.toNat = 2 ^ 16 - 1 from rfl, Nat.and_two_pow_sub_one_eq_mod]
  have e2 : ((x &&& 65535).toInt32).toBitVec.toNat = x.toBitVec.toNat % 65536 := by
    have m : (x &&& 65535).toBitVec.msb = false := by
      rw [BitVec.msb_eq_decide, e]
      simp only [decide_eq_false_iff_not]
      omega
    rw [Int64.toBitVec_toInt32, BitVec.signExtend_eq_setWidth_of_msb_false m, BitVec.toNat_setWidth, e]
    omega
  have t : ((x &&& 65535).toInt32).toInt = (((x &&& 65535).toInt32).toBitVec.toNat : Int) := BitVec.toInt_eq_toNat_of_lt (by rw [e2]; omega)
  have b := l_nn h
  have r : ((x &&& 65535).toInt32).toInt = x.toInt % 65536 := by rw [t, e2, b]; omega
  refine ⟨r, ?_, ?_⟩
  · rw [Int32.le_iff_toInt_le, Int32.toInt_zero, r]; omega
  · rw [Int32.lt_iff_toInt_lt, r, show (65536 : Int32).toInt = 65536 from rfl]; omega
theorem l_shr {x : Int64} (h : 0 ≤ x) : ((x.toUInt64 >>> ((16 : Int32).toInt64.toUInt64 &&& Int64.toUInt64 63)).toInt64).toInt = x.toInt / 65536 ∧ 0 ≤ (x.toUInt64 >>> ((16 : Int32).toInt64.toUInt64 &&& Int64.toUInt64 63)).toInt64 := by
  have e : ((x.toUInt64 >>> ((16 : Int32).toInt64.toUInt64 &&& Int64.toUInt64 63)).toInt64).toBitVec.toNat = x.toBitVec.toNat / 65536 := by
    rw [UInt64.toBitVec_toInt64, UInt64.toBitVec_shiftRight, Int64.toBitVec_toUInt64, BitVec.ushiftRight_eq', BitVec.toNat_ushiftRight, Nat.shiftRight_eq_div_pow]
    rfl
  have b := l_nn h
  have lt : x.toBitVec.toNat < 2 ^ 64 := x.toBitVec.isLt
  have t : ((x.toUInt64 >>> ((16 : Int32).toInt64.toUInt64 &&& Int64.toUInt64 63)).toInt64).toInt = (((x.toUInt64 >>> ((16 : Int32).toInt64.toUInt64 &&& Int64.toUInt64 63)).toInt64).toBitVec.toNat : Int) := BitVec.toInt_eq_toNat_of_lt (by rw [e]; omega)
  have r : ((x.toUInt64 >>> ((16 : Int32).toInt64.toUInt64 &&& Int64.toUInt64 63)).toInt64).toInt = x.toInt / 65536 := by rw [t, e, b]; omega
  exact ⟨r, by rw [Int64.le_iff_toInt_le, Int64.toInt_zero, r]; have := Int64.le_iff_toInt_le.mp h; rw [Int64.toInt_zero] at this; omega⟩
theorem lc_0 {x : Int64} : lg_cmp x 0 = 0 ↔ x = 0 := lgc0
theorem dv_s {f : Nat → Int32} {o n : Nat} : dv f o (n + 1) = dv f o n + (f (o + n)).toNatClampNeg * 65536 ^ n := rfl
theorem pw_s {n : Nat} : 65536 ^ (n + 1) = 65536 * 65536 ^ n := by rw [Nat.pow_succ, Nat.mul_comm]
theorem l_pos {x : Int64} (h : 0 ≤ x) (hz : ¬ x = 0) : 0 < x.toInt.toNat ∧ (x.toInt.toNat : Int) = x.toInt := by
  have h1 := Int64.le_iff_toInt_le.mp h
  rw [Int64.toInt_zero] at h1
  have h2 : x.toInt ≠ 0 := fun z => hz (Int64.toInt_inj.mp (by rw [z]; rfl))
  omega
/-- while a number is set: k places are written, x is left -/
def stI (f : Nat → Int32) (o k : Nat) (v x : Int64) : Prop := 0 ≤ x ∧ dgO f o k ∧ v.toInt.toNat = dv f o k + x.toInt.toNat * 65536 ^ k ∧ (x = 0 → k = 0 ∨ ∃ m, k = m + 1 ∧ (f (o + m)).toNatClampNeg ≠ 0)
theorem st_k {v : Nat} {k d x : Nat} (h : v = d + x * 65536 ^ k) (hx : 0 < x) (hv : v < 2 ^ 63) : k ≤ 3 := by
  by_cases e : k ≤ 3
  · exact e
  · have p : 65536 ^ 4 ≤ 65536 ^ k := Nat.pow_le_pow_right (by decide) (by omega)
    have q : 1 * 65536 ^ k ≤ x * 65536 ^ k := Nat.mul_le_mul_right _ hx
    have r : 65536 ^ 4 = 2 ^ 64 := by decide
    omega
theorem v_lt {v : Int64} : v.toInt.toNat < 2 ^ 63 := by
  have := Int64.toInt_lt v
  omega
theorem st_u {x : Int32} (h0 : 0 ≤ x) (h : x ≤ 3) : 0 ≤ x + 1 ∧ x + 1 ≤ 4 ∧ x ≤ 40000 ∧ x < 40000 ∧ x < 1000000 ∧ x ≤ 4 := by grind
theorem set_c {C : rCx} (hC : cOK C)  {σ : rS} {a1 : Int32} {a2 : Int64} {Q : rS → Prop} (hp : 0 ≤ a1 ∧ a1 < 30 ∧ 0 ≤ a2) (h : ∀ (σ' : rS), (frN [a1.toNatClampNeg] σ σ' ∧ numO σ' a1.toNatClampNeg ∧ nV σ' a1.toNatClampNeg = a2.toInt.toNat ∧ nL σ' a1.toNatClampNeg ≤ 4) → Q σ') : cV C 0 m_set [.ref (co C), .int a1, .long a2] σ Q := by
  refine m_set_run hC ?_
  unfold w_set_0
  obtain ⟨h0, h1, h2⟩ := hp
  unfold w_set_6
  refine ⟨fun n l1 l4 l5 τ => n = l5.toInt.toNat ∧ (l1 = a1 ∧ frN [a1.toNatClampNeg] σ τ ∧ 0 ≤ l4 ∧ l4 ≤ 4 ∧ stI (τ.2.2.1 90) (40000 * a1.toNatClampNeg) l4.toNatClampNeg a2 l5), ⟨_, rfl, ?_⟩, ?_⟩
  · clear h; refine ⟨rfl, frN_refl, by decide, by decide, h2, fun i hi => absurd hi (Nat.not_lt_zero i), ?_, fun _ => Or.inl rfl⟩
    show a2.toInt.toNat = 0 + a2.toInt.toNat * 65536 ^ 0
    omega
  rintro n6 x6_1 x6_4 x6_5 σ6 ⟨hn6, i6⟩
  obtain ⟨e1, g1, g2, g3, g4, g5, g6, g7⟩ := i6
  refine ⟨fun c1 => ?_, fun c1 => ?_⟩
  · skip
    refine ⟨ib_30.mpr ?_, ?_⟩
    · clear h; rw [e1]; exact ⟨h0, h1⟩  -- b2
    intro σ_2 hσ_2
    refine h _ ?_
    · clear h; rw [lc_0] at c1
      rw [e1] at hσ_2
      have el : σ_2.2.2.1 91 a1.toNatClampNeg = x6_4 := by rw [hσ_2, ri4, if_pos rfl]
      have r90 : σ_2.2.2.1 90 = σ6.2.2.1 90 := by rw [hσ_2, ri3 (by decide)]
      have n4 : x6_4.toNatClampNeg ≤ 4 := cn_le (y := 4) rfl g3
      refine ⟨frN_tr g1 (by rw [hσ_2]; exact frN_91), ⟨by rw [el]; exact g2, by rw [el]; exact Int32.le_trans g3 (by decide), ?_, ?_⟩, ?_, by show (σ_2.2.2.1 91 a1.toNatClampNeg).toNatClampNeg ≤ 4; rw [el]; exact n4⟩
      · show dgO _ _ (σ_2.2.2.1 91 a1.toNatClampNeg).toNatClampNeg
        rw [el, r90]; exact g5
      · show (σ_2.2.2.1 91 a1.toNatClampNeg).toNatClampNeg = 0 ∨ _
        rw [el, r90]
        rcases g7 c1 with z | ⟨m, z1, z2⟩
        · exact Or.inl z
        · exact Or.inr ⟨m, by show (σ_2.2.2.1 91 a1.toNatClampNeg).toNatClampNeg = _; rw [el]; exact z1, z2⟩
      · show dv (σ_2.2.2.1 90) _ (σ_2.2.2.1 91 a1.toNatClampNeg).toNatClampNeg = _
        rw [el, r90, g6, c1]
        show _ = _ + 0 * _
        omega
  · skip
    have nz : ¬ x6_5 = 0 := fun z => c1 (lc_0.mpr z)
    have lp := l_pos g4 nz
    have k3 := st_k g6 lp.1 v_lt
    have i3 : x6_4 ≤ 3 := Int32.le_iff_toInt_le.mpr (by rw [← cn_int g2, show (3 : Int32).toInt = 3 from rfl]; omega)
    have u := st_u g2 i3
    have bb := bx h0 h1 g2 u.2.2.1
    have la := l_and g4
    have ls := l_shr g4
    refine ⟨ib_1200000.mpr ?_, ?_⟩
    · clear h; rw [e1]; exact ⟨bb.1, bb.2.2.1 u.2.2.2.1⟩  -- b4
    intro σ_3 hσ_3
    intro x4 hx4
    intro x5 hx5
    refine ⟨_, ?_, rfl, ?_⟩
    · clear h; show x5.toInt.toNat < n6
      rw [hn6, hx5, ls.1]
      omega
    · clear h; rw [e1, bb.2.1] at hσ_3
      have cs := cn_succ g2 u.2.2.2.2.1
      have r90 : ∀ j, σ_3.2.2.1 90 j = if j = 40000 * a1.toNatClampNeg + x6_4.toNatClampNeg then (x6_5 &&& 65535).toInt32 else σ6.2.2.1 90 j := fun j => by rw [hσ_3, ri4]
      have dt : ((x6_5 &&& 65535).toInt32).toNatClampNeg = x6_5.toInt.toNat % 65536 := by
        have c := cn_int la.2.1
        rw [la.1] at c
        omega
      have xt : x5.toInt.toNat = x6_5.toInt.toNat / 65536 := by rw [hx5, ls.1]; omega
      have old : dv (σ_3.2.2.1 90) (40000 * a1.toNatClampNeg) x6_4.toNatClampNeg = dv (σ6.2.2.1 90) (40000 * a1.toNatClampNeg) x6_4.toNatClampNeg := dv_congr (fun i hi => by rw [r90, if_neg (by omega)])
      refine ⟨e1, frN_tr g1 (by rw [hσ_3]; exact frN_90 (by omega)), by rw [hx4]; exact u.1, by rw [hx4]; exact u.2.1, by rw [hx5]; exact ls.2, fun i hi => ?_, ?_, fun z => ?_⟩
      · rw [hx4, cs] at hi
        rw [r90]
        by_cases e : i = x6_4.toNatClampNeg
        · rw [e, if_pos rfl]; exact la.2
        · rw [if_neg (by omega)]; exact g5 i (by omega)
      · rw [hx4, cs, dv_s, old, r90, if_pos rfl, dt, xt, pw_s, g6]
        have dm := Nat.div_add_mod x6_5.toInt.toNat 65536
        have e2 : x6_5.toInt.toNat * 65536 ^ x6_4.toNatClampNeg = (65536 * (x6_5.toInt.toNat / 65536) + x6_5.toInt.toNat % 65536) * 65536 ^ x6_4.toNatClampNeg := by rw [dm]
        rw [e2, Nat.add_mul, Nat.mul_assoc, Nat.mul_left_comm]
        omega
      · refine Or.inr ⟨x6_4.toNatClampNeg, by rw [hx4, cs], ?_⟩
        rw [r90, if_pos rfl, dt]
        have z0 : x5.toInt.toNat = 0 := by rw [z]; rfl
        omega

end
section
set_option maxHeartbeats 1600000
/-! the reference: sums and differences -/
theorem i3 {x y c : Int32} (hx : 0 ≤ x ∧ x < 65536) (hy : 0 ≤ y ∧ y < 65536) (hc : c = 0 ∨ c = 1) : 0 ≤ x + y + c ∧ (x + y + c).toInt = x.toInt + y.toInt + c.toInt := by
  have x0 := t0 hx.1
  have y0 := t0 hy.1
  have x1 := Int32.lt_iff_toInt_lt.mp hx.2
  have y1 := Int32.lt_iff_toInt_lt.mp hy.2
  rw [show (65536 : Int32).toInt = 65536 from rfl] at x1 y1
  have c0 : 0 ≤ c := by rcases hc with rfl | rfl <;> decide
  have c1 : c.toInt ≤ 1 := by rcases hc with rfl | rfl <;> decide
  have a := i_add hx.1 hy.1 (by omega)
  have xy : 0 ≤ x + y := Int32.le_iff_toInt_le.mpr (by rw [a, Int32.toInt_zero]; omega)
  have b := i_add xy c0 (by omega)
  have cc := t0 c0
  exact ⟨Int32.le_iff_toInt_le.mpr (by rw [b, a, Int32.toInt_zero]; omega), by rw [b, a]⟩
/-- the place k of a number, nothing behind its own places -/
def plc (f : Nat → Int32) (o L k : Nat) (x : Int32) : Prop := (0 ≤ x ∧ x < 65536) ∧ x.toNatClampNeg * 65536 ^ k = (if k < L then (f (o + k)).toNatClampNeg * 65536 ^ k else 0)
def plI (σ τ : rS) (r s : Nat) (n c k : Int32) : Prop := frN [r] σ τ ∧ τ.2.2.1 91 = σ.2.2.1 91 ∧ 0 ≤ n ∧ n ≤ 39999 ∧ 0 ≤ k ∧ k ≤ n ∧ (c = 0 ∨ c = 1) ∧ dgO (τ.2.2.1 90) (40000 * r) k.toNatClampNeg ∧ dv (τ.2.2.1 90) (40000 * r) k.toNatClampNeg + c.toNatClampNeg * 65536 ^ k.toNatClampNeg = dv (σ.2.2.1 90) (40000 * r) (min k.toNatClampNeg (nL σ r)) + dv (σ.2.2.1 90) (40000 * s) (min k.toNatClampNeg (nL σ s)) ∧ ∀ i, k.toNatClampNeg ≤ i → i < 40000 → τ.2.2.1 90 (40000 * r + i) = σ.2.2.1 90 (40000 * r + i)
theorem pl_u {k n : Int32} (k0 : 0 ≤ k) (h : ¬ n ≤ k) (n1 : n ≤ 39999) : 0 ≤ k + 1 ∧ k + 1 ≤ n ∧ 0 ≤ n - (k + 1) ∧ n - (k + 1) < n - k ∧ k < 40000 ∧ k ≤ 40000 ∧ k < 1000000 := by grind
theorem ar_p {p a b c d x y z v dd : Nat} (h : d + c * p = a + b) (hv : v = x + y + c) (hd : dd = v % 65536) (hz : z = v / 65536) : d + dd * p + z * (65536 * p) = a + x * p + (b + y * p) := by
  have m := Nat.div_add_mod v 65536
  have e : (65536 * z + dd) * p = (x + y + c) * p := by rw [hz, hd, m, hv]
  rw [Nat.add_mul, Nat.add_mul, Nat.add_mul, Nat.mul_assoc] at e
  have f : z * (65536 * p) = 65536 * (z * p) := by rw [Nat.mul_left_comm]
  omega
theorem pl_step {σ τ υ : rS} {r s : Nat} {n c k x y v : Int32} (h : plI σ τ r s n c k) (hk : ¬ n ≤ k) (hx : plc (σ.2.2.1 90) (40000 * r) (nL σ r) k.toNatClampNeg x) (hy : plc (σ.2.2.1 90) (40000 * s) (nL σ s) k.toNatClampNeg y) (hv : v = x + y + c) (hu : υ = riU τ 90 (40000 * r + k.toNatClampNeg) (v &&& 65535)) : plI σ υ r s n (v >>> ((16 : Int32) &&& 31)) (k + 1) := by
  obtain ⟨g1, g2, g3, g4, g5, g6, g7, g8, g9, ga⟩ := h
  have u := pl_u g5 hk g4
  have w := i3 hx.1 hy.1 g7
  rw [← hv] at w
  have a16 := and16 w.1
  have s16 := shr16 (x := v)
  have cs := cn_succ g5 u.2.2.2.2.2.2
  have kl : k.toNatClampNeg < 40000 := by have := cn_lt g5 u.2.2.2.2.1; rwa [show (40000 : Int32).toNatClampNeg = 40000 from rfl] at this
  have r90 : ∀ j, υ.2.2.1 90 j = if j = 40000 * r + k.toNatClampNeg then v &&& 65535 else τ.2.2.1 90 j := fun j => by rw [hu, ri4]
  have old : dv (υ.2.2.1 90) (40000 * r) k.toNatClampNeg = dv (τ.2.2.1 90) (40000 * r) k.toNatClampNeg := dv_congr (fun i hi => by rw [r90, if_neg (by omega)])
  have x0 := t0 hx.1.1
  have y0 := t0 hy.1.1
  have x1 := Int32.lt_iff_toInt_lt.mp hx.1.2
  have y1 := Int32.lt_iff_toInt_lt.mp hy.1.2
  rw [show (65536 : Int32).toInt = 65536 from rfl] at x1 y1
  have c0 : 0 ≤ c ∧ c.toInt ≤ 1 := by rcases g7 with rfl | rfl <;> decide
  have cx := cn_int hx.1.1
  have cy := cn_int hy.1.1
  have cc := cn_int c0.1
  have cv := cn_int w.1
  have cd := cn_int a16.2.1
  have z0 : 0 ≤ v >>> ((16 : Int32) &&& 31) := Int32.le_iff_toInt_le.mpr (by rw [s16, Int32.toInt_zero]; omega)
  have cz := cn_int z0
  rw [a16.1] at cd
  rw [s16] at cz
  refine ⟨frN_tr g1 (by rw [hu]; exact frN_90 kl), by rw [hu, ri3 (by decide)]; exact g2, g3, g4, u.1, u.2.1, ?_, fun i hi => ?_, ?_, fun i hi hi2 => ?_⟩
  · by_cases e : (v >>> ((16 : Int32) &&& 31)).toInt = 0
    · exact Or.inl (Int32.toInt_inj.mp (by rw [e]; rfl))
    · exact Or.inr (Int32.toInt_inj.mp (by rw [s16] at e ⊢; rw [show (1 : Int32).toInt = 1 from rfl]; omega))
  · rw [cs] at hi
    rw [r90]
    by_cases e : i = k.toNatClampNeg
    · rw [e, if_pos rfl]; exact a16.2
    · rw [if_neg (by omega)]; exact g8 i (by omega)
  · rw [cs, dv_s, old, r90, if_pos rfl, pw_s, dv_min, dv_min, ← hx.2, ← hy.2]
    exact ar_p (x := x.toNatClampNeg) (y := y.toNatClampNeg) (v := v.toNatClampNeg) g9 (by omega) (by omega) (by omega)
  · rw [cs] at hi
    rw [r90, if_neg (by omega)]
    exact ga i (by omega) hi2
theorem plc_0 {f : Nat → Int32} {o L k : Nat} (h : ¬ k < L) : plc f o L k 0 := ⟨by decide, by rw [if_neg h]; exact Nat.zero_mul _⟩
theorem plc_1 {f : Nat → Int32} {o L k : Nat} {x : Int32} (h : k < L) (hx : x = f (o + k)) (hd : dgO f o L) : plc f o L k x := ⟨by rw [hx]; exact hd k h, by rw [if_pos h, hx]⟩
theorem n1p {n : Int32} (h0 : 0 ≤ n) (h1 : n ≤ 39999) : 0 ≤ n + 1 ∧ n + 1 ≤ 40000 ∧ n < 40000 ∧ n ≤ 40000 ∧ n < 1000000 := by grind
theorem le_of_n {x : Int32} (h0 : 0 ≤ x) (h : x.toNatClampNeg < 40000) : x ≤ 39999 := by
  have := cn_int h0
  refine Int32.le_iff_toInt_le.mpr ?_
  rw [show (39999 : Int32).toInt = 39999 from rfl]
  omega
theorem cn_li {x y : Int32} (hx : 0 ≤ x) (hy : 0 ≤ y) : x ≤ y ↔ x.toNatClampNeg ≤ y.toNatClampNeg := by
  have a := cn_int hx
  have b := cn_int hy
  rw [Int32.le_iff_toInt_le]
  omega
theorem plus_c {C : rCx} (hC : cOK C)  {σ : rS} {a1 : Int32} {a2 : Int32} {Q : rS → Prop} (hp : 0 ≤ a1 ∧ a1 < 30 ∧ 0 ≤ a2 ∧ a2 < 30 ∧ a1 ≠ a2 ∧ numO σ a1.toNatClampNeg ∧ numO σ a2.toNatClampNeg ∧ nL σ a1.toNatClampNeg < 40000 ∧ nL σ a2.toNatClampNeg < 40000) (h : ∀ (σ' : rS), (frN [a1.toNatClampNeg] σ σ' ∧ numO σ' a1.toNatClampNeg ∧ nV σ' a1.toNatClampNeg = nV σ a1.toNatClampNeg + nV σ a2.toNatClampNeg ∧ nL σ' a1.toNatClampNeg ≤ max (nL σ a1.toNatClampNeg) (nL σ a2.toNatClampNeg) + 1) → Q σ') : cV C 1 m_plus [.ref (co C), .int a1, .int a2] σ Q := by
  refine m_plus_run hC ?_
  unfold w_plus_0
  obtain ⟨h0, h1, h2, h3, hne, hr, hs, hl, hm⟩ := hp
  have cne : a1.toNatClampNeg ≠ a2.toNatClampNeg := fun e => hne (cn_inj h0 h2 e)
  have hj30 : ∀ (l1 : Int32) (l2 : Int32) (s0 : Int32) (τ : rS), (σ = τ ∧ l1 = a1 ∧ l2 = a2 ∧ 0 ≤ s0 ∧ s0 ≤ 39999 ∧ s0.toNatClampNeg = max (nL σ a1.toNatClampNeg) (nL σ a2.toNatClampNeg)) → w_plus_30 C Q  l1 l2 s0 τ := by
    rintro y30_1 y30_2 y30_s0 _ ⟨rfl, j30⟩
    unfold w_plus_30
    unfold w_plus_37
    refine ⟨fun n l1 l2 l3 l4 l5 τ => n = (l3 - l5).toNatClampNeg ∧ (l1 = a1 ∧ l2 = a2 ∧ plI σ τ a1.toNatClampNeg a2.toNatClampNeg l3 l4 l5 ∧ l3.toNatClampNeg = max (nL σ a1.toNatClampNeg) (nL σ a2.toNatClampNeg)), ⟨_, rfl, ?_⟩, ?_⟩
    · clear h; obtain ⟨e1, e2, n0, n1, nm⟩ := j30
      refine ⟨e1, e2, ⟨frN_refl, rfl, n0, n1, by decide, n0, Or.inl rfl, fun i hi => absurd hi (Nat.not_lt_zero i), ?_, fun i _ _ => rfl⟩, nm⟩
      show 0 + 0 * 65536 ^ 0 = dv _ _ (min 0 _) + dv _ _ (min 0 _)
      rw [Nat.zero_min, Nat.zero_min]
      rfl
    rintro n37 x37_1 x37_2 x37_3 x37_4 x37_5 σ37 ⟨hn37, i37⟩
    have hj99 : ∀ (l1 : Int32) (l2 : Int32) (l3 : Int32) (l4 : Int32) (l5 : Int32) (s0 : Int32) (s1 : Int32) (τ : rS), (l1 = a1 ∧ l2 = a2 ∧ τ = σ37 ∧ l3 = x37_3 ∧ l4 = x37_4 ∧ l5 = x37_5 ∧ ¬ x37_3 ≤ x37_5 ∧ plc (σ.2.2.1 90) (40000 * a1.toNatClampNeg) (nL σ a1.toNatClampNeg) x37_5.toNatClampNeg s0 ∧ plc (σ.2.2.1 90) (40000 * a2.toNatClampNeg) (nL σ a2.toNatClampNeg) x37_5.toNatClampNeg s1) → w_plus_99 C Q (fun l1' l2' l3' l4' l5' τ => ∃ k < n37, (fun n l1 l2 l3 l4 l5 τ => n = (l3 - l5).toNatClampNeg ∧ (l1 = a1 ∧ l2 = a2 ∧ plI σ τ a1.toNatClampNeg a2.toNatClampNeg l3 l4 l5 ∧ l3.toNatClampNeg = max (nL σ a1.toNatClampNeg) (nL σ a2.toNatClampNeg))) k l1' l2' l3' l4' l5' τ) l1 l2 l3 l4 l5 s0 s1 τ := by
      rintro y99_1 y99_2 y99_3 y99_4 y99_5 y99_s0 y99_s1 τ99 j99
      unfold w_plus_99
      intro x1 hx1
      obtain ⟨e1, e2, I, nm⟩ := i37
      obtain ⟨f1, f2, f3, f4, f5, f6, f7, f8, f9⟩ := j99
      have u := pl_u I.2.2.2.2.1 f7 I.2.2.2.1
      have bb := bx h0 h1 I.2.2.2.2.1 u.2.2.2.2.2.1
      refine ⟨ib_1200000.mpr ?_, ?_⟩
      · clear h; rw [f1, f6]; exact ⟨bb.1, bb.2.2.1 u.2.2.2.2.1⟩  -- b2
      intro σ_2 hσ_2
      intro x3 hx3
      intro x4 hx4
      refine ⟨_, cn_lt2 hn37 ?_ ?_, rfl, ?_⟩
      · clear h; rw [hx4, f6, f4]; exact u.2.2.1  -- d3
      · clear h; rw [hx4, f6, f4]; exact u.2.2.2.1  -- d4
      · clear h; rw [hx4, hx3, f4, f6]
        exact ⟨f1, f2, pl_step I f7 f8 f9 (by rw [hx1, f5]) (by rw [hσ_2, f3, f1, f6, bb.2.1]), nm⟩
    have hj71 : ∀ (l1 : Int32) (l2 : Int32) (l3 : Int32) (l4 : Int32) (l5 : Int32) (s0 : Int32) (τ : rS), (l1 = a1 ∧ l2 = a2 ∧ τ = σ37 ∧ l3 = x37_3 ∧ l4 = x37_4 ∧ l5 = x37_5 ∧ ¬ x37_3 ≤ x37_5 ∧ plc (σ.2.2.1 90) (40000 * a1.toNatClampNeg) (nL σ a1.toNatClampNeg) x37_5.toNatClampNeg s0) → w_plus_71 C Q (fun l1' l2' l3' l4' l5' τ => ∃ k < n37, (fun n l1 l2 l3 l4 l5 τ => n = (l3 - l5).toNatClampNeg ∧ (l1 = a1 ∧ l2 = a2 ∧ plI σ τ a1.toNatClampNeg a2.toNatClampNeg l3 l4 l5 ∧ l3.toNatClampNeg = max (nL σ a1.toNatClampNeg) (nL σ a2.toNatClampNeg))) k l1' l2' l3' l4' l5' τ) l1 l2 l3 l4 l5 s0 τ := by
      rintro y71_1 y71_2 y71_3 y71_4 y71_5 y71_s0 τ71 j71
      unfold w_plus_71
      obtain ⟨e1, e2, I, nm⟩ := i37
      obtain ⟨f1, f2, f3, f4, f5, f6, f7, f8⟩ := j71
      have u := pl_u I.2.2.2.2.1 f7 I.2.2.2.1
      have bs := bx h2 h3 I.2.2.2.2.1 u.2.2.2.2.2.1
      have kl : x37_5.toNatClampNeg < 40000 := by have := cn_lt I.2.2.2.2.1 u.2.2.2.2.1; rwa [show (40000 : Int32).toNatClampNeg = 40000 from rfl] at this
      refine ⟨ib_30.mpr ?_, ?_⟩
      · clear h; rw [f2]; exact ⟨h2, h3⟩  -- b6
      have lc := cn_li (x := σ.2.2.1 91 a2.toNatClampNeg) (y := x37_5) hs.1 I.2.2.2.2.1
      refine ⟨fun c5 => ?_, fun c5 => ?_⟩
      · skip
        refine hj99 _ _ _ _ _ _ _ _ ?_
        · clear h; rw [f2, f3, f6, I.2.1, lc] at c5
          exact ⟨f1, f2, f3, f4, f5, f6, f7, f8, plc_0 (Nat.not_lt.mpr c5)⟩
      · skip
        refine ⟨ib_1200000.mpr ?_, ?_⟩
        · clear h; rw [f2, f6]; exact ⟨bs.1, bs.2.2.1 u.2.2.2.2.1⟩  -- b8
        refine hj99 _ _ _ _ _ _ _ _ ?_
        · clear h; rw [f2, f3, f6, I.2.1, lc] at c5
          refine ⟨f1, f2, f3, f4, f5, f6, f7, f8, plc_1 (Nat.not_le.mp c5) ?_ hs.2.2.1⟩
          rw [f2, f6, f3, bs.2.1]
          exact (I.1.2.2.2.2 a2.toNatClampNeg (fun z => cne (List.mem_singleton.mp z).symm)).2 _ kl
    obtain ⟨e1, e2, I, nm⟩ := i37
    have np := n1p I.2.2.1 I.2.2.2.1
    have bn := bx h0 h1 I.2.2.1 np.2.2.2.1
    have cs := cn_succ I.2.2.1 np.2.2.2.2
    have nl : x37_3.toNatClampNeg < 40000 := by have := cn_lt I.2.2.1 np.2.2.1; rwa [show (40000 : Int32).toNatClampNeg = 40000 from rfl] at this
    refine ⟨fun c6 => ?_, fun c6 => ?_⟩
    · skip
      refine ⟨ib_1200000.mpr ?_, ?_⟩
      · clear h; rw [e1]; exact ⟨bn.1, bn.2.2.1 np.2.2.1⟩  -- b10
      intro σ_7 hσ_7
      refine ⟨ib_30.mpr ?_, ?_⟩
      · clear h; rw [e1]; exact ⟨h0, h1⟩  -- b11
      intro σ_8 hσ_8
      refine trim_v hC  ?_ (fun σ_9 q10 => ?_)
      · clear h; have ek : x37_5 = x37_3 := Int32.le_antisymm I.2.2.2.2.2.1 c6
        rw [e1, bn.2.1] at hσ_7
        rw [e1] at hσ_8 ⊢
        have el : σ_8.2.2.1 91 a1.toNatClampNeg = x37_3 + 1 := by rw [hσ_8, ri4, if_pos rfl]
        have r90 : ∀ j, σ_8.2.2.1 90 j = if j = 40000 * a1.toNatClampNeg + x37_3.toNatClampNeg then x37_4 else σ37.2.2.1 90 j := fun j => by rw [hσ_8, ri3 (by decide), hσ_7, ri4]
        refine ⟨h0, h1, by rw [rd, el]; exact np.1, by rw [rd, el]; exact np.2.1, fun i hi => ?_⟩
        rw [show nL σ_8 a1.toNatClampNeg = (σ_8.2.2.1 91 a1.toNatClampNeg).toNatClampNeg from rfl, el, cs] at hi
        rw [r90]
        by_cases e : i = x37_3.toNatClampNeg
        · rw [e, if_pos rfl]
          rcases I.2.2.2.2.2.2.1 with z | z
          · rw [z]; exact ⟨by decide, by decide⟩
          · rw [z]; exact ⟨by decide, by decide⟩
        · rw [if_neg (by omega)]
          have d := I.2.2.2.2.2.2.2.1
          rw [ek] at d
          exact d i (by omega)
      rw [e1] at q10
      refine h _ ?_
      · clear h; have ek : x37_5 = x37_3 := Int32.le_antisymm I.2.2.2.2.2.1 c6
        rw [e1, bn.2.1] at hσ_7
        rw [e1] at hσ_8
        have el : σ_8.2.2.1 91 a1.toNatClampNeg = x37_3 + 1 := by rw [hσ_8, ri4, if_pos rfl]
        have r90 : ∀ j, σ_8.2.2.1 90 j = if j = 40000 * a1.toNatClampNeg + x37_3.toNatClampNeg then x37_4 else σ37.2.2.1 90 j := fun j => by rw [hσ_8, ri3 (by decide), hσ_7, ri4]
        have L : nL σ_8 a1.toNatClampNeg = x37_3.toNatClampNeg + 1 := by show (σ_8.2.2.1 91 a1.toNatClampNeg).toNatClampNeg = _; rw [el, cs]
        have F : frN [a1.toNatClampNeg] σ37 σ_8 := by rw [hσ_8, hσ_7]; exact frN_tr (frN_90 nl) frN_91
        refine ⟨frN_tr I.1 (frN_tr F q10.1), q10.2.1, ?_, by rw [← nm, ← L]; exact q10.2.2.2⟩
        rw [q10.2.2.1, L, dv_s, r90, if_pos rfl]
        have o : dv (σ_8.2.2.1 90) (40000 * a1.toNatClampNeg) x37_3.toNatClampNeg = dv (σ37.2.2.1 90) (40000 * a1.toNatClampNeg) x37_3.toNatClampNeg := dv_congr (fun i hi => by rw [r90, if_neg (by omega)])
        have v := I.2.2.2.2.2.2.2.2.1
        rw [ek, nm] at v
        rw [o, nm, v]
        unfold nV
        rw [show min (max (nL σ a1.toNatClampNeg) (nL σ a2.toNatClampNeg)) (nL σ a1.toNatClampNeg) = nL σ a1.toNatClampNeg by omega, show min (max (nL σ a1.toNatClampNeg) (nL σ a2.toNatClampNeg)) (nL σ a2.toNatClampNeg) = nL σ a2.toNatClampNeg by omega]
    · skip
      refine ⟨ib_30.mpr ?_, ?_⟩
      · clear h; rw [e1]; exact ⟨h0, h1⟩  -- b14
      have u := pl_u I.2.2.2.2.1 c6 I.2.2.2.1
      have br := bx h0 h1 I.2.2.2.2.1 u.2.2.2.2.2.1
      have kl : x37_5.toNatClampNeg < 40000 := by have := cn_lt I.2.2.2.2.1 u.2.2.2.2.1; rwa [show (40000 : Int32).toNatClampNeg = 40000 from rfl] at this
      have lr := cn_li (x := σ.2.2.1 91 a1.toNatClampNeg) (y := x37_5) hr.1 I.2.2.2.2.1
      refine ⟨fun c11 => ?_, fun c11 => ?_⟩
      · skip
        refine hj71 _ _ _ _ _ _ _ ?_
        · clear h; rw [e1, I.2.1, lr] at c11
          exact ⟨e1, e2, rfl, rfl, rfl, rfl, c6, plc_0 (Nat.not_lt.mpr c11)⟩
      · skip
        refine ⟨ib_1200000.mpr ?_, ?_⟩
        · clear h; rw [e1]; exact ⟨br.1, br.2.2.1 u.2.2.2.2.1⟩  -- b16
        refine hj71 _ _ _ _ _ _ _ ?_
        · clear h; rw [e1, I.2.1, lr] at c11
          refine ⟨e1, e2, rfl, rfl, rfl, rfl, c6, plc_1 (Nat.not_le.mp c11) ?_ hr.2.2.1⟩
          rw [e1, br.2.1]
          exact I.2.2.2.2.2.2.2.2.2 _ (Nat.le_refl _) kl
  refine ⟨ib_30.mpr ?_, ?_⟩
  · clear h; exact ⟨h0, h1⟩  -- b18
  refine ⟨ib_30.mpr ?_, ?_⟩
  · clear h; exact ⟨h2, h3⟩  -- b19
  refine ⟨fun c12 => ?_, fun c12 => ?_⟩
  · skip
    refine ⟨ib_30.mpr ?_, ?_⟩
    · clear h; exact ⟨h2, h3⟩  -- b20
    refine hj30 _ _ _ _ ?_
    · clear h; refine ⟨rfl, rfl, rfl, hs.1, le_of_n hs.1 hm, ?_⟩
      rw [cn_li hr.1 hs.1] at c12
      show nL σ a2.toNatClampNeg = max (nL σ a1.toNatClampNeg) (nL σ a2.toNatClampNeg)
      have z : nL σ a1.toNatClampNeg ≤ nL σ a2.toNatClampNeg := c12
      omega
  · skip
    refine ⟨ib_30.mpr ?_, ?_⟩
    · clear h; exact ⟨h0, h1⟩  -- b22
    refine hj30 _ _ _ _ ?_
    · clear h; refine ⟨rfl, rfl, rfl, hr.1, le_of_n hr.1 hl, ?_⟩
      rw [cn_li hr.1 hs.1] at c12
      show nL σ a1.toNatClampNeg = max (nL σ a1.toNatClampNeg) (nL σ a2.toNatClampNeg)
      have z : ¬ nL σ a1.toNatClampNeg ≤ nL σ a2.toNatClampNeg := c12
      omega

end
