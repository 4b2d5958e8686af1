set_option maxHeartbeats 1600000
/-! the reference: rings, states that can end -/
/-- state a can end at once -/
def endN (σ : rS) (p : Int32) (a : Nat) : Prop := ∃ i : Int32, σ.2.2.1 76 a ≤ i ∧ i < σ.2.2.1 76 (a + 1) ∧ rd σ 77 i ≠ 0 ∧ (p = 0 ∨ σ.2.2.1 81 a = 0 ∨ i = σ.2.2.1 76 a + σ.2.2.1 83 a)
def endI (σ : rS) (p : Int32) (a : Nat) (i : Int32) : Prop := ∃ j : Int32, σ.2.2.1 76 a ≤ j ∧ j < i ∧ rd σ 77 j ≠ 0 ∧ (p = 0 ∨ σ.2.2.1 81 a = 0 ∨ j = σ.2.2.1 76 a + σ.2.2.1 83 a)
theorem endI_s {σ : rS} {p i : Int32} {a : Nat} (h0 : 0 ≤ i) (h1 : i < 20000) (h2 : σ.2.2.1 76 a ≤ i) : endI σ p a (i + 1) ↔ endI σ p a i ∨ (rd σ 77 i ≠ 0 ∧ (p = 0 ∨ σ.2.2.1 81 a = 0 ∨ i = σ.2.2.1 76 a + σ.2.2.1 83 a)) := by
  constructor
  · rintro ⟨j, g1, g2, g3⟩
    rcases i_sp h0 h1 g2 with e | e
    · subst e; exact Or.inr g3
    · exact Or.inl ⟨j, g1, e, g3⟩
  · rintro (⟨j, g1, g2, g3⟩ | g)
    · exact ⟨j, g1, Int32.lt_trans g2 (by grind), g3⟩
    · exact ⟨i, h2, by grind, g⟩
/-- states a and b are in one ring -/
def rng (r : Nat → Int64) (a b : Nat) : Prop := bR r a b = true ∧ bR r b a = true
/-- how many states below n are in a ring with a -/
def cntR (r : Nat → Int64) (a : Nat) : Nat → Nat
  | 0 => 0
  | n + 1 => cntR r a n + (if bR r a n = true ∧ bR r n a = true then 1 else 0)
theorem cntR_le {r : Nat → Int64} {a n : Nat} : cntR r a n ≤ n := by
  induction n with
  | zero => exact Nat.le_refl _
  | succ n ih =>
    show cntR r a n + (if bR r a n = true ∧ bR r n a = true then 1 else 0) ≤ n + 1
    split <;> omega
theorem cnt_in {r : Nat → Int64} {a n : Nat} (h : rng r a n) : cntR r a (n + 1) = cntR r a n + 1 := by
  show cntR r a n + (if bR r a n = true ∧ bR r n a = true then 1 else 0) = _
  rw [if_pos (show bR r a n = true ∧ bR r n a = true from h)]
theorem cnt_out {r : Nat → Int64} {a n : Nat} (h : ¬ rng r a n) : cntR r a (n + 1) = cntR r a n := by
  show cntR r a n + (if bR r a n = true ∧ bR r n a = true then 1 else 0) = _
  rw [if_neg (show ¬ (bR r a n = true ∧ bR r n a = true) from h)]
  rfl
theorem le_up {a b : Int32} (h0 : 0 ≤ a) (h1 : a ≤ b) (h2 : b < 1000) : 0 ≤ a + 1 ∧ a + 1 ≤ b + 1 ∧ a < 1000000 ∧ a ≤ b + 1 := by grind
theorem isRingWith_c {C : rCx} (hC : cOK C)  {σ : rS} {a1 : Int32} {a2 : Int32} {Q : Int32 → rS → Prop} (hp : 0 ≤ a1 ∧ a1 < 1000 ∧ 0 ≤ a2 ∧ a2 < 1000) (h : ∀ (v : Int32), (nb v ∧ (v ≠ 0 ↔ rng (σ.2.2.2 86) a1.toNatClampNeg a2.toNatClampNeg)) → Q v σ) : cI C 1 m_isRingWith [.ref (co C), .int a1, .int a2] σ Q := by
  refine m_isRingWith_run hC ?_
  unfold w_isRingWith_0
  refine leads_c hC  ?_ (fun r1 q3 => ?_)
  · clear h; exact hp  -- p1
  refine ⟨fun c4 => ?_, fun c4 => ?_⟩
  · skip
    refine h _ ?_
    · clear h; exact ⟨nb_0, fun z => absurd rfl z, fun z => absurd c4 (q3.2.mpr z.1)⟩  -- q2
  · skip
    refine leads_c hC  ?_ (fun r5 q7 => ?_)
    · clear h; exact ⟨hp.2.2.1, hp.2.2.2, hp.1, hp.2.1⟩  -- p3
    refine ⟨fun c8 => ?_, fun c8 => ?_⟩
    · skip
      refine h _ ?_
      · clear h; exact ⟨nb_0, fun z => absurd rfl z, fun z => absurd c8 (q7.2.mpr z.2)⟩  -- q4
    · skip
      refine h _ ?_
      · clear h; exact ⟨nb_1, fun _ => ⟨q3.2.mp c4, q7.2.mp c8⟩, fun _ => by decide⟩  -- q5

theorem endsAtOnce_c {C : rCx} (hC : cOK C)  {σ : rS} {a1 : Int32} {a2 : Int32} {Q : Int32 → rS → Prop} (hp : exO σ ∧ 0 ≤ a1 ∧ a1 < σ.1 70) (h : ∀ (v : Int32), (nb v ∧ (v ≠ 0 ↔ endN σ a2 a1.toNatClampNeg)) → Q v σ) : cI C 1 m_endsAtOnce [.ref (co C), .int a1, .int a2] σ Q := by
  refine m_endsAtOnce_run hC ?_
  unfold w_endsAtOnce_0
  obtain ⟨hO, h0, h1⟩ := hp
  have st := ex_st hO h0 h1
  refine ⟨ib_1001.mpr ?_, ?_⟩
  · clear h; exact ⟨h0, (k1001 h0 st.2.2.2.2.1).2.2.1⟩  -- b1
  intro x1 hx1
  unfold w_endsAtOnce_10
  refine ⟨fun n l1 l2 l3 l4 τ => n = (σ.2.2.1 76 (a1 + 1).toNatClampNeg - l4).toNatClampNeg ∧ (σ = τ ∧ l1 = a1 ∧ l2 = a2 ∧ nb l3 ∧ σ.2.2.1 76 a1.toNatClampNeg ≤ l4 ∧ l4 ≤ σ.2.2.1 76 (a1 + 1).toNatClampNeg ∧ (l3 ≠ 0 ↔ endI σ a2 a1.toNatClampNeg l4)), ⟨_, rfl, ?_⟩, ?_⟩
  · clear h; refine ⟨rfl, rfl, rfl, nb_0, by rw [hx1]; exact Int32.le_refl _, by rw [hx1, st.2.2.2.1]; exact st.2.1, fun z => absurd rfl z, fun z => ?_⟩
    obtain ⟨j, g1, g2, -⟩ := z
    rw [hx1] at g2
    exact absurd g2 (Int32.not_lt.mpr g1)
  rintro n10 x10_1 x10_2 x10_3 x10_4 _ ⟨hn10, rfl, i10⟩
  have hj53 : ∀ (l1 : Int32) (l2 : Int32) (l4 : Int32) (s0 : Int32) (τ : rS), (σ = τ ∧ l1 = a1 ∧ l2 = a2 ∧ l4 = x10_4 ∧ ¬ σ.2.2.1 76 (a1 + 1).toNatClampNeg ≤ x10_4 ∧ nb s0 ∧ (s0 ≠ 0 ↔ endI σ a2 a1.toNatClampNeg (x10_4 + 1))) → w_endsAtOnce_53 C Q (fun l1' l2' l3' l4' τ => ∃ k < n10, (fun n l1 l2 l3 l4 τ => n = (σ.2.2.1 76 (a1 + 1).toNatClampNeg - l4).toNatClampNeg ∧ (σ = τ ∧ l1 = a1 ∧ l2 = a2 ∧ nb l3 ∧ σ.2.2.1 76 a1.toNatClampNeg ≤ l4 ∧ l4 ≤ σ.2.2.1 76 (a1 + 1).toNatClampNeg ∧ (l3 ≠ 0 ↔ endI σ a2 a1.toNatClampNeg l4))) k l1' l2' l3' l4' τ) l1 l2 l4 s0 τ := by
    rintro y53_1 y53_2 y53_4 y53_s0 _ ⟨rfl, j53⟩
    unfold w_endsAtOnce_53
    intro x2 hx2
    obtain ⟨e1, e2, g1, g2, g3, g4⟩ := i10
    obtain ⟨f1, f2, f3, f4, f5, f6⟩ := j53
    have n1 : σ.2.2.1 76 (a1 + 1).toNatClampNeg ≤ 20000 := by rw [st.2.2.2.1]; exact Int32.le_trans st.2.2.1 hO.2.2.1.2
    have q := u2 (Int32.le_trans st.1.1 g2) f4 n1
    refine ⟨_, cn_lt2 hn10 ?_ ?_, rfl, ?_⟩
    · clear h; rw [hx2, f3]; exact q.1  -- d3
    · clear h; rw [hx2, f3]; exact q.2.1  -- d4
    · clear h; rw [hx2, f3]; exact ⟨rfl, f1, f2, f5, Int32.le_trans g2 q.2.2.2.1, q.2.2.2.2.1, f6⟩  -- i5
  obtain ⟨e1, e2, g1, g2, g3, g4⟩ := i10
  have n1 : σ.2.2.1 76 (a1 + 1).toNatClampNeg ≤ 20000 := by rw [st.2.2.2.1]; exact Int32.le_trans st.2.2.1 hO.2.2.1.2
  have i0 := Int32.le_trans st.1.1 g2
  refine ⟨ib_1001.mpr ?_, ?_⟩
  · clear h; rw [e1]; exact ⟨st.2.2.2.2.2.1, st.2.2.2.2.2.2⟩  -- b6
  refine ⟨fun c3 => ?_, fun c3 => ?_⟩
  · skip
    refine ⟨?_, h _ ?_⟩
    · clear h; exact g1  -- b7
    · clear h; rw [e1] at c3
      have e : x10_4 = σ.2.2.1 76 (a1.toNatClampNeg + 1) := by rw [← st.2.2.2.1]; exact Int32.le_antisymm g3 c3
      rw [e] at g4
      exact ⟨g1, g4⟩
  · skip
    have c3' : ¬ σ.2.2.1 76 (a1 + 1).toNatClampNeg ≤ x10_4 := by rw [e1] at c3; exact c3
    have q := u2 i0 c3' n1
    have es : endI σ a2 a1.toNatClampNeg (x10_4 + 1) ↔ endI σ a2 a1.toNatClampNeg x10_4 ∨ (rd σ 77 x10_4 ≠ 0 ∧ (a2 = 0 ∨ σ.2.2.1 81 a1.toNatClampNeg = 0 ∨ x10_4 = σ.2.2.1 76 a1.toNatClampNeg + σ.2.2.1 83 a1.toNatClampNeg)) := endI_s i0 q.2.2.2.2.2.2 g2
    refine ⟨fun c4 => ?_, fun c4 => ?_⟩
    · skip
      refine hj53 _ _ _ _ _ ?_
      · clear h; exact ⟨rfl, e1, e2, rfl, c3', nb_1, fun _ => es.mpr (Or.inl (g4.mp c4)), fun _ => by decide⟩  -- k9
    · skip
      refine ⟨ib_20000.mpr ?_, ?_⟩
      · clear h; exact ⟨i0, q.2.2.2.2.2.2⟩  -- b10
      refine ⟨fun c5 => ?_, fun c5 => ?_⟩
      · skip
        refine hj53 _ _ _ _ _ ?_
        · clear h; refine ⟨rfl, e1, e2, rfl, c3', nb_0, fun z => absurd rfl z, fun z => ?_⟩
          rcases es.mp z with y | y
          · exact absurd c4 (g4.mpr y)
          · exact absurd c5 y.1
      · skip
        refine isTaken_c hC  ?_ (fun r6 q8 => ?_)
        · clear h; rw [e1]; exact ⟨h0, st.2.2.2.2.1⟩  -- p12
        have tk := q8.2
        rw [e1, e2] at tk
        refine ⟨fun c9 => ?_, fun c9 => ?_⟩
        · skip
          refine hj53 _ _ _ _ _ ?_
          · clear h; refine ⟨rfl, e1, e2, rfl, c3', nb_0, fun z => absurd rfl z, fun z => ?_⟩
            rcases es.mp z with y | y
            · exact absurd c4 (g4.mpr y)
            · exact absurd c9 (tk.mpr y.2)
        · skip
          refine hj53 _ _ _ _ _ ?_
          · clear h; exact ⟨rfl, e1, e2, rfl, c3', nb_1, fun _ => es.mpr (Or.inr ⟨c5, tk.mp c9⟩), fun _ => by decide⟩  -- k14

theorem canEnd_c {C : rCx} (hC : cOK C)  {σ : rS} {a1 : Int32} {a2 : Int32} {Q : Int32 → rS → Prop} (hp : exO σ ∧ 0 ≤ a1 ∧ a1 < σ.1 70) (h : ∀ (v : Int32), (nb v ∧ (v ≠ 0 ↔ endN σ a2 a1.toNatClampNeg ∨ ∃ m, m < (σ.1 70).toNatClampNeg ∧ bR (σ.2.2.2 86) a1.toNatClampNeg m = true ∧ endN σ a2 m)) → Q v σ) : cI C 2 m_canEnd [.ref (co C), .int a1, .int a2] σ Q := by
  refine m_canEnd_run hC ?_
  unfold w_canEnd_0
  obtain ⟨hO, h0, h1⟩ := hp
  refine endsAtOnce_c hC  ?_ (fun r1 q3 => ?_)
  · clear h; exact ⟨hO, h0, h1⟩  -- p1
  unfold w_canEnd_10
  refine ⟨fun n l1 l2 l3 l4 τ => n = (σ.1 70 - l4).toNatClampNeg ∧ (σ = τ ∧ l1 = a1 ∧ l2 = a2 ∧ nb l3 ∧ 0 ≤ l4 ∧ l4 ≤ σ.1 70 ∧ (l3 ≠ 0 ↔ endN σ a2 a1.toNatClampNeg ∨ ∃ m, m < l4.toNatClampNeg ∧ bR (σ.2.2.2 86) a1.toNatClampNeg m = true ∧ endN σ a2 m)), ⟨_, rfl, ?_⟩, ?_⟩
  · clear h; refine ⟨rfl, rfl, rfl, q3.1, by decide, hO.1.1, q3.2.trans ⟨fun z => Or.inl z, fun z => ?_⟩⟩
    rcases z with z | ⟨m, hm, -⟩
    · exact z
    · exact absurd hm (Nat.not_lt_zero m)
  rintro n10 x10_1 x10_2 x10_3 x10_4 _ ⟨hn10, rfl, i10⟩
  have hj48 : ∀ (l1 : Int32) (l2 : Int32) (l4 : Int32) (s0 : Int32) (τ : rS), (σ = τ ∧ l1 = a1 ∧ l2 = a2 ∧ l4 = x10_4 ∧ x10_3 = 0 ∧ ¬ σ.1 70 ≤ x10_4 ∧ nb s0 ∧ (s0 ≠ 0 ↔ bR (σ.2.2.2 86) a1.toNatClampNeg x10_4.toNatClampNeg = true ∧ endN σ a2 x10_4.toNatClampNeg)) → w_canEnd_48 C Q (fun l1' l2' l3' l4' τ => ∃ k < n10, (fun n l1 l2 l3 l4 τ => n = (σ.1 70 - l4).toNatClampNeg ∧ (σ = τ ∧ l1 = a1 ∧ l2 = a2 ∧ nb l3 ∧ 0 ≤ l4 ∧ l4 ≤ σ.1 70 ∧ (l3 ≠ 0 ↔ endN σ a2 a1.toNatClampNeg ∨ ∃ m, m < l4.toNatClampNeg ∧ bR (σ.2.2.2 86) a1.toNatClampNeg m = true ∧ endN σ a2 m))) k l1' l2' l3' l4' τ) l1 l2 l4 s0 τ := by
    rintro y48_1 y48_2 y48_4 y48_s0 _ ⟨rfl, j48⟩
    unfold w_canEnd_48
    intro x4 hx4
    obtain ⟨e1, e2, g1, g2, g3, g4⟩ := i10
    obtain ⟨f1, f2, f3, f4, f5, f6, f7⟩ := j48
    have u := uk g2 f5 hO.1.2
    have k1 := cn_succ g2 (Int32.lt_trans u.2.2.2.2.2 (by decide))
    refine ⟨_, cn_lt2 hn10 ?_ ?_, rfl, ?_⟩
    · clear h; rw [hx4, f3]; exact u.1  -- d3
    · clear h; rw [hx4, f3]; exact u.2.1  -- d4
    · clear h; rw [hx4, f3]
      refine ⟨rfl, f1, f2, f6, u.2.2.1, u.2.2.2.1, ?_⟩
      rw [f7, k1]
      constructor
      · exact fun z => Or.inr ⟨x10_4.toNatClampNeg, by omega, z.1, z.2⟩
      · rintro (z | ⟨m, hm, z1, z2⟩)
        · exact absurd f4 (g4.mpr (Or.inl z))
        · by_cases e : m = x10_4.toNatClampNeg
          · rw [e] at z1 z2; exact ⟨z1, z2⟩
          · exact absurd f4 (g4.mpr (Or.inr ⟨m, by omega, z1, z2⟩))
  obtain ⟨e1, e2, g1, g2, g3, g4⟩ := i10
  refine ⟨fun c5 => ?_, fun c5 => ?_⟩
  · skip
    refine ⟨?_, h _ ?_⟩
    · clear h; exact g1  -- b6
    · clear h; have e : x10_4 = σ.1 70 := Int32.le_antisymm g3 c5
      rw [e] at g4
      exact ⟨g1, g4⟩
  · skip
    refine ⟨fun c6 => ?_, fun c6 => ?_⟩
    · skip
      refine ⟨?_, h _ ?_⟩
      · clear h; exact g1  -- b8
      · clear h; refine ⟨g1, fun _ => ?_, fun _ => c6⟩
        have l := cn_l g3 g2
        rcases g4.mp c6 with z | ⟨m, hm, z⟩
        · exact Or.inl z
        · exact Or.inr ⟨m, by omega, z⟩
    · skip
      have u := uk g2 c5 hO.1.2
      refine leads_c hC  ?_ (fun r7 q9 => ?_)
      · clear h; rw [e1]; exact ⟨h0, Int32.lt_of_lt_of_le h1 hO.1.2, g2, u.2.2.2.2.2⟩  -- p10
      have ql := q9.2
      rw [e1] at ql
      refine ⟨fun c10 => ?_, fun c10 => ?_⟩
      · skip
        refine hj48 _ _ _ _ _ ?_
        · clear h; exact ⟨rfl, e1, e2, rfl, c6, c5, nb_0, fun z => absurd rfl z, fun z => absurd c10 (ql.mpr z.1)⟩  -- k11
      · skip
        refine endsAtOnce_c hC  ?_ (fun r11 q13 => ?_)
        · clear h; exact ⟨hO, g2, u.2.2.2.2.1⟩  -- p12
        have qe := q13.2
        rw [e2] at qe
        refine ⟨fun c14 => ?_, fun c14 => ?_⟩
        · skip
          refine hj48 _ _ _ _ _ ?_
          · clear h; exact ⟨rfl, e1, e2, rfl, c6, c5, nb_0, fun z => absurd rfl z, fun z => absurd c14 (qe.mpr z.2)⟩  -- k13
        · skip
          refine hj48 _ _ _ _ _ ?_
          · clear h; exact ⟨rfl, e1, e2, rfl, c6, c5, nb_1, fun _ => ⟨ql.mp c10, qe.mp c14⟩, fun _ => by decide⟩  -- k14

theorem ringOf_c {C : rCx} (hC : cOK C)  {σ : rS} {a1 : Int32} {Q : Int32 → rS → Prop} (hp : 0 ≤ a1 ∧ a1 < σ.1 70 ∧ σ.1 70 ≤ 1000) (h : ∀ (v : Int32), (0 ≤ v ∧ v ≤ 1000 ∧ (bR (σ.2.2.2 86) a1.toNatClampNeg a1.toNatClampNeg = true → (∀ m, m < a1.toNatClampNeg → ¬ rng (σ.2.2.2 86) a1.toNatClampNeg m) → v.toNatClampNeg = cntR (σ.2.2.2 86) a1.toNatClampNeg (σ.1 70).toNatClampNeg)) → Q v σ) : cI C 2 m_ringOf [.ref (co C), .int a1] σ Q := by
  refine m_ringOf_run hC ?_
  unfold w_ringOf_0
  obtain ⟨h0, h1, h2⟩ := hp
  refine leads_c hC  ?_ (fun r1 q3 => ?_)
  · clear h; exact ⟨h0, Int32.lt_of_lt_of_le h1 h2, h0, Int32.lt_of_lt_of_le h1 h2⟩  -- p1
  refine ⟨fun c4 => ?_, fun c4 => ?_⟩
  · skip
    unfold w_ringOf_15
    refine ⟨fun n l1 l2 l3 τ => n = (σ.1 70 - l3).toNatClampNeg ∧ (σ = τ ∧ l1 = a1 ∧ 0 ≤ l2 ∧ l2 ≤ l3 ∧ 0 ≤ l3 ∧ l3 ≤ σ.1 70 ∧ l2.toNatClampNeg = cntR (σ.2.2.2 86) a1.toNatClampNeg l3.toNatClampNeg), ⟨_, rfl, ?_⟩, ?_⟩
    · clear h; exact ⟨rfl, rfl, by decide, by decide, by decide, Int32.le_trans h0 (Int32.le_of_lt h1), rfl⟩  -- j2
    rintro n15 x15_1 x15_2 x15_3 _ ⟨hn15, rfl, i15⟩
    obtain ⟨e1, g1, g2, g3, g4, g5⟩ := i15
    refine ⟨fun c5 => ?_, fun c5 => ?_⟩
    · skip
      refine h _ ?_
      · clear h; have e : x15_3 = σ.1 70 := Int32.le_antisymm g4 c5
        rw [e] at g5
        exact ⟨g1, Int32.le_trans g2 (Int32.le_trans g4 h2), fun _ _ => g5⟩
    · skip
      have u := uk g3 c5 h2
      have k3 := cn_succ g3 (Int32.lt_trans u.2.2.2.2.2 (by decide))
      have lu := le_up g1 g2 u.2.2.2.2.2
      refine isRingWith_c hC  ?_ (fun r6 q8 => ?_)
      · clear h; rw [e1]; exact ⟨h0, Int32.lt_of_lt_of_le h1 h2, g3, u.2.2.2.2.2⟩  -- p4
      have qr := q8.2
      rw [e1] at qr
      refine ⟨fun c9 => ?_, fun c9 => ?_⟩
      · skip
        intro x10 hx10
        refine ⟨_, cn_lt2 hn15 ?_ ?_, rfl, ?_⟩
        · clear h; rw [hx10]; exact u.1  -- d5
        · clear h; rw [hx10]; exact u.2.1  -- d6
        · clear h; rw [hx10]
          refine ⟨rfl, e1, g1, lu.2.2.2, u.2.2.1, u.2.2.2.1, ?_⟩
          rw [k3, cnt_out (fun z => absurd c9 (qr.mpr z))]
          exact g5
      · skip
        refine ⟨fun c11 => ?_, fun c11 => ?_⟩
        · skip
          intro x12 hx12
          intro x13 hx13
          refine ⟨_, cn_lt2 hn15 ?_ ?_, rfl, ?_⟩
          · clear h; rw [hx13]; exact u.1  -- d8
          · clear h; rw [hx13]; exact u.2.1  -- d9
          · clear h; rw [hx12, hx13]
            refine ⟨rfl, e1, lu.1, lu.2.1, u.2.2.1, u.2.2.2.1, ?_⟩
            rw [k3, cn_succ g1 lu.2.2.1, cnt_in (qr.mp c9), g5]
        · skip
          refine h _ ?_
          · clear h; rw [e1] at c11
            exact ⟨by decide, by decide, fun _ hm => absurd (qr.mp c9) (hm _ (cn_lt g3 (Int32.not_le.mp c11)))⟩
  · skip
    refine h _ ?_
    · clear h; exact ⟨by decide, by decide, fun z => absurd c4 (q3.2.mpr z)⟩  -- q12

/-- the least state of a ring -/
theorem rng_least {r : Nat → Int64} {k : Nat} (h : bR r k k = true) : ∃ m, m ≤ k ∧ rng r k m ∧ ∀ j, j < m → ¬ rng r k j := by
  have : ∀ n, n ≤ k + 1 → (∀ j, j < n → ¬ rng r k j) ∨ ∃ m, m < n ∧ rng r k m ∧ ∀ j, j < m → ¬ rng r k j := by
    intro n
    induction n with
    | zero => exact fun _ => Or.inl (fun j hj => absurd hj (Nat.not_lt_zero j))
    | succ n ih =>
      intro hn
      rcases ih (by omega) with z | ⟨m, m1, m2, m3⟩
      · by_cases e : rng r k n
        · exact Or.inr ⟨n, by omega, e, z⟩
        · refine Or.inl (fun j hj => ?_)
          by_cases ej : j = n
          · rw [ej]; exact e
          · exact z j (by omega)
      · exact Or.inr ⟨m, by omega, m2, m3⟩
  rcases this (k + 1) (Nat.le_refl _) with z | ⟨m, m1, m2, m3⟩
  · exact absurd ⟨h, h⟩ (z k (by omega))
  · exact ⟨m, by omega, m2, m3⟩
theorem cntR_pos {r : Nat → Int64} {a n m : Nat} (hm : m < n) (h : rng r a m) : 0 < cntR r a n := by
  induction n with
  | zero => omega
  | succ n ih =>
    show 0 < cntR r a n + (if bR r a n = true ∧ bR r n a = true then 1 else 0)
    by_cases e : m = n
    · subst e; rw [if_pos (show bR r a m = true ∧ bR r m a = true from h)]; omega
    · have := ih (by omega); omega
abbrev fgF : List Nat := [88, 89]
abbrev fgR : List Nat := [87]
/-- fields of a list, rows of a list, and rows of bits differ -/
def frM (F R : List Nat) (σ τ : rS) : Prop := (∀ k, k ∉ F → τ.1 k = σ.1 k) ∧ τ.2.1 = σ.2.1 ∧ (∀ k, k ∉ R → τ.2.2.1 k = σ.2.2.1 k) ∧ ∀ k, k ≠ 86 → τ.2.2.2 k = σ.2.2.2 k
theorem frM_tr {F R : List Nat} {σ τ υ : rS} (h : frM F R σ τ) (g : frM F R τ υ) : frM F R σ υ := ⟨fun k z => (g.1 k z).trans (h.1 k z), g.2.1.trans h.2.1, fun k z => (g.2.2.1 k z).trans (h.2.2.1 k z), fun k z => (g.2.2.2 k z).trans (h.2.2.2 k z)⟩
theorem frM_L {F R : List Nat} {σ τ : rS} (h : frL σ τ) : frM F R σ τ := ⟨fun k _ => by rw [h.1], h.2.1, fun k _ => by rw [h.2.2.1], h.2.2.2⟩
theorem frM_0 {F R : List Nat} {σ : rS} {k : Nat} {x : Int32} (hk : k ∈ F) : frM F R σ (siU σ k x) := ⟨fun q z => if_neg (fun e => z (by rw [e]; exact hk)), rfl, fun _ _ => rfl, fun _ _ => rfl⟩
theorem frM_1 {F R : List Nat} {σ : rS} {k i : Nat} {x : Int32} (hk : k ∈ R) : frM F R σ (riU σ k i x) := ⟨fun _ _ => rfl, rfl, fun q z => ri3 (fun e => z (by rw [e]; exact hk)), fun _ _ => rfl⟩
theorem exO_o {σ τ : rS} (h : exO σ) (hf : ∀ k, k = 70 ∨ k = 71 ∨ k = 72 → τ.1 k = σ.1 k) (hr : ∀ k, k = 76 ∨ k = 77 ∨ k = 78 ∨ k = 79 ∨ k = 80 ∨ k = 81 → τ.2.2.1 k = σ.2.2.1 k) : exO τ := by
  obtain ⟨h1, h2, h3, h4, h5⟩ := h
  unfold exO
  rw [hf 70 (by decide), hf 71 (by decide), hf 72 (by decide)]
  refine ⟨h1, h2, h3, fun j j0 j1 => stOK_m (h4 j j0 j1) (by rw [rd, hr 76 (by decide)]) (by rw [rd, hr 76 (by decide)]) (by rw [rd, hr 80 (by decide)]) (by rw [rd, hr 81 (by decide)]) (by rw [hf 72 (by decide)]; exact Int32.le_refl _) (fun i _ => by rw [hr 79 (by decide)]), fun i hi => nx_mono (h5 i hi) (by rw [hr 77 (by decide)]) (by rw [hr 78 (by decide)]) (by rw [hf 70 (by decide)]; exact Int32.le_refl _) (by rw [hf 71 (by decide)]; exact Int32.le_refl _)⟩
theorem edN_o {σ τ : rS} {p l : Int32} {o a b : Nat} (hr : ∀ k, k = 76 ∨ k = 77 ∨ k = 78 ∨ k = 81 ∨ k = 83 → τ.2.2.1 k = σ.2.2.1 k) (hl : l ≠ 0) : edN τ p o l a b ↔ edN σ p o l a b := by
  unfold edN edI edg
  simp only [rd]
  rw [hr 76 (by decide), hr 77 (by decide), hr 78 (by decide), hr 81 (by decide), hr 83 (by decide)]
  constructor
  · rintro ⟨i, a1, a2, a3, a4, a5, -⟩
    exact ⟨i, a1, a2, a3, a4, a5, Or.inl hl⟩
  · rintro ⟨i, a1, a2, a3, a4, a5, -⟩
    exact ⟨i, a1, a2, a3, a4, a5, Or.inl hl⟩
theorem vb2 {x : Int32} (h : x = 0 ∨ x = 1) : nb (vp_nar .boolean x) := by
  rcases h with rfl | rfl
  · exact nb_0
  · exact nb_1
theorem r_up {x y : Int32} (h0 : 0 ≤ x) (h1 : x ≤ y) (hy : y < 1000) : 0 ≤ x + 0 ∧ x + 0 ≤ y + 1 ∧ 0 ≤ x + 1 ∧ x + 1 ≤ y + 1 ∧ x + 0 = x ∧ ¬ x + 1 = 0 := by grind
theorem findRings_c {C : rCx} (hC : cOK C)  {σ : rS}  {Q : rS → Prop} (hp : exO σ) (h : ∀ (σ' : rS), (frM fgF fgR σ σ' ∧ 0 ≤ σ'.1 88 ∧ (σ'.1 88 = 0 → ∀ a, a < (σ.1 70).toNatClampNeg → ¬ Tr (edN σ 0 87 1) a a)) → Q σ') : cV C 3 m_findRings [.ref (co C)] σ Q := by
  refine m_findRings_run hC ?_
  unfold w_findRings_0
  refine findReach_c hC  ?_ (fun σ_1 q2 => ?_)
  · clear h; exact ⟨hp, Or.inl rfl⟩  -- p1
  intro σ_3 hσ_3
  intro σ_4 hσ_4
  have f4 : frM fgF fgR σ σ_4 := frM_tr (frM_L q2.1) (by rw [hσ_4, hσ_3]; exact frM_tr (frM_0 (by decide)) (frM_0 (by decide)))
  have v88 : σ_4.1 88 = 0 := by rw [hσ_4, si1, if_neg (by decide), hσ_3, si1, if_pos rfl]
  unfold w_findRings_22
  refine ⟨fun n l1 τ => n = (σ.1 70 - l1).toNatClampNeg ∧ (frM fgF fgR σ τ ∧ τ.2.2.2 86 = σ_1.2.2.2 86 ∧ 0 ≤ l1 ∧ l1 ≤ σ.1 70 ∧ 0 ≤ τ.1 88 ∧ τ.1 88 ≤ l1 ∧ (τ.1 88 = 0 → ∀ a, a < l1.toNatClampNeg → bR (σ_1.2.2.2 86) a a = true → ∃ m, m < a ∧ rng (σ_1.2.2.2 86) a m)), ⟨_, rfl, ?_⟩, ?_⟩
  · clear h; exact ⟨f4, by rw [hσ_4, si2, hσ_3, si2], by decide, hp.1.1, by rw [v88]; decide, by rw [v88]; decide, fun _ a ha => absurd ha (Nat.not_lt_zero a)⟩  -- j2
  rintro n22 x22_1 σ22 ⟨hn22, i22⟩
  have hj91 : ∀ (l1 : Int32) (s1 : Int32) (τ : rS), (frM fgF fgR σ τ ∧ τ.2.2.2 86 = σ_1.2.2.2 86 ∧ l1 = x22_1 ∧ ¬ σ.1 70 ≤ x22_1 ∧ 0 ≤ τ.1 88 ∧ τ.1 88 ≤ x22_1 + 1 ∧ (τ.1 88 = 0 → ∀ a, a < (x22_1 + 1).toNatClampNeg → bR (σ_1.2.2.2 86) a a = true → ∃ m, m < a ∧ rng (σ_1.2.2.2 86) a m)) → w_findRings_91 C Q (fun l1' τ => ∃ k < n22, (fun n l1 τ => n = (σ.1 70 - l1).toNatClampNeg ∧ (frM fgF fgR σ τ ∧ τ.2.2.2 86 = σ_1.2.2.2 86 ∧ 0 ≤ l1 ∧ l1 ≤ σ.1 70 ∧ 0 ≤ τ.1 88 ∧ τ.1 88 ≤ l1 ∧ (τ.1 88 = 0 → ∀ a, a < l1.toNatClampNeg → bR (σ_1.2.2.2 86) a a = true → ∃ m, m < a ∧ rng (σ_1.2.2.2 86) a m))) k l1' τ) l1 s1 τ := by
    rintro y91_1 y91_s1 τ91 j91
    unfold w_findRings_91
    intro σ_5 hσ_5
    intro x6 hx6
    obtain ⟨g1, g2, g3, g4, g5, g6, g7⟩ := i22
    obtain ⟨f1, f2, f3, f4', f5, f6, f7⟩ := j91
    have u := uk g3 f4' hp.1.2
    have e5 : σ_5.1 88 = τ91.1 88 := by rw [hσ_5, si1, if_neg (by decide)]
    refine ⟨_, cn_lt2 hn22 ?_ ?_, rfl, ?_⟩
    · clear h; rw [hx6, f3]; exact u.1  -- d3
    · clear h; rw [hx6, f3]; exact u.2.1  -- d4
    · clear h; rw [hx6, f3]; exact ⟨frM_tr f1 (by rw [hσ_5]; exact frM_0 (by decide)), by rw [hσ_5, si2]; exact f2, u.2.2.1, u.2.2.2.1, by rw [e5]; exact f5, by rw [e5]; exact f6, by rw [e5]; exact f7⟩  -- i5
  have hj70 : ∀ (l1 : Int32) (l2 : Int32) (s1 : Int32) (s2 : Int32) (τ : rS), (frM fgF fgR σ τ ∧ τ.2.2.2 86 = σ_1.2.2.2 86 ∧ l1 = x22_1 ∧ ¬ σ.1 70 ≤ x22_1 ∧ s1 = σ22.1 88 ∧ (s2 = 0 ∨ s2 = 1) ∧ (s2 = 0 → bR (σ_1.2.2.2 86) x22_1.toNatClampNeg x22_1.toNatClampNeg = true → ∃ m, m < x22_1.toNatClampNeg ∧ rng (σ_1.2.2.2 86) x22_1.toNatClampNeg m)) → w_findRings_70 C Q (fun l1' τ => ∃ k < n22, (fun n l1 τ => n = (σ.1 70 - l1).toNatClampNeg ∧ (frM fgF fgR σ τ ∧ τ.2.2.2 86 = σ_1.2.2.2 86 ∧ 0 ≤ l1 ∧ l1 ≤ σ.1 70 ∧ 0 ≤ τ.1 88 ∧ τ.1 88 ≤ l1 ∧ (τ.1 88 = 0 → ∀ a, a < l1.toNatClampNeg → bR (σ_1.2.2.2 86) a a = true → ∃ m, m < a ∧ rng (σ_1.2.2.2 86) a m))) k l1' τ) l1 l2 s1 s2 τ := by
    rintro y70_1 y70_2 y70_s1 y70_s2 τ70 j70
    unfold w_findRings_70
    intro σ_7 hσ_7
    obtain ⟨g1, g2, g3, g4, g5, g6, g7⟩ := i22
    obtain ⟨f1, f2, f3, f4', f5, f6, f7⟩ := j70
    have u := uk g3 f4' hp.1.2
    have e7 : σ_7.1 88 = y70_s1 + y70_s2 := by rw [hσ_7, si1, if_pos rfl]
    have ru := r_up g5 g6 u.2.2.2.2.2
    have fin : frM fgF fgR σ σ_7 ∧ σ_7.2.2.2 86 = σ_1.2.2.2 86 ∧ y70_1 = x22_1 ∧ ¬ σ.1 70 ≤ x22_1 ∧ 0 ≤ σ_7.1 88 ∧ σ_7.1 88 ≤ x22_1 + 1 ∧ (σ_7.1 88 = 0 → ∀ a, a < (x22_1 + 1).toNatClampNeg → bR (σ_1.2.2.2 86) a a = true → ∃ m, m < a ∧ rng (σ_1.2.2.2 86) a m) := by
      rw [e7, f5]
      refine ⟨frM_tr f1 (by rw [hσ_7]; exact frM_0 (by decide)), by rw [hσ_7, si2]; exact f2, f3, f4', ?_, ?_, fun z a ha hb => ?_⟩
      · rcases f6 with y | y
        · rw [y]; exact ru.1
        · rw [y]; exact ru.2.2.1
      · rcases f6 with y | y
        · rw [y]; exact ru.2.1
        · rw [y]; exact ru.2.2.2.1
      · rw [cn_succ g3 (Int32.lt_trans u.2.2.2.2.2 (by decide))] at ha
        have s0 : y70_s2 = 0 := by
          rcases f6 with y | y
          · exact y
          · rw [y] at z; exact absurd z ru.2.2.2.2.2
        rw [s0, ru.2.2.2.2.1] at z
        by_cases e : a = x22_1.toNatClampNeg
        · rw [e] at hb ⊢; exact f7 s0 hb
        · exact g7 z a (by omega) hb
    refine ⟨fun c8 => ?_, fun c8 => ?_⟩
    · skip
      refine hj91 _ _ _ ?_
      · clear h; exact fin  -- k6
    · skip
      refine hj91 _ _ _ ?_
      · clear h; exact fin  -- k7
  have hj49 : ∀ (l1 : Int32) (s1 : Int32) (s2 : Int32) (τ : rS), (frM fgF fgR σ τ ∧ τ = σ22 ∧ l1 = x22_1 ∧ s1 = x22_1 ∧ (s2 = 0 ∨ s2 = 1) ∧ ¬ σ.1 70 ≤ x22_1) → w_findRings_49 C Q (fun l1' τ => ∃ k < n22, (fun n l1 τ => n = (σ.1 70 - l1).toNatClampNeg ∧ (frM fgF fgR σ τ ∧ τ.2.2.2 86 = σ_1.2.2.2 86 ∧ 0 ≤ l1 ∧ l1 ≤ σ.1 70 ∧ 0 ≤ τ.1 88 ∧ τ.1 88 ≤ l1 ∧ (τ.1 88 = 0 → ∀ a, a < l1.toNatClampNeg → bR (σ_1.2.2.2 86) a a = true → ∃ m, m < a ∧ rng (σ_1.2.2.2 86) a m))) k l1' τ) l1 s1 s2 τ := by
    rintro y49_1 y49_s1 y49_s2 τ49 j49
    unfold w_findRings_49
    obtain ⟨g1, g2, g3, g4, g5, g6, g7⟩ := i22
    obtain ⟨f1, f2, f3, f4', f5, f6⟩ := j49
    have u := uk g3 f6 hp.1.2
    have xn : x22_1.toNatClampNeg < (σ.1 70).toNatClampNeg := cn_lt g3 u.2.2.2.2.1
    refine ⟨ib_1000.mpr ?_, ?_⟩
    · clear h; rw [f4']; exact ⟨g3, u.2.2.2.2.2⟩  -- b8
    intro σ_9 hσ_9
    have e9 : ∀ k, σ_9.1 k = σ22.1 k := fun k => by rw [hσ_9, ri1, f2]
    have l9 : σ_9.2.2.2 86 = σ_1.2.2.2 86 := by rw [hσ_9, f2]; exact g2
    have f9 : frM fgF fgR σ σ_9 := frM_tr f1 (by rw [hσ_9]; exact frM_1 (by decide))
    have e70 : σ_9.1 70 = σ.1 70 := f9.1 70 (by decide)
    refine ringOf_c hC  ?_ (fun r10 q12 => ?_)
    · clear h; rw [f3, e70]; exact ⟨g3, u.2.2.2.2.1, hp.1.2⟩  -- p9
    refine ⟨fun c13 => ?_, fun c13 => ?_⟩
    · skip
      refine hj70 _ _ _ _ _ ?_
      · clear h; refine ⟨f9, l9, f3, f6, e9 88, Or.inl rfl, fun _ hb => Classical.byContradiction (fun nx => ?_)⟩
        have q := q12.2.2
        rw [l9, f3, e70] at q
        have c := q hb (fun m hm y => nx ⟨m, hm, y⟩)
        have p := cntR_pos (r := σ_1.2.2.2 86) xn ⟨hb, hb⟩
        have z := cn_zero c13
        omega
    · skip
      refine hj70 _ _ _ _ _ ?_
      · clear h; exact ⟨f9, l9, f3, f6, e9 88, Or.inr rfl, fun z => absurd z (by decide)⟩  -- k11
  obtain ⟨g1, g2, g3, g4, g5, g6, g7⟩ := i22
  have e70 : σ22.1 70 = σ.1 70 := g1.1 70 (by decide)
  refine ⟨fun c14 => ?_, fun c14 => ?_⟩
  · skip
    refine h _ ?_
    · clear h; refine ⟨g1, g5, fun z a ha T => ?_⟩
      have e : x22_1 = σ.1 70 := Int32.le_antisymm g4 (by rw [← e70]; exact c14)
      rw [e] at g7
      have bt := q2.2
      obtain ⟨m, m1, m2, m3⟩ := rng_least ((bt a a ha ha).mpr T)
      have hm : m < (σ.1 70).toNatClampNeg := by omega
      have tam := (bt a m ha hm).mp m2.1
      have tma := (bt m a hm ha).mp m2.2
      obtain ⟨j, j1, j2⟩ := g7 z m hm ((bt m m hm hm).mpr (Tr_tr tma tam))
      have hj : j < (σ.1 70).toNatClampNeg := by omega
      exact m3 j j1 ⟨(bt a j ha hj).mpr (Tr_tr tam ((bt m j hm hj).mp j2.1)), (bt j a hj ha).mpr (Tr_tr ((bt j m hj hm).mp j2.2) tma)⟩
  · skip
    have c14' : ¬ σ.1 70 ≤ x22_1 := by rw [← e70]; exact c14
    have u := uk g3 c14' hp.1.2
    refine canEnd_c hC  ?_ (fun r15 q17 => ?_)
    · clear h; exact ⟨exO_o hp (fun k hk => g1.1 k (by rcases hk with rfl | rfl | rfl <;> decide)) (fun k hk => g1.2.2.1 k (by rcases hk with rfl | rfl | rfl | rfl | rfl | rfl <;> decide)), g3, by rw [e70]; exact u.2.2.2.2.1⟩  -- p13
    refine ⟨fun c18 => ?_, fun c18 => ?_⟩
    · skip
      refine hj49 _ _ _ _ ?_
      · clear h; exact ⟨g1, rfl, rfl, rfl, Or.inl rfl, c14'⟩  -- k14
    · skip
      refine hj49 _ _ _ _ ?_
      · clear h; exact ⟨g1, rfl, rfl, rfl, Or.inr rfl, c14'⟩  -- k15
