section
set_option maxHeartbeats 1600000
/-! the reference: signs that wait, as a list -/
abbrev eL : Type := List (Int32 × Int32)
theorem ri_row {σ : rS} {k i : Nat} {x : Int32} : (riU σ k i x).2.2.1 k = upd (σ.2.2.1 k) i x := by unfold riU; simp
def eLst : Nat → (Nat → Int32) → (Nat → Int32) → eL
  | 0, _, _ => []
  | n + 1, w, r => (w n, r n) :: eLst n w r
abbrev eW (σ : rS) : eL := eLst (σ.1 48).toNatClampNeg (σ.2.2.1 50) (σ.2.2.1 51)
theorem eLst_updw {n i : Nat} {w r : Nat → Int32} {x : Int32} (h : n ≤ i) : eLst n (upd w i x) r = eLst n w r := by
  induction n with
  | zero => rfl
  | succ n ih =>
    have : ¬ n = i := by omega
    simp only [eLst, ih (by omega)]
    simp [upd, this]
theorem eLst_updr {n i : Nat} {w r : Nat → Int32} {x : Int32} (h : n ≤ i) : eLst n w (upd r i x) = eLst n w r := by
  induction n with
  | zero => rfl
  | succ n ih =>
    have : ¬ n = i := by omega
    simp only [eLst, ih (by omega)]
    simp [upd, this]
theorem cn_succ {x : Int32} (h0 : 0 ≤ x) (h1 : x < 1000000) : (x + 1).toNatClampNeg = x.toNatClampNeg + 1 := by
  have h2 : (x + 1).toNatClampNeg = (x + 1).toInt.toNat := rfl
  have h3 : x.toNatClampNeg = x.toInt.toNat := rfl
  rw [Int32.le_iff_toInt_le, Int32.toInt_zero] at h0
  rw [Int32.lt_iff_toInt_lt] at h1
  have h4 : (1000000 : Int32).toInt = 1000000 := rfl
  have h5 : (x + 1).toInt = x.toInt + 1 := by
    rw [Int32.toInt_add, show (1 : Int32).toInt = 1 from rfl, Int.bmod_eq_of_le] <;> omega
  omega
theorem cn_pred {x : Int32} (h0 : 0 < x) (h1 : x < 1000000) : x.toNatClampNeg = (x - 1).toNatClampNeg + 1 := by
  have := cn_succ (x := x - 1) (by grind) (by grind)
  rw [← this]
  congr 1
  grind
theorem cn_zero {x : Int32} (h : x ≤ 0) : x.toNatClampNeg = 0 := by
  have h3 : x.toNatClampNeg = x.toInt.toNat := rfl
  rw [Int32.le_iff_toInt_le, Int32.toInt_zero] at h
  omega
theorem cn_le {x : Int32} {n : Nat} {y : Int32} (hy : y.toInt = n) (h : x ≤ y) : x.toNatClampNeg ≤ n := by
  have h3 : x.toNatClampNeg = x.toInt.toNat := rfl
  rw [Int32.le_iff_toInt_le] at h
  omega
theorem eLst_nil {n : Int32} {w r : Nat → Int32} (h : n ≤ 0) : eLst n.toNatClampNeg w r = [] := by rw [cn_zero h]; rfl
theorem eLst_cons {n : Int32} {w r : Nat → Int32} (h0 : 0 < n) (h1 : n < 1000000) : eLst n.toNatClampNeg w r = (w (n - 1).toNatClampNeg, r (n - 1).toNatClampNeg) :: eLst (n - 1).toNatClampNeg w r := by
  rw [cn_pred h0 h1]; rfl
theorem eLst_push {n s f : Int32} {w r : Nat → Int32} (h0 : 0 ≤ n) (h1 : n < 1000000) : eLst (n + 1).toNatClampNeg (upd w n.toNatClampNeg s) (upd r n.toNatClampNeg f) = (s, f) :: eLst n.toNatClampNeg w r := by
  rw [cn_succ h0 h1]
  show (_, _) :: _ = _
  rw [eLst_updw (Nat.le_refl _), eLst_updr (Nat.le_refl _)]
  simp [upd]
/-- the rank of a sign -/
def rk (c : Int32) : Int32 := if c = 124 then 1 else if c = 38 then 2 else if c = 256 ∨ c = 257 ∨ c = 60 ∨ c = 62 ∨ c = 258 ∨ c = 259 then 3 else if c = 43 ∨ c = 45 then 4 else if c = 42 ∨ c = 47 ∨ c = 37 then 5 else 0
def tp : eL → Int32
  | [] => 0
  | x :: _ => x.1
def isU (s : Int32) : Prop := s = 1000 ∨ s = 1001
/-- without the signs of rank l and more on top; without 'not' and 'less' on top -/
def popW (l : Int32) : eL → eL
  | [] => []
  | x :: W => if l ≤ rk x.1 ∧ 0 < rk x.1 then popW l W else x :: W
def turnW : eL → eL
  | [] => []
  | x :: W => if x.1 = 1000 ∨ x.1 = 1001 then turnW W else x :: W
/-- how many wait for a second value; how many brackets are open -/
def nbn : eL → Nat
  | [] => 0
  | x :: W => nbn W + if 0 < rk x.1 then 1 else 0
def nbr : eL → Nat
  | [] => 0
  | x :: W => nbr W + if x.1 = 40 ∨ x.1 = 91 then 1 else 0
def validC (r : Int32) : Prop := 200 ≤ r ∧ r < 203
def validV (r : Int32) : Prop := (0 ≤ r ∧ r < 34) ∨ (100 ≤ r ∧ r < 108)
def tnu : eL → Prop
  | [] => True
  | x :: _ => ¬ isU x.1
def eV : eL → Prop
  | [] => True
  | x :: W => eV W ∧ (x.1 = 40 ∨ isU x.1 ∨ (x.1 = 91 ∧ validC x.2) ∨ (0 < rk x.1 ∧ tnu W))
theorem rk_U {s : Int32} (h : s = 1000 ∨ s = 1001) : rk s = 0 := by rcases h with rfl | rfl <;> decide
theorem turn_nbn {W : eL} : nbn (turnW W) = nbn W := by
  induction W with
  | nil => rfl
  | cons x W ih =>
    unfold turnW
    split
    · next h => rw [ih]; simp [nbn, rk_U h]
    · rfl
theorem turn_nbr {W : eL} : nbr (turnW W) = nbr W := by
  induction W with
  | nil => rfl
  | cons x W ih =>
    unfold turnW
    split
    · next h =>
      rw [ih]
      have : ¬ (x.1 = 40 ∨ x.1 = 91) := by grind
      simp [nbr, this]
    · rfl
theorem turn_eV {W : eL} (h : eV W) : eV (turnW W) := by
  induction W with
  | nil => trivial
  | cons x W ih =>
    unfold turnW
    split
    · exact ih h.1
    · exact h
theorem turn_tnu {W : eL} : tnu (turnW W) := by
  induction W with
  | nil => trivial
  | cons x W ih =>
    unfold turnW
    split
    · exact ih
    · next h => exact h
theorem rk_br {s : Int32} (h : 0 < rk s) : ¬ (s = 40 ∨ s = 91) := by
  rintro (rfl | rfl) <;> exact absurd h (by decide)
theorem pop_nbr {l : Int32} {W : eL} : nbr (popW l W) = nbr W := by
  induction W with
  | nil => rfl
  | cons x W ih =>
    unfold popW
    split
    · next h => rw [ih]; simp [nbr, rk_br h.2]
    · rfl
/-- what holds of the pile of signs: how many values there are, in stage 0 or 1 -/
def eI (waiting values : Int32) (W : eL) (st : Int32) (room : Int32) : Prop := 0 ≤ waiting ∧ waiting ≤ room ∧ 0 ≤ values ∧ values ≤ room ∧ room ≤ 65537 ∧ values.toNatClampNeg = nbn W + st.toNatClampNeg ∧ eV W ∧ (st = 1 → tnu W)
theorem tp_nil {W : eL} (h : 0 < rk (tp W)) : ∃ x W2, W = x :: W2 := by
  cases W with
  | nil => exact absurd h (by decide)
  | cons x W => exact ⟨x, W, rfl⟩
theorem pop_stop {l : Int32} {W : eL} (h : rk (tp W) < l ∨ rk (tp W) ≤ 0) : popW l W = W := by
  cases W with
  | nil => rfl
  | cons x W =>
    unfold popW
    rw [if_neg (by simp only [tp] at h; grind)]
theorem turn_stop {W : eL} (h : ¬ tp W = 1000) (h2 : ¬ tp W = 1001) : turnW W = W := by
  cases W with
  | nil => rfl
  | cons x W =>
    unfold turnW
    rw [if_neg (by simp only [tp] at h h2; grind)]
theorem cn_two {x : Int32} {n : Nat} (h0 : 0 ≤ x) (h : x.toNatClampNeg = n + 1 + 1) : 2 ≤ x := by
  have h3 : x.toNatClampNeg = x.toInt.toNat := rfl
  rw [Int32.le_iff_toInt_le]
  have : (2 : Int32).toInt = 2 := rfl
  omega
theorem cn_one {x : Int32} {n : Nat} (h : x.toNatClampNeg = n + 1) : 1 ≤ x := by
  have h3 : x.toNatClampNeg = x.toInt.toNat := rfl
  rw [Int32.le_iff_toInt_le]
  have : (1 : Int32).toInt = 1 := rfl
  omega
/-- a sign that waits for its second value is taken off -/
theorem eI_pop {n v R : Int32} {w r : Nat → Int32} (h : eI n v (eLst n.toNatClampNeg w r) 1 R) (h0 : 0 < rk (tp (eLst n.toNatClampNeg w r))) :
    0 < n ∧ 2 ≤ v ∧ 0 < rk (w (n - 1).toNatClampNeg) ∧ eI (n - 1) (v - 1) (eLst (n - 1).toNatClampNeg w r) 1 R ∧ ∀ l, l ≤ rk (tp (eLst n.toNatClampNeg w r)) → popW l (eLst n.toNatClampNeg w r) = popW l (eLst (n - 1).toNatClampNeg w r) := by
  obtain ⟨h1, h2, h3, h4, h5, h6, h7, h8⟩ := h
  have hn : 0 < n := by
    by_cases hc : 0 < n
    · exact hc
    · rw [eLst_nil (by grind)] at h0; exact absurd h0 (by decide)
  have e := eLst_cons (n := n) (w := w) (r := r) hn (by grind)
  rw [e] at h0 h6 h7 h8 ⊢
  simp only [tp] at h0 ⊢
  simp only [nbn, h0, if_true] at h6
  have hv : 2 ≤ v := cn_two h3 (n := nbn (eLst (n - 1).toNatClampNeg w r)) h6
  have ht : tnu (eLst (n - 1).toNatClampNeg w r) := by
    rcases h7.2 with q | q | q | q
    · have q' : w (n - 1).toNatClampNeg = 40 := q
      rw [q'] at h0; exact absurd h0 (by decide)
    · exact absurd h0 (by rw [rk_U q]; decide)
    · have q' : w (n - 1).toNatClampNeg = 91 := q.1
      rw [q'] at h0; exact absurd h0 (by decide)
    · exact q.2
  refine ⟨hn, hv, h0, ⟨by grind, by grind, by grind, by grind, h5, ?_, h7.1, fun _ => ht⟩, fun l hl => ?_⟩
  · have := cn_pred (x := v) (by grind) (by grind)
    have o1 : (1 : Int32).toNatClampNeg = 1 := rfl
    rw [this] at h6
    omega
  · rw [popW, if_pos ⟨hl, h0⟩]
theorem turn_pop {n : Int32} {w r : Nat → Int32} (h1 : n ≤ 66000) (h0 : isU (tp (eLst n.toNatClampNeg w r))) :
    0 < n ∧ turnW (eLst n.toNatClampNeg w r) = turnW (eLst (n - 1).toNatClampNeg w r) := by
  have hn : 0 < n := by
    by_cases hc : 0 < n
    · exact hc
    · rw [eLst_nil (by grind)] at h0; exact absurd h0 (by simp [tp, isU])
  have e := eLst_cons (n := n) (w := w) (r := r) hn (by grind)
  rw [e] at h0 ⊢
  exact ⟨hn, by show ite (_ ∨ _) _ _ = _; exact if_pos h0⟩
theorem rank_c {C : rCx} (hC : cOK C)  {σ : rS} {a0 : Int32} {Q : Int32 → rS → Prop} (h : ∀ (v : Int32), (v = rk a0) → Q v σ) : cI C 0 m_rank [.int a0] σ Q := by
  refine m_rank_run hC ?_
  unfold w_rank_0
  refine ⟨fun c1 => ?_, fun c1 => ?_⟩
  · skip
    refine ⟨fun c2 => ?_, fun c2 => ?_⟩
    · skip
      refine ⟨fun c3 => ?_, fun c3 => ?_⟩
      · skip
        refine h _ ?_
        · clear h; grind (splits := 24) [rk]  -- q1
      · skip
        refine ⟨fun c4 => ?_, fun c4 => ?_⟩
        · skip
          refine h _ ?_
          · clear h; grind (splits := 24) [rk]  -- q2
        · skip
          refine ⟨fun c5 => ?_, fun c5 => ?_⟩
          · skip
            refine h _ ?_
            · clear h; grind (splits := 24) [rk]  -- q3
          · skip
            refine ⟨fun c6 => ?_, fun c6 => ?_⟩
            · skip
              refine h _ ?_
              · clear h; grind (splits := 24) [rk]  -- q4
            · skip
              refine ⟨fun c7 => ?_, fun c7 => ?_⟩
              · skip
                refine h _ ?_
                · clear h; grind (splits := 24) [rk]  -- q5
              · skip
                refine ⟨fun c8 => ?_, fun c8 => ?_⟩
                · skip
                  refine ⟨fun c9 => ?_, fun c9 => ?_⟩
                  · skip
                    refine h _ ?_
                    · clear h; grind (splits := 24) [rk]  -- q6
                  · skip
                    refine ⟨fun c10 => ?_, fun c10 => ?_⟩
                    · skip
                      refine ⟨fun c11 => ?_, fun c11 => ?_⟩
                      · skip
                        refine h _ ?_
                        · clear h; grind (splits := 24) [rk]  -- q7
                      · skip
                        refine ⟨fun c12 => ?_, fun c12 => ?_⟩
                        · skip
                          refine h _ ?_
                          · clear h; grind (splits := 24) [rk]  -- q8
                        · skip
                          refine ⟨fun c13 => ?_, fun c13 => ?_⟩
                          · skip
                            refine h _ ?_
                            · clear h; grind (splits := 24) [rk]  -- q9
                          · skip
                            refine h _ ?_
                            · clear h; grind (splits := 24) [rk]  -- q10
                    · skip
                      refine h _ ?_
                      · clear h; grind (splits := 24) [rk]  -- q11
                · skip
                  refine h _ ?_
                  · clear h; grind (splits := 24) [rk]  -- q12
    · skip
      refine h _ ?_
      · clear h; grind (splits := 24) [rk]  -- q13
  · skip
    refine h _ ?_
    · clear h; grind (splits := 24) [rk]  -- q14

theorem truth_c {C : rCx} (hC : cOK C)  {σ : rS} {a0 : Int32} {Q : Int32 → rS → Prop} (h : ∀ (v : Int32), (nb v) → Q v σ) : cI C 0 m_truth [.int a0] σ Q := by
  refine m_truth_run hC ?_
  unfold w_truth_0
  refine ⟨fun c1 => ?_, fun c1 => ?_⟩
  · skip
    refine h _ ?_
    · clear h; grind (splits := 24) [nb]  -- q1
  · skip
    refine h _ ?_
    · clear h; grind (splits := 24) [nb]  -- q2

theorem compared_c {C : rCx} (hC : cOK C)  {σ : rS} {a0 : Int32} {a1 : Int32} {a2 : Int32} {Q : Int32 → rS → Prop} (h : ∀ (v : Int32), (True) → Q v σ) : cI C 1 m_compared [.int a0, .int a1, .int a2] σ Q := by
  refine m_compared_run hC ?_
  unfold w_compared_0
  refine ⟨fun c1 => ?_, fun c1 => ?_⟩
  · skip
    refine ⟨fun c2 => ?_, fun c2 => ?_⟩
    · skip
      refine ⟨fun c3 => ?_, fun c3 => ?_⟩
      · skip
        refine ⟨fun c4 => ?_, fun c4 => ?_⟩
        · skip
          refine ⟨fun c5 => ?_, fun c5 => ?_⟩
          · skip
            refine ⟨fun c6 => ?_, fun c6 => ?_⟩
            · skip
              refine truth_c hC  (fun r7 q9 => ?_)
              refine h _ ?_
              · clear h; trivial  -- q1
            · skip
              refine truth_c hC  (fun r10 q12 => ?_)
              refine h _ ?_
              · clear h; trivial  -- q2
          · skip
            refine ⟨fun c13 => ?_, fun c13 => ?_⟩
            · skip
              refine truth_c hC  (fun r14 q16 => ?_)
              refine h _ ?_
              · clear h; trivial  -- q3
            · skip
              refine truth_c hC  (fun r17 q19 => ?_)
              refine h _ ?_
              · clear h; trivial  -- q4
        · skip
          refine ⟨fun c20 => ?_, fun c20 => ?_⟩
          · skip
            refine truth_c hC  (fun r21 q23 => ?_)
            refine h _ ?_
            · clear h; trivial  -- q5
          · skip
            refine truth_c hC  (fun r24 q26 => ?_)
            refine h _ ?_
            · clear h; trivial  -- q6
      · skip
        refine ⟨fun c27 => ?_, fun c27 => ?_⟩
        · skip
          refine truth_c hC  (fun r28 q30 => ?_)
          refine h _ ?_
          · clear h; trivial  -- q7
        · skip
          refine truth_c hC  (fun r31 q33 => ?_)
          refine h _ ?_
          · clear h; trivial  -- q8
    · skip
      refine ⟨fun c34 => ?_, fun c34 => ?_⟩
      · skip
        refine truth_c hC  (fun r35 q37 => ?_)
        refine h _ ?_
        · clear h; trivial  -- q9
      · skip
        refine truth_c hC  (fun r38 q40 => ?_)
        refine h _ ?_
        · clear h; trivial  -- q10
  · skip
    refine ⟨fun c41 => ?_, fun c41 => ?_⟩
    · skip
      refine truth_c hC  (fun r42 q44 => ?_)
      refine h _ ?_
      · clear h; trivial  -- q11
    · skip
      refine truth_c hC  (fun r45 q47 => ?_)
      refine h _ ?_
      · clear h; trivial  -- q12

theorem top_c {C : rCx} (hC : cOK C)  {σ : rS}  {Q : Int32 → rS → Prop} (hp : σ.1 48 ≤ 66000) (h : ∀ (v : Int32), (v = tp (eW σ)) → Q v σ) : cI C 0 m_top [.ref (co C)] σ Q := by
  refine m_top_run hC ?_
  unfold w_top_0
  refine ⟨fun c1 => ?_, fun c1 => ?_⟩
  · skip
    refine h _ ?_
    · clear h; simp only [eW, eLst_nil (by assumption : σ.1 48 ≤ 0), tp]  -- q1
  · skip
    refine ⟨ib_66000.mpr ?_, ?_⟩
    · clear h; grind (splits := 24) [si1, si2, ri1, ri2, ri3, ri34, ri5]  -- b2
    refine h _ ?_
    · clear h; simp only [eW, eLst_cons (n := σ.1 48) (by grind) (by grind), tp]  -- q3

theorem hold_c {C : rCx} (hC : cOK C)  {σ : rS} {a1 : Int32} {a2 : Int32} {Q : rS → Prop} (hp : 0 ≤ σ.1 48 ∧ σ.1 48 < 66000) (h : ∀ (σ' : rS), (((∀ k, k ≠ 48 → σ'.1 k = σ.1 k) ∧ (∀ k,  σ'.2.1 k = σ.2.1 k) ∧ (∀ k, k ≠ 50 → k ≠ 51 → σ'.2.2.1 k = σ.2.2.1 k) ∧ (∀ k j, k ≠ 50 → k ≠ 51 → σ'.2.2.1 k j = σ.2.2.1 k j) ∧ (∀ k j,  σ'.2.2.2 k j = σ.2.2.2 k j)) ∧ eW σ' = (a1, a2) :: eW σ ∧ σ'.1 48 = σ.1 48 + 1) → Q σ') : cV C 0 m_hold [.ref (co C), .int a1, .int a2] σ Q := by
  refine m_hold_run hC ?_
  unfold w_hold_0
  refine ⟨ib_66000.mpr ?_, ?_⟩
  · clear h; grind (splits := 24) [si1, si2, ri1, ri2, ri3, ri34, ri5]  -- b1
  intro σ_1 hσ_1
  refine ⟨ib_66000.mpr ?_, ?_⟩
  · clear h; grind (splits := 24) [si1, si2, ri1, ri2, ri3, ri34, ri5]  -- b2
  intro σ_2 hσ_2
  intro σ_3 hσ_3
  refine h _ ?_
  · clear h; have e1 : σ_3.2.2.1 50 = upd (σ.2.2.1 50) (σ.1 48).toNatClampNeg a1 := by rw [hσ_3, si2, hσ_2, ri3 (by decide), hσ_1, ri_row]
    have e2 : σ_3.2.2.1 51 = upd (σ.2.2.1 51) (σ.1 48).toNatClampNeg a2 := by rw [hσ_3, si2, hσ_2, ri_row, hσ_1, ri1, ri3 (by decide)]
    have e3 : σ_3.1 48 = σ.1 48 + 1 := by rw [hσ_3, si1, if_pos rfl, hσ_2, ri1, hσ_1, ri1]
    refine ⟨by grind [si1, si2, ri1, ri2, ri3, ri34, ri5], ?_, e3⟩
    show eLst (σ_3.1 48).toNatClampNeg (σ_3.2.2.1 50) (σ_3.2.2.1 51) = _
    rw [e1, e2, e3]
    exact eLst_push hp.1 (by grind)

theorem goesOn_c {C : rCx} (hC : cOK C)  {σ : rS}  {Q : Int32 → rS → Prop} (h : ∀ (v : Int32), (nb v ∧ (v ≠ 0 ↔ σ.1 11 = 0 ∧ σ.1 47 = 0)) → Q v σ) : cI C 1 m_goesOn [.ref (co C)] σ Q := by
  refine m_goesOn_run hC ?_
  unfold w_goesOn_0
  refine isRight_c hC  (fun r1 q3 => ?_)
  refine ⟨fun c4 => ?_, fun c4 => ?_⟩
  · skip
    refine h _ ?_
    · clear h; grind (splits := 24) [nb]  -- q1
  · skip
    refine ⟨fun c5 => ?_, fun c5 => ?_⟩
    · skip
      refine h _ ?_
      · clear h; grind (splits := 24) [nb]  -- q2
    · skip
      refine h _ ?_
      · clear h; grind (splits := 24) [nb]  -- q3

theorem apply_c {C : rCx} (hC : cOK C)  {σ : rS}  {Q : rS → Prop} (hp : 0 < σ.1 48 ∧ σ.1 48 ≤ 66000 ∧ 2 ≤ σ.1 49 ∧ σ.1 49 ≤ 66000 ∧ 0 < rk (rd σ 50 (σ.1 48 - 1))) (h : ∀ (σ' : rS), (((∀ k, k ≠ 47 → k ≠ 48 → k ≠ 49 → σ'.1 k = σ.1 k) ∧ (∀ k,  σ'.2.1 k = σ.2.1 k) ∧ (∀ k, k ≠ 52 → σ'.2.2.1 k = σ.2.2.1 k) ∧ (∀ k j, k ≠ 52 → σ'.2.2.1 k j = σ.2.2.1 k j) ∧ (∀ k j,  σ'.2.2.2 k j = σ.2.2.2 k j)) ∧ σ'.1 48 = σ.1 48 - 1 ∧ σ'.1 49 = σ.1 49 - 1 ∧ (σ.1 46 = 0 → σ'.1 47 = σ.1 47) ∧ (0 ≤ σ.1 47 → 0 ≤ σ'.1 47)) → Q σ') : cV C 2 m_apply [.ref (co C)] σ Q := by
  refine m_apply_run hC ?_
  unfold w_apply_0
  have hj202 : ∀ (s0 : Int32) (τ : rS), (((∀ k, k ≠ 48 → k ≠ 49 → τ.1 k = σ.1 k) ∧ (∀ k,  τ.2.1 k = σ.2.1 k) ∧ (∀ k, k ≠ 52 → τ.2.2.1 k = σ.2.2.1 k) ∧ (∀ k j, k ≠ 52 → τ.2.2.1 k j = σ.2.2.1 k j) ∧ (∀ k j,  τ.2.2.2 k j = σ.2.2.2 k j)) ∧ τ.1 48 = σ.1 48 - 1 ∧ τ.1 49 = σ.1 49 - 1) → w_apply_202 C Q  s0 τ := by
    rintro y202_s0 τ202 j202
    unfold w_apply_202
    refine ⟨ib_66000.mpr ?_, ?_⟩
    · clear h; grind (splits := 24) [si1, si2, ri1, ri2, ri3, ri34, ri5, rk]  -- b1
    intro σ_1 hσ_1
    refine h _ ?_
    · clear h; grind (splits := 24) [si1, si2, ri1, ri2, ri3, ri34, ri5, rk]  -- q2
  have hj84 : ∀ (l1 : Int32) (l2 : Int32) (l3 : Int32) (τ : rS), (((∀ k, k ≠ 48 → k ≠ 49 → τ.1 k = σ.1 k) ∧ (∀ k,  τ.2.1 k = σ.2.1 k) ∧ (∀ k, k ≠ 52 → τ.2.2.1 k = σ.2.2.1 k) ∧ (∀ k j, k ≠ 52 → τ.2.2.1 k j = σ.2.2.1 k j) ∧ (∀ k j,  τ.2.2.2 k j = σ.2.2.2 k j)) ∧ τ.1 48 = σ.1 48 - 1 ∧ τ.1 49 = σ.1 49 - 1 ∧ σ.1 46 ≠ 0 ∧ ((l1 = 47 ∨ l1 = 37) → l3 ≠ 0) ∧ 0 < rk l1) → w_apply_84 C Q  l1 l2 l3 τ := by
    rintro y84_1 y84_2 y84_3 τ84 j84
    unfold w_apply_84
    refine rank_c hC  (fun r2 q4 => ?_)
    refine ⟨fun c5 => ?_, fun c5 => ?_⟩
    · skip
      refine ⟨fun c6 => ?_, fun c6 => ?_⟩
      · skip
        refine ⟨fun c7 => ?_, fun c7 => ?_⟩
        · skip
          refine ⟨fun c8 => ?_, fun c8 => ?_⟩
          · skip
            refine ⟨fun c9 => ?_, fun c9 => ?_⟩
            · skip
              refine ⟨fun c10 => ?_, fun c10 => ?_⟩
              · skip
                refine ⟨fun c11 => ?_, fun c11 => ?_⟩
                · skip
                  refine ⟨?_, ?_⟩
                  · clear h; grind (splits := 24) [si1, si2, ri1, ri2, ri3, ri34, ri5, rk]  -- b3
                  refine hj202 _ _ ?_
                  · clear h; grind (splits := 24) [si1, si2, ri1, ri2, ri3, ri34, ri5, rk]  -- k4
                · skip
                  refine ⟨?_, ?_⟩
                  · clear h; grind (splits := 24) [si1, si2, ri1, ri2, ri3, ri34, ri5, rk]  -- b5
                  refine hj202 _ _ ?_
                  · clear h; grind (splits := 24) [si1, si2, ri1, ri2, ri3, ri34, ri5, rk]  -- k6
              · skip
                refine hj202 _ _ ?_
                · clear h; grind (splits := 24) [si1, si2, ri1, ri2, ri3, ri34, ri5, rk]  -- k7
            · skip
              refine hj202 _ _ ?_
              · clear h; grind (splits := 24) [si1, si2, ri1, ri2, ri3, ri34, ri5, rk]  -- k8
          · skip
            refine hj202 _ _ ?_
            · clear h; grind (splits := 24) [si1, si2, ri1, ri2, ri3, ri34, ri5, rk]  -- k9
        · skip
          refine ⟨fun c12 => ?_, fun c12 => ?_⟩
          · skip
            refine truth_c hC  (fun r13 q15 => ?_)
            refine hj202 _ _ ?_
            · clear h; grind (splits := 24) [si1, si2, ri1, ri2, ri3, ri34, ri5, rk]  -- k10
          · skip
            refine ⟨fun c16 => ?_, fun c16 => ?_⟩
            · skip
              refine truth_c hC  (fun r17 q19 => ?_)
              refine hj202 _ _ ?_
              · clear h; grind (splits := 24) [si1, si2, ri1, ri2, ri3, ri34, ri5, rk]  -- k11
            · skip
              refine truth_c hC  (fun r20 q22 => ?_)
              refine hj202 _ _ ?_
              · clear h; grind (splits := 24) [si1, si2, ri1, ri2, ri3, ri34, ri5, rk]  -- k12
      · skip
        refine ⟨fun c23 => ?_, fun c23 => ?_⟩
        · skip
          refine truth_c hC  (fun r24 q26 => ?_)
          refine hj202 _ _ ?_
          · clear h; grind (splits := 24) [si1, si2, ri1, ri2, ri3, ri34, ri5, rk]  -- k13
        · skip
          refine ⟨fun c27 => ?_, fun c27 => ?_⟩
          · skip
            refine truth_c hC  (fun r28 q30 => ?_)
            refine hj202 _ _ ?_
            · clear h; grind (splits := 24) [si1, si2, ri1, ri2, ri3, ri34, ri5, rk]  -- k14
          · skip
            refine truth_c hC  (fun r31 q33 => ?_)
            refine hj202 _ _ ?_
            · clear h; grind (splits := 24) [si1, si2, ri1, ri2, ri3, ri34, ri5, rk]  -- k15
    · skip
      refine compared_c hC  (fun r34 q36 => ?_)
      refine hj202 _ _ ?_
      · clear h; grind (splits := 24) [si1, si2, ri1, ri2, ri3, ri34, ri5, rk]  -- k16
  have hj74 : ∀ (l1 : Int32) (l2 : Int32) (l3 : Int32) (τ : rS), (((∀ k, k ≠ 48 → k ≠ 49 → τ.1 k = σ.1 k) ∧ (∀ k,  τ.2.1 k = σ.2.1 k) ∧ (∀ k, k ≠ 52 → τ.2.2.1 k = σ.2.2.1 k) ∧ (∀ k j, k ≠ 52 → τ.2.2.1 k j = σ.2.2.1 k j) ∧ (∀ k j,  τ.2.2.2 k j = σ.2.2.2 k j)) ∧ τ.1 48 = σ.1 48 - 1 ∧ τ.1 49 = σ.1 49 - 1 ∧ σ.1 46 ≠ 0 ∧ 0 < rk l1) → w_apply_74 C Q  l1 l2 l3 τ := by
    rintro y74_1 y74_2 y74_3 τ74 j74
    unfold w_apply_74
    refine ⟨fun c37 => ?_, fun c37 => ?_⟩
    · skip
      refine hj84 _ _ _ _ ?_
      · clear h; grind (splits := 24) [si1, si2, ri1, ri2, ri3, ri34, ri5, rk]  -- k17
    · skip
      intro σ_38 hσ_38
      refine h _ ?_
      · clear h; grind (splits := 24) [si1, si2, ri1, ri2, ri3, ri34, ri5, rk]  -- q18
  refine ⟨ib_66000.mpr ?_, ?_⟩
  · clear h; grind (splits := 24) [si1, si2, ri1, ri2, ri3, ri34, ri5, rk]  -- b19
  intro x39 hx39
  intro σ_40 hσ_40
  intro σ_41 hσ_41
  refine ⟨ib_66000.mpr ?_, ?_⟩
  · clear h; grind (splits := 24) [si1, si2, ri1, ri2, ri3, ri34, ri5, rk]  -- b20
  intro x42 hx42
  refine ⟨ib_66000.mpr ?_, ?_⟩
  · clear h; grind (splits := 24) [si1, si2, ri1, ri2, ri3, ri34, ri5, rk]  -- b21
  intro x43 hx43
  refine ⟨fun c44 => ?_, fun c44 => ?_⟩
  · skip
    refine ⟨fun c45 => ?_, fun c45 => ?_⟩
    · skip
      refine hj74 _ _ _ _ ?_
      · clear h; grind (splits := 24) [si1, si2, ri1, ri2, ri3, ri34, ri5, rk]  -- k22
    · skip
      refine ⟨fun c46 => ?_, fun c46 => ?_⟩
      · skip
        refine hj84 _ _ _ _ ?_
        · clear h; grind (splits := 24) [si1, si2, ri1, ri2, ri3, ri34, ri5, rk]  -- k23
      · skip
        refine hj74 _ _ _ _ ?_
        · clear h; grind (splits := 24) [si1, si2, ri1, ri2, ri3, ri34, ri5, rk]  -- k24
  · skip
    refine h _ ?_
    · clear h; grind (splits := 24) [si1, si2, ri1, ri2, ri3, ri34, ri5, rk]  -- q25

theorem settle_c {C : rCx} (hC : cOK C) (R : Int32) {σ : rS} {a1 : Int32} {Q : rS → Prop} (hp : 1 ≤ a1 ∧ eI (σ.1 48) (σ.1 49) (eW σ) 1 R) (h : ∀ (σ' : rS), (((∀ k, k ≠ 47 → k ≠ 48 → k ≠ 49 → σ'.1 k = σ.1 k) ∧ (∀ k,  σ'.2.1 k = σ.2.1 k) ∧ (∀ k, k ≠ 52 → σ'.2.2.1 k = σ.2.2.1 k) ∧ (∀ k j, k ≠ 52 → σ'.2.2.1 k j = σ.2.2.1 k j) ∧ (∀ k j,  σ'.2.2.2 k j = σ.2.2.2 k j)) ∧ eI (σ'.1 48) (σ'.1 49) (eW σ') 1 R ∧ ((σ.1 46 = 0 → σ'.1 47 = σ.1 47) ∧ (0 ≤ σ.1 47 → 0 ≤ σ'.1 47)) ∧ (σ.1 11 = 0 → σ'.1 47 = 0 → eW σ' = popW a1 (eW σ)) ∧ (σ.1 47 ≠ 0 → σ' = σ) ∧ (σ.1 11 ≠ 0 → σ' = σ)) → Q σ') : cV C 3 m_settle [.ref (co C), .int a1] σ Q := by
  refine m_settle_run hC ?_
  unfold w_settle_0
  refine ⟨fun n l1 τ => n = (τ.1 48).toNatClampNeg ∧ (l1 = a1 ∧ ((∀ k, k ≠ 47 → k ≠ 48 → k ≠ 49 → τ.1 k = σ.1 k) ∧ (∀ k,  τ.2.1 k = σ.2.1 k) ∧ (∀ k, k ≠ 52 → τ.2.2.1 k = σ.2.2.1 k) ∧ (∀ k j, k ≠ 52 → τ.2.2.1 k j = σ.2.2.1 k j) ∧ (∀ k j,  τ.2.2.2 k j = σ.2.2.2 k j)) ∧ eI (τ.1 48) (τ.1 49) (eW τ) 1 R ∧ ((σ.1 46 = 0 → τ.1 47 = σ.1 47) ∧ (0 ≤ σ.1 47 → 0 ≤ τ.1 47)) ∧ popW a1 (eW τ) = popW a1 (eW σ) ∧ (σ.1 47 ≠ 0 → τ = σ) ∧ (σ.1 11 ≠ 0 → τ = σ)), ⟨_, rfl, ?_⟩, ?_⟩
  · clear h; grind (splits := 24) [eI, eI_pop, pop_stop]  -- j1
  rintro n0 x0_1 σ0 ⟨hn0, i0⟩
  refine goesOn_c hC  (fun r1 q3 => ?_)
  refine ⟨fun c4 => ?_, fun c4 => ?_⟩
  · skip
    refine h _ ?_
    · clear h; grind (splits := 24) [eI, eI_pop, pop_stop]  -- q2
  · skip
    refine top_c hC  ?_ (fun r5 q7 => ?_)
    · clear h; grind (splits := 24) [eI, eI_pop, pop_stop]  -- p3
    refine rank_c hC  (fun r8 q10 => ?_)
    refine ⟨fun c11 => ?_, fun c11 => ?_⟩
    · skip
      refine h _ ?_
      · clear h; grind (splits := 24) [eI, eI_pop, pop_stop]  -- q4
    · skip
      refine top_c hC  ?_ (fun r12 q14 => ?_)
      · clear h; grind (splits := 24) [eI, eI_pop, pop_stop]  -- p5
      refine rank_c hC  (fun r15 q17 => ?_)
      refine ⟨fun c18 => ?_, fun c18 => ?_⟩
      · skip
        refine h _ ?_
        · clear h; grind (splits := 24) [eI, eI_pop, pop_stop]  -- q6
      · skip
        refine apply_c hC  ?_ (fun σ_19 q20 => ?_)
        · clear h; have k := eI_pop (n := σ0.1 48) (v := σ0.1 49) (w := σ0.2.2.1 50) (r := σ0.2.2.1 51) (R := R) (by grind) (by grind)
          grind [eI]
        refine ⟨_, cn_lt2 hn0 ?_ ?_, rfl, ?_⟩
        · clear h; have k := eI_pop (n := σ0.1 48) (v := σ0.1 49) (w := σ0.2.2.1 50) (r := σ0.2.2.1 51) (R := R) (by grind) (by grind)
          grind [eI]
        · clear h; grind (splits := 24) [eI, eI_pop, pop_stop]  -- d9
        · clear h; have k := eI_pop (n := σ0.1 48) (v := σ0.1 49) (w := σ0.2.2.1 50) (r := σ0.2.2.1 51) (R := R) (by grind) (by grind)
          grind

theorem turn_c {C : rCx} (hC : cOK C)  {σ : rS}  {Q : rS → Prop} (hp : 0 ≤ σ.1 48 ∧ σ.1 48 ≤ 66000 ∧ 1 ≤ σ.1 49 ∧ σ.1 49 ≤ 66000) (h : ∀ (σ' : rS), (((∀ k, k ≠ 48 → σ'.1 k = σ.1 k) ∧ (∀ k,  σ'.2.1 k = σ.2.1 k) ∧ (∀ k, k ≠ 52 → σ'.2.2.1 k = σ.2.2.1 k) ∧ (∀ k j, k ≠ 52 → σ'.2.2.1 k j = σ.2.2.1 k j) ∧ (∀ k j,  σ'.2.2.2 k j = σ.2.2.2 k j)) ∧ eW σ' = turnW (eW σ) ∧ 0 ≤ σ'.1 48 ∧ σ'.1 48 ≤ σ.1 48) → Q σ') : cV C 1 m_turn [.ref (co C)] σ Q := by
  refine m_turn_run hC ?_
  unfold w_turn_0
  refine ⟨fun n  τ => n = (τ.1 48).toNatClampNeg ∧ (((∀ k, k ≠ 48 → τ.1 k = σ.1 k) ∧ (∀ k,  τ.2.1 k = σ.2.1 k) ∧ (∀ k, k ≠ 52 → τ.2.2.1 k = σ.2.2.1 k) ∧ (∀ k j, k ≠ 52 → τ.2.2.1 k j = σ.2.2.1 k j) ∧ (∀ k j,  τ.2.2.2 k j = σ.2.2.2 k j)) ∧ turnW (eW τ) = turnW (eW σ) ∧ 0 ≤ τ.1 48 ∧ τ.1 48 ≤ σ.1 48), ⟨_, rfl, ?_⟩, ?_⟩
  · clear h; grind (splits := 24) [si1, si2, ri1, ri2, ri3, ri34, ri5, turn_pop, turn_stop, isU]  -- j1
  rintro n0  σ0 ⟨hn0, i0⟩
  have hj69 : ∀ (s1 : Int32) (s2 : Int32) (τ : rS), (τ = σ0 ∧ isU (tp (eW τ)) ∧ s1 = τ.1 49 - 1) → w_turn_69 C Q (fun  τ => ∃ k < n0, (fun n  τ => n = (τ.1 48).toNatClampNeg ∧ (((∀ k, k ≠ 48 → τ.1 k = σ.1 k) ∧ (∀ k,  τ.2.1 k = σ.2.1 k) ∧ (∀ k, k ≠ 52 → τ.2.2.1 k = σ.2.2.1 k) ∧ (∀ k j, k ≠ 52 → τ.2.2.1 k j = σ.2.2.1 k j) ∧ (∀ k j,  τ.2.2.2 k j = σ.2.2.2 k j)) ∧ turnW (eW τ) = turnW (eW σ) ∧ 0 ≤ τ.1 48 ∧ τ.1 48 ≤ σ.1 48)) k  τ) s1 s2 τ := by
    rintro y69_s1 y69_s2 τ69 j69
    unfold w_turn_69
    refine ⟨ib_66000.mpr ?_, ?_⟩
    · clear h; grind (splits := 24) [si1, si2, ri1, ri2, ri3, ri34, ri5, turn_pop, turn_stop, isU]  -- b2
    intro σ_1 hσ_1
    intro σ_2 hσ_2
    refine ⟨_, cn_lt2 hn0 ?_ ?_, rfl, ?_⟩
    · clear h; have k := turn_pop (n := τ69.1 48) (w := τ69.2.2.1 50) (r := τ69.2.2.1 51) (by grind) (by grind)
      grind [si1, ri1]
    · clear h; grind (splits := 24) [si1, si2, ri1, ri2, ri3, ri34, ri5, turn_pop, turn_stop, isU]  -- d4
    · clear h; have k := turn_pop (n := τ69.1 48) (w := τ69.2.2.1 50) (r := τ69.2.2.1 51) (by grind) (by grind)
      grind [si1, si2, ri1, ri2, ri3, ri34, ri5]
  have hj20 : ∀  (τ : rS), (τ = σ0 ∧ isU (tp (eW τ))) → w_turn_20 C Q (fun  τ => ∃ k < n0, (fun n  τ => n = (τ.1 48).toNatClampNeg ∧ (((∀ k, k ≠ 48 → τ.1 k = σ.1 k) ∧ (∀ k,  τ.2.1 k = σ.2.1 k) ∧ (∀ k, k ≠ 52 → τ.2.2.1 k = σ.2.2.1 k) ∧ (∀ k j, k ≠ 52 → τ.2.2.1 k j = σ.2.2.1 k j) ∧ (∀ k j,  τ.2.2.2 k j = σ.2.2.2 k j)) ∧ turnW (eW τ) = turnW (eW σ) ∧ 0 ≤ τ.1 48 ∧ τ.1 48 ≤ σ.1 48)) k  τ)  τ := by
    rintro  τ20 j20
    unfold w_turn_20
    refine ⟨ib_66000.mpr ?_, ?_⟩
    · clear h; grind (splits := 24) [si1, si2, ri1, ri2, ri3, ri34, ri5, turn_pop, turn_stop, isU]  -- b6
    intro x3 hx3
    refine top_c hC  ?_ (fun r4 q6 => ?_)
    · clear h; grind (splits := 24) [si1, si2, ri1, ri2, ri3, ri34, ri5, turn_pop, turn_stop, isU]  -- p7
    refine ⟨fun c7 => ?_, fun c7 => ?_⟩
    · skip
      refine hj69 _ _ _ ?_
      · clear h; grind (splits := 24) [si1, si2, ri1, ri2, ri3, ri34, ri5, turn_pop, turn_stop, isU]  -- k8
    · skip
      refine ⟨fun c8 => ?_, fun c8 => ?_⟩
      · skip
        refine truth_c hC  (fun r9 q11 => ?_)
        refine hj69 _ _ _ ?_
        · clear h; grind (splits := 24) [si1, si2, ri1, ri2, ri3, ri34, ri5, turn_pop, turn_stop, isU]  -- k9
      · skip
        refine truth_c hC  (fun r12 q14 => ?_)
        refine hj69 _ _ _ ?_
        · clear h; grind (splits := 24) [si1, si2, ri1, ri2, ri3, ri34, ri5, turn_pop, turn_stop, isU]  -- k10
  refine top_c hC  ?_ (fun r15 q17 => ?_)
  · clear h; grind (splits := 24) [si1, si2, ri1, ri2, ri3, ri34, ri5, turn_pop, turn_stop, isU]  -- p11
  refine ⟨fun c18 => ?_, fun c18 => ?_⟩
  · skip
    refine hj20 _ ?_
    · clear h; grind (splits := 24) [si1, si2, ri1, ri2, ri3, ri34, ri5, turn_pop, turn_stop, isU]  -- k12
  · skip
    refine top_c hC  ?_ (fun r19 q21 => ?_)
    · clear h; grind (splits := 24) [si1, si2, ri1, ri2, ri3, ri34, ri5, turn_pop, turn_stop, isU]  -- p13
    refine ⟨fun c22 => ?_, fun c22 => ?_⟩
    · skip
      refine h _ ?_
      · clear h; grind (splits := 24) [si1, si2, ri1, ri2, ri3, ri34, ri5, turn_pop, turn_stop, isU]  -- q14
    · skip
      refine hj20 _ ?_
      · clear h; grind (splits := 24) [si1, si2, ri1, ri2, ri3, ri34, ri5, turn_pop, turn_stop, isU]  -- k15

theorem push_c {C : rCx} (hC : cOK C)  {σ : rS} {a1 : Int32} {Q : rS → Prop} (hp : 0 ≤ σ.1 48 ∧ σ.1 48 ≤ 66000 ∧ 0 ≤ σ.1 49 ∧ σ.1 49 < 66000) (h : ∀ (σ' : rS), (((∀ k, k ≠ 48 → k ≠ 49 → σ'.1 k = σ.1 k) ∧ (∀ k,  σ'.2.1 k = σ.2.1 k) ∧ (∀ k, k ≠ 52 → σ'.2.2.1 k = σ.2.2.1 k) ∧ (∀ k j, k ≠ 52 → σ'.2.2.1 k j = σ.2.2.1 k j) ∧ (∀ k j,  σ'.2.2.2 k j = σ.2.2.2 k j)) ∧ eW σ' = turnW (eW σ) ∧ 0 ≤ σ'.1 48 ∧ σ'.1 48 ≤ σ.1 48 ∧ σ'.1 49 = σ.1 49 + 1) → Q σ') : cV C 2 m_push [.ref (co C), .int a1] σ Q := by
  refine m_push_run hC ?_
  unfold w_push_0
  refine ⟨ib_66000.mpr ?_, ?_⟩
  · clear h; grind (splits := 24) [si1, si2, ri1, ri2, ri3, ri34, ri5]  -- b1
  intro σ_1 hσ_1
  intro σ_2 hσ_2
  refine turn_c hC  ?_ (fun σ_3 q4 => ?_)
  · clear h; grind (splits := 24) [si1, si2, ri1, ri2, ri3, ri34, ri5]  -- p2
  refine h _ ?_
  · clear h; grind (splits := 24) [si1, si2, ri1, ri2, ri3, ri34, ri5]  -- q3

/-- arrays: at most 8 cells each, the first at most at 16 -/
def tyA (r23 r24 : Nat → Int32) : Prop := eB r23 0 9 ∧ eB r24 0 17
abbrev tA (σ : rS) : Prop := tyA (σ.2.2.1 23) (σ.2.2.1 24)
theorem valueOf_c {C : rCx} (hC : cOK C)  {σ : rS} {a1 : Int32} {Q : Int32 → rS → Prop} (hp : validV a1 ∧ 1 ≤ σ.1 58 ∧ σ.1 58 ≤ 12) (h : ∀ (v : Int32), (True) → Q v σ) : cI C 0 m_valueOf [.ref (co C), .int a1] σ Q := by
  refine m_valueOf_run hC ?_
  unfold w_valueOf_0
  refine ⟨fun c1 => ?_, fun c1 => ?_⟩
  · skip
    refine ⟨ib_96.mpr ?_, ?_⟩
    · clear h; grind (splits := 24) [validV]  -- b1
    refine h _ ?_
    · clear h; grind (splits := 24) [validV]  -- q2
  · skip
    refine ⟨ib_34.mpr ?_, ?_⟩
    · clear h; grind (splits := 24) [validV]  -- b3
    refine h _ ?_
    · clear h; grind (splits := 24) [validV]  -- q4

theorem cellOf_c {C : rCx} (hC : cOK C)  {σ : rS} {a1 : Int32} {a2 : Int32} {Q : Int32 → rS → Prop} (hp : validC a1 ∧ tA σ ∧ tF σ) (h : ∀ (v : Int32), (v = -1 ∨ (0 ≤ v ∧ v < 34)) → Q v σ) : cI C 0 m_cellOf [.ref (co C), .int a1, .int a2] σ Q := by
  refine m_cellOf_run hC ?_
  unfold w_cellOf_0
  intro x1 hx1
  refine ⟨fun c2 => ?_, fun c2 => ?_⟩
  · skip
    refine h _ ?_
    · clear h; grind (splits := 24) [validC, tyA, tyF, eB]  -- q1
  · skip
    refine ⟨ib_3.mpr ?_, ?_⟩
    · clear h; grind (splits := 24) [validC, tyA, tyF, eB]  -- b2
    refine ⟨fun c3 => ?_, fun c3 => ?_⟩
    · skip
      refine ⟨ib_3.mpr ?_, ?_⟩
      · clear h; grind (splits := 24) [validC, tyA, tyF, eB]  -- b3
      refine h _ ?_
      · clear h; grind (splits := 24) [validC, tyA, tyF, eB]  -- q4
    · skip
      refine h _ ?_
      · clear h; grind (splits := 24) [validC, tyA, tyF, eB]  -- q5

theorem look_c {C : rCx} (hC : cOK C)  {σ : rS} {a1 : Int32} {a2 : Int32} {Q : rS → Prop} (hp : 0 ≤ a1 ∧ a1 < 131074) (h : ∀ (σ' : rS), (((∀ k, k ≠ 11 → k ≠ 12 → σ'.1 k = σ.1 k) ∧ (∀ k,  σ'.2.1 k = σ.2.1 k) ∧ (∀ k, k ≠ 39 → σ'.2.2.1 k = σ.2.2.1 k) ∧ (∀ k j, k ≠ 39 → σ'.2.2.1 k j = σ.2.2.1 k j) ∧ (∀ k j,  σ'.2.2.2 k j = σ.2.2.2 k j)) ∧ (∀ j, j ≠ a1.toNatClampNeg → σ'.2.2.1 39 j = σ.2.2.1 39 j) ∧ rd σ' 39 a1 = a2 ∧ (σ'.1 11 = 0 → σ.1 11 = 0 ∧ a2 ≠ -1) ∧ (0 ≤ σ.1 11 → 0 ≤ σ'.1 11)) → Q σ') : cV C 0 m_look [.ref (co C), .int a1, .int a2] σ Q := by
  refine m_look_run hC ?_
  unfold w_look_0
  refine ⟨fun c1 => ?_, fun c1 => ?_⟩
  · skip
    unfold w_look_28
    refine ⟨ib_131074.mpr ?_, ?_⟩
    · clear h; grind (splits := 24) [si1, si2, ri1, ri2, ri3, ri34, ri5]  -- b1
    intro σ_2 hσ_2
    refine h _ ?_
    · clear h; grind (splits := 24) [si1, si2, ri1, ri2, ri3, ri34, ri5]  -- q2
  · skip
    refine ⟨fun c3 => ?_, fun c3 => ?_⟩
    · skip
      unfold w_look_28
      refine ⟨ib_131074.mpr ?_, ?_⟩
      · clear h; grind (splits := 24) [si1, si2, ri1, ri2, ri3, ri34, ri5]  -- b3
      intro σ_4 hσ_4
      refine h _ ?_
      · clear h; grind (splits := 24) [si1, si2, ri1, ri2, ri3, ri34, ri5]  -- q4
    · skip
      intro σ_5 hσ_5
      refine ⟨ib_131074.mpr ?_, ?_⟩
      · clear h; grind (splits := 24) [si1, si2, ri1, ri2, ri3, ri34, ri5]  -- b5
      intro σ_6 hσ_6
      unfold w_look_28
      refine ⟨ib_131074.mpr ?_, ?_⟩
      · clear h; grind (splits := 24) [si1, si2, ri1, ri2, ri3, ri34, ri5]  -- b6
      intro σ_7 hσ_7
      refine h _ ?_
      · clear h; grind (splits := 24) [si1, si2, ri1, ri2, ri3, ri34, ri5]  -- q7

end
section
/-! 32-bit numbers that stay small, as whole numbers -/
theorem i_sub {x y : Int32} (hx : 0 ≤ x) (hy : 0 ≤ y) : (x - y).toInt = x.toInt - y.toInt := by
  rw [Int32.le_iff_toInt_le, Int32.toInt_zero] at hx hy
  have h1 := Int32.toInt_lt x
  have h2 := Int32.toInt_lt y
  rw [Int32.toInt_sub, Int.bmod_eq_of_le] <;> omega
theorem i_add {x y : Int32} (hx : 0 ≤ x) (hy : 0 ≤ y) (h : x.toInt + y.toInt < 2147483648) : (x + y).toInt = x.toInt + y.toInt := by
  rw [Int32.le_iff_toInt_le, Int32.toInt_zero] at hx hy
  rw [Int32.toInt_add, Int.bmod_eq_of_le] <;> omega
/-- places of tokens: B ≤ A ≤ a ≤ T, within one book -/
def pL (B T A a : Int32) : Prop := 0 ≤ B ∧ B ≤ A ∧ A ≤ a ∧ a ≤ T ∧ T < 131074 ∧ T.toInt - B.toInt ≤ 65536
theorem pL_up {B T A a k : Int32} (h : pL B T A a) (hk : k = 1 ∨ k = 2) (ha : a + k ≤ T) : a - A < a + k - A ∧ a + k - A ≤ 65537 ∧ pL B T A (a + k) := by
  obtain ⟨h1, h2, h3, h4, h5, h6⟩ := h
  have ha0 : 0 ≤ a := Int32.le_trans h1 (Int32.le_trans h2 h3)
  have hA0 : 0 ≤ A := Int32.le_trans h1 h2
  have hk0 : 0 ≤ k := by rcases hk with rfl | rfl <;> decide
  have hk1 : k.toInt = 1 ∨ k.toInt = 2 := by rcases hk with rfl | rfl; exact Or.inl rfl; exact Or.inr rfl
  have ha1 := Int32.le_iff_toInt_le.mp h4
  have hT := Int32.lt_iff_toInt_lt.mp h5
  rw [show (131074 : Int32).toInt = 131074 from rfl] at hT
  have e1 : (a + k).toInt = a.toInt + k.toInt := i_add ha0 hk0 (by omega)
  have hak : 0 ≤ a + k := by rw [Int32.le_iff_toInt_le, Int32.toInt_zero, e1]; have := Int32.le_iff_toInt_le.mp ha0; rw [Int32.toInt_zero] at this; omega
  have e2 := i_sub hak hA0
  have e3 := i_sub ha0 hA0
  have g2 := Int32.le_iff_toInt_le.mp h2
  have g3 := Int32.le_iff_toInt_le.mp h3
  have g4 := Int32.le_iff_toInt_le.mp ha
  refine ⟨?_, ?_, h1, h2, ?_, ha, h5, h6⟩
  · rw [Int32.lt_iff_toInt_lt, e2, e3, e1]; omega
  · rw [Int32.le_iff_toInt_le, e2, e1, show (65537 : Int32).toInt = 65537 from rfl]; omega
  · rw [Int32.le_iff_toInt_le, e1]; omega

end
section
set_option maxHeartbeats 1600000
/-! the reference: the way of an expression through its tokens, the same in both modes -/
def sg (S N : Nat → Int32) (a c : Int32) : Prop := S a.toNatClampNeg = 3 ∧ N a.toNatClampNeg = c
/-- a step that takes an operand: from token a and signs W to stage st', token a', signs W' -/
def eOp (S N R : Nat → Int32) (a : Int32) (W : eL) (st' a' : Int32) (W' : eL) : Prop :=
  S a'.toNatClampNeg ≠ 4 ∧
  ((sg S N a 33 ∧ st' = 0 ∧ a' = a + 1 ∧ W' = (1000, 0) :: W) ∨
  (sg S N a 45 ∧ st' = 0 ∧ a' = a + 1 ∧ W' = (1001, 0) :: W) ∨
  (sg S N a 40 ∧ nbr W < 40 ∧ st' = 0 ∧ a' = a + 1 ∧ W' = (40, 0) :: W) ∨
  (S a.toNatClampNeg = 2 ∧ st' = 1 ∧ a' = a + 1 ∧ W' = turnW W) ∨
  (S a.toNatClampNeg = 1 ∧ sg S N (a + 1) 91 ∧ nbr W < 40 ∧ validC (R a.toNatClampNeg) ∧ st' = 0 ∧ a' = a + 2 ∧ W' = (91, R a.toNatClampNeg) :: W) ∨
  (S a.toNatClampNeg = 1 ∧ ¬ sg S N (a + 1) 40 ∧ ¬ sg S N (a + 1) 91 ∧ validV (R a.toNatClampNeg) ∧ st' = 1 ∧ a' = a + 1 ∧ W' = turnW W))
def eRk (S N : Nat → Int32) (a : Int32) : Int32 := if S a.toNatClampNeg = 3 then rk (N a.toNatClampNeg) else 0
def eLv (r : Int32) : Int32 := if r = 3 then 4 else if r ≤ 0 then 6 else r
/-- whether the sign at a token goes on the pile -/
def eGo (r : Int32) (W : eL) : Prop := 0 < r ∧ (r ≠ 3 ∨ rk (tp W) ≠ 3)
/-- a step behind an operand -/
def eBh (S N : Nat → Int32) (a : Int32) (W : eL) (st' a' : Int32) (W' : eL) : Prop :=
  (S a'.toNatClampNeg ≠ 4 ∧ eGo (eRk S N a) (popW (eLv (eRk S N a)) W) ∧ st' = 0 ∧ a' = a + 1 ∧ W' = (N a.toNatClampNeg, 0) :: popW (eLv (eRk S N a)) W) ∨
  (¬ eGo (eRk S N a) (popW (eLv (eRk S N a)) W) ∧
    ((popW 1 (popW (eLv (eRk S N a)) W) = [] ∧ st' = 2 ∧ a' = a ∧ W' = []) ∨
    (S a'.toNatClampNeg ≠ 4 ∧ sg S N a 41 ∧ st' = 1 ∧ a' = a + 1 ∧ ∃ f, ∃ W2, popW 1 (popW (eLv (eRk S N a)) W) = (40, f) :: W2 ∧ W' = turnW W2) ∨
    (S a'.toNatClampNeg ≠ 4 ∧ sg S N a 93 ∧ st' = 1 ∧ a' = a + 1 ∧ ∃ f, ∃ W2, popW 1 (popW (eLv (eRk S N a)) W) = (91, f) :: W2 ∧ W' = turnW W2)))
theorem nbn_cons {x : Int32 × Int32} {W : eL} : nbn (x :: W) = nbn W + if 0 < rk x.1 then 1 else 0 := rfl
theorem nbr_cons {x : Int32 × Int32} {W : eL} : nbr (x :: W) = nbr W + if x.1 = 40 ∨ x.1 = 91 then 1 else 0 := rfl
theorem eI_hold0 {w v R R' s f : Int32} {W : eL} (h : eI w v W 0 R) (hs : s = 40 ∨ isU s ∨ (s = 91 ∧ validC f)) (hR : R < R') (hR' : R' ≤ 65537) : eI (w + 1) v ((s, f) :: W) 0 R' := by
  obtain ⟨h1, h2, h3, h4, h5, h6, h7, h8⟩ := h
  have hr : rk s = 0 := by
    rcases hs with q | q | q
    · rw [q]; decide
    · exact rk_U q
    · rw [q.1]; decide
  refine ⟨by grind, by grind, h3, by grind, hR', ?_, ⟨h7, ?_⟩, fun q => absurd q (by decide)⟩
  · rw [nbn_cons, h6]; simp [hr]
  · rcases hs with q | q | q
    · exact Or.inl q
    · exact Or.inr (Or.inl q)
    · exact Or.inr (Or.inr (Or.inl q))
theorem eI_bin {w v R R' s f : Int32} {W : eL} (h : eI w v W 1 R) (hs : 0 < rk s) (hR : R < R') (hR' : R' ≤ 65537) : eI (w + 1) v ((s, f) :: W) 0 R' := by
  obtain ⟨h1, h2, h3, h4, h5, h6, h7, h8⟩ := h
  have o1 : (1 : Int32).toNatClampNeg = 1 := rfl
  have o0 : (0 : Int32).toNatClampNeg = 0 := rfl
  refine ⟨by grind, by grind, h3, by grind, hR', ?_, ⟨h7, Or.inr (Or.inr (Or.inr ⟨hs, h8 rfl⟩))⟩, fun q => absurd q (by decide)⟩
  rw [nbn_cons, h6, o1, o0]; simp [hs]
theorem eI_push {w v w' R R' : Int32} {W : eL} (h : eI w v W 0 R) (h0 : 0 ≤ w') (hw : w' ≤ w) (hR : R < R') (hR' : R' ≤ 65537) : eI w' (v + 1) (turnW W) 1 R' := by
  obtain ⟨h1, h2, h3, h4, h5, h6, h7, h8⟩ := h
  have o1 : (1 : Int32).toNatClampNeg = 1 := rfl
  have o0 : (0 : Int32).toNatClampNeg = 0 := rfl
  refine ⟨h0, by grind, by grind, by grind, hR', ?_, turn_eV h7, fun _ => turn_tnu⟩
  rw [turn_nbn, cn_succ h3 (by grind), h6, o1, o0]
theorem eI_close {w v w' R R' : Int32} {x : Int32 × Int32} {W : eL} (h : eI w v (x :: W) 1 R) (hx : x.1 = 40 ∨ x.1 = 91) (h0 : 0 ≤ w') (hw : w' ≤ w) (hR : R ≤ R') (hR' : R' ≤ 65537) : eI w' v (turnW W) 1 R' := by
  obtain ⟨h1, h2, h3, h4, h5, h6, h7, h8⟩ := h
  have hr : rk x.1 = 0 := by rcases hx with q | q <;> (rw [q]; decide)
  rw [nbn_cons, hr] at h6
  refine ⟨h0, by grind, h3, by grind, hR', ?_, turn_eV h7.1, fun _ => turn_tnu⟩
  rw [turn_nbn, h6]; simp
theorem eI_br {w v R : Int32} {x : Int32 × Int32} {W : eL} (h : eI w v (x :: W) 1 R) (hr : rk x.1 ≤ 0) : x.1 = 40 ∨ (x.1 = 91 ∧ validC x.2) := by
  obtain ⟨h1, h2, h3, h4, h5, h6, h7, h8⟩ := h
  rcases h7.2 with q | q | q | q
  · exact Or.inl q
  · exact absurd q (h8 rfl)
  · exact Or.inr q
  · grind
theorem eI_room {w v R R' st : Int32} {W : eL} (h : eI w v W st R) (hR : R ≤ R') (hR' : R' ≤ 65537) : eI w v W st R' := by
  obtain ⟨h1, h2, h3, h4, h5, h6, h7, h8⟩ := h
  exact ⟨h1, by grind, h3, by grind, hR', h6, h7, h8⟩
theorem pop_rk {l : Int32} {W : eL} (hl : l ≤ 1) : rk (tp (popW l W)) ≤ 0 := by
  induction W with
  | nil => exact (by decide : rk 0 ≤ 0)
  | cons x W ih =>
    unfold popW
    split
    · exact ih
    · next h => simp only [tp]; grind
theorem eOp_name {S N R : Nat → Int32} {a a' : Int32} {W W' : eL} (h : S a.toNatClampNeg = 1) (h1 : ¬ sg S N (a + 1) 40) (h2 : ¬ sg S N (a + 1) 91) (h3 : validV (R a.toNatClampNeg)) (h4 : S (a + 1).toNatClampNeg ≠ 4) (ha : a' = a + 1) (hW : W' = turnW W) : eOp S N R a W 1 a' W' := by
  subst ha; exact ⟨h4, Or.inr (Or.inr (Or.inr (Or.inr (Or.inr ⟨h, h1, h2, h3, rfl, rfl, hW⟩))))⟩
theorem eOp_cell {S N R : Nat → Int32} {a a' : Int32} {W W' : eL} (h : S a.toNatClampNeg = 1) (h1 : sg S N (a + 1) 91) (h2 : nbr W < 40) (h3 : validC (R a.toNatClampNeg)) (h4 : S (a + 2).toNatClampNeg ≠ 4) (ha : a' = a + 2) (hW : W' = (91, R a.toNatClampNeg) :: W) : eOp S N R a W 0 a' W' := by
  subst ha; exact ⟨h4, Or.inr (Or.inr (Or.inr (Or.inr (Or.inl ⟨h, h1, h2, h3, rfl, rfl, hW⟩))))⟩
theorem eOp_num {S N R : Nat → Int32} {a a' : Int32} {W W' : eL} (h : S a.toNatClampNeg = 2) (h4 : S (a + 1).toNatClampNeg ≠ 4) (ha : a' = a + 1) (hW : W' = turnW W) : eOp S N R a W 1 a' W' := by
  subst ha; exact ⟨h4, Or.inr (Or.inr (Or.inr (Or.inl ⟨h, rfl, rfl, hW⟩)))⟩
theorem eOp_par {S N R : Nat → Int32} {a a' : Int32} {W W' : eL} (h : sg S N a 40) (h2 : nbr W < 40) (h4 : S (a + 1).toNatClampNeg ≠ 4) (ha : a' = a + 1) (hW : W' = (40, 0) :: W) : eOp S N R a W 0 a' W' := by
  subst ha; exact ⟨h4, Or.inr (Or.inr (Or.inl ⟨h, h2, rfl, rfl, hW⟩))⟩
theorem eOp_not {S N R : Nat → Int32} {a a' : Int32} {W W' : eL} (h : sg S N a 33) (h4 : S (a + 1).toNatClampNeg ≠ 4) (ha : a' = a + 1) (hW : W' = (1000, 0) :: W) : eOp S N R a W 0 a' W' := by
  subst ha; exact ⟨h4, Or.inl ⟨h, rfl, rfl, hW⟩⟩
theorem eOp_less {S N R : Nat → Int32} {a a' : Int32} {W W' : eL} (h : sg S N a 45) (h4 : S (a + 1).toNatClampNeg ≠ 4) (ha : a' = a + 1) (hW : W' = (1001, 0) :: W) : eOp S N R a W 0 a' W' := by
  subst ha; exact ⟨h4, Or.inr (Or.inl ⟨h, rfl, rfl, hW⟩)⟩
/-- what a name's step says -/
theorem eOp_at1 {S N R : Nat → Int32} {a : Int32} {W : eL} (h : ∃ st' a' W', eOp S N R a W st' a' W') (h1 : S a.toNatClampNeg = 1) : S (a + 1).toNatClampNeg ≠ 4 ∧ ¬ sg S N (a + 1) 40 ∧ (sg S N (a + 1) 91 → nbr W < 40 ∧ validC (R a.toNatClampNeg) ∧ S (a + 2).toNatClampNeg ≠ 4) ∧ (¬ sg S N (a + 1) 91 → validV (R a.toNatClampNeg)) := by
  obtain ⟨st', a', W', h4, ho⟩ := h
  rcases ho with ⟨q, -⟩ | ⟨q, -⟩ | ⟨q, -⟩ | ⟨q, -⟩ | ⟨-, q1, q2, q3, -, rfl, -⟩ | ⟨-, q1, q2, q3, -, rfl, -⟩
  · exact absurd (q.1.symm.trans h1) (by decide)
  · exact absurd (q.1.symm.trans h1) (by decide)
  · exact absurd (q.1.symm.trans h1) (by decide)
  · exact absurd (q.symm.trans h1) (by decide)
  · refine ⟨fun e => absurd (q1.1.symm.trans e) (by decide), fun e => absurd (q1.2.symm.trans e.2) (by decide), fun _ => ⟨q2, q3, h4⟩, fun e => absurd q1 e⟩
  · exact ⟨h4, q1, fun e => absurd e q2, fun _ => q3⟩
/-- how many brackets are open: c0 before the expression, those of the pile -/
def eO (oc : Int32) (W : eL) (c0 : Nat) : Prop := 0 ≤ oc ∧ oc ≤ 40 ∧ oc.toNatClampNeg = c0 + nbr W
theorem eO_U {oc s f : Int32} {W : eL} {c0 : Nat} (h : eO oc W c0) (hs : ¬ (s = 40 ∨ s = 91)) : eO oc ((s, f) :: W) c0 := ⟨h.1, h.2.1, by rw [h.2.2, nbr_cons]; simp [hs]⟩
theorem eO_turn {oc : Int32} {W : eL} {c0 : Nat} (h : eO oc W c0) : eO oc (turnW W) c0 := ⟨h.1, h.2.1, by rw [h.2.2, turn_nbr]⟩
theorem eO_pop {oc l : Int32} {W : eL} {c0 : Nat} (h : eO oc W c0) : eO oc (popW l W) c0 := ⟨h.1, h.2.1, by rw [h.2.2, pop_nbr]⟩
theorem eO_open {oc s f : Int32} {W : eL} {c0 : Nat} (h : eO oc W c0) (h0 : oc ≠ 40) (hs : s = 40 ∨ s = 91) : eO (oc + 1) ((s, f) :: W) c0 ∧ nbr W < 40 := by
  obtain ⟨h1, h2, h3⟩ := h
  have h4 := cn_succ h1 (by grind)
  have h5 : oc.toNatClampNeg < (40 : Int32).toNatClampNeg := cn_lt h1 (by grind)
  have h6 : (40 : Int32).toNatClampNeg = 40 := rfl
  refine ⟨⟨by grind, by grind, ?_⟩, by omega⟩
  rw [h4, h3, nbr_cons]; simp [hs]; omega
theorem eO_40 {oc : Int32} {W : eL} (h : eO oc W 0) (hn : nbr W < 40) : oc ≠ 40 := by
  rintro rfl
  have h6 : (40 : Int32).toNatClampNeg = 40 := rfl
  have := h.2.2
  omega
theorem eO_close {oc : Int32} {x : Int32 × Int32} {W : eL} {c0 : Nat} (h : eO oc (x :: W) c0) (hx : x.1 = 40 ∨ x.1 = 91) : eO (oc - 1) (turnW W) c0 := by
  obtain ⟨h1, h2, h3⟩ := h
  rw [nbr_cons] at h3
  simp only [hx, if_true] at h3
  have h0 : 0 < oc := by
    have := cn_one (x := oc) (n := c0 + nbr W) (by omega)
    grind
  have h4 := cn_pred h0 (by grind)
  refine ⟨by grind, by grind, ?_⟩
  rw [turn_nbr]; omega
/-- what an expression's steps want and keep -/
def eM (mode calls : Int32) (c0 : Nat) : Prop := mode = 0 ∨ (mode = 1 ∧ 1 ≤ calls ∧ calls ≤ 12 ∧ c0 = 0)
abbrev eQ (σ : rS) (B T A : Int32) (c0 : Nat) (st : Int32) : Prop := tK σ B T ∧ pL B T A (σ.1 10) ∧ eM (σ.1 46) (σ.1 58) c0 ∧ tF σ ∧ tN σ ∧ tA σ ∧ σ.1 11 = 0 ∧ σ.1 47 = 0 ∧ eI (σ.1 48) (σ.1 49) (eW σ) st (σ.1 10 - A) ∧ eO (σ.1 13) (eW σ) c0
theorem eI_66 {w v R st : Int32} {W : eL} (h : eI w v W st R) : 0 ≤ w ∧ w < 65600 ∧ 0 ≤ v ∧ v < 65600 := by
  obtain ⟨h1, h2, h3, h4, h5, -, -, -⟩ := h
  exact ⟨h1, by grind, h3, by grind⟩
theorem named_c {C : rCx} (hC : cOK C) (B T A : Int32) (c0 : Nat) {σ : rS}  {Q : Int32 → rS → Prop} (hp : eQ σ B T A c0 0 ∧ rd σ 5 (σ.1 10) = 1 ∧ (σ.1 46 ≠ 0 → ∃ st' a' W', eOp (σ.2.2.1 5) (σ.2.2.1 7) (σ.2.2.1 39) (σ.1 10) (eW σ) st' a' W')) (h : ∀ (v : Int32) (σ' : rS), (((∀ k, k ≠ 10 → k ≠ 11 → k ≠ 12 → k ≠ 13 → k ≠ 48 → k ≠ 49 → σ'.1 k = σ.1 k) ∧ (∀ k,  σ'.2.1 k = σ.2.1 k) ∧ (∀ k, k ≠ 39 → k ≠ 50 → k ≠ 51 → k ≠ 52 → σ'.2.2.1 k = σ.2.2.1 k) ∧ (∀ k j, k ≠ 39 → k ≠ 50 → k ≠ 51 → k ≠ 52 → σ'.2.2.1 k j = σ.2.2.1 k j) ∧ (∀ k j,  σ'.2.2.2 k j = σ.2.2.2 k j)) ∧ tK σ' B T ∧ nb v ∧ (σ.1 46 ≠ 0 → σ'.1 11 = 0 ∧ σ'.2.2.1 39 = σ.2.2.1 39) ∧ (∀ j, j ≠ (σ.1 10).toNatClampNeg → σ'.2.2.1 39 j = σ.2.2.1 39 j) ∧ (σ'.1 11 = 0 → eOp (σ'.2.2.1 5) (σ'.2.2.1 7) (σ'.2.2.1 39) (σ.1 10) (eW σ) v (σ'.1 10) (eW σ') ∧ eI (σ'.1 48) (σ'.1 49) (eW σ') v (σ'.1 10 - A) ∧ eO (σ'.1 13) (eW σ') c0)) → Q v σ') : cI C 4 m_named [.ref (co C)] σ Q := by
  refine m_named_run hC ?_
  unfold w_named_0
  obtain ⟨⟨hK, hL, hM, hF, hN, hA, h11, h47, hI, hO⟩, hs1, hm⟩ := hp
  have h66 := eI_66 hI
  have hm2 := fun e => eOp_at1 (hm e) hs1
  have hj79 : ∀ (l1 : Int32) (l2 : Int32) (τ : rS), (((∀ k, k ≠ 10 → k ≠ 11 → k ≠ 12 → τ.1 k = σ.1 k) ∧ (∀ k,  τ.2.1 k = σ.2.1 k) ∧ (∀ k, k ≠ 39 → τ.2.2.1 k = σ.2.2.1 k) ∧ (∀ k j, k ≠ 39 → τ.2.2.1 k j = σ.2.2.1 k j) ∧ (∀ k j,  τ.2.2.2 k j = σ.2.2.2 k j)) ∧ tK τ B T ∧ l1 = σ.1 10 ∧ (σ.1 46 ≠ 0 → τ.1 11 = 0 ∧ τ.2.2.1 39 = σ.2.2.1 39) ∧ (∀ j, j ≠ (σ.1 10).toNatClampNeg → τ.2.2.1 39 j = σ.2.2.1 39 j) ∧ (τ.1 11 = 0 → τ.1 10 = σ.1 10 + 1 ∧ rd σ 5 (σ.1 10 + 1) ≠ 4 ∧ ¬ sg (σ.2.2.1 5) (σ.2.2.1 7) (σ.1 10 + 1) 40 ∧ (l2 ≠ 0 ↔ sg (σ.2.2.1 5) (σ.2.2.1 7) (σ.1 10 + 1) 91) ∧ (l2 ≠ 0 → validC (rd τ 39 (σ.1 10))) ∧ (l2 = 0 → validV (rd τ 39 (σ.1 10))))) → w_named_79 C Q  l1 l2 τ := by
    rintro y79_1 y79_2 τ79 j79
    unfold w_named_79
    refine isRight_c hC  (fun r1 q3 => ?_)
    refine ⟨fun c4 => ?_, fun c4 => ?_⟩
    · skip
      refine ⟨fun c5 => ?_, fun c5 => ?_⟩
      · skip
        refine ⟨fun c6 => ?_, fun c6 => ?_⟩
        · skip
          refine ⟨ib_131074.mpr ?_, ?_⟩
          · clear h; grind (splits := 30) [tK, eM, sg, nb, validC, validV, tyF, tyN, eB]  -- b1
          refine valueOf_c hC  ?_ (fun r7 q9 => ?_)
          · clear h; grind (splits := 30) [tK, eM, sg, nb, validC, validV, tyF, tyN, eB]  -- p2
          refine push_c hC  ?_ (fun σ_10 q11 => ?_)
          · clear h; grind (splits := 30) [tK, eM, sg, nb, validC, validV, tyF, tyN, eB]  -- p3
          refine h _ _ ?_
          · clear h; have m5 : σ_10.2.2.1 5 = σ.2.2.1 5 := by grind
            have m7 : σ_10.2.2.1 7 = σ.2.2.1 7 := by grind
            have m39 : σ_10.2.2.1 39 = τ79.2.2.1 39 := by grind
            have mW : eW σ_10 = turnW (eW σ) := by grind
            have ma : σ_10.1 10 = σ.1 10 + 1 ∧ σ_10.1 11 = 0 ∧ 0 ≤ σ_10.1 48 ∧ σ_10.1 48 ≤ σ.1 48 ∧ σ_10.1 49 = σ.1 49 + 1 ∧ σ_10.1 13 = σ.1 13 := by grind
            have mv : validV (rd τ79 39 (σ.1 10)) ∧ ¬ sg (σ.2.2.1 5) (σ.2.2.1 7) (σ.1 10 + 1) 40 ∧ ¬ sg (σ.2.2.1 5) (σ.2.2.1 7) (σ.1 10 + 1) 91 ∧ rd σ 5 (σ.1 10 + 1) ≠ 4 := by grind
            have mT : tK σ_10 B T := by grind [tK]
            refine ⟨by grind, mT, nb_1, by grind, by grind, fun _ => ⟨?_, ?_, ?_⟩⟩
            · rw [m5, m7, m39]; exact eOp_name hs1 mv.2.1 mv.2.2.1 mv.1 mv.2.2.2 ma.1 mW
            · rw [mW, ma.2.2.2.2.1, ma.1]
              have u := pL_up hL (k := 1) (Or.inl rfl) (by rw [← ma.1]; exact mT.2.2.2.2.2)
              exact eI_push hI ma.2.2.1 ma.2.2.2.1 u.1 u.2.1
            · rw [mW, ma.2.2.2.2.2]; exact eO_turn hO
        · skip
          refine push_c hC  ?_ (fun σ_12 q13 => ?_)
          · clear h; grind (splits := 30) [tK, eM, sg, nb, validC, validV, tyF, tyN, eB]  -- p5
          refine h _ _ ?_
          · clear h; have m5 : σ_12.2.2.1 5 = σ.2.2.1 5 := by grind
            have m7 : σ_12.2.2.1 7 = σ.2.2.1 7 := by grind
            have m39 : σ_12.2.2.1 39 = τ79.2.2.1 39 := by grind
            have mW : eW σ_12 = turnW (eW σ) := by grind
            have ma : σ_12.1 10 = σ.1 10 + 1 ∧ σ_12.1 11 = 0 ∧ 0 ≤ σ_12.1 48 ∧ σ_12.1 48 ≤ σ.1 48 ∧ σ_12.1 49 = σ.1 49 + 1 ∧ σ_12.1 13 = σ.1 13 := by grind
            have mv : validV (rd τ79 39 (σ.1 10)) ∧ ¬ sg (σ.2.2.1 5) (σ.2.2.1 7) (σ.1 10 + 1) 40 ∧ ¬ sg (σ.2.2.1 5) (σ.2.2.1 7) (σ.1 10 + 1) 91 ∧ rd σ 5 (σ.1 10 + 1) ≠ 4 := by grind
            have mT : tK σ_12 B T := by grind [tK]
            refine ⟨by grind, mT, nb_1, by grind, by grind, fun _ => ⟨?_, ?_, ?_⟩⟩
            · rw [m5, m7, m39]; exact eOp_name hs1 mv.2.1 mv.2.2.1 mv.1 mv.2.2.2 ma.1 mW
            · rw [mW, ma.2.2.2.2.1, ma.1]
              have u := pL_up hL (k := 1) (Or.inl rfl) (by rw [← ma.1]; exact mT.2.2.2.2.2)
              exact eI_push hI ma.2.2.1 ma.2.2.2.1 u.1 u.2.1
            · rw [mW, ma.2.2.2.2.2]; exact eO_turn hO
      · skip
        refine open_c hC B T ?_ (fun σ_14 q15 => ?_)
        · clear h; grind (splits := 30) [tK, eM, sg, nb, validC, validV, tyF, tyN, eB]  -- p7
        refine ⟨ib_131074.mpr ?_, ?_⟩
        · clear h; grind (splits := 30) [tK, eM, sg, nb, validC, validV, tyF, tyN, eB]  -- b8
        refine hold_c hC  ?_ (fun σ_16 q17 => ?_)
        · clear h; grind (splits := 30) [tK, eM, sg, nb, validC, validV, tyF, tyN, eB]  -- p9
        refine h _ _ ?_
        · clear h; have m5 : σ_16.2.2.1 5 = σ.2.2.1 5 := by grind
          have m7 : σ_16.2.2.1 7 = σ.2.2.1 7 := by grind
          have m39 : σ_16.2.2.1 39 = τ79.2.2.1 39 := by grind
          have m0 : τ79.1 11 = 0 := by grind
          have mv : sg (σ.2.2.1 5) (σ.2.2.1 7) (σ.1 10 + 1) 91 ∧ validC (rd τ79 39 (σ.1 10)) ∧ τ79.1 10 = σ.1 10 + 1 := by grind
          have mW : eW σ_16 = (91, rd τ79 39 (σ.1 10)) :: eW σ := by grind
          have mo : σ_14.1 11 = 0 ↔ rd σ 5 (σ.1 10 + 2) ≠ 4 ∧ σ.1 13 ≠ 40 := by grind [sg]
          have k0 : σ.1 46 ≠ 0 → σ_14.1 11 = 0 := by
            intro hm'
            have k1 := eOp_at1 (hm hm') hs1
            have k2 : σ.1 13 ≠ 40 := by
              have : c0 = 0 := by rcases hM with q | q; exact absurd q hm'; exact q.2.2.2
              subst this
              exact eO_40 hO (k1.2.2.1 mv.1).1
            exact mo.mpr ⟨(k1.2.2.1 mv.1).2.2, k2⟩
          have mT : tK σ_16 B T := by grind [tK]
          have ma : σ_14.1 11 = 0 → σ_16.1 10 = σ.1 10 + 2 ∧ σ_16.1 48 = σ.1 48 + 1 ∧ σ_16.1 49 = σ.1 49 ∧ σ_16.1 13 = σ.1 13 + 1 := by grind
          have m11 : σ_16.1 11 = σ_14.1 11 := by grind
          refine ⟨by grind, mT, nb_0, by grind, by grind, fun hf => ?_⟩
          rw [m11] at hf
          have k6 := eO_open (s := 91) (f := rd τ79 39 (σ.1 10)) hO (mo.mp hf).2 (Or.inr rfl)
          refine ⟨?_, ?_, ?_⟩
          · rw [m5, m7, m39]; exact eOp_cell hs1 mv.1 k6.2 mv.2.1 (mo.mp hf).1 (ma hf).1 mW
          · rw [mW, (ma hf).2.1, (ma hf).2.2.1, (ma hf).1]
            have u := pL_up hL (k := 2) (Or.inr rfl) (by rw [← (ma hf).1]; exact mT.2.2.2.2.2)
            exact eI_hold0 hI (Or.inr (Or.inr ⟨rfl, mv.2.1⟩)) u.1 u.2.1
          · rw [mW, (ma hf).2.2.2]; exact k6.1
    · skip
      refine h _ _ ?_
      · clear h; grind (splits := 30) [tK, eM, sg, nb, validC, validV, tyF, tyN, eB]  -- q11
  have hj34 : ∀ (l1 : Int32) (τ : rS), (((∀ k, k ≠ 10 → k ≠ 11 → k ≠ 12 → τ.1 k = σ.1 k) ∧ τ.2 = σ.2) ∧ tK τ B T ∧ l1 = σ.1 10 ∧ (σ.1 46 ≠ 0 → τ.1 11 = 0) ∧ (τ.1 11 = 0 → τ.1 10 = σ.1 10 + 1 ∧ rd σ 5 (σ.1 10 + 1) ≠ 4 ∧ ¬ sg (σ.2.2.1 5) (σ.2.2.1 7) (σ.1 10 + 1) 40)) → w_named_34 C Q  l1 τ := by
    rintro y34_1 τ34 j34
    unfold w_named_34
    refine isRight_c hC  (fun r18 q20 => ?_)
    refine ⟨fun c21 => ?_, fun c21 => ?_⟩
    · skip
      refine isAt_c hC  ?_ (fun r22 q24 => ?_)
      · clear h; grind (splits := 30) [tK, eM, sg, nb, validC, validV, tyF, tyN, eB]  -- p12
      refine ⟨fun c25 => ?_, fun c25 => ?_⟩
      · skip
        refine hj79 _ _ _ ?_
        · clear h; grind (splits := 30) [tK, eM, sg, nb, validC, validV, tyF, tyN, eB]  -- k13
      · skip
        refine ⟨fun c26 => ?_, fun c26 => ?_⟩
        · skip
          refine variableOf_c hC  ?_ (fun r27 q29 => ?_)
          · clear h; grind (splits := 30) [tK, eM, sg, nb, validC, validV, tyF, tyN, eB]  -- p14
          refine look_c hC  ?_ (fun σ_30 q31 => ?_)
          · clear h; grind (splits := 30) [tK, eM, sg, nb, validC, validV, tyF, tyN, eB]  -- p15
          refine hj79 _ _ _ ?_
          · clear h; grind (splits := 30) [tK, eM, sg, nb, validC, validV, tyF, tyN, eB]  -- k16
        · skip
          refine arrayOf_c hC  ?_ (fun r32 q34 => ?_)
          · clear h; grind (splits := 30) [tK, eM, sg, nb, validC, validV, tyF, tyN, eB]  -- p17
          refine look_c hC  ?_ (fun σ_35 q36 => ?_)
          · clear h; grind (splits := 30) [tK, eM, sg, nb, validC, validV, tyF, tyN, eB]  -- p18
          refine hj79 _ _ _ ?_
          · clear h; grind (splits := 30) [tK, eM, sg, nb, validC, validV, tyF, tyN, eB]  -- k19
    · skip
      refine h _ _ ?_
      · clear h; grind (splits := 30) [tK, eM, sg, nb, validC, validV, tyF, tyN, eB]  -- q20
  intro x37 hx37
  refine go_c hC B T ?_ (fun σ_38 q39 => ?_)
  · clear h; grind (splits := 30) [tK, eM, sg, nb, validC, validV, tyF, tyN, eB]  -- p21
  refine isRight_c hC  (fun r40 q42 => ?_)
  refine ⟨fun c43 => ?_, fun c43 => ?_⟩
  · skip
    refine hj34 _ _ ?_
    · clear h; grind (splits := 30) [tK, eM, sg, nb, validC, validV, tyF, tyN, eB]  -- k22
  · skip
    refine isAt_c hC  ?_ (fun r44 q46 => ?_)
    · clear h; grind (splits := 30) [tK, eM, sg, nb, validC, validV, tyF, tyN, eB]  -- p23
    refine ⟨fun c47 => ?_, fun c47 => ?_⟩
    · skip
      refine hj34 _ _ ?_
      · clear h; grind (splits := 30) [tK, eM, sg, nb, validC, validV, tyF, tyN, eB]  -- k24
    · skip
      refine flaw_c hC  ?_ (fun σ_48 q49 => ?_)
      · clear h; grind (splits := 30) [tK, eM, sg, nb, validC, validV, tyF, tyN, eB]  -- p25
      refine hj34 _ _ ?_
      · clear h; grind (splits := 30) [tK, eM, sg, nb, validC, validV, tyF, tyN, eB]  -- k26

end
section
set_option maxHeartbeats 1600000
/-! the reference: an operand -/
theorem eOp_inv {S N R : Nat → Int32} {a : Int32} {W : eL} (h : ∃ st' a' W', eOp S N R a W st' a' W') : (sg S N a 33 ∨ sg S N a 45 ∨ sg S N a 40 ∨ S a.toNatClampNeg = 2 ∨ S a.toNatClampNeg = 1) ∧ (S a.toNatClampNeg ≠ 1 → S (a + 1).toNatClampNeg ≠ 4) ∧ (sg S N a 40 → nbr W < 40) := by
  obtain ⟨st', a', W', h4, ho⟩ := h
  rcases ho with ⟨q, -, rfl, -⟩ | ⟨q, -, rfl, -⟩ | ⟨q, q2, -, rfl, -⟩ | ⟨q, -, rfl, -⟩ | ⟨q, -⟩ | ⟨q, -⟩
  · exact ⟨Or.inl q, fun _ => h4, fun e => absurd (q.2.symm.trans e.2) (by decide)⟩
  · exact ⟨Or.inr (Or.inl q), fun _ => h4, fun e => absurd (q.2.symm.trans e.2) (by decide)⟩
  · exact ⟨Or.inr (Or.inr (Or.inl q)), fun _ => h4, fun _ => q2⟩
  · exact ⟨Or.inr (Or.inr (Or.inr (Or.inl q))), fun _ => h4, fun e => absurd (q.symm.trans e.1) (by decide)⟩
  · exact ⟨Or.inr (Or.inr (Or.inr (Or.inr q))), fun e => absurd q e, fun e => absurd (q.symm.trans e.1) (by decide)⟩
  · exact ⟨Or.inr (Or.inr (Or.inr (Or.inr q))), fun e => absurd q e, fun e => absurd (q.symm.trans e.1) (by decide)⟩
theorem operand_c {C : rCx} (hC : cOK C) (B T A : Int32) (c0 : Nat) {σ : rS}  {Q : Int32 → rS → Prop} (hp : eQ σ B T A c0 0 ∧ (σ.1 46 ≠ 0 → ∃ st' a' W', eOp (σ.2.2.1 5) (σ.2.2.1 7) (σ.2.2.1 39) (σ.1 10) (eW σ) st' a' W')) (h : ∀ (v : Int32) (σ' : rS), (((∀ k, k ≠ 10 → k ≠ 11 → k ≠ 12 → k ≠ 13 → k ≠ 48 → k ≠ 49 → σ'.1 k = σ.1 k) ∧ (∀ k,  σ'.2.1 k = σ.2.1 k) ∧ (∀ k, k ≠ 39 → k ≠ 50 → k ≠ 51 → k ≠ 52 → σ'.2.2.1 k = σ.2.2.1 k) ∧ (∀ k j, k ≠ 39 → k ≠ 50 → k ≠ 51 → k ≠ 52 → σ'.2.2.1 k j = σ.2.2.1 k j) ∧ (∀ k j,  σ'.2.2.2 k j = σ.2.2.2 k j)) ∧ tK σ' B T ∧ nb v ∧ (σ.1 46 ≠ 0 → σ'.1 11 = 0 ∧ σ'.2.2.1 39 = σ.2.2.1 39) ∧ (∀ j, j ≠ (σ.1 10).toNatClampNeg → σ'.2.2.1 39 j = σ.2.2.1 39 j) ∧ (σ'.1 11 = 0 → eOp (σ'.2.2.1 5) (σ'.2.2.1 7) (σ'.2.2.1 39) (σ.1 10) (eW σ) v (σ'.1 10) (eW σ') ∧ eI (σ'.1 48) (σ'.1 49) (eW σ') v (σ'.1 10 - A) ∧ eO (σ'.1 13) (eW σ') c0)) → Q v σ') : cI C 5 m_operand [.ref (co C)] σ Q := by
  refine m_operand_run hC ?_
  unfold w_operand_0
  obtain ⟨⟨hK, hL, hM, hF, hN, hA, h11, h47, hI, hO⟩, hm⟩ := hp
  have h66 := eI_66 hI
  have hm2 := fun e => eOp_inv (hm e)
  have hj37 : ∀ (s1 : Int32) (τ : rS), (σ = τ ∧ ((s1 = 1000 ∧ sg (σ.2.2.1 5) (σ.2.2.1 7) (σ.1 10) 33) ∨ (s1 = 1001 ∧ sg (σ.2.2.1 5) (σ.2.2.1 7) (σ.1 10) 45))) → w_operand_37 C Q  s1 τ := by
    rintro y37_s1 _ ⟨rfl, j37⟩
    unfold w_operand_37
    refine hold_c hC  ?_ (fun σ_1 q2 => ?_)
    · clear h; grind (splits := 30) [tK, eM, sg, nb, isU]  -- p1
    refine go_c hC B T ?_ (fun σ_3 q4 => ?_)
    · clear h; grind (splits := 30) [tK, eM, sg, nb, isU]  -- p2
    refine h _ _ ?_
    · clear h; have m5 : σ_3.2.2.1 5 = σ.2.2.1 5 := by grind
      have m7 : σ_3.2.2.1 7 = σ.2.2.1 7 := by grind
      have m39 : σ_3.2.2.1 39 = σ.2.2.1 39 := by grind
      have mW : eW σ_3 = (y37_s1, 0) :: eW σ := by grind
      have mT : tK σ_3 B T := by grind [tK]
      have m11 : σ_3.1 11 = 0 ↔ rd σ 5 (σ.1 10 + 1) ≠ 4 := by grind
      have ma : σ_3.1 10 = σ.1 10 + 1 ∧ σ_3.1 48 = σ.1 48 + 1 ∧ σ_3.1 49 = σ.1 49 ∧ σ_3.1 13 = σ.1 13 := by grind
      refine ⟨by grind, mT, nb_0, fun e => ⟨m11.mpr ((hm2 e).2.1 (by grind [sg])), m39⟩, by grind, fun hf => ⟨?_, ?_, ?_⟩⟩
      · rw [m5, m7, m39]
        rcases j37 with ⟨rfl, q⟩ | ⟨rfl, q⟩
        · exact eOp_not q (m11.mp hf) ma.1 mW
        · exact eOp_less q (m11.mp hf) ma.1 mW
      · rw [mW, ma.2.1, ma.2.2.1, ma.1]
        have u := pL_up hL (k := 1) (Or.inl rfl) (by rw [← ma.1]; exact mT.2.2.2.2.2)
        exact eI_hold0 hI (Or.inr (Or.inl (by rcases j37 with ⟨rfl, q⟩ | ⟨rfl, q⟩; exact Or.inl rfl; exact Or.inr rfl))) u.1 u.2.1
      · rw [mW, ma.2.2.2]
        exact eO_U hO (by rcases j37 with ⟨rfl, -⟩ | ⟨rfl, -⟩ <;> decide)
  have hj18 : ∀  (τ : rS), (σ = τ ∧ (sg (σ.2.2.1 5) (σ.2.2.1 7) (σ.1 10) 33 ∨ sg (σ.2.2.1 5) (σ.2.2.1 7) (σ.1 10) 45)) → w_operand_18 C Q   τ := by
    rintro  _ ⟨rfl, j18⟩
    unfold w_operand_18
    refine isAt_c hC  ?_ (fun r5 q7 => ?_)
    · clear h; grind (splits := 30) [tK, eM, sg, nb, isU]  -- p4
    refine ⟨fun c8 => ?_, fun c8 => ?_⟩
    · skip
      refine hj37 _ _ ?_
      · clear h; grind (splits := 30) [tK, eM, sg, nb, isU]  -- k5
    · skip
      refine hj37 _ _ ?_
      · clear h; grind (splits := 30) [tK, eM, sg, nb, isU]  -- k6
  refine isAt_c hC  ?_ (fun r9 q11 => ?_)
  · clear h; grind (splits := 30) [tK, eM, sg, nb, isU]  -- p7
  refine ⟨fun c12 => ?_, fun c12 => ?_⟩
  · skip
    refine hj18 _ ?_
    · clear h; grind (splits := 30) [tK, eM, sg, nb, isU]  -- k8
  · skip
    refine isAt_c hC  ?_ (fun r13 q15 => ?_)
    · clear h; grind (splits := 30) [tK, eM, sg, nb, isU]  -- p9
    refine ⟨fun c16 => ?_, fun c16 => ?_⟩
    · skip
      refine isAt_c hC  ?_ (fun r17 q19 => ?_)
      · clear h; grind (splits := 30) [tK, eM, sg, nb, isU]  -- p10
      refine ⟨fun c20 => ?_, fun c20 => ?_⟩
      · skip
        refine ⟨ib_131074.mpr ?_, ?_⟩
        · clear h; grind (splits := 30) [tK, eM, sg, nb, isU]  -- b11
        refine ⟨fun c21 => ?_, fun c21 => ?_⟩
        · skip
          refine ⟨ib_131074.mpr ?_, ?_⟩
          · clear h; grind (splits := 30) [tK, eM, sg, nb, isU]  -- b12
          refine ⟨fun c22 => ?_, fun c22 => ?_⟩
          · skip
            refine named_c hC B T A c0 ?_ (fun r23 σ_24 q25 => ?_)
            · clear h; exact ⟨⟨hK, hL, hM, hF, hN, hA, h11, h47, hI, hO⟩, c22, hm⟩  -- p13
            refine ⟨?_, h _ _ ?_⟩
            · clear h; exact q25.2.2.1  -- b14
            · clear h; exact q25  -- q15
          · skip
            refine flaw_c hC  ?_ (fun σ_26 q27 => ?_)
            · clear h; grind (splits := 30) [tK, eM, sg, nb, isU]  -- p16
            refine h _ _ ?_
            · clear h; grind (splits := 30) [tK, eM, sg, nb, isU]  -- q17
        · skip
          refine ⟨ib_131074.mpr ?_, ?_⟩
          · clear h; grind (splits := 30) [tK, eM, sg, nb, isU]  -- b18
          intro x28 hx28
          refine go_c hC B T ?_ (fun σ_29 q30 => ?_)
          · clear h; grind (splits := 30) [tK, eM, sg, nb, isU]  -- p19
          refine push_c hC  ?_ (fun σ_31 q32 => ?_)
          · clear h; grind (splits := 30) [tK, eM, sg, nb, isU]  -- p20
          refine h _ _ ?_
          · clear h; have m5 : σ_31.2.2.1 5 = σ.2.2.1 5 := by grind
            have m7 : σ_31.2.2.1 7 = σ.2.2.1 7 := by grind
            have m39 : σ_31.2.2.1 39 = σ.2.2.1 39 := by grind
            have mW : eW σ_31 = turnW (eW σ) := by grind
            have mT : tK σ_31 B T := by grind [tK]
            have m11 : σ_31.1 11 = 0 ↔ rd σ 5 (σ.1 10 + 1) ≠ 4 := by grind
            have ma : σ_31.1 10 = σ.1 10 + 1 ∧ 0 ≤ σ_31.1 48 ∧ σ_31.1 48 ≤ σ.1 48 ∧ σ_31.1 49 = σ.1 49 + 1 ∧ σ_31.1 13 = σ.1 13 := by grind
            refine ⟨by grind, mT, nb_1, fun e => ⟨m11.mpr ((hm2 e).2.1 (by grind)), m39⟩, by grind, fun hf => ⟨?_, ?_, ?_⟩⟩
            · rw [m5, m7, m39]; exact eOp_num c21 (m11.mp hf) ma.1 mW
            · rw [mW, ma.2.2.2.1, ma.1]
              have u := pL_up hL (k := 1) (Or.inl rfl) (by rw [← ma.1]; exact mT.2.2.2.2.2)
              exact eI_push hI ma.2.1 ma.2.2.1 u.1 u.2.1
            · rw [mW, ma.2.2.2.2]; exact eO_turn hO
      · skip
        refine open_c hC B T ?_ (fun σ_33 q34 => ?_)
        · clear h; grind (splits := 30) [tK, eM, sg, nb, isU]  -- p22
        refine hold_c hC  ?_ (fun σ_35 q36 => ?_)
        · clear h; grind (splits := 30) [tK, eM, sg, nb, isU]  -- p23
        refine h _ _ ?_
        · clear h; have m5 : σ_35.2.2.1 5 = σ.2.2.1 5 := by grind
          have m7 : σ_35.2.2.1 7 = σ.2.2.1 7 := by grind
          have m39 : σ_35.2.2.1 39 = σ.2.2.1 39 := by grind
          have mW : eW σ_35 = (40, 0) :: eW σ := by grind
          have mT : tK σ_35 B T := by grind [tK]
          have ms : sg (σ.2.2.1 5) (σ.2.2.1 7) (σ.1 10) 40 := by grind [sg]
          have mo : σ_33.1 11 = 0 ↔ rd σ 5 (σ.1 10 + 1) ≠ 4 ∧ σ.1 13 ≠ 40 := by grind [sg]
          have m11 : σ_35.1 11 = σ_33.1 11 := by grind
          have ma : σ_33.1 11 = 0 → σ_35.1 10 = σ.1 10 + 1 ∧ σ_35.1 48 = σ.1 48 + 1 ∧ σ_35.1 49 = σ.1 49 ∧ σ_35.1 13 = σ.1 13 + 1 := by grind
          have k0 : σ.1 46 ≠ 0 → σ_35.1 11 = 0 := by
            intro hm'
            have k2 : σ.1 13 ≠ 40 := by
              have : c0 = 0 := by rcases hM with q | q; exact absurd q hm'; exact q.2.2.2
              subst this
              exact eO_40 hO ((hm2 hm').2.2 ms)
            exact m11.trans (mo.mpr ⟨(hm2 hm').2.1 (by grind [sg]), k2⟩)
          refine ⟨by grind, mT, nb_0, fun e => ⟨k0 e, m39⟩, by grind, fun hf => ?_⟩
          rw [m11] at hf
          have k6 := eO_open (s := 40) (f := 0) hO (mo.mp hf).2 (Or.inl rfl)
          refine ⟨?_, ?_, ?_⟩
          · rw [m5, m7, m39]; exact eOp_par ms k6.2 (mo.mp hf).1 (ma hf).1 mW
          · rw [mW, (ma hf).2.1, (ma hf).2.2.1, (ma hf).1]
            have u := pL_up hL (k := 1) (Or.inl rfl) (by rw [← (ma hf).1]; exact mT.2.2.2.2.2)
            exact eI_hold0 hI (Or.inl rfl) u.1 u.2.1
          · rw [mW, (ma hf).2.2.2]; exact k6.1
    · skip
      refine hj18 _ ?_
      · clear h; grind (splits := 30) [tK, eM, sg, nb, isU]  -- k25

end
section
set_option maxHeartbeats 1600000
/-! the reference: what comes behind an operand -/
abbrev eP1 (S N : Nat → Int32) (a : Int32) (W : eL) : eL := popW (eLv (eRk S N a)) W
theorem eBh_inv {S N : Nat → Int32} {a : Int32} {W : eL} (h : ∃ st' a' W', eBh S N a W st' a' W') : (eGo (eRk S N a) (eP1 S N a W) → S (a + 1).toNatClampNeg ≠ 4) ∧ (¬ eGo (eRk S N a) (eP1 S N a W) → ∀ x W2, popW 1 (eP1 S N a W) = x :: W2 → (x.1 = 40 → sg S N a 41) ∧ (x.1 ≠ 40 → sg S N a 93) ∧ S (a + 1).toNatClampNeg ≠ 4) := by
  obtain ⟨st', a', W', ho⟩ := h
  rcases ho with ⟨h1, h2, -, rfl, -⟩ | ⟨h2, ⟨h1, -⟩ | ⟨h1, h3, -, rfl, f, W2, h4, -⟩ | ⟨h1, h3, -, rfl, f, W2, h4, -⟩⟩
  · exact ⟨fun _ => h1, fun e => absurd h2 e⟩
  · refine ⟨fun e => absurd e h2, fun _ x W2 e => ?_⟩
    rw [h1] at e; cases e
  · refine ⟨fun e => absurd e h2, fun _ x W2 e => ?_⟩
    rw [h4] at e; cases e
    exact ⟨fun _ => h3, fun e => absurd rfl e, h1⟩
  · refine ⟨fun e => absurd e h2, fun _ x W2 e => ?_⟩
    rw [h4] at e; cases e
    exact ⟨fun e => absurd (show (91 : Int32) = 40 from e) (by decide), fun _ => h3, h1⟩
theorem eBh_go {S N : Nat → Int32} {a a' : Int32} {W W' : eL} (h : eGo (eRk S N a) (eP1 S N a W)) (h4 : S (a + 1).toNatClampNeg ≠ 4) (ha : a' = a + 1) (hW : W' = (N a.toNatClampNeg, 0) :: eP1 S N a W) : eBh S N a W 0 a' W' := by
  subst ha; exact Or.inl ⟨h4, h, rfl, rfl, hW⟩
theorem eBh_end {S N : Nat → Int32} {a a' : Int32} {W W' : eL} (h : ¬ eGo (eRk S N a) (eP1 S N a W)) (h1 : popW 1 (eP1 S N a W) = []) (ha : a' = a) (hW : W' = []) : eBh S N a W 2 a' W' := Or.inr ⟨h, Or.inl ⟨h1, rfl, ha, hW⟩⟩
theorem eBh_40 {S N : Nat → Int32} {a a' f : Int32} {W W' W2 : eL} (h : ¬ eGo (eRk S N a) (eP1 S N a W)) (h1 : popW 1 (eP1 S N a W) = (40, f) :: W2) (hs : sg S N a 41) (h4 : S (a + 1).toNatClampNeg ≠ 4) (ha : a' = a + 1) (hW : W' = turnW W2) : eBh S N a W 1 a' W' := by
  subst ha; exact Or.inr ⟨h, Or.inr (Or.inl ⟨h4, hs, rfl, rfl, f, W2, h1, hW⟩)⟩
theorem eBh_91 {S N : Nat → Int32} {a a' f : Int32} {W W' W2 : eL} (h : ¬ eGo (eRk S N a) (eP1 S N a W)) (h1 : popW 1 (eP1 S N a W) = (91, f) :: W2) (hs : sg S N a 93) (h4 : S (a + 1).toNatClampNeg ≠ 4) (ha : a' = a + 1) (hW : W' = turnW W2) : eBh S N a W 1 a' W' := by
  subst ha; exact Or.inr ⟨h, Or.inr (Or.inr ⟨h4, hs, rfl, rfl, f, W2, h1, hW⟩)⟩
theorem eLv_pos {r : Int32} : 1 ≤ eLv r := by unfold eLv; grind
theorem eRk_pos {S N : Nat → Int32} {a : Int32} (h : 0 < eRk S N a) : S a.toNatClampNeg = 3 ∧ 0 < rk (N a.toNatClampNeg) := by
  unfold eRk at h
  split at h
  · next q => exact ⟨q, h⟩
  · exact absurd h (by decide)
theorem eO_pop2 {oc : Int32} {W : eL} {c0 : Nat} {l m : Int32} (h : eO oc W c0) : eO oc (popW l (popW m W)) c0 := eO_pop (eO_pop h)
theorem behind_c {C : rCx} (hC : cOK C) (B T A : Int32) (c0 : Nat) {σ : rS}  {Q : Int32 → rS → Prop} (hp : eQ σ B T A c0 1 ∧ (σ.1 46 ≠ 0 → ∃ st' a' W', eBh (σ.2.2.1 5) (σ.2.2.1 7) (σ.1 10) (eW σ) st' a' W')) (h : ∀ (v : Int32) (σ' : rS), (((∀ k, k ≠ 10 → k ≠ 11 → k ≠ 12 → k ≠ 13 → k ≠ 47 → k ≠ 48 → k ≠ 49 → σ'.1 k = σ.1 k) ∧ (∀ k,  σ'.2.1 k = σ.2.1 k) ∧ (∀ k, k ≠ 50 → k ≠ 51 → k ≠ 52 → σ'.2.2.1 k = σ.2.2.1 k) ∧ (∀ k j, k ≠ 50 → k ≠ 51 → k ≠ 52 → σ'.2.2.1 k j = σ.2.2.1 k j) ∧ (∀ k j,  σ'.2.2.2 k j = σ.2.2.2 k j)) ∧ tK σ' B T ∧ (v = 0 ∨ v = 1 ∨ v = 2) ∧ (σ.1 46 = 0 → σ'.1 47 = 0) ∧ (σ.1 46 ≠ 0 → σ'.1 47 = 0 → σ'.1 11 = 0) ∧ (σ'.1 11 = 0 → σ'.1 47 = 0 → eBh (σ.2.2.1 5) (σ.2.2.1 7) (σ.1 10) (eW σ) v (σ'.1 10) (eW σ') ∧ (v ≠ 2 → eI (σ'.1 48) (σ'.1 49) (eW σ') v (σ'.1 10 - A)) ∧ eO (σ'.1 13) (eW σ') c0)) → Q v σ') : cI C 5 m_behind [.ref (co C)] σ Q := by
  refine m_behind_run hC ?_
  unfold w_behind_0
  obtain ⟨⟨hK, hL, hM, hF, hN, hA, h11, h47, hI, hO⟩, hm⟩ := hp
  have h66 := eI_66 hI
  have hm2 := fun e => eBh_inv (hm e)
  have hj245 : ∀  (τ : rS), (((∀ k, k ≠ 10 → k ≠ 11 → k ≠ 12 → k ≠ 13 → k ≠ 47 → k ≠ 48 → k ≠ 49 → τ.1 k = σ.1 k) ∧ (∀ k,  τ.2.1 k = σ.2.1 k) ∧ (∀ k, k ≠ 52 → τ.2.2.1 k = σ.2.2.1 k) ∧ (∀ k j, k ≠ 52 → τ.2.2.1 k j = σ.2.2.1 k j) ∧ (∀ k j,  τ.2.2.2 k j = σ.2.2.2 k j)) ∧ tK τ B T ∧ 0 ≤ τ.1 48 ∧ τ.1 48 ≤ 65600 ∧ 1 ≤ τ.1 49 ∧ τ.1 49 ≤ 65600 ∧ (σ.1 46 = 0 → τ.1 47 = 0) ∧ (σ.1 46 ≠ 0 → τ.1 47 = 0 → τ.1 11 = 0) ∧ (τ.1 11 = 0 → τ.1 47 = 0 → ¬ eGo (eRk (σ.2.2.1 5) (σ.2.2.1 7) (σ.1 10)) (eP1 (σ.2.2.1 5) (σ.2.2.1 7) (σ.1 10) (eW σ)) ∧ sg (σ.2.2.1 5) (σ.2.2.1 7) (σ.1 10) 93 ∧ rd σ 5 (σ.1 10 + 1) ≠ 4 ∧ τ.1 10 = σ.1 10 + 1 ∧ τ.1 13 = σ.1 13 - 1 ∧ ∃ f, popW 1 (eP1 (σ.2.2.1 5) (σ.2.2.1 7) (σ.1 10) (eW σ)) = (91, f) :: eW τ ∧ eI (τ.1 48 + 1) (τ.1 49) ((91, f) :: eW τ) 1 (σ.1 10 - A))) → w_behind_245 C Q   τ := by
    rintro  τ245 j245
    unfold w_behind_245
    refine goesOn_c hC  (fun r1 q3 => ?_)
    refine ⟨fun c4 => ?_, fun c4 => ?_⟩
    · skip
      refine h _ _ ?_
      · clear h; grind (splits := 30) [tK, eM, sg, nb, isU]  -- q1
    · skip
      refine turn_c hC  ?_ (fun σ_5 q6 => ?_)
      · clear h; grind (splits := 30) [tK, eM, sg, nb, isU]  -- p2
      refine h _ _ ?_
      · clear h; obtain ⟨jf, jT, j1, j2, j3, j4, j5, j6, j7⟩ := j245
        have g : τ245.1 11 = 0 ∧ τ245.1 47 = 0 := by grind
        obtain ⟨n1, n2, n3, n4, n5, f, n6, n7⟩ := j7 g.1 g.2
        have mW : eW σ_5 = turnW (eW τ245) := q6.2.1
        have ma : σ_5.1 10 = σ.1 10 + 1 ∧ σ_5.1 49 = τ245.1 49 ∧ σ_5.1 13 = σ.1 13 - 1 ∧ 0 ≤ σ_5.1 48 ∧ σ_5.1 48 ≤ τ245.1 48 + 1 := by clear j7 n7 hm hm2 hI hO; grind
        have mT : tK σ_5 B T := by grind [tK]
        have u := pL_up hL (k := 1) (Or.inl rfl) (by rw [← ma.1]; exact mT.2.2.2.2.2)
        refine ⟨by grind, mT, Or.inr (Or.inl rfl), by grind, by grind, fun _ _ => ⟨eBh_91 n1 n6 n2 n3 ma.1 mW, fun _ => ?_, ?_⟩⟩
        · rw [mW, ma.2.1, ma.1]
          exact eI_close n7 (Or.inr rfl) ma.2.2.2.1 ma.2.2.2.2 (Int32.le_of_lt u.1) u.2.1
        · rw [mW, ma.2.2.1]
          have o := eO_pop2 (l := 1) (m := eLv (eRk (σ.2.2.1 5) (σ.2.2.1 7) (σ.1 10))) hO
          rw [n6] at o
          exact eO_close o (Or.inr rfl)
  have hj216 : ∀ (l3 : Int32) (s1 : Int32) (τ : rS), (((l3 = -1 ∨ (0 ≤ l3 ∧ l3 < 34)) ∧ 0 ≤ s1) ∧ σ.1 46 ≠ 0 ∧ ((∀ k, k ≠ 10 → k ≠ 11 → k ≠ 12 → k ≠ 13 → k ≠ 47 → k ≠ 48 → k ≠ 49 → τ.1 k = σ.1 k) ∧ (∀ k,  τ.2.1 k = σ.2.1 k) ∧ (∀ k, k ≠ 52 → τ.2.2.1 k = σ.2.2.1 k) ∧ (∀ k j, k ≠ 52 → τ.2.2.1 k j = σ.2.2.1 k j) ∧ (∀ k j,  τ.2.2.2 k j = σ.2.2.2 k j)) ∧ tK τ B T ∧ 0 ≤ τ.1 48 ∧ τ.1 48 ≤ 65600 ∧ 1 ≤ τ.1 49 ∧ τ.1 49 ≤ 65600 ∧ (τ.1 47 = 0 → τ.1 11 = 0) ∧ τ.1 47 = 0 ∧ (τ.1 11 = 0 → τ.1 47 = 0 → ¬ eGo (eRk (σ.2.2.1 5) (σ.2.2.1 7) (σ.1 10)) (eP1 (σ.2.2.1 5) (σ.2.2.1 7) (σ.1 10) (eW σ)) ∧ sg (σ.2.2.1 5) (σ.2.2.1 7) (σ.1 10) 93 ∧ rd σ 5 (σ.1 10 + 1) ≠ 4 ∧ τ.1 10 = σ.1 10 + 1 ∧ τ.1 13 = σ.1 13 - 1 ∧ ∃ f, popW 1 (eP1 (σ.2.2.1 5) (σ.2.2.1 7) (σ.1 10) (eW σ)) = (91, f) :: eW τ ∧ eI (τ.1 48 + 1) (τ.1 49) ((91, f) :: eW τ) 1 (σ.1 10 - A))) → w_behind_216 C Q  l3 s1 τ := by
    rintro y216_3 y216_s1 τ216 j216
    unfold w_behind_216
    intro σ_7 hσ_7
    refine ⟨fun c8 => ?_, fun c8 => ?_⟩
    · skip
      refine ⟨ib_34.mpr ?_, ?_⟩
      · clear h; grind (splits := 30) [tK, eM, sg, nb, isU]  -- b4
      refine ⟨ib_66000.mpr ?_, ?_⟩
      · clear h; grind [si1, ri1]  -- b5
      intro σ_9 hσ_9
      refine hj245 _ ?_
      · clear h; obtain ⟨jl, jm, jf, jT, j1, j2, j3, j4, j5, j6, j7⟩ := j216
        have mW : eW σ_9 = eW τ216 := by grind [si1, si2, ri1, ri3]
        have me : σ_9.1 48 = τ216.1 48 ∧ σ_9.1 49 = τ216.1 49 ∧ σ_9.1 10 = τ216.1 10 ∧ σ_9.1 13 = τ216.1 13 ∧ σ_9.1 11 = τ216.1 11 := by grind [si1, si2, ri1]
        refine ⟨by grind [si1, si2, ri1, ri2, ri3, ri34, ri5], by grind [tK, si1, si2, ri1, ri34], by rw [me.1]; exact j1, by rw [me.1]; exact j2, by rw [me.2.1]; exact j3, by rw [me.2.1]; exact j4, fun e => absurd e jm, fun _ _ => by rw [me.2.2.2.2]; exact j5 j6, fun e1 _ => ?_⟩
        rw [mW, me.1, me.2.1, me.2.2.1, me.2.2.2.1]
        exact j7 (by rw [← me.2.2.2.2]; exact e1) j6
    · skip
      refine ⟨ib_66000.mpr ?_, ?_⟩
      · clear h; grind [si1, ri1]  -- b7
      intro σ_10 hσ_10
      refine hj245 _ ?_
      · clear h; obtain ⟨jl, jm, jf, jT, j1, j2, j3, j4, j5, j6, j7⟩ := j216
        have mW : eW σ_10 = eW τ216 := by grind [si1, si2, ri1, ri3]
        have me : σ_10.1 48 = τ216.1 48 ∧ σ_10.1 49 = τ216.1 49 ∧ σ_10.1 10 = τ216.1 10 ∧ σ_10.1 13 = τ216.1 13 ∧ σ_10.1 11 = τ216.1 11 := by grind [si1, si2, ri1]
        refine ⟨by grind [si1, si2, ri1, ri2, ri3, ri34, ri5], by grind [tK, si1, si2, ri1, ri34], by rw [me.1]; exact j1, by rw [me.1]; exact j2, by rw [me.2.1]; exact j3, by rw [me.2.1]; exact j4, fun e => absurd e jm, fun _ _ => by rw [me.2.2.2.2]; exact j5 j6, fun e1 _ => ?_⟩
        rw [mW, me.1, me.2.1, me.2.2.1, me.2.2.2.1]
        exact j7 (by rw [← me.2.2.2.2]; exact e1) j6
  have hj93 : ∀  (τ : rS), (((∀ k, k ≠ 47 → k ≠ 48 → k ≠ 49 → τ.1 k = σ.1 k) ∧ (∀ k,  τ.2.1 k = σ.2.1 k) ∧ (∀ k, k ≠ 52 → τ.2.2.1 k = σ.2.2.1 k) ∧ (∀ k j, k ≠ 52 → τ.2.2.1 k j = σ.2.2.1 k j) ∧ (∀ k j,  τ.2.2.2 k j = σ.2.2.2 k j)) ∧ eI (τ.1 48) (τ.1 49) (eW τ) 1 (σ.1 10 - A) ∧ ((σ.1 46 = 0 → τ.1 47 = 0) ∧ 0 ≤ τ.1 47) ∧ (τ.1 47 = 0 → eW τ = eP1 (σ.2.2.1 5) (σ.2.2.1 7) (σ.1 10) (eW σ) ∧ ¬ eGo (eRk (σ.2.2.1 5) (σ.2.2.1 7) (σ.1 10)) (eW τ))) → w_behind_93 C Q   τ := by
    rintro  τ93 j93
    unfold w_behind_93
    refine settle_c hC (σ.1 10 - A) ?_ (fun σ_11 q12 => ?_)
    · clear h; exact ⟨by decide, j93.2.1⟩  -- p9
    refine goesOn_c hC  (fun r13 q15 => ?_)
    refine ⟨fun c16 => ?_, fun c16 => ?_⟩
    · skip
      refine h _ _ ?_
      · clear h; grind (splits := 30) [tK, eM, sg, nb, isU]  -- q10
    · skip
      refine ⟨fun c17 => ?_, fun c17 => ?_⟩
      · skip
        refine top_c hC  ?_ (fun r18 q20 => ?_)
        · clear h; have := eI_66 q12.2.1
          clear hm hm2 hI hO; grind
        have g : σ_11.1 11 = 0 ∧ σ_11.1 47 = 0 := by grind
        have g2 : τ93.1 47 = 0 := by
          by_cases e : τ93.1 47 = 0
          · exact e
          · have e2 := q12.2.2.2.2.1 e
            rw [e2] at g
            exact absurd g.2 e
        obtain ⟨g3, g4⟩ := j93.2.2.2 g2
        rw [g3] at g4
        have g5 : eW σ_11 = popW 1 (eP1 (σ.2.2.1 5) (σ.2.2.1 7) (σ.1 10) (eW σ)) := by rw [← g3]; exact q12.2.2.2.1 (by grind) g.2
        have g66 := eI_66 q12.2.1
        have g6 : 0 < σ_11.1 48 := by grind
        have g7 := eLst_cons (n := σ_11.1 48) (w := σ_11.2.2.1 50) (r := σ_11.2.2.1 51) g6 (by grind)
        have g8 : rk (tp (eW σ_11)) ≤ 0 := by rw [g5]; exact pop_rk (by decide)
        have g9 : eI (σ_11.1 48) (σ_11.1 49) ((rd σ_11 50 (σ_11.1 48 - 1), rd σ_11 51 (σ_11.1 48 - 1)) :: eLst (σ_11.1 48 - 1).toNatClampNeg (σ_11.2.2.1 50) (σ_11.2.2.1 51)) 1 (σ.1 10 - A) := by rw [← g7]; exact q12.2.1
        have g8' : rk (tp (eLst (σ_11.1 48).toNatClampNeg (σ_11.2.2.1 50) (σ_11.2.2.1 51))) ≤ 0 := g8
        have g10 := eI_br g9 (by rw [g7] at g8'; exact g8')
        have g11 : r18 = rd σ_11 50 (σ_11.1 48 - 1) := by rw [q20]; show tp (eLst (σ_11.1 48).toNatClampNeg (σ_11.2.2.1 50) (σ_11.2.2.1 51)) = _; rw [g7]; rfl
        have g12 : 1 ≤ σ_11.1 49 := cn_one (n := nbn (eW σ_11)) q12.2.1.2.2.2.2.2.1
        have g13 : popW 1 (eP1 (σ.2.2.1 5) (σ.2.2.1 7) (σ.1 10) (eW σ)) = (rd σ_11 50 (σ_11.1 48 - 1), rd σ_11 51 (σ_11.1 48 - 1)) :: eLst (σ_11.1 48 - 1).toNatClampNeg (σ_11.2.2.1 50) (σ_11.2.2.1 51) := by rw [← g5]; exact g7
        have g14 := fun e => (hm2 e).2 g4 _ _ g13
        have g15 : σ_11.1 10 = σ.1 10 ∧ σ_11.1 13 = σ.1 13 ∧ σ_11.2.2.1 5 = σ.2.2.1 5 ∧ σ_11.2.2.1 7 = σ.2.2.1 7 ∧ σ_11.1 46 = σ.1 46 := by grind
        clear g5 g7 g8 g8' g3 g2
        refine ⟨fun c21 => ?_, fun c21 => ?_⟩
        · skip
          refine close_c hC B T ?_ (fun σ_22 q23 => ?_)
          · clear h; grind (splits := 30) [tK, eM, sg, nb, isU]  -- p12
          have m1 : σ_22.1 11 = 0 ↔ sg (σ.2.2.1 5) (σ.2.2.1 7) (σ.1 10) 93 ∧ rd σ 5 (σ.1 10 + 1) ≠ 4 := by clear hm hm2 hI hO g9 g10 g13 g14; grind [sg]
          have m0 : rd σ_11 50 (σ_11.1 48 - 1) ≠ 40 := by rw [← g11]; exact c21
          have m2 : σ.1 46 ≠ 0 → σ_22.1 11 = 0 := fun e => m1.mpr ⟨(g14 e).2.1 m0, (g14 e).2.2⟩
          have m3 : rd σ_11 50 (σ_11.1 48 - 1) = 91 ∧ validC (rd σ_11 51 (σ_11.1 48 - 1)) := by rcases g10 with q | q; exact absurd q m0; exact q
          clear hm hm2 g14 g10
          refine ⟨ib_66000.mpr ?_, ?_⟩
          · clear h; grind (splits := 30) [tK, eM, sg, nb, isU]  -- b13
          intro x24 hx24
          intro σ_25 hσ_25
          have m4 : eW σ_25 = eLst (σ_11.1 48 - 1).toNatClampNeg (σ_11.2.2.1 50) (σ_11.2.2.1 51) := by clear hI hO g9 g13; grind [si1, si2]
          have m5 : σ_25.1 11 = σ_22.1 11 ∧ σ_25.1 47 = 0 ∧ σ_25.1 48 = σ_11.1 48 - 1 ∧ σ_25.1 49 = σ_11.1 49 ∧ σ_25.1 46 = σ.1 46 := by clear hI hO g9 g13 m1; grind [si1, si2]
          have m6 : σ_22.1 11 = 0 → σ_25.1 10 = σ.1 10 + 1 ∧ σ_25.1 13 = σ.1 13 - 1 := by clear hI hO g9 g13; grind [si1, si2]
          have m7 : tK σ_25 B T := by clear hI hO g9 g13; grind [si1, si2, tK]
          have m8 : σ_25.1 48 + 1 = σ_11.1 48 := by rw [m5.2.2.1]; clear hI hO g9 g13; grind
          have m9 : ((∀ k, k ≠ 10 → k ≠ 11 → k ≠ 12 → k ≠ 13 → k ≠ 47 → k ≠ 48 → k ≠ 49 → σ_25.1 k = σ.1 k) ∧ (∀ k,  σ_25.2.1 k = σ.2.1 k) ∧ (∀ k, k ≠ 52 → σ_25.2.2.1 k = σ.2.2.1 k) ∧ (∀ k j, k ≠ 52 → σ_25.2.2.1 k j = σ.2.2.1 k j) ∧ (∀ k j,  σ_25.2.2.2 k j = σ.2.2.2 k j)) := by clear hI hO g9 g13; grind [si1, si2]
          have m10 : x24 = rd σ_11 51 (σ_11.1 48 - 1) := by clear hI hO g9 g13; grind
          have m11 : 0 ≤ σ_25.1 48 ∧ σ_25.1 48 ≤ 65600 ∧ 1 ≤ σ_25.1 49 ∧ σ_25.1 49 ≤ 65600 := by clear hI hO g9 g13; grind
          have m12 : σ_25.1 11 = 0 → σ_25.1 47 = 0 → ¬ eGo (eRk (σ.2.2.1 5) (σ.2.2.1 7) (σ.1 10)) (eP1 (σ.2.2.1 5) (σ.2.2.1 7) (σ.1 10) (eW σ)) ∧ sg (σ.2.2.1 5) (σ.2.2.1 7) (σ.1 10) 93 ∧ rd σ 5 (σ.1 10 + 1) ≠ 4 ∧ σ_25.1 10 = σ.1 10 + 1 ∧ σ_25.1 13 = σ.1 13 - 1 ∧ ∃ f, popW 1 (eP1 (σ.2.2.1 5) (σ.2.2.1 7) (σ.1 10) (eW σ)) = (91, f) :: eW σ_25 ∧ eI (σ_25.1 48 + 1) (σ_25.1 49) ((91, f) :: eW σ_25) 1 (σ.1 10 - A) := by
            intro e1 _
            rw [m5.1] at e1
            refine ⟨g4, (m1.mp e1).1, (m1.mp e1).2, (m6 e1).1, (m6 e1).2, rd σ_11 51 (σ_11.1 48 - 1), ?_, ?_⟩
            · rw [m4, ← m3.1]; exact g13
            · rw [m8, m5.2.2.2.1, m4, ← m3.1]; exact g9
          refine goesOn_c hC  (fun r26 q28 => ?_)
          refine ⟨fun c29 => ?_, fun c29 => ?_⟩
          · skip
            refine hj245 _ ?_
            · clear h; exact ⟨m9, m7, m11.1, m11.2.1, m11.2.2.1, m11.2.2.2, fun _ => m5.2.1, fun e _ => by rw [m5.1]; exact m2 e, m12⟩  -- k14
          · skip
            refine ⟨fun c30 => ?_, fun c30 => ?_⟩
            · skip
              refine hj245 _ ?_
              · clear h; exact ⟨m9, m7, m11.1, m11.2.1, m11.2.2.1, m11.2.2.2, fun _ => m5.2.1, fun e _ => by rw [m5.1]; exact m2 e, m12⟩  -- k15
            · skip
              refine ⟨ib_66000.mpr ?_, ?_⟩
              · clear h; clear hI hO g9 g13 m12; grind  -- b16
              refine cellOf_c hC  ?_ (fun r31 q33 => ?_)
              · clear h; exact ⟨by rw [m10]; exact m3.2, by clear hI hO g9 g13 m12; grind, by clear hI hO g9 g13 m12; grind⟩  -- p17
              refine ⟨fun c34 => ?_, fun c34 => ?_⟩
              · skip
                refine hj216 _ _ _ ?_
                · clear h; exact ⟨⟨q33, by decide⟩, by rw [← m5.2.2.2.2, c30]; decide, m9, m7, m11.1, m11.2.1, m11.2.2.1, m11.2.2.2, fun _ => by rw [m5.1]; exact m2 (by rw [← m5.2.2.2.2, c30]; decide), m5.2.1, m12⟩  -- k18
              · skip
                refine hj216 _ _ _ ?_
                · clear h; exact ⟨⟨q33, by decide⟩, by rw [← m5.2.2.2.2, c30]; decide, m9, m7, m11.1, m11.2.1, m11.2.2.1, m11.2.2.2, fun _ => by rw [m5.1]; exact m2 (by rw [← m5.2.2.2.2, c30]; decide), m5.2.1, m12⟩  -- k19
        · skip
          refine close_c hC B T ?_ (fun σ_35 q36 => ?_)
          · clear h; grind (splits := 30) [tK, eM, sg, nb, isU]  -- p20
          intro σ_37 hσ_37
          refine turn_c hC  ?_ (fun σ_38 q39 => ?_)
          · clear h; clear hm hm2 hI hO g9 g13 g14 g10; grind [si1, si2]  -- p21
          refine h _ _ ?_
          · clear h; have m0 : rd σ_11 50 (σ_11.1 48 - 1) = 40 := by rw [← g11]; exact c21
            have m1 : σ_35.1 11 = 0 ↔ sg (σ.2.2.1 5) (σ.2.2.1 7) (σ.1 10) 41 ∧ rd σ 5 (σ.1 10 + 1) ≠ 4 := by clear hm hm2 hI hO g9 g10 g13 g14; grind [sg]
            have m2 : σ.1 46 ≠ 0 → σ_35.1 11 = 0 := fun e => m1.mpr ⟨(g14 e).1 m0, (g14 e).2.2⟩
            clear hm hm2 g14 g10
            have m4 : eW σ_38 = turnW (eLst (σ_11.1 48 - 1).toNatClampNeg (σ_11.2.2.1 50) (σ_11.2.2.1 51)) := by clear hI hO g9 g13; grind [si1, si2]
            have m5 : σ_38.1 11 = σ_35.1 11 ∧ σ_38.1 47 = 0 ∧ σ_38.1 49 = σ_11.1 49 ∧ 0 ≤ σ_38.1 48 ∧ σ_38.1 48 ≤ σ_11.1 48 := by clear hI hO g9 g13 m1; grind [si1, si2]
            have m6 : σ_35.1 11 = 0 → σ_38.1 10 = σ.1 10 + 1 ∧ σ_38.1 13 = σ.1 13 - 1 := by clear hI hO g9 g13; grind [si1, si2]
            have m7 : tK σ_38 B T := by clear hI hO g9 g13; grind [si1, si2, tK]
            have m9 : ((∀ k, k ≠ 10 → k ≠ 11 → k ≠ 12 → k ≠ 13 → k ≠ 47 → k ≠ 48 → k ≠ 49 → σ_38.1 k = σ.1 k) ∧ (∀ k,  σ_38.2.1 k = σ.2.1 k) ∧ (∀ k, k ≠ 50 → k ≠ 51 → k ≠ 52 → σ_38.2.2.1 k = σ.2.2.1 k) ∧ (∀ k j, k ≠ 50 → k ≠ 51 → k ≠ 52 → σ_38.2.2.1 k j = σ.2.2.1 k j) ∧ (∀ k j,  σ_38.2.2.2 k j = σ.2.2.2 k j)) := by clear hI hO g9 g13; grind [si1, si2]
            refine ⟨m9, m7, Or.inr (Or.inl rfl), fun _ => m5.2.1, fun e _ => by rw [m5.1]; exact m2 e, fun e1 _ => ?_⟩
            rw [m5.1] at e1
            have u := pL_up hL (k := 1) (Or.inl rfl) (by rw [← (m6 e1).1]; exact m7.2.2.2.2.2)
            rw [m0] at g13 g9
            refine ⟨eBh_40 g4 g13 (m1.mp e1).1 (m1.mp e1).2 (m6 e1).1 m4, fun _ => ?_, ?_⟩
            · rw [m4, m5.2.2.1, (m6 e1).1]
              exact eI_close g9 (Or.inl rfl) m5.2.2.2.1 m5.2.2.2.2 (Int32.le_of_lt u.1) u.2.1
            · rw [m4, (m6 e1).2]
              have o := eO_pop2 (l := 1) (m := eLv (eRk (σ.2.2.1 5) (σ.2.2.1 7) (σ.1 10))) hO
              rw [g13] at o
              exact eO_close o (Or.inl rfl)
      · skip
        refine h _ _ ?_
        · clear h; have g : σ_11.1 11 = 0 ∧ σ_11.1 47 = 0 := by grind
          have g2 : τ93.1 47 = 0 := by
            by_cases e : τ93.1 47 = 0
            · exact e
            · have e2 := q12.2.2.2.2.1 e
              rw [e2] at g
              exact absurd g.2 e
          obtain ⟨g3, g4⟩ := j93.2.2.2 g2
          rw [g3] at g4
          have g5 : eW σ_11 = popW 1 (eP1 (σ.2.2.1 5) (σ.2.2.1 7) (σ.1 10) (eW σ)) := by rw [← g3]; exact q12.2.2.2.1 (by grind) g.2
          have g6 : eW σ_11 = [] := eLst_nil (by rw [c17]; decide)
          have m9 : ((∀ k, k ≠ 10 → k ≠ 11 → k ≠ 12 → k ≠ 13 → k ≠ 47 → k ≠ 48 → k ≠ 49 → σ_11.1 k = σ.1 k) ∧ (∀ k,  σ_11.2.1 k = σ.2.1 k) ∧ (∀ k, k ≠ 50 → k ≠ 51 → k ≠ 52 → σ_11.2.2.1 k = σ.2.2.1 k) ∧ (∀ k j, k ≠ 50 → k ≠ 51 → k ≠ 52 → σ_11.2.2.1 k j = σ.2.2.1 k j) ∧ (∀ k j,  σ_11.2.2.2 k j = σ.2.2.2 k j)) := by clear hm hm2 hI hO; grind
          refine ⟨m9, by clear hm hm2 hI hO; grind [tK], Or.inr (Or.inr rfl), fun _ => g.2, fun _ _ => g.1, fun _ _ => ⟨eBh_end g4 (by rw [← g5, g6]) (by clear hm hm2 hI hO; grind) g6, fun e => absurd rfl e, ?_⟩⟩
          have o := eO_pop2 (l := 1) (m := eLv (eRk (σ.2.2.1 5) (σ.2.2.1 7) (σ.1 10))) hO
          rw [g5, show σ_11.1 13 = σ.1 13 from by clear hm hm2 hI hO; grind]
          exact o
  have hj73 : ∀  (τ : rS), (((∀ k, k ≠ 47 → k ≠ 48 → k ≠ 49 → τ.1 k = σ.1 k) ∧ (∀ k,  τ.2.1 k = σ.2.1 k) ∧ (∀ k, k ≠ 52 → τ.2.2.1 k = σ.2.2.1 k) ∧ (∀ k j, k ≠ 52 → τ.2.2.1 k j = σ.2.2.1 k j) ∧ (∀ k j,  τ.2.2.2 k j = σ.2.2.2 k j)) ∧ eI (τ.1 48) (τ.1 49) (eW τ) 1 (σ.1 10 - A) ∧ ((σ.1 46 = 0 → τ.1 47 = 0) ∧ 0 ≤ τ.1 47) ∧ 0 < eRk (σ.2.2.1 5) (σ.2.2.1 7) (σ.1 10) ∧ (τ.1 47 = 0 → eW τ = eP1 (σ.2.2.1 5) (σ.2.2.1 7) (σ.1 10) (eW σ) ∧ eGo (eRk (σ.2.2.1 5) (σ.2.2.1 7) (σ.1 10)) (eW τ))) → w_behind_73 C Q   τ := by
    rintro  τ73 j73
    unfold w_behind_73
    refine ⟨ib_131074.mpr ?_, ?_⟩
    · clear h; grind (splits := 30) [tK, eM, sg, nb, isU]  -- b24
    refine hold_c hC  ?_ (fun σ_40 q41 => ?_)
    · clear h; have := eI_66 j73.2.1
      clear hm hm2 hI hO; grind
    refine go_c hC B T ?_ (fun σ_42 q43 => ?_)
    · clear h; have := eRk_pos j73.2.2.2.1
      clear hm hm2 hI hO; grind [tK]
    refine h _ _ ?_
    · clear h; have k3 := eRk_pos j73.2.2.2.1
      have m1 : σ_42.1 11 = 0 ↔ rd σ 5 (σ.1 10 + 1) ≠ 4 := by clear hm hm2 hI hO; grind
      have m4 : eW σ_42 = (rd σ 7 (σ.1 10), 0) :: eW τ73 := by clear hm hm2 hI hO; grind
      have m5 : σ_42.1 47 = τ73.1 47 ∧ σ_42.1 48 = τ73.1 48 + 1 ∧ σ_42.1 49 = τ73.1 49 ∧ σ_42.1 10 = σ.1 10 + 1 ∧ σ_42.1 13 = σ.1 13 := by clear hm hm2 hI hO; grind
      have m7 : tK σ_42 B T := by clear hm hm2 hI hO; grind [tK]
      have m9 : ((∀ k, k ≠ 10 → k ≠ 11 → k ≠ 12 → k ≠ 13 → k ≠ 47 → k ≠ 48 → k ≠ 49 → σ_42.1 k = σ.1 k) ∧ (∀ k,  σ_42.2.1 k = σ.2.1 k) ∧ (∀ k, k ≠ 50 → k ≠ 51 → k ≠ 52 → σ_42.2.2.1 k = σ.2.2.1 k) ∧ (∀ k j, k ≠ 50 → k ≠ 51 → k ≠ 52 → σ_42.2.2.1 k j = σ.2.2.1 k j) ∧ (∀ k j,  σ_42.2.2.2 k j = σ.2.2.2 k j)) := by clear hm hm2 hI hO; grind
      refine ⟨m9, m7, Or.inl rfl, fun e => by rw [m5.1]; exact j73.2.2.1.1 e, fun e e1 => ?_, fun e1 e2 => ?_⟩
      · rw [m5.1] at e1
        obtain ⟨z1, z2⟩ := j73.2.2.2.2 e1
        rw [z1] at z2
        exact m1.mpr ((hm2 e).1 z2)
      · rw [m5.1] at e2
        obtain ⟨z1, z2⟩ := j73.2.2.2.2 e2
        have u := pL_up hL (k := 1) (Or.inl rfl) (by rw [← m5.2.2.2.1]; exact m7.2.2.2.2.2)
        refine ⟨eBh_go (by rw [← z1]; exact z2) (m1.mp e1) m5.2.2.2.1 (by rw [m4, z1]), fun _ => ?_, ?_⟩
        · rw [m4, m5.2.1, m5.2.2.1, m5.2.2.2.1]
          exact eI_bin j73.2.1 k3.2 u.1 u.2.1
        · rw [m4, m5.2.2.2.2, z1]
          exact eO_U (eO_pop hO) (rk_br k3.2)
  have hj50 : ∀ (l1 : Int32) (s1 : Int32) (τ : rS), (σ = τ ∧ l1 = eRk (σ.2.2.1 5) (σ.2.2.1 7) (σ.1 10) ∧ s1 = eLv l1) → w_behind_50 C Q  l1 s1 τ := by
    rintro y50_1 y50_s1 _ ⟨rfl, j50⟩
    unfold w_behind_50
    refine settle_c hC (σ.1 10 - A) ?_ (fun σ_44 q45 => ?_)
    · clear h; exact ⟨by rw [j50.2]; exact eLv_pos, hI⟩  -- p28
    refine ⟨fun c46 => ?_, fun c46 => ?_⟩
    · skip
      refine hj93 _ ?_
      · clear h; clear hm hm2 hI hO; grind [eGo]  -- k29
    · skip
      refine ⟨fun c47 => ?_, fun c47 => ?_⟩
      · skip
        refine hj73 _ ?_
        · clear h; clear hm hm2 hI hO; grind [eGo]  -- k30
      · skip
        refine top_c hC  ?_ (fun r48 q50 => ?_)
        · clear h; have := eI_66 q45.2.1
          clear hm hm2 hI hO; grind
        refine rank_c hC  (fun r51 q53 => ?_)
        refine ⟨fun c54 => ?_, fun c54 => ?_⟩
        · skip
          refine hj93 _ ?_
          · clear h; clear hm hm2 hI hO; grind [eGo]  -- k32
        · skip
          refine hj73 _ ?_
          · clear h; clear hm hm2 hI hO; grind [eGo]  -- k33
  have hj29 : ∀ (s0 : Int32) (τ : rS), (σ = τ ∧ s0 = eRk (σ.2.2.1 5) (σ.2.2.1 7) (σ.1 10)) → w_behind_29 C Q  s0 τ := by
    rintro y29_s0 _ ⟨rfl, j29⟩
    unfold w_behind_29
    refine ⟨fun c55 => ?_, fun c55 => ?_⟩
    · skip
      refine ⟨fun c56 => ?_, fun c56 => ?_⟩
      · skip
        refine hj50 _ _ _ ?_
        · clear h; clear hm hm2 hI hO; grind [eLv]  -- k34
      · skip
        refine hj50 _ _ _ ?_
        · clear h; clear hm hm2 hI hO; grind [eLv]  -- k35
    · skip
      refine hj50 _ _ _ ?_
      · clear h; clear hm hm2 hI hO; grind [eLv]  -- k36
  refine ⟨ib_131074.mpr ?_, ?_⟩
  · clear h; grind (splits := 30) [tK, eM, sg, nb, isU]  -- b37
  refine ⟨fun c57 => ?_, fun c57 => ?_⟩
  · skip
    refine hj29 _ _ ?_
    · clear h; clear hm hm2 hI hO; grind [eRk]  -- k38
  · skip
    refine ⟨ib_131074.mpr ?_, ?_⟩
    · clear h; grind (splits := 30) [tK, eM, sg, nb, isU]  -- b39
    refine rank_c hC  (fun r58 q60 => ?_)
    refine hj29 _ _ ?_
    · clear h; clear hm hm2 hI hO; grind [eRk]  -- k40

end
section
set_option maxHeartbeats 1600000
/-! the reference: a whole expression; its way -/
def eStep (S N R : Nat → Int32) (st a : Int32) (W : eL) (st' a' : Int32) (W' : eL) : Prop := (st = 0 ∧ eOp S N R a W st' a' W') ∨ (st = 1 ∧ eBh S N a W st' a' W')
/-- n steps from token A -/
def eTo (S N R : Nat → Int32) (A : Int32) : Nat → Int32 → Int32 → eL → Prop
  | 0, st, a, W => st = 0 ∧ a = A ∧ W = []
  | n + 1, st, a, W => ∃ st0 a0 W0, eTo S N R A n st0 a0 W0 ∧ eStep S N R st0 a0 W0 st a W ∧ (a0 < a ∨ (st = 2 ∧ a0 = a))
/-- the expression at token A ends at token e -/
def ePa (S N R : Nat → Int32) (A e : Int32) : Prop := ∃ n, eTo S N R A n 2 e []
theorem eOp_det {S N R : Nat → Int32} {a s1 a1 s2 a2 : Int32} {W W1 W2 : eL} (h1 : eOp S N R a W s1 a1 W1) (h2 : eOp S N R a W s2 a2 W2) : s1 = s2 ∧ a1 = a2 ∧ W1 = W2 := by
  obtain ⟨-, h1⟩ := h1
  obtain ⟨-, h2⟩ := h2
  unfold sg at h1 h2
  rcases h1 with ⟨q, rfl, rfl, rfl⟩ | ⟨q, rfl, rfl, rfl⟩ | ⟨q, -, rfl, rfl, rfl⟩ | ⟨q, rfl, rfl, rfl⟩ | ⟨q, qa, -, -, rfl, rfl, rfl⟩ | ⟨q, qa, qb, -, rfl, rfl, rfl⟩ <;>
  rcases h2 with ⟨p, rfl, rfl, rfl⟩ | ⟨p, rfl, rfl, rfl⟩ | ⟨p, -, rfl, rfl, rfl⟩ | ⟨p, rfl, rfl, rfl⟩ | ⟨p, pa, -, -, rfl, rfl, rfl⟩ | ⟨p, pa, pb, -, rfl, rfl, rfl⟩ <;>
  first
  | exact ⟨rfl, rfl, rfl⟩
  | (exfalso; simp_all)
  | (exfalso; grind)
theorem eBh_det {S N : Nat → Int32} {a s1 a1 s2 a2 : Int32} {W W1 W2 : eL} (h1 : eBh S N a W s1 a1 W1) (h2 : eBh S N a W s2 a2 W2) : s1 = s2 ∧ a1 = a2 ∧ W1 = W2 := by
  rcases h1 with ⟨-, g1, rfl, rfl, rfl⟩ | ⟨g1, ⟨e1, rfl, rfl, rfl⟩ | ⟨-, -, rfl, rfl, f, V, e1, rfl⟩ | ⟨-, -, rfl, rfl, f, V, e1, rfl⟩⟩ <;>
  rcases h2 with ⟨-, g2, rfl, rfl, rfl⟩ | ⟨g2, ⟨e2, rfl, rfl, rfl⟩ | ⟨-, -, rfl, rfl, f2, V2, e2, rfl⟩ | ⟨-, -, rfl, rfl, f2, V2, e2, rfl⟩⟩ <;>
  first
  | exact ⟨rfl, rfl, rfl⟩
  | exact absurd g1 g2
  | exact absurd g2 g1
  | (rw [e1] at e2; cases e2; exact ⟨rfl, rfl, rfl⟩)
  | (rw [e1] at e2; exact absurd e2 (by simp))
theorem eStep_det {S N R : Nat → Int32} {st a s1 a1 s2 a2 : Int32} {W W1 W2 : eL} (h1 : eStep S N R st a W s1 a1 W1) (h2 : eStep S N R st a W s2 a2 W2) : s1 = s2 ∧ a1 = a2 ∧ W1 = W2 := by
  rcases h1 with ⟨e1, h1⟩ | ⟨e1, h1⟩ <;> rcases h2 with ⟨e2, h2⟩ | ⟨e2, h2⟩
  · exact eOp_det h1 h2
  · exact absurd (e1.symm.trans e2) (by decide)
  · exact absurd (e1.symm.trans e2) (by decide)
  · exact eBh_det h1 h2
theorem eTo_det {S N R : Nat → Int32} {A : Int32} {n : Nat} : ∀ {s1 a1 s2 a2 : Int32} {W1 W2 : eL}, eTo S N R A n s1 a1 W1 → eTo S N R A n s2 a2 W2 → s1 = s2 ∧ a1 = a2 ∧ W1 = W2 := by
  induction n with
  | zero =>
    rintro s1 a1 s2 a2 W1 W2 ⟨rfl, rfl, rfl⟩ ⟨rfl, rfl, rfl⟩
    exact ⟨rfl, rfl, rfl⟩
  | succ n ih =>
    rintro s1 a1 s2 a2 W1 W2 ⟨p1, p2, p3, h1, h2, -⟩ ⟨r1, r2, r3, g1, g2, -⟩
    obtain ⟨rfl, rfl, rfl⟩ := ih h1 g1
    exact eStep_det h2 g2
theorem eTo_pre {S N R : Nat → Int32} {A : Int32} {m n : Nat} (hm : m < n) : ∀ {st a : Int32} {W : eL}, eTo S N R A n st a W → ∃ s0 a0 W0 s1 a1 W1, eTo S N R A m s0 a0 W0 ∧ eStep S N R s0 a0 W0 s1 a1 W1 := by
  induction n with
  | zero => omega
  | succ n ih =>
    rintro st a W ⟨p1, p2, p3, h1, h2, -⟩
    by_cases e : m = n
    · subst e; exact ⟨_, _, _, _, _, _, h1, h2⟩
    · exact ih (by omega) h1
theorem eStep_2 {S N R : Nat → Int32} {a s1 a1 : Int32} {W W1 : eL} (h : eStep S N R 2 a W s1 a1 W1) : False := by
  rcases h with ⟨e, -⟩ | ⟨e, -⟩ <;> exact absurd e (by decide)
/-- on the way of an expression that ends there is a next step, and the end is the end -/
theorem eTo_next {S N R : Nat → Int32} {A e st a : Int32} {W : eL} {m : Nat} (h : ePa S N R A e) (hm : eTo S N R A m st a W) (hs : st ≠ 2) : ∃ s1 a1 W1, eStep S N R st a W s1 a1 W1 := by
  obtain ⟨n, hn⟩ := h
  rcases Nat.lt_trichotomy m n with q | q | q
  · obtain ⟨s0, a0, W0, s1, a1, W1, g1, g2⟩ := eTo_pre q hn
    obtain ⟨rfl, rfl, rfl⟩ := eTo_det hm g1
    exact ⟨_, _, _, g2⟩
  · subst q
    exact absurd (eTo_det hm hn).1 hs
  · obtain ⟨s0, a0, W0, s1, a1, W1, g1, g2⟩ := eTo_pre q hm
    obtain ⟨rfl, rfl, rfl⟩ := eTo_det hn g1
    exact absurd g2 (fun z => eStep_2 z)
theorem eTo_end {S N R : Nat → Int32} {A e a : Int32} {W : eL} {m : Nat} (h : ePa S N R A e) (hm : eTo S N R A m 2 a W) : a = e := by
  obtain ⟨n, hn⟩ := h
  rcases Nat.lt_trichotomy m n with q | q | q
  · obtain ⟨s0, a0, W0, s1, a1, W1, g1, g2⟩ := eTo_pre q hn
    obtain ⟨rfl, rfl, rfl⟩ := eTo_det hm g1
    exact absurd g2 (fun z => eStep_2 z)
  · subst q
    exact (eTo_det hm hn).2.1
  · obtain ⟨s0, a0, W0, s1, a1, W1, g1, g2⟩ := eTo_pre q hm
    obtain ⟨rfl, rfl, rfl⟩ := eTo_det hn g1
    exact absurd g2 (fun z => eStep_2 z)
theorem eTo_ge {S N R : Nat → Int32} {A : Int32} {n : Nat} : ∀ {st a : Int32} {W : eL}, eTo S N R A n st a W → A ≤ a := by
  induction n with
  | zero => rintro st a W ⟨-, rfl, -⟩; exact Int32.le_refl _
  | succ n ih =>
    rintro st a W ⟨p1, p2, p3, h1, -, h3⟩
    have := ih h1
    rcases h3 with q | q
    · exact Int32.le_trans this (Int32.le_of_lt q)
    · exact q.2 ▸ this
theorem eOp_st {S N R : Nat → Int32} {a a1 : Int32} {W W1 : eL} (h : eOp S N R a W 2 a1 W1) : False := by
  obtain ⟨-, h⟩ := h
  rcases h with ⟨-, e, -⟩ | ⟨-, e, -⟩ | ⟨-, -, e, -⟩ | ⟨-, e, -⟩ | ⟨-, -, -, -, e, -⟩ | ⟨-, -, -, -, e, -⟩ <;> exact absurd e (by decide)
/-- the way reads the references of the names on it alone -/
theorem eTo_R {S N R R' : Nat → Int32} {A : Int32} {n : Nat} : ∀ {st a : Int32} {W : eL}, eTo S N R A n st a W → (∀ t : Int32, A ≤ t → t < a → ¬ sg S N (t + 1) 40 → R' t.toNatClampNeg = R t.toNatClampNeg) → eTo S N R' A n st a W := by
  induction n with
  | zero => intro st a W h _; exact h
  | succ n ih =>
    rintro st a W ⟨p1, p2, p3, h1, h2, h3⟩ hR
    have hle : p2 ≤ a := by rcases h3 with q | q; exact Int32.le_of_lt q; exact q.2 ▸ Int32.le_refl _
    refine ⟨p1, p2, p3, ih h1 (fun t ht ht2 => hR t ht (Int32.lt_of_lt_of_le ht2 hle)), ?_, h3⟩
    rcases h2 with ⟨rfl, h2⟩ | h2
    · have hlt : p2 < a := by
        rcases h3 with q | q
        · exact q
        · rw [q.1] at h2; exact absurd h2 (fun z => eOp_st z)
      refine Or.inl ⟨rfl, ?_⟩
      have hr : ¬ sg S N (p2 + 1) 40 → R' p2.toNatClampNeg = R p2.toNatClampNeg := hR p2 (eTo_ge h1) hlt
      obtain ⟨g, h2⟩ := h2
      refine ⟨g, ?_⟩
      rcases h2 with q | q | q | q | q | q
      · exact Or.inl q
      · exact Or.inr (Or.inl q)
      · exact Or.inr (Or.inr (Or.inl q))
      · exact Or.inr (Or.inr (Or.inr (Or.inl q)))
      · refine Or.inr (Or.inr (Or.inr (Or.inr (Or.inl ?_))))
        rw [hr (fun z => absurd (q.2.1.2.symm.trans z.2) (by decide))]; exact q
      · refine Or.inr (Or.inr (Or.inr (Or.inr (Or.inr ?_))))
        rw [hr q.2.1]; exact q
    · exact Or.inr h2
theorem ePa_R {S N R R' : Nat → Int32} {A e : Int32} (h : ePa S N R A e) (hR : ∀ t : Int32, A ≤ t → t < e → ¬ sg S N (t + 1) 40 → R' t.toNatClampNeg = R t.toNatClampNeg) : ePa S N R' A e := by
  obtain ⟨n, hn⟩ := h
  exact ⟨n, eTo_R hn hR⟩
theorem cn_ne {x y : Int32} (hx : 0 ≤ x) (h : x < y) : x.toNatClampNeg ≠ y.toNatClampNeg := fun e => by
  have := cn_inj hx (by grind) e
  grind

end
section
set_option maxHeartbeats 1600000
/-! the reference: a whole expression -/
/-- what is left to do -/
def eMs (fault failure st at_ T : Int32) : Nat := if fault = 0 ∧ failure = 0 then (if st = 2 then 1 else 2 + (T - at_).toNatClampNeg) else 0
theorem eMs_0 {f1 f2 st a T : Int32} (h : ¬ (f1 = 0 ∧ f2 = 0)) : eMs f1 f2 st a T = 0 := by unfold eMs; rw [if_neg h]
theorem eMs_1 {st a T : Int32} (h : ¬ st = 2) : eMs 0 0 st a T = 2 + (T - a).toNatClampNeg := by unfold eMs; rw [if_pos ⟨rfl, rfl⟩, if_neg h]
theorem eMs_2 {a T : Int32} : eMs 0 0 2 a T = 1 := by unfold eMs; rw [if_pos ⟨rfl, rfl⟩, if_pos rfl]
/-- a step takes something off -/
theorem eMs_lt {f1 f2 st' st a a' T : Int32} (hst : ¬ st = 2) (h : f1 = 0 → f2 = 0 → st' ≠ 2 → a < a') (h0 : 0 ≤ a) (hT : a' ≤ T) : eMs f1 f2 st' a' T < eMs 0 0 st a T := by
  rw [eMs_1 hst]
  by_cases e : f1 = 0 ∧ f2 = 0
  · obtain ⟨rfl, rfl⟩ := e
    by_cases e2 : st' = 2
    · subst e2; rw [eMs_2]; omega
    · rw [eMs_1 e2]
      have g := h rfl rfl e2
      have h1 : 0 ≤ a' := by grind
      have h2 : 0 ≤ T := by grind
      have := cn_lt (x := T - a') (y := T - a) (by rw [Int32.le_iff_toInt_le, i_sub h2 h1, Int32.toInt_zero]; have := Int32.le_iff_toInt_le.mp hT; omega) (by rw [Int32.lt_iff_toInt_lt, i_sub h2 h1, i_sub h2 h0]; have := Int32.lt_iff_toInt_lt.mp g; omega)
      omega
  · rw [eMs_0 e]; omega
theorem eOp_up {S N R : Nat → Int32} {a st' a' : Int32} {W W' : eL} (h : eOp S N R a W st' a' W') : (a' = a + 1 ∨ a' = a + 2) ∧ st' ≠ 2 := by
  obtain ⟨-, h⟩ := h
  rcases h with ⟨-, e, q, -⟩ | ⟨-, e, q, -⟩ | ⟨-, -, e, q, -⟩ | ⟨-, e, q, -⟩ | ⟨-, -, -, -, e, q, -⟩ | ⟨-, -, -, -, e, q, -⟩ <;> subst e
  · exact ⟨Or.inl q, by decide⟩
  · exact ⟨Or.inl q, by decide⟩
  · exact ⟨Or.inl q, by decide⟩
  · exact ⟨Or.inl q, by decide⟩
  · exact ⟨Or.inr q, by decide⟩
  · exact ⟨Or.inl q, by decide⟩
theorem eBh_up {S N : Nat → Int32} {a st' a' : Int32} {W W' : eL} (h : eBh S N a W st' a' W') : (st' ≠ 2 ∧ a' = a + 1) ∨ (st' = 2 ∧ a' = a ∧ W' = []) := by
  rcases h with ⟨-, -, rfl, q, -⟩ | ⟨-, ⟨-, rfl, q, q2⟩ | ⟨-, -, rfl, q, -⟩ | ⟨-, -, rfl, q, -⟩⟩
  · exact Or.inl ⟨by decide, q⟩
  · exact Or.inr ⟨rfl, q, q2⟩
  · exact Or.inl ⟨by decide, q⟩
  · exact Or.inl ⟨by decide, q⟩
theorem up_lt {a a' T : Int32} (h0 : 0 ≤ a) (hT : a ≤ T) (hT2 : T < 131074) (h : a' = a + 1 ∨ a' = a + 2) : a < a' := by grind
/-- what holds of an expression's run, from token A on -/
def eJ (mode oc fault failure at_ w v st A T : Int32) (W : eL) (S N R R0 : Nat → Int32) (c0 : Nat) : Prop :=
  (mode = 0 → failure = 0) ∧ (mode ≠ 0 → R = R0 ∧ (failure = 0 → fault = 0)) ∧ (∀ t : Int32, 0 ≤ t → t < A → R t.toNatClampNeg = R0 t.toNatClampNeg) ∧
  (fault = 0 → failure = 0 → (∃ m, eTo S N R A m st at_ W) ∧ (st ≠ 2 → eI w v W st (at_ - A)) ∧ eO oc W c0 ∧ (st = 2 → W = [])) ∧ (∀ t : Int32, T < t → R t.toNatClampNeg = R0 t.toNatClampNeg)
theorem expression_c {C : rCx} (hC : cOK C) (B T : Int32) (c0 : Nat) {σ : rS}  {Q : Int32 → rS → Prop} (hp : tK σ B T ∧ pL B T (σ.1 10) (σ.1 10) ∧ eM (σ.1 46) (σ.1 58) c0 ∧ tF σ ∧ tN σ ∧ tA σ ∧ eO (σ.1 13) [] c0 ∧ (σ.1 46 = 0 → σ.1 47 = 0) ∧ (σ.1 46 ≠ 0 → σ.1 11 = 0 ∧ σ.1 47 = 0 ∧ ∃ e, ePa (σ.2.2.1 5) (σ.2.2.1 7) (σ.2.2.1 39) (σ.1 10) e)) (h : ∀ (v : Int32) (σ' : rS), (((∀ k, k ≠ 10 → k ≠ 11 → k ≠ 12 → k ≠ 13 → k ≠ 47 → k ≠ 48 → k ≠ 49 → σ'.1 k = σ.1 k) ∧ (∀ k,  σ'.2.1 k = σ.2.1 k) ∧ (∀ k, k ≠ 39 → k ≠ 50 → k ≠ 51 → k ≠ 52 → σ'.2.2.1 k = σ.2.2.1 k) ∧ (∀ k j, k ≠ 39 → k ≠ 50 → k ≠ 51 → k ≠ 52 → σ'.2.2.1 k j = σ.2.2.1 k j) ∧ (∀ k j,  σ'.2.2.2 k j = σ.2.2.2 k j)) ∧ tK σ' B T ∧ (σ.1 46 = 0 → σ'.1 47 = 0) ∧ (σ.1 46 ≠ 0 → σ'.2.2.1 39 = σ.2.2.1 39 ∧ (σ'.1 47 = 0 → σ'.1 11 = 0 ∧ ∀ e, ePa (σ.2.2.1 5) (σ.2.2.1 7) (σ.2.2.1 39) (σ.1 10) e → σ'.1 10 = e)) ∧ (∀ t : Int32, 0 ≤ t → t < σ.1 10 → rd σ' 39 t = rd σ 39 t) ∧ (σ'.1 11 = 0 → σ'.1 47 = 0 → σ.1 11 = 0 ∧ pL B T (σ.1 10) (σ'.1 10) ∧ ePa (σ.2.2.1 5) (σ.2.2.1 7) (σ'.2.2.1 39) (σ.1 10) (σ'.1 10) ∧ eO (σ'.1 13) [] c0) ∧ (∀ t : Int32, T < t → rd σ' 39 t = rd σ 39 t)) → Q v σ') : cI C 6 m_expression [.ref (co C)] σ Q := by
  refine m_expression_run hC ?_
  unfold w_expression_0
  obtain ⟨hK, hL, hM, hF, hN, hA, hO, h0, h1⟩ := hp
  have hj51 : ∀  (τ : rS), (((∀ k, k ≠ 10 → k ≠ 11 → k ≠ 12 → k ≠ 13 → k ≠ 47 → k ≠ 48 → k ≠ 49 → τ.1 k = σ.1 k) ∧ (∀ k,  τ.2.1 k = σ.2.1 k) ∧ (∀ k, k ≠ 39 → k ≠ 50 → k ≠ 51 → k ≠ 52 → τ.2.2.1 k = σ.2.2.1 k) ∧ (∀ k j, k ≠ 39 → k ≠ 50 → k ≠ 51 → k ≠ 52 → τ.2.2.1 k j = σ.2.2.1 k j) ∧ (∀ k j,  τ.2.2.2 k j = σ.2.2.2 k j)) ∧ tK τ B T ∧ (τ.1 11 = 0 → τ.1 47 = 0 → pL B T (σ.1 10) (τ.1 10)) ∧ (σ.1 11 ≠ 0 → τ.1 11 ≠ 0) ∧ ∃ st, (τ.1 11 = 0 → τ.1 47 = 0 → st = 2) ∧ eJ (σ.1 46) (τ.1 13) (τ.1 11) (τ.1 47) (τ.1 10) (τ.1 48) (τ.1 49) st (σ.1 10) T (eW τ) (σ.2.2.1 5) (σ.2.2.1 7) (τ.2.2.1 39) (σ.2.2.1 39) c0) → w_expression_51 C Q   τ := by
    rintro  τ51 j51
    unfold w_expression_51
    refine ⟨ib_66000.mpr ?_, ?_⟩
    · clear h; exact ⟨by decide, by decide⟩  -- b1
    refine h _ _ ?_
    · clear h; obtain ⟨jF, jT, jL, jf, st, js, e1, e2, e3, e4, e5⟩ := j51
      refine ⟨jF, jT, e1, fun hm => ⟨(e2 hm).1, fun hf => ⟨(e2 hm).2 hf, fun e he => ?_⟩⟩, e3, fun f1 f2 => ?_, e5⟩
      · have f1 := (e2 hm).2 hf
        obtain ⟨⟨m, hm'⟩, -⟩ := e4 f1 hf
        rw [js f1 hf, (e2 hm).1] at hm'
        exact eTo_end he hm'
      · have s2 := js f1 f2
        obtain ⟨⟨m, hm'⟩, -, e6, e7⟩ := e4 f1 f2
        rw [s2, e7 s2] at hm'
        rw [e7 s2] at e6
        exact ⟨Decidable.byContradiction (fun z => jf z f1), jL f1 f2, ⟨m, hm'⟩, e6⟩
  intro σ_1 hσ_1
  intro σ_2 hσ_2
  unfold w_expression_12
  refine ⟨fun n l1 τ => n = eMs (τ.1 11) (τ.1 47) l1 (τ.1 10) T ∧ (((∀ k, k ≠ 10 → k ≠ 11 → k ≠ 12 → k ≠ 13 → k ≠ 47 → k ≠ 48 → k ≠ 49 → τ.1 k = σ.1 k) ∧ (∀ k,  τ.2.1 k = σ.2.1 k) ∧ (∀ k, k ≠ 39 → k ≠ 50 → k ≠ 51 → k ≠ 52 → τ.2.2.1 k = σ.2.2.1 k) ∧ (∀ k j, k ≠ 39 → k ≠ 50 → k ≠ 51 → k ≠ 52 → τ.2.2.1 k j = σ.2.2.1 k j) ∧ (∀ k j,  τ.2.2.2 k j = σ.2.2.2 k j)) ∧ tK τ B T ∧ (τ.1 11 = 0 → τ.1 47 = 0 → pL B T (σ.1 10) (τ.1 10)) ∧ (l1 = 0 ∨ l1 = 1 ∨ l1 = 2) ∧ (σ.1 11 ≠ 0 → τ.1 11 ≠ 0) ∧ eJ (σ.1 46) (τ.1 13) (τ.1 11) (τ.1 47) (τ.1 10) (τ.1 48) (τ.1 49) l1 (σ.1 10) T (eW τ) (σ.2.2.1 5) (σ.2.2.1 7) (τ.2.2.1 39) (σ.2.2.1 39) c0), ⟨_, rfl, ?_⟩, ?_⟩
  · clear h; have k48 : σ_2.1 48 = 0 := by rw [hσ_2, si1, if_neg (by decide), hσ_1, si1, if_pos rfl]
    have k49 : σ_2.1 49 = 0 := by rw [hσ_2, si1, if_pos rfl]
    have mW : eW σ_2 = [] := eLst_nil (by rw [k48]; decide)
    have k2 : σ_2.2 = σ.2 := by rw [hσ_2, si2, hσ_1, si2]
    have kf : ∀ k, k ≠ 48 → k ≠ 49 → σ_2.1 k = σ.1 k := fun k z1 z2 => by rw [hσ_2, si1, if_neg z2, hσ_1, si1, if_neg z1]
    have k10 := kf 10 (by decide) (by decide)
    have k11 := kf 11 (by decide) (by decide)
    have k13 := kf 13 (by decide) (by decide)
    have k47 := kf 47 (by decide) (by decide)
    refine ⟨by clear h1; grind, by clear h1; grind [tK], fun _ _ => by rw [k10]; exact hL, Or.inl rfl, fun z => by rw [k11]; exact z, ⟨by rw [k47]; exact h0, fun hm => ⟨by rw [k2], fun _ => by rw [k11]; exact (h1 hm).1⟩, fun t _ _ => by rw [k2], fun f1 f2 => ⟨⟨0, rfl, k10, mW⟩, fun _ => ?_, by rw [mW, k13]; exact hO, fun _ => mW⟩, fun t _ => by rw [k2]⟩⟩
    rw [mW, k48, k49, k10, Int32.sub_self]
    exact ⟨by decide, by decide, by decide, by decide, by decide, rfl, trivial, fun e => absurd e (by decide)⟩
  rintro n12 x12_1 σ12 ⟨hn12, i12⟩
  refine goesOn_c hC  (fun r3 q5 => ?_)
  refine ⟨fun c6 => ?_, fun c6 => ?_⟩
  · skip
    refine hj51 _ ?_
    · clear h; exact ⟨i12.1, i12.2.1, i12.2.2.1, i12.2.2.2.2.1, x12_1, fun f1 f2 => absurd c6 (q5.2.mpr ⟨f1, f2⟩), i12.2.2.2.2.2⟩  -- k4
  · skip
    refine ⟨fun c7 => ?_, fun c7 => ?_⟩
    · skip
      refine hj51 _ ?_
      · clear h; exact ⟨i12.1, i12.2.1, i12.2.2.1, i12.2.2.2.2.1, x12_1, fun f1 f2 => by rcases i12.2.2.2.1 with z | z | z; exact absurd c7 (by rw [z]; decide); exact absurd c7 (by rw [z]; decide); exact z, i12.2.2.2.2.2⟩  -- k5
    · skip
      have g : σ12.1 11 = 0 ∧ σ12.1 47 = 0 := q5.2.mp c6
      obtain ⟨iF, iT, iL, ist, ifl, i1, i2, i3, i4, i5⟩ := i12
      obtain ⟨⟨m, e1⟩, e2, e3, e4⟩ := i4 g.1 g.2
      have r5 : σ12.2.2.1 5 = σ.2.2.1 5 := iF.2.2.1 5 (by decide) (by decide) (by decide) (by decide)
      have r7 : σ12.2.2.1 7 = σ.2.2.1 7 := iF.2.2.1 7 (by decide) (by decide) (by decide) (by decide)
      have r46 : σ12.1 46 = σ.1 46 := iF.1 46 (by decide) (by decide) (by decide) (by decide) (by decide) (by decide) (by decide)
      have r58 : σ12.1 58 = σ.1 58 := iF.1 58 (by decide) (by decide) (by decide) (by decide) (by decide) (by decide) (by decide)
      have tf : tF σ12 := by clear h1 e1 e2 e3 e4 i4; grind
      have tn : tN σ12 := by clear h1 e1 e2 e3 e4 i4; grind
      have ta : tA σ12 := by clear h1 e1 e2 e3 e4 i4; grind
      have hx : ¬ x12_1 = 2 := fun z => c7 (by rw [z]; decide)
      have A0 : 0 ≤ σ.1 10 := Int32.le_trans hL.1 hL.2.1
      have a0 : 0 ≤ σ12.1 10 := Int32.le_trans A0 (iL g.1 g.2).2.2.1
      have em : eM (σ12.1 46) (σ12.1 58) c0 := by rw [r46, r58]; exact hM
      have nx : σ12.1 46 ≠ 0 → ∃ s1 a1 W1, eStep (σ12.2.2.1 5) (σ12.2.2.1 7) (σ12.2.2.1 39) x12_1 (σ12.1 10) (eW σ12) s1 a1 W1 := by
        intro hm
        rw [r46] at hm
        obtain ⟨e, he⟩ := (h1 hm).2.2
        rw [(i2 hm).1] at e1
        rw [r5, r7, (i2 hm).1]
        exact eTo_next he e1 hx
      clear h1
      refine ⟨fun c8 => ?_, fun c8 => ?_⟩
      · skip
        refine behind_c hC B T (σ.1 10) c0 ?_ (fun r9 σ_10 q11 => ?_)
        · clear h; have x1 : x12_1 = 1 := by rcases ist with z | z | z; exact absurd z c8; exact z; exact absurd z hx
          refine ⟨⟨iT, iL g.1 g.2, em, tf, tn, ta, g.1, g.2, x1 ▸ e2 hx, e3⟩, fun hm => ?_⟩
          obtain ⟨s1, a1, W1, z⟩ := nx hm
          rcases z with ⟨z, -⟩ | ⟨-, z⟩
          · exact absurd z c8
          · exact ⟨s1, a1, W1, z⟩
        refine ⟨_, ?_, rfl, ?_⟩
        · clear h; rw [hn12, g.1, g.2]
          refine eMs_lt hx (fun f1 f2 hr => ?_) a0 q11.2.1.2.2.2.2.2
          rcases eBh_up (q11.2.2.2.2.2 f1 f2).1 with z | z
          · exact up_lt a0 iT.2.2.2.2.2 iT.2.2.1 (Or.inl z.2)
          · exact absurd z.1 hr
        · clear h; have x1 : x12_1 = 1 := by rcases ist with z | z | z; exact absurd z c8; exact z; exact absurd z hx
          have r39 : σ_10.2.2.1 39 = σ12.2.2.1 39 := q11.1.2.2.1 39 (by decide) (by decide) (by decide)
          have pl : σ_10.1 11 = 0 → σ_10.1 47 = 0 → pL B T (σ.1 10) (σ_10.1 10) := by
            intro f1 f2
            rcases eBh_up (q11.2.2.2.2.2 f1 f2).1 with z | z
            · rw [z.2]; exact (pL_up (iL g.1 g.2) (Or.inl rfl) (by rw [← z.2]; exact q11.2.1.2.2.2.2.2)).2.2
            · rw [z.2.1]; exact iL g.1 g.2
          refine ⟨by clear e1 e2 e3 e4 i4 nx; grind, q11.2.1, pl, q11.2.2.1, fun z => absurd g.1 (ifl z), ⟨fun z => q11.2.2.2.1 (by rw [r46]; exact z), fun hm => ⟨r39.trans (i2 hm).1, fun z => q11.2.2.2.2.1 (by rw [r46]; exact hm) z⟩, fun t ht ht2 => by rw [r39]; exact i3 t ht ht2, fun f1 f2 => ?_, fun t ht => by rw [r39]; exact i5 t ht⟩⟩
          obtain ⟨z1, z2, z3⟩ := q11.2.2.2.2.2 f1 f2
          rw [r5, r7] at z1
          refine ⟨⟨m + 1, x12_1, σ12.1 10, eW σ12, by rw [r39]; exact e1, Or.inr ⟨x1, z1⟩, ?_⟩, z2, z3, fun z => ?_⟩
          · rcases eBh_up z1 with z | z
            · exact Or.inl (up_lt a0 iT.2.2.2.2.2 iT.2.2.1 (Or.inl z.2))
            · exact Or.inr ⟨z.1, z.2.1.symm⟩
          · rcases eBh_up z1 with z' | z'
            · exact absurd z z'.1
            · exact z'.2.2
      · skip
        refine operand_c hC B T (σ.1 10) c0 ?_ (fun r12 σ_13 q14 => ?_)
        · clear h; have x1 : x12_1 = 0 := c8
          refine ⟨⟨iT, iL g.1 g.2, em, tf, tn, ta, g.1, g.2, x1 ▸ e2 hx, e3⟩, fun hm => ?_⟩
          obtain ⟨s1, a1, W1, z⟩ := nx hm
          rcases z with ⟨-, z⟩ | ⟨z, -⟩
          · exact ⟨s1, a1, W1, z⟩
          · rw [x1] at z; exact absurd z (by decide)
        refine ⟨fun c15 => ?_, fun c15 => ?_⟩
        · skip
          refine ⟨_, ?_, rfl, ?_⟩
          · clear h; have x1 : x12_1 = 0 := c8
            have f47 : σ_13.1 47 = 0 := by rw [← g.2]; exact q14.1.1 47 (by decide) (by decide) (by decide) (by decide) (by decide) (by decide)
            show eMs (σ_13.1 11) (σ_13.1 47) 0 (σ_13.1 10) T < n12
            rw [hn12, g.1, g.2]
            exact eMs_lt hx (fun f1 f2 hr => up_lt a0 iT.2.2.2.2.2 iT.2.2.1 (eOp_up (q14.2.2.2.2.2 f1).1).1) a0 q14.2.1.2.2.2.2.2
          · clear h; have x1 : x12_1 = 0 := c8
            have f47 : σ_13.1 47 = 0 := by rw [← g.2]; exact q14.1.1 47 (by decide) (by decide) (by decide) (by decide) (by decide) (by decide)
            have rs5 : σ_13.2.2.1 5 = σ.2.2.1 5 := by rw [← r5]; exact q14.1.2.2.1 5 (by decide) (by decide) (by decide) (by decide)
            have rs7 : σ_13.2.2.1 7 = σ.2.2.1 7 := by rw [← r7]; exact q14.1.2.2.1 7 (by decide) (by decide) (by decide) (by decide)
            have rr : r12 = 0 := by rcases q14.2.2.1 with z | z; exact z; exact absurd c15 (by rw [z]; decide)
            have pl : σ_13.1 11 = 0 → pL B T (σ.1 10) (σ_13.1 10) := by
              intro f1
              have u := (eOp_up (q14.2.2.2.2.2 f1).1).1
              rcases u with u | u
              · rw [u]; exact (pL_up (iL g.1 g.2) (Or.inl rfl) (by rw [← u]; exact q14.2.1.2.2.2.2.2)).2.2
              · rw [u]; exact (pL_up (iL g.1 g.2) (Or.inr rfl) (by rw [← u]; exact q14.2.1.2.2.2.2.2)).2.2
            have low : ∀ t : Int32, 0 ≤ t → t < σ12.1 10 → σ_13.2.2.1 39 t.toNatClampNeg = σ12.2.2.1 39 t.toNatClampNeg := fun t ht ht2 => q14.2.2.2.2.1 _ (cn_ne ht ht2)
            refine ⟨by clear e1 e2 e3 e4 i4; grind, q14.2.1, fun f1 _ => pl f1, Or.inl rfl, fun z => absurd g.1 (ifl z), ⟨fun _ => f47, fun hm => ?_, fun t ht ht2 => ?_, fun f1 f2 => ?_, fun t ht => (q14.2.2.2.2.1 _ (cn_ne a0 (Int32.lt_of_le_of_lt iT.2.2.2.2.2 ht)).symm).trans (i5 t ht)⟩⟩
            · have := q14.2.2.2.1 (by rw [r46]; exact hm)
              exact ⟨this.2.trans (i2 hm).1, fun _ => this.1⟩
            · rw [low t ht (Int32.lt_of_lt_of_le ht2 (iL g.1 g.2).2.2.1)]; exact i3 t ht ht2
            · obtain ⟨z1, z2, z3⟩ := q14.2.2.2.2.2 f1
              rw [rs5, rs7, rr] at z1
              rw [rr] at z2
              refine ⟨⟨m + 1, x12_1, σ12.1 10, eW σ12, eTo_R e1 (fun t ht ht2 _ => low t (Int32.le_trans A0 ht) ht2), Or.inl ⟨x1, z1⟩, Or.inl (up_lt a0 iT.2.2.2.2.2 iT.2.2.1 (eOp_up z1).1)⟩, fun _ => z2, z3, fun z => absurd z (by decide)⟩
        · skip
          refine ⟨_, ?_, rfl, ?_⟩
          · clear h; have x1 : x12_1 = 0 := c8
            have f47 : σ_13.1 47 = 0 := by rw [← g.2]; exact q14.1.1 47 (by decide) (by decide) (by decide) (by decide) (by decide) (by decide)
            show eMs (σ_13.1 11) (σ_13.1 47) 1 (σ_13.1 10) T < n12
            rw [hn12, g.1, g.2]
            exact eMs_lt hx (fun f1 f2 hr => up_lt a0 iT.2.2.2.2.2 iT.2.2.1 (eOp_up (q14.2.2.2.2.2 f1).1).1) a0 q14.2.1.2.2.2.2.2
          · clear h; have x1 : x12_1 = 0 := c8
            have f47 : σ_13.1 47 = 0 := by rw [← g.2]; exact q14.1.1 47 (by decide) (by decide) (by decide) (by decide) (by decide) (by decide)
            have rs5 : σ_13.2.2.1 5 = σ.2.2.1 5 := by rw [← r5]; exact q14.1.2.2.1 5 (by decide) (by decide) (by decide) (by decide)
            have rs7 : σ_13.2.2.1 7 = σ.2.2.1 7 := by rw [← r7]; exact q14.1.2.2.1 7 (by decide) (by decide) (by decide) (by decide)
            have rr : r12 = 1 := by rcases q14.2.2.1 with z | z; exact absurd z c15; exact z
            have pl : σ_13.1 11 = 0 → pL B T (σ.1 10) (σ_13.1 10) := by
              intro f1
              have u := (eOp_up (q14.2.2.2.2.2 f1).1).1
              rcases u with u | u
              · rw [u]; exact (pL_up (iL g.1 g.2) (Or.inl rfl) (by rw [← u]; exact q14.2.1.2.2.2.2.2)).2.2
              · rw [u]; exact (pL_up (iL g.1 g.2) (Or.inr rfl) (by rw [← u]; exact q14.2.1.2.2.2.2.2)).2.2
            have low : ∀ t : Int32, 0 ≤ t → t < σ12.1 10 → σ_13.2.2.1 39 t.toNatClampNeg = σ12.2.2.1 39 t.toNatClampNeg := fun t ht ht2 => q14.2.2.2.2.1 _ (cn_ne ht ht2)
            refine ⟨by clear e1 e2 e3 e4 i4; grind, q14.2.1, fun f1 _ => pl f1, Or.inr (Or.inl rfl), fun z => absurd g.1 (ifl z), ⟨fun _ => f47, fun hm => ?_, fun t ht ht2 => ?_, fun f1 f2 => ?_, fun t ht => (q14.2.2.2.2.1 _ (cn_ne a0 (Int32.lt_of_le_of_lt iT.2.2.2.2.2 ht)).symm).trans (i5 t ht)⟩⟩
            · have := q14.2.2.2.1 (by rw [r46]; exact hm)
              exact ⟨this.2.trans (i2 hm).1, fun _ => this.1⟩
            · rw [low t ht (Int32.lt_of_lt_of_le ht2 (iL g.1 g.2).2.2.1)]; exact i3 t ht ht2
            · obtain ⟨z1, z2, z3⟩ := q14.2.2.2.2.2 f1
              rw [rs5, rs7, rr] at z1
              rw [rr] at z2
              refine ⟨⟨m + 1, x12_1, σ12.1 10, eW σ12, eTo_R e1 (fun t ht ht2 _ => low t (Int32.le_trans A0 ht) ht2), Or.inl ⟨x1, z1⟩, Or.inl (up_lt a0 iT.2.2.2.2.2 iT.2.2.1 (eOp_up z1).1)⟩, fun _ => z2, z3, fun z => absurd z (by decide)⟩

end
