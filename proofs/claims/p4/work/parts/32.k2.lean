set_option maxHeartbeats 1600000
/-! the reference: signs that wait, as a list -/
abbrev eL : Type := List (Int32 × Int32)
theorem ri_row {σ : rS} {k i : Nat} {x : Int32} : (riU σ k i x).2.2.1 k = upd (σ.2.2.1 k) i x := by unfold riU; simp
def eLst : Nat → (Nat → Int32) → (Nat → Int32) → eL
  | 0, _, _ => []
  | n + 1, w, r => (w n, r n) :: eLst n w r
abbrev eW (σ : rS) : eL := eLst (σ.1 48).toNatClampNeg (σ.2.2.1 50) (σ.2.2.1 51)
theorem eLst_updw {n i : Nat} {w r : Nat → Int32} {x : Int32} (h : n ≤ i) : eLst n (upd w i x) r = eLst n w r := by
  induction n with
  | zero => rfl
  | succ n ih =>
    have : ¬ n = i := by omega
    simp only [eLst, ih (by omega)]
    simp [upd, this]
theorem eLst_updr {n i : Nat} {w r : Nat → Int32} {x : Int32} (h : n ≤ i) : eLst n w (upd r i x) = eLst n w r := by
  induction n with
  | zero => rfl
  | succ n ih =>
    have : ¬ n = i := by omega
    simp only [eLst, ih (by omega)]
    simp [upd, this]
theorem cn_succ {x : Int32} (h0 : 0 ≤ x) (h1 : x < 1000000) : (x + 1).toNatClampNeg = x.toNatClampNeg + 1 := by
  have h2 : (x + 1).toNatClampNeg = (x + 1).toInt.toNat := rfl
  have h3 : x.toNatClampNeg = x.toInt.toNat := rfl
  rw [Int32.le_iff_toInt_le, Int32.toInt_zero] at h0
  rw [Int32.lt_iff_toInt_lt] at h1
  have h4 : (1000000 : Int32).toInt = 1000000 := rfl
  have h5 : (x + 1).toInt = x.toInt + 1 := by
    rw [Int32.toInt_add, show (1 : Int32).toInt = 1 from rfl, Int.bmod_eq_of_le] <;> omega
  omega
theorem cn_pred {x : Int32} (h0 : 0 < x) (h1 : x < 1000000) : x.toNatClampNeg = (x - 1).toNatClampNeg + 1 := by
  have := cn_succ (x := x - 1) (by grind) (by grind)
  rw [← this]
  congr 1
  grind
theorem cn_zero {x : Int32} (h : x ≤ 0) : x.toNatClampNeg = 0 := by
  have h3 : x.toNatClampNeg = x.toInt.toNat := rfl
  rw [Int32.le_iff_toInt_le, Int32.toInt_zero] at h
  omega
theorem cn_le {x : Int32} {n : Nat} {y : Int32} (hy : y.toInt = n) (h : x ≤ y) : x.toNatClampNeg ≤ n := by
  have h3 : x.toNatClampNeg = x.toInt.toNat := rfl
  rw [Int32.le_iff_toInt_le] at h
  omega
theorem eLst_nil {n : Int32} {w r : Nat → Int32} (h : n ≤ 0) : eLst n.toNatClampNeg w r = [] := by rw [cn_zero h]; rfl
theorem eLst_cons {n : Int32} {w r : Nat → Int32} (h0 : 0 < n) (h1 : n < 1000000) : eLst n.toNatClampNeg w r = (w (n - 1).toNatClampNeg, r (n - 1).toNatClampNeg) :: eLst (n - 1).toNatClampNeg w r := by
  rw [cn_pred h0 h1]; rfl
theorem eLst_push {n s f : Int32} {w r : Nat → Int32} (h0 : 0 ≤ n) (h1 : n < 1000000) : eLst (n + 1).toNatClampNeg (upd w n.toNatClampNeg s) (upd r n.toNatClampNeg f) = (s, f) :: eLst n.toNatClampNeg w r := by
  rw [cn_succ h0 h1]
  show (_, _) :: _ = _
  rw [eLst_updw (Nat.le_refl _), eLst_updr (Nat.le_refl _)]
  simp [upd]
/-- the rank of a sign -/
def rk (c : Int32) : Int32 := if c = 124 then 1 else if c = 38 then 2 else if c = 256 ∨ c = 257 ∨ c = 60 ∨ c = 62 ∨ c = 258 ∨ c = 259 then 3 else if c = 43 ∨ c = 45 then 4 else if c = 42 ∨ c = 47 ∨ c = 37 then 5 else 0
def tp : eL → Int32
  | [] => 0
  | x :: _ => x.1
def isU (s : Int32) : Prop := s = 1000 ∨ s = 1001
/-- without the signs of rank l and more on top; without 'not' and 'less' on top -/
def popW (l : Int32) : eL → eL
  | [] => []
  | x :: W => if l ≤ rk x.1 ∧ 0 < rk x.1 then popW l W else x :: W
def turnW : eL → eL
  | [] => []
  | x :: W => if x.1 = 1000 ∨ x.1 = 1001 then turnW W else x :: W
/-- how many wait for a second value; how many brackets are open -/
def nbn : eL → Nat
  | [] => 0
  | x :: W => nbn W + if 0 < rk x.1 then 1 else 0
def nbr : eL → Nat
  | [] => 0
  | x :: W => nbr W + if x.1 = 40 ∨ x.1 = 91 then 1 else 0
def validC (r : Int32) : Prop := 200 ≤ r ∧ r < 203
def validV (r : Int32) : Prop := (0 ≤ r ∧ r < 34) ∨ (100 ≤ r ∧ r < 108)
def tnu : eL → Prop
  | [] => True
  | x :: _ => ¬ isU x.1
def eV : eL → Prop
  | [] => True
  | x :: W => eV W ∧ (x.1 = 40 ∨ isU x.1 ∨ (x.1 = 91 ∧ validC x.2) ∨ (0 < rk x.1 ∧ tnu W))
theorem rk_U {s : Int32} (h : s = 1000 ∨ s = 1001) : rk s = 0 := by rcases h with rfl | rfl <;> decide
theorem turn_nbn {W : eL} : nbn (turnW W) = nbn W := by
  induction W with
  | nil => rfl
  | cons x W ih =>
    unfold turnW
    split
    · next h => rw [ih]; simp [nbn, rk_U h]
    · rfl
theorem turn_nbr {W : eL} : nbr (turnW W) = nbr W := by
  induction W with
  | nil => rfl
  | cons x W ih =>
    unfold turnW
    split
    · next h =>
      rw [ih]
      have : ¬ (x.1 = 40 ∨ x.1 = 91) := by grind
      simp [nbr, this]
    · rfl
theorem turn_eV {W : eL} (h : eV W) : eV (turnW W) := by
  induction W with
  | nil => trivial
  | cons x W ih =>
    unfold turnW
    split
    · exact ih h.1
    · exact h
theorem turn_tnu {W : eL} : tnu (turnW W) := by
  induction W with
  | nil => trivial
  | cons x W ih =>
    unfold turnW
    split
    · exact ih
    · next h => exact h
theorem rk_br {s : Int32} (h : 0 < rk s) : ¬ (s = 40 ∨ s = 91) := by
  rintro (rfl | rfl) <;> exact absurd h (by decide)
theorem pop_nbr {l : Int32} {W : eL} : nbr (popW l W) = nbr W := by
  induction W with
  | nil => rfl
  | cons x W ih =>
    unfold popW
    split
    · next h => rw [ih]; simp [nbr, rk_br h.2]
    · rfl
/-- what holds of the pile of signs: how many values there are, in stage 0 or 1 -/
def eI (waiting values : Int32) (W : eL) (st : Int32) (room : Int32) : Prop := 0 ≤ waiting ∧ waiting ≤ room ∧ 0 ≤ values ∧ values ≤ room ∧ room ≤ 65537 ∧ values.toNatClampNeg = nbn W + st.toNatClampNeg ∧ eV W ∧ (st = 1 → tnu W)
theorem tp_nil {W : eL} (h : 0 < rk (tp W)) : ∃ x W2, W = x :: W2 := by
  cases W with
  | nil => exact absurd h (by decide)
  | cons x W => exact ⟨x, W, rfl⟩
theorem pop_stop {l : Int32} {W : eL} (h : rk (tp W) < l ∨ rk (tp W) ≤ 0) : popW l W = W := by
  cases W with
  | nil => rfl
  | cons x W =>
    unfold popW
    rw [if_neg (by simp only [tp] at h; grind)]
theorem turn_stop {W : eL} (h : ¬ tp W = 1000) (h2 : ¬ tp W = 1001) : turnW W = W := by
  cases W with
  | nil => rfl
  | cons x W =>
    unfold turnW
    rw [if_neg (by simp only [tp] at h h2; grind)]
theorem cn_two {x : Int32} {n : Nat} (h0 : 0 ≤ x) (h : x.toNatClampNeg = n + 1 + 1) : 2 ≤ x := by
  have h3 : x.toNatClampNeg = x.toInt.toNat := rfl
  rw [Int32.le_iff_toInt_le]
  have : (2 : Int32).toInt = 2 := rfl
  omega
theorem cn_one {x : Int32} {n : Nat} (h : x.toNatClampNeg = n + 1) : 1 ≤ x := by
  have h3 : x.toNatClampNeg = x.toInt.toNat := rfl
  rw [Int32.le_iff_toInt_le]
  have : (1 : Int32).toInt = 1 := rfl
  omega
/-- a sign that waits for its second value is taken off -/
theorem eI_pop {n v R : Int32} {w r : Nat → Int32} (h : eI n v (eLst n.toNatClampNeg w r) 1 R) (h0 : 0 < rk (tp (eLst n.toNatClampNeg w r))) :
    0 < n ∧ 2 ≤ v ∧ 0 < rk (w (n - 1).toNatClampNeg) ∧ eI (n - 1) (v - 1) (eLst (n - 1).toNatClampNeg w r) 1 R ∧ ∀ l, l ≤ rk (tp (eLst n.toNatClampNeg w r)) → popW l (eLst n.toNatClampNeg w r) = popW l (eLst (n - 1).toNatClampNeg w r) := by
  obtain ⟨h1, h2, h3, h4, h5, h6, h7, h8⟩ := h
  have hn : 0 < n := by
    by_cases hc : 0 < n
    · exact hc
    · rw [eLst_nil (by grind)] at h0; exact absurd h0 (by decide)
  have e := eLst_cons (n := n) (w := w) (r := r) hn (by grind)
  rw [e] at h0 h6 h7 h8 ⊢
  simp only [tp] at h0 ⊢
  simp only [nbn, h0, if_true] at h6
  have hv : 2 ≤ v := cn_two h3 (n := nbn (eLst (n - 1).toNatClampNeg w r)) h6
  have ht : tnu (eLst (n - 1).toNatClampNeg w r) := by
    rcases h7.2 with q | q | q | q
    · have q' : w (n - 1).toNatClampNeg = 40 := q
      rw [q'] at h0; exact absurd h0 (by decide)
    · exact absurd h0 (by rw [rk_U q]; decide)
    · have q' : w (n - 1).toNatClampNeg = 91 := q.1
      rw [q'] at h0; exact absurd h0 (by decide)
    · exact q.2
  refine ⟨hn, hv, h0, ⟨by grind, by grind, by grind, by grind, h5, ?_, h7.1, fun _ => ht⟩, fun l hl => ?_⟩
  · have := cn_pred (x := v) (by grind) (by grind)
    have o1 : (1 : Int32).toNatClampNeg = 1 := rfl
    rw [this] at h6
    omega
  · rw [popW, if_pos ⟨hl, h0⟩]
theorem turn_pop {n : Int32} {w r : Nat → Int32} (h1 : n ≤ 66000) (h0 : isU (tp (eLst n.toNatClampNeg w r))) :
    0 < n ∧ turnW (eLst n.toNatClampNeg w r) = turnW (eLst (n - 1).toNatClampNeg w r) := by
  have hn : 0 < n := by
    by_cases hc : 0 < n
    · exact hc
    · rw [eLst_nil (by grind)] at h0; exact absurd h0 (by simp [tp, isU])
  have e := eLst_cons (n := n) (w := w) (r := r) hn (by grind)
  rw [e] at h0 ⊢
  exact ⟨hn, by show ite (_ ∨ _) _ _ = _; exact if_pos h0⟩
theorem rank_c {C : rCx} (hC : cOK C)  {σ : rS} {a0 : Int32} {Q : Int32 → rS → Prop} (h : ∀ (v : Int32), (v = rk a0) → Q v σ) : cI C 0 m_rank [.int a0] σ Q := by
  refine m_rank_run hC ?_
  unfold w_rank_0
  refine ⟨fun c1 => ?_, fun c1 => ?_⟩
  · skip
    refine ⟨fun c2 => ?_, fun c2 => ?_⟩
    · skip
      refine ⟨fun c3 => ?_, fun c3 => ?_⟩
      · skip
        refine h _ ?_
        · clear h; grind (splits := 24) [rk]  -- q1
      · skip
        refine ⟨fun c4 => ?_, fun c4 => ?_⟩
        · skip
          refine h _ ?_
          · clear h; grind (splits := 24) [rk]  -- q2
        · skip
          refine ⟨fun c5 => ?_, fun c5 => ?_⟩
          · skip
            refine h _ ?_
            · clear h; grind (splits := 24) [rk]  -- q3
          · skip
            refine ⟨fun c6 => ?_, fun c6 => ?_⟩
            · skip
              refine h _ ?_
              · clear h; grind (splits := 24) [rk]  -- q4
            · skip
              refine ⟨fun c7 => ?_, fun c7 => ?_⟩
              · skip
                refine h _ ?_
                · clear h; grind (splits := 24) [rk]  -- q5
              · skip
                refine ⟨fun c8 => ?_, fun c8 => ?_⟩
                · skip
                  refine ⟨fun c9 => ?_, fun c9 => ?_⟩
                  · skip
                    refine h _ ?_
                    · clear h; grind (splits := 24) [rk]  -- q6
                  · skip
                    refine ⟨fun c10 => ?_, fun c10 => ?_⟩
                    · skip
                      refine ⟨fun c11 => ?_, fun c11 => ?_⟩
                      · skip
                        refine h _ ?_
                        · clear h; grind (splits := 24) [rk]  -- q7
                      · skip
                        refine ⟨fun c12 => ?_, fun c12 => ?_⟩
                        · skip
                          refine h _ ?_
                          · clear h; grind (splits := 24) [rk]  -- q8
                        · skip
                          refine ⟨fun c13 => ?_, fun c13 => ?_⟩
                          · skip
                            refine h _ ?_
                            · clear h; grind (splits := 24) [rk]  -- q9
                          · skip
                            refine h _ ?_
                            · clear h; grind (splits := 24) [rk]  -- q10
                    · skip
                      refine h _ ?_
                      · clear h; grind (splits := 24) [rk]  -- q11
                · skip
                  refine h _ ?_
                  · clear h; grind (splits := 24) [rk]  -- q12
    · skip
      refine h _ ?_
      · clear h; grind (splits := 24) [rk]  -- q13
  · skip
    refine h _ ?_
    · clear h; grind (splits := 24) [rk]  -- q14

theorem truth_c {C : rCx} (hC : cOK C)  {σ : rS} {a0 : Int32} {Q : Int32 → rS → Prop} (h : ∀ (v : Int32), (nb v) → Q v σ) : cI C 0 m_truth [.int a0] σ Q := by
  refine m_truth_run hC ?_
  unfold w_truth_0
  refine ⟨fun c1 => ?_, fun c1 => ?_⟩
  · skip
    refine h _ ?_
    · clear h; grind (splits := 24) [nb]  -- q1
  · skip
    refine h _ ?_
    · clear h; grind (splits := 24) [nb]  -- q2

theorem compared_c {C : rCx} (hC : cOK C)  {σ : rS} {a0 : Int32} {a1 : Int32} {a2 : Int32} {Q : Int32 → rS → Prop} (h : ∀ (v : Int32), (True) → Q v σ) : cI C 1 m_compared [.int a0, .int a1, .int a2] σ Q := by
  refine m_compared_run hC ?_
  unfold w_compared_0
  refine ⟨fun c1 => ?_, fun c1 => ?_⟩
  · skip
    refine ⟨fun c2 => ?_, fun c2 => ?_⟩
    · skip
      refine ⟨fun c3 => ?_, fun c3 => ?_⟩
      · skip
        refine ⟨fun c4 => ?_, fun c4 => ?_⟩
        · skip
          refine ⟨fun c5 => ?_, fun c5 => ?_⟩
          · skip
            refine ⟨fun c6 => ?_, fun c6 => ?_⟩
            · skip
              refine truth_c hC  (fun r7 q9 => ?_)
              refine h _ ?_
              · clear h; trivial  -- q1
            · skip
              refine truth_c hC  (fun r10 q12 => ?_)
              refine h _ ?_
              · clear h; trivial  -- q2
          · skip
            refine ⟨fun c13 => ?_, fun c13 => ?_⟩
            · skip
              refine truth_c hC  (fun r14 q16 => ?_)
              refine h _ ?_
              · clear h; trivial  -- q3
            · skip
              refine truth_c hC  (fun r17 q19 => ?_)
              refine h _ ?_
              · clear h; trivial  -- q4
        · skip
          refine ⟨fun c20 => ?_, fun c20 => ?_⟩
          · skip
            refine truth_c hC  (fun r21 q23 => ?_)
            refine h _ ?_
            · clear h; trivial  -- q5
          · skip
            refine truth_c hC  (fun r24 q26 => ?_)
            refine h _ ?_
            · clear h; trivial  -- q6
      · skip
        refine ⟨fun c27 => ?_, fun c27 => ?_⟩
        · skip
          refine truth_c hC  (fun r28 q30 => ?_)
          refine h _ ?_
          · clear h; trivial  -- q7
        · skip
          refine truth_c hC  (fun r31 q33 => ?_)
          refine h _ ?_
          · clear h; trivial  -- q8
    · skip
      refine ⟨fun c34 => ?_, fun c34 => ?_⟩
      · skip
        refine truth_c hC  (fun r35 q37 => ?_)
        refine h _ ?_
        · clear h; trivial  -- q9
      · skip
        refine truth_c hC  (fun r38 q40 => ?_)
        refine h _ ?_
        · clear h; trivial  -- q10
  · skip
    refine ⟨fun c41 => ?_, fun c41 => ?_⟩
    · skip
      refine truth_c hC  (fun r42 q44 => ?_)
      refine h _ ?_
      · clear h; trivial  -- q11
    · skip
      refine truth_c hC  (fun r45 q47 => ?_)
      refine h _ ?_
      · clear h; trivial  -- q12

theorem top_c {C : rCx} (hC : cOK C)  {σ : rS}  {Q : Int32 → rS → Prop} (hp : σ.1 48 ≤ 66000) (h : ∀ (v : Int32), (v = tp (eW σ)) → Q v σ) : cI C 0 m_top [.ref (co C)] σ Q := by
  refine m_top_run hC ?_
  unfold w_top_0
  refine ⟨fun c1 => ?_, fun c1 => ?_⟩
  · skip
    refine h _ ?_
    · clear h; simp only [eW, eLst_nil (by assumption : σ.1 48 ≤ 0), tp]  -- q1
  · skip
    refine ⟨ib_66000.mpr ?_, ?_⟩
    · clear h; grind (splits := 24) [si1, si2, ri1, ri2, ri3, ri34, ri5]  -- b2
    refine h _ ?_
    · clear h; simp only [eW, eLst_cons (n := σ.1 48) (by grind) (by grind), tp]  -- q3

theorem hold_c {C : rCx} (hC : cOK C)  {σ : rS} {a1 : Int32} {a2 : Int32} {Q : rS → Prop} (hp : 0 ≤ σ.1 48 ∧ σ.1 48 < 66000) (h : ∀ (σ' : rS), (((∀ k, k ≠ 48 → σ'.1 k = σ.1 k) ∧ (∀ k,  σ'.2.1 k = σ.2.1 k) ∧ (∀ k, k ≠ 50 → k ≠ 51 → σ'.2.2.1 k = σ.2.2.1 k) ∧ (∀ k j, k ≠ 50 → k ≠ 51 → σ'.2.2.1 k j = σ.2.2.1 k j) ∧ (∀ k j,  σ'.2.2.2 k j = σ.2.2.2 k j)) ∧ eW σ' = (a1, a2) :: eW σ ∧ σ'.1 48 = σ.1 48 + 1) → Q σ') : cV C 0 m_hold [.ref (co C), .int a1, .int a2] σ Q := by
  refine m_hold_run hC ?_
  unfold w_hold_0
  refine ⟨ib_66000.mpr ?_, ?_⟩
  · clear h; grind (splits := 24) [si1, si2, ri1, ri2, ri3, ri34, ri5]  -- b1
  intro σ_1 hσ_1
  refine ⟨ib_66000.mpr ?_, ?_⟩
  · clear h; grind (splits := 24) [si1, si2, ri1, ri2, ri3, ri34, ri5]  -- b2
  intro σ_2 hσ_2
  intro σ_3 hσ_3
  refine h _ ?_
  · clear h; have e1 : σ_3.2.2.1 50 = upd (σ.2.2.1 50) (σ.1 48).toNatClampNeg a1 := by rw [hσ_3, si2, hσ_2, ri3 (by decide), hσ_1, ri_row]
    have e2 : σ_3.2.2.1 51 = upd (σ.2.2.1 51) (σ.1 48).toNatClampNeg a2 := by rw [hσ_3, si2, hσ_2, ri_row, hσ_1, ri1, ri3 (by decide)]
    have e3 : σ_3.1 48 = σ.1 48 + 1 := by rw [hσ_3, si1, if_pos rfl, hσ_2, ri1, hσ_1, ri1]
    refine ⟨by grind [si1, si2, ri1, ri2, ri3, ri34, ri5], ?_, e3⟩
    show eLst (σ_3.1 48).toNatClampNeg (σ_3.2.2.1 50) (σ_3.2.2.1 51) = _
    rw [e1, e2, e3]
    exact eLst_push hp.1 (by grind)

theorem goesOn_c {C : rCx} (hC : cOK C)  {σ : rS}  {Q : Int32 → rS → Prop} (h : ∀ (v : Int32), (nb v ∧ (v ≠ 0 ↔ σ.1 11 = 0 ∧ σ.1 47 = 0)) → Q v σ) : cI C 1 m_goesOn [.ref (co C)] σ Q := by
  refine m_goesOn_run hC ?_
  unfold w_goesOn_0
  refine isRight_c hC  (fun r1 q3 => ?_)
  refine ⟨fun c4 => ?_, fun c4 => ?_⟩
  · skip
    refine h _ ?_
    · clear h; grind (splits := 24) [nb]  -- q1
  · skip
    refine ⟨fun c5 => ?_, fun c5 => ?_⟩
    · skip
      refine h _ ?_
      · clear h; grind (splits := 24) [nb]  -- q2
    · skip
      refine h _ ?_
      · clear h; grind (splits := 24) [nb]  -- q3

theorem apply_c {C : rCx} (hC : cOK C)  {σ : rS}  {Q : rS → Prop} (hp : 0 < σ.1 48 ∧ σ.1 48 ≤ 66000 ∧ 2 ≤ σ.1 49 ∧ σ.1 49 ≤ 66000 ∧ 0 < rk (rd σ 50 (σ.1 48 - 1))) (h : ∀ (σ' : rS), (((∀ k, k ≠ 47 → k ≠ 48 → k ≠ 49 → σ'.1 k = σ.1 k) ∧ (∀ k,  σ'.2.1 k = σ.2.1 k) ∧ (∀ k, k ≠ 52 → σ'.2.2.1 k = σ.2.2.1 k) ∧ (∀ k j, k ≠ 52 → σ'.2.2.1 k j = σ.2.2.1 k j) ∧ (∀ k j,  σ'.2.2.2 k j = σ.2.2.2 k j)) ∧ σ'.1 48 = σ.1 48 - 1 ∧ σ'.1 49 = σ.1 49 - 1 ∧ (σ.1 46 = 0 → σ'.1 47 = σ.1 47) ∧ (0 ≤ σ.1 47 → 0 ≤ σ'.1 47)) → Q σ') : cV C 2 m_apply [.ref (co C)] σ Q := by
  refine m_apply_run hC ?_
  unfold w_apply_0
  have hj202 : ∀ (s0 : Int32) (τ : rS), (((∀ k, k ≠ 48 → k ≠ 49 → τ.1 k = σ.1 k) ∧ (∀ k,  τ.2.1 k = σ.2.1 k) ∧ (∀ k, k ≠ 52 → τ.2.2.1 k = σ.2.2.1 k) ∧ (∀ k j, k ≠ 52 → τ.2.2.1 k j = σ.2.2.1 k j) ∧ (∀ k j,  τ.2.2.2 k j = σ.2.2.2 k j)) ∧ τ.1 48 = σ.1 48 - 1 ∧ τ.1 49 = σ.1 49 - 1) → w_apply_202 C Q  s0 τ := by
    rintro y202_s0 τ202 j202
    unfold w_apply_202
    refine ⟨ib_66000.mpr ?_, ?_⟩
    · clear h; grind (splits := 24) [si1, si2, ri1, ri2, ri3, ri34, ri5, rk]  -- b1
    intro σ_1 hσ_1
    refine h _ ?_
    · clear h; grind (splits := 24) [si1, si2, ri1, ri2, ri3, ri34, ri5, rk]  -- q2
  have hj84 : ∀ (l1 : Int32) (l2 : Int32) (l3 : Int32) (τ : rS), (((∀ k, k ≠ 48 → k ≠ 49 → τ.1 k = σ.1 k) ∧ (∀ k,  τ.2.1 k = σ.2.1 k) ∧ (∀ k, k ≠ 52 → τ.2.2.1 k = σ.2.2.1 k) ∧ (∀ k j, k ≠ 52 → τ.2.2.1 k j = σ.2.2.1 k j) ∧ (∀ k j,  τ.2.2.2 k j = σ.2.2.2 k j)) ∧ τ.1 48 = σ.1 48 - 1 ∧ τ.1 49 = σ.1 49 - 1 ∧ σ.1 46 ≠ 0 ∧ ((l1 = 47 ∨ l1 = 37) → l3 ≠ 0) ∧ 0 < rk l1) → w_apply_84 C Q  l1 l2 l3 τ := by
    rintro y84_1 y84_2 y84_3 τ84 j84
    unfold w_apply_84
    refine rank_c hC  (fun r2 q4 => ?_)
    refine ⟨fun c5 => ?_, fun c5 => ?_⟩
    · skip
      refine ⟨fun c6 => ?_, fun c6 => ?_⟩
      · skip
        refine ⟨fun c7 => ?_, fun c7 => ?_⟩
        · skip
          refine ⟨fun c8 => ?_, fun c8 => ?_⟩
          · skip
            refine ⟨fun c9 => ?_, fun c9 => ?_⟩
            · skip
              refine ⟨fun c10 => ?_, fun c10 => ?_⟩
              · skip
                refine ⟨fun c11 => ?_, fun c11 => ?_⟩
                · skip
                  refine ⟨?_, ?_⟩
                  · clear h; grind (splits := 24) [si1, si2, ri1, ri2, ri3, ri34, ri5, rk]  -- b3
                  refine hj202 _ _ ?_
                  · clear h; grind (splits := 24) [si1, si2, ri1, ri2, ri3, ri34, ri5, rk]  -- k4
                · skip
                  refine ⟨?_, ?_⟩
                  · clear h; grind (splits := 24) [si1, si2, ri1, ri2, ri3, ri34, ri5, rk]  -- b5
                  refine hj202 _ _ ?_
                  · clear h; grind (splits := 24) [si1, si2, ri1, ri2, ri3, ri34, ri5, rk]  -- k6
              · skip
                refine hj202 _ _ ?_
                · clear h; grind (splits := 24) [si1, si2, ri1, ri2, ri3, ri34, ri5, rk]  -- k7
            · skip
              refine hj202 _ _ ?_
              · clear h; grind (splits := 24) [si1, si2, ri1, ri2, ri3, ri34, ri5, rk]  -- k8
          · skip
            refine hj202 _ _ ?_
            · clear h; grind (splits := 24) [si1, si2, ri1, ri2, ri3, ri34, ri5, rk]  -- k9
        · skip
          refine ⟨fun c12 => ?_, fun c12 => ?_⟩
          · skip
            refine truth_c hC  (fun r13 q15 => ?_)
            refine hj202 _ _ ?_
            · clear h; grind (splits := 24) [si1, si2, ri1, ri2, ri3, ri34, ri5, rk]  -- k10
          · skip
            refine ⟨fun c16 => ?_, fun c16 => ?_⟩
            · skip
              refine truth_c hC  (fun r17 q19 => ?_)
              refine hj202 _ _ ?_
              · clear h; grind (splits := 24) [si1, si2, ri1, ri2, ri3, ri34, ri5, rk]  -- k11
            · skip
              refine truth_c hC  (fun r20 q22 => ?_)
              refine hj202 _ _ ?_
              · clear h; grind (splits := 24) [si1, si2, ri1, ri2, ri3, ri34, ri5, rk]  -- k12
      · skip
        refine ⟨fun c23 => ?_, fun c23 => ?_⟩
        · skip
          refine truth_c hC  (fun r24 q26 => ?_)
          refine hj202 _ _ ?_
          · clear h; grind (splits := 24) [si1, si2, ri1, ri2, ri3, ri34, ri5, rk]  -- k13
        · skip
          refine ⟨fun c27 => ?_, fun c27 => ?_⟩
          · skip
            refine truth_c hC  (fun r28 q30 => ?_)
            refine hj202 _ _ ?_
            · clear h; grind (splits := 24) [si1, si2, ri1, ri2, ri3, ri34, ri5, rk]  -- k14
          · skip
            refine truth_c hC  (fun r31 q33 => ?_)
            refine hj202 _ _ ?_
            · clear h; grind (splits := 24) [si1, si2, ri1, ri2, ri3, ri34, ri5, rk]  -- k15
    · skip
      refine compared_c hC  (fun r34 q36 => ?_)
      refine hj202 _ _ ?_
      · clear h; grind (splits := 24) [si1, si2, ri1, ri2, ri3, ri34, ri5, rk]  -- k16
  have hj74 : ∀ (l1 : Int32) (l2 : Int32) (l3 : Int32) (τ : rS), (((∀ k, k ≠ 48 → k ≠ 49 → τ.1 k = σ.1 k) ∧ (∀ k,  τ.2.1 k = σ.2.1 k) ∧ (∀ k, k ≠ 52 → τ.2.2.1 k = σ.2.2.1 k) ∧ (∀ k j, k ≠ 52 → τ.2.2.1 k j = σ.2.2.1 k j) ∧ (∀ k j,  τ.2.2.2 k j = σ.2.2.2 k j)) ∧ τ.1 48 = σ.1 48 - 1 ∧ τ.1 49 = σ.1 49 - 1 ∧ σ.1 46 ≠ 0 ∧ 0 < rk l1) → w_apply_74 C Q  l1 l2 l3 τ := by
    rintro y74_1 y74_2 y74_3 τ74 j74
    unfold w_apply_74
    refine ⟨fun c37 => ?_, fun c37 => ?_⟩
    · skip
      refine hj84 _ _ _ _ ?_
      · clear h; grind (splits := 24) [si1, si2, ri1, ri2, ri3, ri34, ri5, rk]  -- k17
    · skip
      intro σ_38 hσ_38
      refine h _ ?_
      · clear h; grind (splits := 24) [si1, si2, ri1, ri2, ri3, ri34, ri5, rk]  -- q18
  refine ⟨ib_66000.mpr ?_, ?_⟩
  · clear h; grind (splits := 24) [si1, si2, ri1, ri2, ri3, ri34, ri5, rk]  -- b19
  intro x39 hx39
  intro σ_40 hσ_40
  intro σ_41 hσ_41
  refine ⟨ib_66000.mpr ?_, ?_⟩
  · clear h; grind (splits := 24) [si1, si2, ri1, ri2, ri3, ri34, ri5, rk]  -- b20
  intro x42 hx42
  refine ⟨ib_66000.mpr ?_, ?_⟩
  · clear h; grind (splits := 24) [si1, si2, ri1, ri2, ri3, ri34, ri5, rk]  -- b21
  intro x43 hx43
  refine ⟨fun c44 => ?_, fun c44 => ?_⟩
  · skip
    refine ⟨fun c45 => ?_, fun c45 => ?_⟩
    · skip
      refine hj74 _ _ _ _ ?_
      · clear h; grind (splits := 24) [si1, si2, ri1, ri2, ri3, ri34, ri5, rk]  -- k22
    · skip
      refine ⟨fun c46 => ?_, fun c46 => ?_⟩
      · skip
        refine hj84 _ _ _ _ ?_
        · clear h; grind (splits := 24) [si1, si2, ri1, ri2, ri3, ri34, ri5, rk]  -- k23
      · skip
        refine hj74 _ _ _ _ ?_
        · clear h; grind (splits := 24) [si1, si2, ri1, ri2, ri3, ri34, ri5, rk]  -- k24
  · skip
    refine h _ ?_
    · clear h; grind (splits := 24) [si1, si2, ri1, ri2, ri3, ri34, ri5, rk]  -- q25

theorem settle_c {C : rCx} (hC : cOK C) (R : Int32) {σ : rS} {a1 : Int32} {Q : rS → Prop} (hp : 1 ≤ a1 ∧ eI (σ.1 48) (σ.1 49) (eW σ) 1 R) (h : ∀ (σ' : rS), (((∀ k, k ≠ 47 → k ≠ 48 → k ≠ 49 → σ'.1 k = σ.1 k) ∧ (∀ k,  σ'.2.1 k = σ.2.1 k) ∧ (∀ k, k ≠ 52 → σ'.2.2.1 k = σ.2.2.1 k) ∧ (∀ k j, k ≠ 52 → σ'.2.2.1 k j = σ.2.2.1 k j) ∧ (∀ k j,  σ'.2.2.2 k j = σ.2.2.2 k j)) ∧ eI (σ'.1 48) (σ'.1 49) (eW σ') 1 R ∧ ((σ.1 46 = 0 → σ'.1 47 = σ.1 47) ∧ (0 ≤ σ.1 47 → 0 ≤ σ'.1 47)) ∧ (σ.1 11 = 0 → σ'.1 47 = 0 → eW σ' = popW a1 (eW σ)) ∧ (σ.1 47 ≠ 0 → σ' = σ) ∧ (σ.1 11 ≠ 0 → σ' = σ)) → Q σ') : cV C 3 m_settle [.ref (co C), .int a1] σ Q := by
  refine m_settle_run hC ?_
  unfold w_settle_0
  refine ⟨fun n l1 τ => n = (τ.1 48).toNatClampNeg ∧ (l1 = a1 ∧ ((∀ k, k ≠ 47 → k ≠ 48 → k ≠ 49 → τ.1 k = σ.1 k) ∧ (∀ k,  τ.2.1 k = σ.2.1 k) ∧ (∀ k, k ≠ 52 → τ.2.2.1 k = σ.2.2.1 k) ∧ (∀ k j, k ≠ 52 → τ.2.2.1 k j = σ.2.2.1 k j) ∧ (∀ k j,  τ.2.2.2 k j = σ.2.2.2 k j)) ∧ eI (τ.1 48) (τ.1 49) (eW τ) 1 R ∧ ((σ.1 46 = 0 → τ.1 47 = σ.1 47) ∧ (0 ≤ σ.1 47 → 0 ≤ τ.1 47)) ∧ popW a1 (eW τ) = popW a1 (eW σ) ∧ (σ.1 47 ≠ 0 → τ = σ) ∧ (σ.1 11 ≠ 0 → τ = σ)), ⟨_, rfl, ?_⟩, ?_⟩
  · clear h; grind (splits := 24) [eI, eI_pop, pop_stop]  -- j1
  rintro n0 x0_1 σ0 ⟨hn0, i0⟩
  refine goesOn_c hC  (fun r1 q3 => ?_)
  refine ⟨fun c4 => ?_, fun c4 => ?_⟩
  · skip
    refine h _ ?_
    · clear h; grind (splits := 24) [eI, eI_pop, pop_stop]  -- q2
  · skip
    refine top_c hC  ?_ (fun r5 q7 => ?_)
    · clear h; grind (splits := 24) [eI, eI_pop, pop_stop]  -- p3
    refine rank_c hC  (fun r8 q10 => ?_)
    refine ⟨fun c11 => ?_, fun c11 => ?_⟩
    · skip
      refine h _ ?_
      · clear h; grind (splits := 24) [eI, eI_pop, pop_stop]  -- q4
    · skip
      refine top_c hC  ?_ (fun r12 q14 => ?_)
      · clear h; grind (splits := 24) [eI, eI_pop, pop_stop]  -- p5
      refine rank_c hC  (fun r15 q17 => ?_)
      refine ⟨fun c18 => ?_, fun c18 => ?_⟩
      · skip
        refine h _ ?_
        · clear h; grind (splits := 24) [eI, eI_pop, pop_stop]  -- q6
      · skip
        refine apply_c hC  ?_ (fun σ_19 q20 => ?_)
        · clear h; have k := eI_pop (n := σ0.1 48) (v := σ0.1 49) (w := σ0.2.2.1 50) (r := σ0.2.2.1 51) (R := R) (by grind) (by grind)
          grind [eI]
        refine ⟨_, cn_lt2 hn0 ?_ ?_, rfl, ?_⟩
        · clear h; have k := eI_pop (n := σ0.1 48) (v := σ0.1 49) (w := σ0.2.2.1 50) (r := σ0.2.2.1 51) (R := R) (by grind) (by grind)
          grind [eI]
        · clear h; grind (splits := 24) [eI, eI_pop, pop_stop]  -- d9
        · clear h; have k := eI_pop (n := σ0.1 48) (v := σ0.1 49) (w := σ0.2.2.1 50) (r := σ0.2.2.1 51) (R := R) (by grind) (by grind)
          grind

theorem turn_c {C : rCx} (hC : cOK C)  {σ : rS}  {Q : rS → Prop} (hp : 0 ≤ σ.1 48 ∧ σ.1 48 ≤ 66000 ∧ 1 ≤ σ.1 49 ∧ σ.1 49 ≤ 66000) (h : ∀ (σ' : rS), (((∀ k, k ≠ 48 → σ'.1 k = σ.1 k) ∧ (∀ k,  σ'.2.1 k = σ.2.1 k) ∧ (∀ k, k ≠ 52 → σ'.2.2.1 k = σ.2.2.1 k) ∧ (∀ k j, k ≠ 52 → σ'.2.2.1 k j = σ.2.2.1 k j) ∧ (∀ k j,  σ'.2.2.2 k j = σ.2.2.2 k j)) ∧ eW σ' = turnW (eW σ) ∧ 0 ≤ σ'.1 48 ∧ σ'.1 48 ≤ σ.1 48) → Q σ') : cV C 1 m_turn [.ref (co C)] σ Q := by
  refine m_turn_run hC ?_
  unfold w_turn_0
  refine ⟨fun n  τ => n = (τ.1 48).toNatClampNeg ∧ (((∀ k, k ≠ 48 → τ.1 k = σ.1 k) ∧ (∀ k,  τ.2.1 k = σ.2.1 k) ∧ (∀ k, k ≠ 52 → τ.2.2.1 k = σ.2.2.1 k) ∧ (∀ k j, k ≠ 52 → τ.2.2.1 k j = σ.2.2.1 k j) ∧ (∀ k j,  τ.2.2.2 k j = σ.2.2.2 k j)) ∧ turnW (eW τ) = turnW (eW σ) ∧ 0 ≤ τ.1 48 ∧ τ.1 48 ≤ σ.1 48), ⟨_, rfl, ?_⟩, ?_⟩
  · clear h; grind (splits := 24) [si1, si2, ri1, ri2, ri3, ri34, ri5, turn_pop, turn_stop, isU]  -- j1
  rintro n0  σ0 ⟨hn0, i0⟩
  have hj69 : ∀ (s1 : Int32) (s2 : Int32) (τ : rS), (τ = σ0 ∧ isU (tp (eW τ)) ∧ s1 = τ.1 49 - 1) → w_turn_69 C Q (fun  τ => ∃ k < n0, (fun n  τ => n = (τ.1 48).toNatClampNeg ∧ (((∀ k, k ≠ 48 → τ.1 k = σ.1 k) ∧ (∀ k,  τ.2.1 k = σ.2.1 k) ∧ (∀ k, k ≠ 52 → τ.2.2.1 k = σ.2.2.1 k) ∧ (∀ k j, k ≠ 52 → τ.2.2.1 k j = σ.2.2.1 k j) ∧ (∀ k j,  τ.2.2.2 k j = σ.2.2.2 k j)) ∧ turnW (eW τ) = turnW (eW σ) ∧ 0 ≤ τ.1 48 ∧ τ.1 48 ≤ σ.1 48)) k  τ) s1 s2 τ := by
    rintro y69_s1 y69_s2 τ69 j69
    unfold w_turn_69
    refine ⟨ib_66000.mpr ?_, ?_⟩
    · clear h; grind (splits := 24) [si1, si2, ri1, ri2, ri3, ri34, ri5, turn_pop, turn_stop, isU]  -- b2
    intro σ_1 hσ_1
    intro σ_2 hσ_2
    refine ⟨_, cn_lt2 hn0 ?_ ?_, rfl, ?_⟩
    · clear h; have k := turn_pop (n := τ69.1 48) (w := τ69.2.2.1 50) (r := τ69.2.2.1 51) (by grind) (by grind)
      grind [si1, ri1]
    · clear h; grind (splits := 24) [si1, si2, ri1, ri2, ri3, ri34, ri5, turn_pop, turn_stop, isU]  -- d4
    · clear h; have k := turn_pop (n := τ69.1 48) (w := τ69.2.2.1 50) (r := τ69.2.2.1 51) (by grind) (by grind)
      grind [si1, si2, ri1, ri2, ri3, ri34, ri5]
  have hj20 : ∀  (τ : rS), (τ = σ0 ∧ isU (tp (eW τ))) → w_turn_20 C Q (fun  τ => ∃ k < n0, (fun n  τ => n = (τ.1 48).toNatClampNeg ∧ (((∀ k, k ≠ 48 → τ.1 k = σ.1 k) ∧ (∀ k,  τ.2.1 k = σ.2.1 k) ∧ (∀ k, k ≠ 52 → τ.2.2.1 k = σ.2.2.1 k) ∧ (∀ k j, k ≠ 52 → τ.2.2.1 k j = σ.2.2.1 k j) ∧ (∀ k j,  τ.2.2.2 k j = σ.2.2.2 k j)) ∧ turnW (eW τ) = turnW (eW σ) ∧ 0 ≤ τ.1 48 ∧ τ.1 48 ≤ σ.1 48)) k  τ)  τ := by
    rintro  τ20 j20
    unfold w_turn_20
    refine ⟨ib_66000.mpr ?_, ?_⟩
    · clear h; grind (splits := 24) [si1, si2, ri1, ri2, ri3, ri34, ri5, turn_pop, turn_stop, isU]  -- b6
    intro x3 hx3
    refine top_c hC  ?_ (fun r4 q6 => ?_)
    · clear h; grind (splits := 24) [si1, si2, ri1, ri2, ri3, ri34, ri5, turn_pop, turn_stop, isU]  -- p7
    refine ⟨fun c7 => ?_, fun c7 => ?_⟩
    · skip
      refine hj69 _ _ _ ?_
      · clear h; grind (splits := 24) [si1, si2, ri1, ri2, ri3, ri34, ri5, turn_pop, turn_stop, isU]  -- k8
    · skip
      refine ⟨fun c8 => ?_, fun c8 => ?_⟩
      · skip
        refine truth_c hC  (fun r9 q11 => ?_)
        refine hj69 _ _ _ ?_
        · clear h; grind (splits := 24) [si1, si2, ri1, ri2, ri3, ri34, ri5, turn_pop, turn_stop, isU]  -- k9
      · skip
        refine truth_c hC  (fun r12 q14 => ?_)
        refine hj69 _ _ _ ?_
        · clear h; grind (splits := 24) [si1, si2, ri1, ri2, ri3, ri34, ri5, turn_pop, turn_stop, isU]  -- k10
  refine top_c hC  ?_ (fun r15 q17 => ?_)
  · clear h; grind (splits := 24) [si1, si2, ri1, ri2, ri3, ri34, ri5, turn_pop, turn_stop, isU]  -- p11
  refine ⟨fun c18 => ?_, fun c18 => ?_⟩
  · skip
    refine hj20 _ ?_
    · clear h; grind (splits := 24) [si1, si2, ri1, ri2, ri3, ri34, ri5, turn_pop, turn_stop, isU]  -- k12
  · skip
    refine top_c hC  ?_ (fun r19 q21 => ?_)
    · clear h; grind (splits := 24) [si1, si2, ri1, ri2, ri3, ri34, ri5, turn_pop, turn_stop, isU]  -- p13
    refine ⟨fun c22 => ?_, fun c22 => ?_⟩
    · skip
      refine h _ ?_
      · clear h; grind (splits := 24) [si1, si2, ri1, ri2, ri3, ri34, ri5, turn_pop, turn_stop, isU]  -- q14
    · skip
      refine hj20 _ ?_
      · clear h; grind (splits := 24) [si1, si2, ri1, ri2, ri3, ri34, ri5, turn_pop, turn_stop, isU]  -- k15

theorem push_c {C : rCx} (hC : cOK C)  {σ : rS} {a1 : Int32} {Q : rS → Prop} (hp : 0 ≤ σ.1 48 ∧ σ.1 48 ≤ 66000 ∧ 0 ≤ σ.1 49 ∧ σ.1 49 < 66000) (h : ∀ (σ' : rS), (((∀ k, k ≠ 48 → k ≠ 49 → σ'.1 k = σ.1 k) ∧ (∀ k,  σ'.2.1 k = σ.2.1 k) ∧ (∀ k, k ≠ 52 → σ'.2.2.1 k = σ.2.2.1 k) ∧ (∀ k j, k ≠ 52 → σ'.2.2.1 k j = σ.2.2.1 k j) ∧ (∀ k j,  σ'.2.2.2 k j = σ.2.2.2 k j)) ∧ eW σ' = turnW (eW σ) ∧ 0 ≤ σ'.1 48 ∧ σ'.1 48 ≤ σ.1 48 ∧ σ'.1 49 = σ.1 49 + 1) → Q σ') : cV C 2 m_push [.ref (co C), .int a1] σ Q := by
  refine m_push_run hC ?_
  unfold w_push_0
  refine ⟨ib_66000.mpr ?_, ?_⟩
  · clear h; grind (splits := 24) [si1, si2, ri1, ri2, ri3, ri34, ri5]  -- b1
  intro σ_1 hσ_1
  intro σ_2 hσ_2
  refine turn_c hC  ?_ (fun σ_3 q4 => ?_)
  · clear h; grind (splits := 24) [si1, si2, ri1, ri2, ri3, ri34, ri5]  -- p2
  refine h _ ?_
  · clear h; grind (splits := 24) [si1, si2, ri1, ri2, ri3, ri34, ri5]  -- q3

/-- arrays: at most 8 cells each, the first at most at 16 -/
def tyA (r23 r24 : Nat → Int32) : Prop := eB r23 0 9 ∧ eB r24 0 17
abbrev tA (σ : rS) : Prop := tyA (σ.2.2.1 23) (σ.2.2.1 24)
theorem valueOf_c {C : rCx} (hC : cOK C)  {σ : rS} {a1 : Int32} {Q : Int32 → rS → Prop} (hp : validV a1 ∧ 1 ≤ σ.1 58 ∧ σ.1 58 ≤ 12) (h : ∀ (v : Int32), (True) → Q v σ) : cI C 0 m_valueOf [.ref (co C), .int a1] σ Q := by
  refine m_valueOf_run hC ?_
  unfold w_valueOf_0
  refine ⟨fun c1 => ?_, fun c1 => ?_⟩
  · skip
    refine ⟨ib_96.mpr ?_, ?_⟩
    · clear h; grind (splits := 24) [validV]  -- b1
    refine h _ ?_
    · clear h; grind (splits := 24) [validV]  -- q2
  · skip
    refine ⟨ib_34.mpr ?_, ?_⟩
    · clear h; grind (splits := 24) [validV]  -- b3
    refine h _ ?_
    · clear h; grind (splits := 24) [validV]  -- q4

theorem cellOf_c {C : rCx} (hC : cOK C)  {σ : rS} {a1 : Int32} {a2 : Int32} {Q : Int32 → rS → Prop} (hp : validC a1 ∧ tA σ ∧ tF σ) (h : ∀ (v : Int32), (v = -1 ∨ (0 ≤ v ∧ v < 34)) → Q v σ) : cI C 0 m_cellOf [.ref (co C), .int a1, .int a2] σ Q := by
  refine m_cellOf_run hC ?_
  unfold w_cellOf_0
  intro x1 hx1
  refine ⟨fun c2 => ?_, fun c2 => ?_⟩
  · skip
    refine h _ ?_
    · clear h; grind (splits := 24) [validC, tyA, tyF, eB]  -- q1
  · skip
    refine ⟨ib_3.mpr ?_, ?_⟩
    · clear h; grind (splits := 24) [validC, tyA, tyF, eB]  -- b2
    refine ⟨fun c3 => ?_, fun c3 => ?_⟩
    · skip
      refine ⟨ib_3.mpr ?_, ?_⟩
      · clear h; grind (splits := 24) [validC, tyA, tyF, eB]  -- b3
      refine h _ ?_
      · clear h; grind (splits := 24) [validC, tyA, tyF, eB]  -- q4
    · skip
      refine h _ ?_
      · clear h; grind (splits := 24) [validC, tyA, tyF, eB]  -- q5

theorem look_c {C : rCx} (hC : cOK C)  {σ : rS} {a1 : Int32} {a2 : Int32} {Q : rS → Prop} (hp : 0 ≤ a1 ∧ a1 < 131074) (h : ∀ (σ' : rS), (((∀ k, k ≠ 11 → k ≠ 12 → σ'.1 k = σ.1 k) ∧ (∀ k,  σ'.2.1 k = σ.2.1 k) ∧ (∀ k, k ≠ 39 → σ'.2.2.1 k = σ.2.2.1 k) ∧ (∀ k j, k ≠ 39 → σ'.2.2.1 k j = σ.2.2.1 k j) ∧ (∀ k j,  σ'.2.2.2 k j = σ.2.2.2 k j)) ∧ (∀ j, j ≠ a1.toNatClampNeg → σ'.2.2.1 39 j = σ.2.2.1 39 j) ∧ rd σ' 39 a1 = a2 ∧ (σ'.1 11 = 0 → σ.1 11 = 0 ∧ a2 ≠ -1) ∧ (0 ≤ σ.1 11 → 0 ≤ σ'.1 11)) → Q σ') : cV C 0 m_look [.ref (co C), .int a1, .int a2] σ Q := by
  refine m_look_run hC ?_
  unfold w_look_0
  refine ⟨fun c1 => ?_, fun c1 => ?_⟩
  · skip
    unfold w_look_28
    refine ⟨ib_131074.mpr ?_, ?_⟩
    · clear h; grind (splits := 24) [si1, si2, ri1, ri2, ri3, ri34, ri5]  -- b1
    intro σ_2 hσ_2
    refine h _ ?_
    · clear h; grind (splits := 24) [si1, si2, ri1, ri2, ri3, ri34, ri5]  -- q2
  · skip
    refine ⟨fun c3 => ?_, fun c3 => ?_⟩
    · skip
      unfold w_look_28
      refine ⟨ib_131074.mpr ?_, ?_⟩
      · clear h; grind (splits := 24) [si1, si2, ri1, ri2, ri3, ri34, ri5]  -- b3
      intro σ_4 hσ_4
      refine h _ ?_
      · clear h; grind (splits := 24) [si1, si2, ri1, ri2, ri3, ri34, ri5]  -- q4
    · skip
      intro σ_5 hσ_5
      refine ⟨ib_131074.mpr ?_, ?_⟩
      · clear h; grind (splits := 24) [si1, si2, ri1, ri2, ri3, ri34, ri5]  -- b5
      intro σ_6 hσ_6
      unfold w_look_28
      refine ⟨ib_131074.mpr ?_, ?_⟩
      · clear h; grind (splits := 24) [si1, si2, ri1, ri2, ri3, ri34, ri5]  -- b6
      intro σ_7 hσ_7
      refine h _ ?_
      · clear h; grind (splits := 24) [si1, si2, ri1, ri2, ri3, ri34, ri5]  -- q7
