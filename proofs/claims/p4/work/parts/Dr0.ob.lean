set_option maxHeartbeats 1600000
/-! what is seen of the tape and of the last fault, on both sides: bytes below the length, the length, the fault -/
abbrev Ob9 : Type := (Nat → Int32) × Int32 × Int32
def mkO9 (f : Nat → Int32) (n x : Int32) : Ob9 := (fun j => if j < n.toInt.toNat then f j else 0, n, x)
def oR9 (σ : rS) : Ob9 := mkO9 (σ.2.2.1 1) (σ.1 2) (σ.1 53)
theorem oR_k9 {σ τ : rS} (h2 : τ.1 2 = σ.1 2) (h53 : τ.1 53 = σ.1 53) (h1 : τ.2.2.1 1 = σ.2.2.1 1) : oR9 τ = oR9 σ := by
  unfold oR9
  rw [h2, h53, h1]
/-- end -/
def trO9 (w : Ob9) (m : Int32) : Ob9 := if 0 ≤ m ∧ m ≤ w.2.1 then mkO9 w.1 m w.2.2 else w
theorem tr_m9 {f : Nat → Int32} {n x m : Int32} (h : 0 ≤ m ∧ m ≤ n) : trO9 (mkO9 f n x) m = mkO9 f m x := by
  unfold trO9
  rw [if_pos (show 0 ≤ m ∧ m ≤ (mkO9 f n x).2.1 from h)]
  refine Prod.ext (funext fun j => ?_) rfl
  show (if j < m.toInt.toNat then (if j < n.toInt.toNat then f j else 0) else 0) = if j < m.toInt.toNat then f j else 0
  by_cases c : j < m.toInt.toNat
  · have z := h.2
    rw [lei] at z
    rw [if_pos c, if_pos c, if_pos (by omega)]
  · rw [if_neg c, if_neg c]
theorem tr_n9 {f : Nat → Int32} {n x m : Int32} (h : ¬ (0 ≤ m ∧ m ≤ n)) : trO9 (mkO9 f n x) m = mkO9 f n x := if_neg h
/-- a byte of a word -/
def bw9 (w : Int32) (i : Nat) : Int32 := vp_nar .byte (Int8.toInt32 (Int32.toInt8 (w >>> (((24 : Int32) - 8 * Int32.ofNat i) &&& 31))))
def vs9 (a b c d e : Int32) (i : Nat) : Int32 := if i < 4 then a else if i < 8 then b else if i < 12 then c else if i < 16 then d else e
def by9 (a b c d e : Int32) (i : Nat) : Int32 := bw9 (vs9 a b c d e i) (i % 4)
/-- feed -/
def fdO9 (w : Ob9) (G : Nat → Int32) : Ob9 := (fun j => if j < w.2.1.toInt.toNat then w.1 j else if j < w.2.1.toInt.toNat + 20 then G (j - w.2.1.toInt.toNat) else 0, w.2.1 + 20, w.2.2)
theorem fd_m9 {f f' G : Nat → Int32} {n n' x : Int32} (h0 : 0 ≤ n.toInt) (h60 : n.toInt ≤ 60000) (hn : n' = n + 20) (h1 : ∀ j, j < n.toInt.toNat → f' j = f j) (h2 : ∀ i, i < 20 → f' (n.toInt.toNat + i) = G i) : mkO9 f' n' x = fdO9 (mkO9 f n x) G := by
  subst hn
  have t20 : (20 : Int32).toInt = 20 := rfl
  have e : (n + 20).toInt = n.toInt + 20 := by rw [add_i (by rw [t20]; omega) (by rw [t20]; omega), t20]
  refine Prod.ext (funext fun j => ?_) rfl
  show (if j < (n + 20).toInt.toNat then f' j else 0) = if j < n.toInt.toNat then (if j < n.toInt.toNat then f j else 0) else if j < n.toInt.toNat + 20 then G (j - n.toInt.toNat) else 0
  by_cases c : j < n.toInt.toNat
  · rw [if_pos (by omega), if_pos c, if_pos c, h1 j c]
  · rw [if_neg c]
    by_cases c2 : j < n.toInt.toNat + 20
    · rw [if_pos (by omega), if_pos c2]
      have z := h2 (j - n.toInt.toNat) (by omega)
      rw [show n.toInt.toNat + (j - n.toInt.toNat) = j by omega] at z
      exact z
    · rw [if_neg (by omega), if_neg c2]
theorem mk_e9 {f f' : Nat → Int32} {n n' x x' : Int32} (h : mkO9 f n x = mkO9 f' n' x') : n = n' ∧ x = x' ∧ ∀ j, j < n.toInt.toNat → f j = f' j := by
  have e1 : n = n' := congrArg (fun w : Ob9 => w.2.1) h
  have e2 : x = x' := congrArg (fun w : Ob9 => w.2.2) h
  refine ⟨e1, e2, fun j hj => ?_⟩
  have z : (if j < n.toInt.toNat then f j else 0) = if j < n'.toInt.toNat then f' j else 0 := congrFun (congrArg (fun w : Ob9 => w.1) h) j
  rw [← e1, if_pos hj, if_pos hj] at z
  exact z
theorem mk_09 {f : Nat → Int32} {x : Int32} : mkO9 f 0 x = ((fun _ => 0, 0, x) : Ob9) := by
  refine Prod.ext (funext fun j => ?_) rfl
  show (if j < (0 : Int32).toInt.toNat then f j else 0) = 0
  exact if_neg (by show ¬ j < 0; omega)
theorem sh_49 : ∀ k, k < 20 → (((24 : Int32) - ((8 : Int32) * (Int32.ofNat k &&& (3 : Int32)))) &&& 31) = (((24 : Int32) - 8 * Int32.ofNat (k % 4)) &&& 31) := by decide
/-- the reference: fault, by what it answers -/
theorem fault_c9 {C : rCx} (hC : cOK C) {σ : rS} {Q : Int32 → rS → Prop} (h : ∀ (σ' : rS), ((∀ k, k ≠ 0 → σ'.1 k = σ.1 k) ∧ σ'.2 = σ.2) → Q (σ.1 53) σ') : cI C 0 m_fault [.ref (co C)] σ Q := by
  refine m_fault_run hC ?_
  unfold w_fault_0
  intro σ1 h1
  have e : σ1.1 53 = σ.1 53 := by rw [h1, si1, if_neg (by decide)]
  rw [e]
  exact h σ1 ⟨fun k hk => by rw [h1, si1, if_neg hk], by rw [h1, si2]⟩
