set_option maxHeartbeats 1600000
theorem lda_9 {lo : dL0} {k : Fin 4} {pc nl x : Nat} {st : List Value} (h : lo (k : Nat) = some (.ref x)) : dpure (.aload_n k) 1 pc nl lo st = some (pc + 1, lo, .ref x :: st) := by
  show dldA 1 1 pc (k : Nat) lo st = _
  unfold dldA
  rw [h]
  rfl
theorem ldi_9 {lo : dL0} {k pc nl : Nat} {x : Int32} {st : List Value} (h : lo k = some (.int x)) : dpure (.iload k) 2 pc nl lo st = some (pc + 2, lo, .int x :: st) := by
  show dldI 2 2 pc k lo st = _
  unfold dldI
  rw [h]
  rfl
/-- the law's locals -/
def lO9 (scr a o u : Nat) (i : Int32) (lo : dL0) : Prop := lo 0 = some (.ref scr) ∧ lo 1 = some (.ref a) ∧ lo 2 = some (.ref o) ∧ lo 3 = some (.ref u) ∧ lo 4 = some (.int i)
theorem lO_19 {scr a o u k : Nat} {i : Int32} {lo : dL0} {v : Value} (hk : 5 ≤ k) (h : lO9 scr a o u i lo) (hc : ∀ w, lo 4 = some w → w.category = 1) : lO9 scr a o u i (dset1 lo k v) := by
  obtain ⟨h0, h1, h2, h3, h4⟩ := h
  have e : ∀ j x, j < 5 → lo j = some x → x.category = 1 → dset1 lo k v j = some x := fun j x hj hx hcat => by
    unfold dset1
    rw [if_neg (by omega), hx]
    dsimp only
    rw [if_neg (fun z => by rw [hcat] at z; exact absurd z.2 (by decide))]
  exact ⟨e 0 _ (by decide) h0 rfl, e 1 _ (by decide) h1 rfl, e 2 _ (by decide) h2 rfl, e 3 _ (by decide) h3 rfl, e 4 _ (by decide) h4 rfl⟩
theorem lO_29 {scr a o u k : Nat} {i : Int32} {lo : dL0} {v : Value} (hk : 5 ≤ k) (h : lO9 scr a o u i lo) : lO9 scr a o u i (dset2 lo k v) := by
  obtain ⟨h0, h1, h2, h3, h4⟩ := h
  have e : ∀ j x, j < 5 → lo j = some x → x.category = 1 → dset2 lo k v j = some x := fun j x hj hx hcat => by
    unfold dset2
    simp only [show ¬ j = k by omega, show ¬ j = k + 1 by omega, if_false, hx]
    rw [if_neg (fun z => by rw [hcat] at z; exact absurd z.2 (by decide))]
  exact ⟨e 0 _ (by decide) h0 rfl, e 1 _ (by decide) h1 rfl, e 2 _ (by decide) h2 rfl, e 3 _ (by decide) h3 rfl, e 4 _ (by decide) h4 rfl⟩
section LA
variable {E : dE} {X : dX} {K : dKE} {b scr L : Nat} {xs : Nat → Int32} {post : Option Value → Nat → Nat → Prop} {n d pc cs ss a o u : Nat} {lo : dL0} {st : List Value} {h : dH} {i : Int32}
/-- a number of the script is read -/
theorem la_9 {pc1 pc3 pc4 pc5 pc6 : Nat} {j : Int32} {jj : Int} (d1 : decode code pc = .ok (.aload_n 0, 1)) (d2 : decode code pc1 = .ok (.iload 4, 2)) (d3 : decode code pc3 = .ok (.iconst jj, 1)) (d4 : decode code pc4 = .ok (.iadd, 1)) (d5 : decode code pc5 = .ok (.iaload, 1)) (hpc : pc + 1 = pc1 ∧ pc1 + 2 = pc3 ∧ pc3 + 1 = pc4 ∧ pc4 + 1 = pc5 ∧ pc5 + 1 = pc6) (hj : Int32.ofInt jj = j) (hl : lO9 scr a o u i lo) (hb : (0 ≤ j.toInt ∧ j.toInt ≤ 5) ∧ 0 ≤ i.toInt ∧ i.toInt + 6 ≤ L ∧ L ≤ 3072) (k : dV9 E X K b scr L xs post n d rLaw pc6 lo (.int (xs (i + j).toNatClampNeg) :: st) h cs ss) : dV9 E X K b scr L xs post (n + 5) d rLaw pc lo st h cs ss := by
  obtain ⟨l0, l1, l2, l3, l4⟩ := hl
  obtain ⟨rfl, rfl, rfl, rfl, rfl⟩ := hpc
  refine lwP_9 (pc' := pc + 1) (lo' := lo) (st' := .ref scr :: st) d1 rfl (lda_9 (k := 0) l0) ?_
  refine lwP_9 (pc' := pc + 1 + 2) (lo' := lo) (st' := .int i :: .ref scr :: st) d2 rfl (ldi_9 l4) ?_
  refine lwP_9 (pc' := pc + 1 + 2 + 1) (lo' := lo) (st' := .int j :: .int i :: .ref scr :: st) d3 rfl (by show some (pc + 1 + 2 + 1, lo, Value.int (Int32.ofInt jj) :: .int i :: .ref scr :: st) = _; rw [hj]) ?_
  refine lwP_9 (pc' := pc + 1 + 2 + 1 + 1) (lo' := lo) (st' := .int (i + j) :: .ref scr :: st) d4 rfl rfl ?_
  refine lw_s9 (st' := .int (xs (i + j).toNatClampNeg) :: st) d5 rfl ?_ k
  have e : (i + j).toInt = i.toInt + j.toInt := add_i (by omega) (by omega)
  have c := cnk (x := i + j) (by omega)
  show (if scr = scr ∧ 1 = 1 ∧ ¬ ((i + j) < 0 ∨ L ≤ (i + j).toNatClampNeg) then some _ else none) = _
  have hz : ¬ ((i + j) < 0 ∨ L ≤ (i + j).toNatClampNeg) := fun z => by
    rcases z with z | z
    · rw [lti, t0i] at z
      omega
    · omega
  exact if_pos ⟨rfl, rfl, hz⟩
end LA
