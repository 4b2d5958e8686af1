/-! a jump where 2 stands -/
theorem in_29 {pc nl t : Nat} {off : Int} {lo : dL0} {st : List Value} (ht : dto pc off = some t) : dpure (.ifCond .ne off) 3 pc nl lo (.int 2 :: st) = some (t, lo, st) := by
  show dif 3 pc lo st off (dcnd .ne 2 0) = _
  have c : dcnd .ne 2 0 = true := by decide
  unfold dif
  rw [c, if_pos rfl, ht]
  rfl
theorem in_39 {pc nl t : Nat} {off : Int} {lo : dL0} {st : List Value} (ht : dto pc off = some t) : dpure (.ifCond .ne off) 3 pc nl lo (.int 3 :: st) = some (t, lo, st) := by
  show dif 3 pc lo st off (dcnd .ne 3 0) = _
  have c : dcnd .ne 3 0 = true := by decide
  unfold dif
  rw [c, if_pos rfl, ht]
  rfl
/-! longs in locals -/
theorem ds2_9 {lo : dL0} {k j : Nat} {v x : Value} (hj : j ≠ k) (hj2 : j ≠ k + 1) (hx : lo j = some x) (hc : x.category = 1) : dset2 lo k v j = some x := by
  unfold dset2
  simp only [hj, hj2, if_false, hx]
  rw [if_neg (fun z => by rw [hc] at z; exact absurd z.2 (by decide))]
theorem ldl_9 {lo : dL0} {k pc nl : Nat} {x : Int64} {st : List Value} (h : lo k = some (.long x)) : dpure (.lload k) 2 pc nl lo st = some (pc + 2, lo, .long x :: st) := by
  show dldL 2 2 pc k lo st = _
  unfold dldL
  rw [h]
  rfl
