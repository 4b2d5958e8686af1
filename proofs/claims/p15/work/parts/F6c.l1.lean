/-! a jump where 2 stands -/
theorem in_29 {pc nl t : Nat} {off : Int} {lo : dL0} {st : List Value} (ht : dto pc off = some t) : dpure (.ifCond .ne off) 3 pc nl lo (.int 2 :: st) = some (t, lo, st) := by
  show dif 3 pc lo st off (dcnd .ne 2 0) = _
  have c : dcnd .ne 2 0 = true := by decide
  unfold dif
  rw [c, if_pos rfl, ht]
  rfl
