/-! a jump where 2 stands -/
theorem in_29 {pc nl t : Nat} {off : Int} {lo : dL0} {st : List Value} (ht : dto pc off = some t) : dpure (.ifCond .ne off) 3 pc nl lo (.int 2 :: st) = some (t, lo, st) := by
  show dif 3 pc lo st off (dcnd .ne 2 0) = _
  have c : dcnd .ne 2 0 = true := by decide
  unfold dif
  rw [c, if_pos rfl, ht]
  rfl
theorem in_39 {pc nl t : Nat} {off : Int} {lo : dL0} {st : List Value} (ht : dto pc off = some t) : dpure (.ifCond .ne off) 3 pc nl lo (.int 3 :: st) = some (t, lo, st) := by
  show dif 3 pc lo st off (dcnd .ne 3 0) = _
  have c : dcnd .ne 3 0 = true := by decide
  unfold dif
  rw [c, if_pos rfl, ht]
  rfl
/-! longs in locals -/
theorem ds2_9 {lo : dL0} {k j : Nat} {v x : Value} (hj : j ≠ k) (hj2 : j ≠ k + 1) (hx : lo j = some x) (hc : x.category = 1) : dset2 lo k v j = some x := by
  unfold dset2
  simp only [hj, hj2, if_false, hx]
  rw [if_neg (fun z => by rw [hc] at z; exact absurd z.2 (by decide))]
theorem ldl_9 {lo : dL0} {k pc nl : Nat} {x : Int64} {st : List Value} (h : lo k = some (.long x)) : dpure (.lload k) 2 pc nl lo st = some (pc + 2, lo, .long x :: st) := by
  show dldL 2 2 pc k lo st = _
  unfold dldL
  rw [h]
  rfl
theorem in_w9 {v : Int32} {pc nl t : Nat} {off : Int} {lo : dL0} {st : List Value} (h : v ≠ 0) (ht : dto pc off = some t) : dpure (.ifCond .ne off) 3 pc nl lo (.int v :: st) = some (t, lo, st) := by
  show dif 3 pc lo st off (dcnd .ne v 0) = _
  have c : dcnd .ne v 0 = true := by
    unfold dcnd
    simp [h]
  unfold dif
  rw [c, if_pos rfl, ht]
  rfl
theorem ca_w {u : Nat} {C' : zC} {v : Int32} {A E : Int32 → Prop} {J2 : Nat → Int64} {s v2 : Int32} (h : cAw u C' v A E) (hu : (yh C').2 u = some (outC9 J2)) (q : (∀ x, A x → s = 0 ∧ x = v2) ∧ ∀ c, E c → s = c) : s = v ∧ (v = 0 → J2 0 = v2.toInt64) := by
  rcases h with ⟨h0, J1, x, h1, h2, h3⟩ | ⟨h0, h1⟩
  · have e : J1 = J2 := oC_9 (h1.symm.trans hu)
    have y := q.1 x h3
    exact ⟨y.1.trans h0.symm, fun _ => by rw [← e, h2, y.2]⟩
  · refine ⟨q.2 v h1, fun z => ?_⟩
    rw [z] at h0
    exact absurd h0 (by decide)
theorem cl_w {u : Nat} {C' : zC} {v : Int32} {A : Int64 → Prop} {E : Int32 → Prop} {J2 : Nat → Int64} {s : Int32} {v2 : Int64} (h : cLw u C' v A E) (hu : (yh C').2 u = some (outC9 J2)) (q : (∀ x, A x → s = 0 ∧ x = v2) ∧ ∀ c, E c → s = c) : s = v ∧ (v = 0 → J2 0 = v2) := by
  rcases h with ⟨h0, J1, x, h1, h2, h3⟩ | ⟨h0, h1⟩
  · have e : J1 = J2 := oC_9 (h1.symm.trans hu)
    have y := q.1 x h3
    exact ⟨y.1.trans h0.symm, fun _ => by rw [← e, h2, y.2]⟩
  · refine ⟨q.2 v h1, fun z => ?_⟩
    rw [z] at h0
    exact absurd h0 (by decide)
