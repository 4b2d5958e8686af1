set_option maxHeartbeats 1600000
/-! what is seen of the class's tape and fault -/
def oC9 (κ : zS) (a : Nat) : Ob9 := mkO9 (zA κ (zR κ taBytes (zR κ chTape a))) (zI κ taLength (zR κ chTape a)) (zI κ chFaultCode a)
theorem oC_u9 {C : zC} {n0 a : Nat} {F : Nat → Nat → Prop} {κ τ : zS} (W : zW C n0 κ) (T : zT κ a = 15) (Z : zF F κ τ) (n1 : ¬ F chTape a) (n2 : ¬ F chFaultCode a) (n3 : ¬ F taLength (zR κ chTape a)) (n4 : ¬ F taBytes (zR κ chTape a)) : oC9 τ a = oC9 κ a := by
  have A := (Z.row W (show zr taBytes = some 21 by decide +kernel) (by decide) (ty_chTape W T) n4).1
  unfold oC9
  rw [Z.r n1, A, Z.i n3, Z.i n2]
theorem oC_v9 {C : zC} {n0 a : Nat} {F : Nat → Nat → Prop} {κ τ : zS} (W : zW C n0 κ) (T : zT κ a = 15) (Z : zF F κ τ) (h1 : un9 F a 15) (h2 : un9 F (zR κ chTape a) 13) : oC9 τ a = oC9 κ a := oC_u9 W T Z (h1 _ (by decide)) (h1 _ (by decide)) (h2 _ (by decide)) (h2 _ (by decide))
