theorem lset1_q {L : List (Option Value)} {i : Nat} {e : Option Nat} {v : Value} (h : L[i]? = some (some (va_rf e))) : lset1 L (i + 1) v = L.set (i + 1) (some v) := by
  unfold lset1 lkill
  dsimp only
  rw [h]
  dsimp only
  rw [if_neg (by rw [cat_q]; decide)]
