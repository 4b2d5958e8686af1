theorem zth {κ κ' : zS} {w q ci : Nat} (e : κ' = nff κ w) (R : zT κ w = q) (hq : q - 40 = ci) : zT κ' w = ci := by
  subst e
  have h9 : κ.1 w = q := R
  exact (if_pos rfl).trans (by rw [h9]; exact hq)
