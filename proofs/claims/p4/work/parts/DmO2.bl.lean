set_option maxHeartbeats 1600000
/-! a function ends -/
section
variable {T : T5} {X : X5} {Bk N : Nat} {Z : Int32} {a f t s : Nat} {e : E5} {σ : rS}
theorem tS_5 {fs : Nat} {σ : rS} (h0 : g5_isRight σ = 1) (h42 : σ.1 42 = 1) (hA : g5_isAt 125 σ = 1) : g5_tellStatements_11 (fs + 2) σ = siU σ 42 0 := by
  have s0 : g5_isRight (siU σ 42 0) = 1 := h0
  rw [g5_tellStatements_11, pb_e5, h0, if_neg ne105, h42, if_neg (show ¬ (1 : Int32) ≤ 0 by decide), pb_e5, hA, if_neg ne105, if_pos rfl, pb_e5, g5_tellStatements_11, pb_e5, s0, if_neg ne105, if_pos (show (siU σ 42 0).1 42 ≤ 0 by show (0 : Int32) ≤ 0; decide)]
theorem fe_f5 {e : E5} {f : Nat} (hf : e.1 coFunctions = Int32.ofNat f) (hf2 : f < 10) (h11 : e.2.1 1011 0 = -1) : ∃ e' : E5, f5_Pa_closeBlock_24 0 e = .inl (e', ()) ∧ gE5 e' = (e.1 509, e.2.1 1006, e.1 510, e.2.1 1007, Int32.ofNat (f + 1), e.2.1 1008, e.2.1 504, 0, e.2.1 1009, e.1 513, e.2.1 506, 0, e.2.1 1011, e.2.1 1013, 0, e.2.2) ∧ tq5 e' = tq5 e ∧ (e'.1 paAt = e.1 paAt ∧ e'.1 paKind = e.1 paKind ∧ e'.1 paOpen = e.1 paOpen) := by
  have z : f5_Pa_closeBlock_24 0 e = .inl (((fun g => if g = paInside then 0 else if g = paOwns then 0 else if g = coFunctions then e.1 coFunctions + 1 else if g = paBlocks then 0 else e.1 g), (fun g j => if g = coOwnCounts ∧ j = (e.1 coFunctions).toNatClampNeg then e.1 paOwns else e.2.1 g j), e.2.2), ()) := by
    unfold f5_Pa_closeBlock_24 stI5
    rw [rdl_5, pb_e5]
    show (if e.2.1 1011 (0 : Int32).toNatClampNeg = -1 then (if (10 : Int32) ≤ e.1 coFunctions then _ else _) else _) = _
    rw [if_pos (show e.2.1 1011 (0 : Int32).toNatClampNeg = -1 from h11), if_neg (show ¬ (10 : Int32) ≤ e.1 coFunctions from fun q => absurd ((lti_n5 (m := 10) hf (by omega) (by decide)).mp q) (by omega))]
    rfl
  rw [hf, on_15 (by omega)] at z
  exact ⟨_, z, rfl, rfl, rfl, rfl, rfl⟩
end
