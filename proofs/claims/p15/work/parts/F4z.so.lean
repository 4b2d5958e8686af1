/-! what is seen at the start -/
theorem st_o9 {k : Nat} {κ : zS} (H : lgH9 k κ 138 clF9) : oC9 κ (k + 1) = ((fun _ => 0, 0, 0) : Ob9) := by
  have e1 : zR κ chTape (k + 1) = k + 2 := lg_r9 H (by decide) (by decide) (by decide +kernel)
  have e2 : zI κ taLength (k + 2) = 0 := lg_i9 H (by decide) (by decide +kernel)
  have e3 : zI κ chFaultCode (k + 1) = 0 := lg_i9 H (by decide) (by decide +kernel)
  unfold oC9
  rw [e1, e2, e3]
  exact mk_09
theorem oR_09 : oR9 sg9 = ((fun _ => 0, 0, 0) : Ob9) := mk_09 (f := sg9.2.2.1 1) (x := 0)
def c59 (sa : Nat → Nat) (TL : List (Nat × Nat × List Int32)) (b : Nat) : zC := (sa, TL, b, (none, fun _ => none))
theorem st_r7 {k : Nat} {κ : zS} (H : lgH9 k κ 138 clF9) : RC7 κ (k + 1) sg9 := by
  have e3 : zI κ chReady (k + 1) = 0 := lg_i9 H (by decide) (by decide +kernel)
  have e0 : sg9.1 14 = 0 := rfl
  exact ⟨oR_09.trans (st_o9 H).symm, ⟨fun _ => e3, fun _ => e0⟩, fun z => absurd e0 z⟩
theorem st_r8 {k : Nat} {κ : zS} (H : lgH9 k κ 138 clF9) : RC8 κ (k + 1) sg9 := by
  have e1 : zR κ chAtlas (k + 1) = k + 42 := lg_r9 H (by decide) (by decide) (by decide +kernel)
  have e3 : zI κ atExplored (k + 42) = 0 := lg_i9 H (by decide) (by decide +kernel)
  have e0 : sg9.1 69 = 0 := rfl
  refine ⟨st_r7 H, ?_, fun z => absurd e0 z, fun _ => ⟨rfl, rfl, rfl⟩⟩
  rw [e1]
  exact ⟨fun _ => e3, fun _ => e0⟩
