/-! what is seen at the start -/
theorem st_o9 {k : Nat} {κ : zS} (H : lgH9 k κ 138 clF9) : oC9 κ (k + 1) = ((fun _ => 0, 0, 0) : Ob9) := by
  have e1 : zR κ chTape (k + 1) = k + 2 := lg_r9 H (by decide) (by decide) (by decide +kernel)
  have e2 : zI κ taLength (k + 2) = 0 := lg_i9 H (by decide) (by decide +kernel)
  have e3 : zI κ chFaultCode (k + 1) = 0 := lg_i9 H (by decide) (by decide +kernel)
  unfold oC9
  rw [e1, e2, e3]
  exact mk_09
theorem oR_09 : oR9 sg9 = ((fun _ => 0, 0, 0) : Ob9) := mk_09 (f := sg9.2.2.1 1) (x := 0)
def c59 (sa : Nat → Nat) (TL : List (Nat × Nat × List Int32)) (b : Nat) : zC := (sa, TL, b, (none, fun _ => none))
theorem st_r7 {k : Nat} {κ : zS} (H : lgH9 k κ 138 clF9) : RC7 κ (k + 1) sg9 := by
  have e3 : zI κ chReady (k + 1) = 0 := lg_i9 H (by decide) (by decide +kernel)
  have e0 : sg9.1 14 = 0 := rfl
  exact ⟨oR_09.trans (st_o9 H).symm, ⟨fun _ => e3, fun _ => e0⟩, fun z => absurd e0 z⟩
theorem sho_016 {k : Nat} {κ : zS} (H : lgH9 k κ 138 clF9) : fr16 κ (zR κ chShown (k + 1)) 0 := by
  have e1 : zR κ chShown (k + 1) = k + 128 := lg_r9 H (by decide) (by decide) (by decide +kernel)
  have e2 : zR κ raTop (k + 128) = k + 129 := lg_r9 H (by decide) (by decide) (by decide +kernel)
  have e3 : zR κ raBottom (k + 128) = k + 131 := lg_r9 H (by decide) (by decide) (by decide +kernel)
  have e4 : zR κ nuLimbs (k + 131) = k + 132 := lg_r9 H (by decide) (by decide) (by decide +kernel)
  have i1 : zI κ raSign (k + 128) = 0 := lg_i9 H (by decide) (by decide +kernel)
  have i2 : zI κ nuLength (k + 129) = 0 := lg_i9 H (by decide) (by decide +kernel)
  have i3 : zI κ nuLength (k + 131) = 1 := lg_i9 (x := 1) H (by decide) (by decide +kernel)
  have a1 : zA κ (k + 132) 0 = 1 := by rw [H.2.2.2.2.2.1 132 0 (by decide), show lgA9 clF9 132 0 = 1 from by decide +kernel]; rfl
  rw [e1]
  refine ⟨lg_y9 H (by decide) (by decide +kernel), ?_⟩
  unfold rqW8 nuN
  rw [e2, e3, e4, i1, i2, i3]
  refine ⟨rfl, rfl, ?_⟩
  show uV (zA κ (k + 132)) 1 = 1
  rw [uV_1, a1]
  rfl
theorem rk_016 {k : Nat} {κ : zS} (H : lgH9 k κ 138 clF9) : RK16 κ (k + 1) sg9 := by
  have e1 : zR κ chSolver (k + 1) = k + 89 := lg_r9 H (by decide) (by decide) (by decide +kernel)
  have s0 : zI κ soSolved (zR κ chSolver (k + 1)) = 0 := by rw [e1]; exact lg_i9 H (by decide) (by decide +kernel)
  have p0 : zI κ soPlanned (zR κ chSolver (k + 1)) = 0 := by rw [e1]; exact lg_i9 H (by decide) (by decide +kernel)
  have e94 : sg9.1 94 = 0 := rfl
  have e114 : sg9.1 114 = 0 := rfl
  have e103 : sg9.1 103 = 0 := rfl
  have e106 : sg9.1 106 = -1 := rfl
  exact ⟨RS_016 s0 e94, RW_016 p0 e114, ⟨0, sho_016 H, fun _ => rfl, fun z => absurd e103 z⟩, fun z => absurd e106 z⟩
theorem st_r8 {k : Nat} {κ : zS} (H : lgH9 k κ 138 clF9) : RC8 κ (k + 1) sg9 := by
  have e1 : zR κ chAtlas (k + 1) = k + 42 := lg_r9 H (by decide) (by decide) (by decide +kernel)
  have e3 : zI κ atExplored (k + 42) = 0 := lg_i9 H (by decide) (by decide +kernel)
  have e0 : sg9.1 69 = 0 := rfl
  refine ⟨st_r7 H, ?_, fun z => absurd e0 z, fun _ => ⟨rfl, rfl, rfl⟩, by have e4 : zI κ chTolds (k + 1) = 0 := lg_i9 H (by decide) (by decide +kernel); exact ⟨by rw [e4]; rfl, fun j hj => by rw [e4] at hj; exact absurd hj (Nat.not_lt_zero _)⟩, by have e5 : zI κ chPlayMade (k + 1) = 0 := lg_i9 H (by decide) (by decide +kernel); have e6 : sg9.1 106 = -1 := rfl; exact ⟨⟨fun _ => e6, fun _ => e5⟩, fun z => absurd e6 z⟩, rk_016 H⟩
  rw [e1]
  exact ⟨fun _ => e3, fun _ => e0⟩
