set_option maxHeartbeats 1600000
/-! ChanceWorks.program: its run, with what it catches -/
theorem n_us09 {x y : Option dG} (e : x = y.map fg9) (h : y = none) : x = none := by
  rw [e, h]; rfl
theorem n_hea9 {E : dE} {b d : Nat} {r : dM} {i : Instr} {len : Nat} {st : List Value} {h : dH} {cs ss : Nat} (hh : dheap E b d r i len st h cs ss = none) : dheap E b d r i len st (none, h.2) cs ss = none := by
  cases i
  case getfield idx => exact n_us09 (show dor _ _ = (dor _ _).map fg9 by rw [n_getf9, n_gets9, n_or9]) hh
  case putfield idx => exact n_us09 n_putf9 hh
  case iaload => exact n_us09 n_aldI9 hh
  case baload => exact n_us09 (show dor _ (dor _ _) = (dor _ (dor _ _)).map fg9 by rw [n_aldI9, n_aldI9, n_sld9, n_or9, n_or9]) hh
  case laload => exact n_us09 n_aldL9 hh
  case iastore => exact n_us09 n_astI9 hh
  case bastore =>
    refine n_us09 ?_ hh
    show (match dastI b 1 len (vp_nar .byte) st (none, h.2) cs ss with | some g => some g | none => dastI b 3 len (vp_nar .boolean) st (none, h.2) cs ss) = Option.map fg9 (match dastI b 1 len (vp_nar .byte) st h cs ss with | some g => some g | none => dastI b 3 len (vp_nar .boolean) st h cs ss)
    rw [n_astI9 (h := h), n_astI9 (h := h)]
    cases dastI b 1 len (vp_nar .byte) st h cs ss <;> rfl
  case lastore => exact n_us09 n_astL9 hh
  case arraylength => exact n_us09 (show dor _ _ = (dor _ _).map fg9 by rw [n_alen9, n_slen9, n_or9]) hh
  case newarray at0 =>
    show dnewa len at0 st (none, h.2) cs ss = none
    unfold dnewa
    repeat' split
    all_goals first | rfl | contradiction
  case new idx =>
    show dnewo E r.2.2.2.2.2.1 len idx st (none, h.2) cs ss = none
    unfold dnewo
    repeat' split
    all_goals first | rfl | contradiction
  case anewarray idx =>
    show dnewq E r.2.2.2.2.2.1 len idx st (none, h.2) cs ss = none
    unfold dnewq
    repeat' split
    all_goals first | rfl | contradiction
  case aaload => exact n_us09 n_aldQ9 hh
  case aastore => exact n_us09 n_astQ9 hh
  case invokestatic idx => exact n_us09 n_bi9 hh
  case invokespecial idx => exact n_us09 n_oi9 hh
  case getstatic idx => exact n_us09 n_ldc9 hh
  case ldc idx =>
    refine n_us09 ?_ hh
    show (match dldc len 2 ((eCN E r.2.2.2.2.2.1 idx).map Value.int) st (none, h.2) cs ss with | some g => some g | none => dldc len 2 ((eSR E r.2.2.2.2.2.1 idx).map Value.ref) st (none, h.2) cs ss) = Option.map fg9 (match dldc len 2 ((eCN E r.2.2.2.2.2.1 idx).map Value.int) st h cs ss with | some g => some g | none => dldc len 2 ((eSR E r.2.2.2.2.2.1 idx).map Value.ref) st h cs ss)
    rw [n_ldc9 (h := h), n_ldc9 (h := h)]
    cases dldc len 2 ((eCN E r.2.2.2.2.2.1 idx).map Value.int) st h cs ss <;> rfl
  case ldc_w idx => exact n_us09 n_ldc9 hh
  case ldc2_w idx => exact n_us09 n_ldc9 hh
  all_goals rfl
theorem n_inv9 {E : dE} {o : Nat} {i : Instr} {len : Nat} {st : List Value} {h : dH} : dinv E o i len st (none, h.2) = dinv E o i len st h := by
  cases i <;> rfl
/-- a run that makes nothing goes the same way where the number of cells isn't known -/
theorem drun_none9 {E : dE} {b : Nat} : ∀ (n d : Nat) (r : dM) (pc : Nat) (lo : dL0) (st : List Value) (h : dH) (cs ss : Nat) (z : dZ), drun E b n d r pc lo st h cs ss = some z → z.2.2.1 = cs → drun E b n d r pc lo st (none, h.2) cs ss = some (z.1, (none, z.2.1.2), z.2.2) := by
  intro n
  induction n with
  | zero => intro d r pc lo st h cs ss z hh; cases hh
  | succ n ih =>
    intro d r pc lo st h cs ss z hh hc
    obtain ⟨i, len, hd, hs⟩ := drun_split hh
    rw [drun, hd]
    dsimp only
    rcases hs with ⟨w, g1, g2⟩ | ⟨g, g0, g1, g2⟩ | ⟨v, g0, g1, g2, g3⟩ | ⟨d', y, w, rfl, g0, g1, g2, g3, g4, g5⟩
    · rw [g1]
      exact ih _ _ _ _ _ _ _ _ _ g2 hc
    · rw [g0]
      dsimp only
      have m1 := (drun_mono _ _ _ _ _ _ _ _ _ _ g2).1
      have m2 := (dheap_mono g1).1
      have e : g.2.2.1 = cs := by omega
      rw [n_heap9 g1 e]
      have k : z.2.2.1 = g.2.2.1 := by omega
      exact ih _ _ _ _ _ _ _ _ _ g2 k
    · rw [g0]
      dsimp only
      rw [n_hea9 g1]
      dsimp only
      rw [g2, g3]
    · rw [g0]
      dsimp only
      rw [n_hea9 g1]
      dsimp only
      rw [g2]
      dsimp only
      rw [n_inv9, g3]
      dsimp only
      have m1 := (drun_mono _ _ _ _ _ _ _ _ _ _ g5).1
      rw [ih _ _ _ _ _ _ _ _ _ g4 (by omega)]
      have k : z.2.2.1 = cs + w.2.2.1 := by omega
      exact ih _ _ _ _ _ _ _ _ _ g5 k
/-- a run that catches nothing -/
theorem drunC_of9 {E : dE} {X : dX} {XH : Nat → Option String} {hx : dHH} {b : Nat} : ∀ (n d : Nat) (r : dM) (pc : Nat) (lo : dL0) (st : List Value) (h : dH) (cs ss : Nat) (z : dZ), drun E b n d r pc lo st h cs ss = some z → drunC E X XH hx b n d r pc lo st h cs ss = some z := by
  intro n
  induction n with
  | zero => intro d r pc lo st h cs ss z hh; cases hh
  | succ n ih =>
    intro d r pc lo st h cs ss z hh
    obtain ⟨i, len, hd, hs⟩ := drun_split hh
    rw [drunC, hd]
    dsimp only
    rcases hs with ⟨w, g1, g2⟩ | ⟨g, g0, g1, g2⟩ | ⟨v, g0, g1, g2, g3⟩ | ⟨d', y, w, rfl, g0, g1, g2, g3, g4, g5⟩
    · rw [g1]
      exact ih _ _ _ _ _ _ _ _ _ g2
    · rw [g0]
      dsimp only
      rw [g1]
      exact ih _ _ _ _ _ _ _ _ _ g2
    · rw [g0]
      dsimp only
      rw [g1]
      dsimp only
      rw [g2, g3]
    · rw [g0]
      dsimp only
      rw [g1]
      dsimp only
      rw [g2]
      dsimp only
      rw [g3]
      dsimp only
      rw [g4]
      exact ih _ _ _ _ _ _ _ _ _ g5
