set_option maxHeartbeats 1600000
/-! runs that make nothing don't ask how many cells there are -/
def fg9 (g : dG) : dG := (g.1, (none, g.2.1.2), g.2.2)
theorem n_getf9 {E : dE} {o len idx cs ss : Nat} {st : List Value} {h : dH} : dgetf E o len idx st (none, h.2) cs ss = (dgetf E o len idx st h cs ss).map fg9 := by
  unfold dgetf
  dsimp only
  repeat' split
  all_goals first | rfl | simp [fg9, Function.comp_def]
theorem n_gets9 {E : dE} {o len idx cs ss : Nat} {st : List Value} {h : dH} : dgets E o len idx st (none, h.2) cs ss = (dgets E o len idx st h cs ss).map fg9 := by
  unfold dgets
  repeat' split
  all_goals first | rfl | simp [fg9, Function.comp_def]
theorem n_putf9 {E : dE} {b o len idx cs ss : Nat} {ini : Bool} {st : List Value} {h : dH} : dputf E b o len idx ini st (none, h.2) cs ss = (dputf E b o len idx ini st h cs ss).map fg9 := by
  unfold dputf
  dsimp only
  repeat' split
  all_goals first | rfl | simp [fg9, Function.comp_def]
theorem n_aldI9 {t len cs ss : Nat} {st : List Value} {h : dH} : daldI t len st (none, h.2) cs ss = (daldI t len st h cs ss).map fg9 := by
  unfold daldI
  dsimp only
  repeat' split
  all_goals first | rfl | simp [fg9, Function.comp_def]
theorem n_aldL9 {len cs ss : Nat} {st : List Value} {h : dH} : daldL len st (none, h.2) cs ss = (daldL len st h cs ss).map fg9 := by
  unfold daldL
  dsimp only
  repeat' split
  all_goals first | rfl | simp [fg9, Function.comp_def]
theorem n_astI9 {b t len cs ss : Nat} {nr : Int32 → Int32} {st : List Value} {h : dH} : dastI b t len nr st (none, h.2) cs ss = (dastI b t len nr st h cs ss).map fg9 := by
  unfold dastI
  dsimp only
  repeat' split
  all_goals first | rfl | simp [fg9, Function.comp_def]
theorem n_astL9 {b len cs ss : Nat} {st : List Value} {h : dH} : dastL b len st (none, h.2) cs ss = (dastL b len st h cs ss).map fg9 := by
  unfold dastL
  dsimp only
  repeat' split
  all_goals first | rfl | simp [fg9, Function.comp_def]
theorem n_alen9 {len cs ss : Nat} {st : List Value} {h : dH} : dalen len st (none, h.2) cs ss = (dalen len st h cs ss).map fg9 := by
  unfold dalen
  dsimp only
  repeat' split
  all_goals first | rfl | simp [fg9, Function.comp_def]
theorem n_slen9 {E : dE} {len cs ss : Nat} {st : List Value} {h : dH} : dslen E len st (none, h.2) cs ss = (dslen E len st h cs ss).map fg9 := by
  unfold dslen
  repeat' split
  all_goals first | rfl | simp [fg9, Function.comp_def]
theorem n_sld9 {E : dE} {len cs ss : Nat} {st : List Value} {h : dH} : dsld E len st (none, h.2) cs ss = (dsld E len st h cs ss).map fg9 := by
  unfold dsld
  repeat' split
  all_goals first | rfl | simp [fg9, Function.comp_def]
theorem n_ldc9 {len n cs ss : Nat} {q : Option Value} {st : List Value} {h : dH} : dldc len n q st (none, h.2) cs ss = (dldc len n q st h cs ss).map fg9 := by
  unfold dldc
  repeat' split
  all_goals first | rfl | simp [fg9, Function.comp_def]
theorem n_aldQ9 {len cs ss : Nat} {st : List Value} {h : dH} : daldQ len st (none, h.2) cs ss = (daldQ len st h cs ss).map fg9 := by
  unfold daldQ
  dsimp only
  repeat' split
  all_goals first | rfl | simp [fg9, Function.comp_def]
theorem n_astQ9 {b len cs ss : Nat} {st : List Value} {h : dH} : dastQ b len st (none, h.2) cs ss = (dastQ b len st h cs ss).map fg9 := by
  unfold dastQ
  dsimp only
  repeat' split
  all_goals first | rfl | simp [fg9, Function.comp_def]
theorem n_min9 {len d cs ss : Nat} {st : List Value} {h : dH} : dmin len d st (none, h.2) cs ss = (dmin len d st h cs ss).map fg9 := by
  unfold dmin
  repeat' split
  all_goals first | rfl | simp [fg9, Function.comp_def]
theorem n_max9 {len d cs ss : Nat} {st : List Value} {h : dH} : dmax len d st (none, h.2) cs ss = (dmax len d st h cs ss).map fg9 := by
  unfold dmax
  repeat' split
  all_goals first | rfl | simp [fg9, Function.comp_def]
theorem n_minL9 {len d cs ss : Nat} {st : List Value} {h : dH} : dminL len d st (none, h.2) cs ss = (dminL len d st h cs ss).map fg9 := by
  unfold dminL
  repeat' split
  all_goals first | rfl | simp [fg9, Function.comp_def]
theorem n_absL9 {len d cs ss : Nat} {st : List Value} {h : dH} : dabsL len d st (none, h.2) cs ss = (dabsL len d st h cs ss).map fg9 := by
  unfold dabsL
  repeat' split
  all_goals first | rfl | simp [fg9, Function.comp_def]
theorem n_cpy9 {b len d cs ss : Nat} {st : List Value} {h : dH} : dcpy b len d st (none, h.2) cs ss = (dcpy b len d st h cs ss).map fg9 := by
  unfold dcpy
  dsimp only
  repeat' split
  all_goals first | rfl | simp [fg9, Function.comp_def]
theorem n_oi09 {d len cs ss : Nat} {st : List Value} {h : dH} : doi0 d len st (none, h.2) cs ss = (doi0 d len st h cs ss).map fg9 := by
  unfold doi0
  repeat' split
  all_goals first | rfl | simp [fg9, Function.comp_def]
theorem n_bi9 {E : dE} {b d o len idx cs ss : Nat} {st : List Value} {h : dH} : dbi E b d o len idx st (none, h.2) cs ss = (dbi E b d o len idx st h cs ss).map fg9 := by
  unfold dbi
  rw [n_min9 (h := h), n_max9 (h := h), n_minL9 (h := h), n_absL9 (h := h), n_cpy9 (h := h)]
  split <;> rfl
theorem n_oi9 {E : dE} {d o len idx cs ss : Nat} {st : List Value} {h : dH} : doi E d o len idx st (none, h.2) cs ss = (doi E d o len idx st h cs ss).map fg9 := by
  unfold doi
  rw [n_oi09 (h := h)]
  split <;> rfl
theorem n_or9 {x y : Option dG} : dor (x.map fg9) (y.map fg9) = (dor x y).map fg9 := by cases x <;> rfl
theorem n_use9 {x y : Option dG} {g : dG} (e : x = y.map fg9) (h : y = some g) : x = some (fg9 g) := by
  rw [e, h]; rfl
theorem n_heap9 {E : dE} {b d : Nat} {r : dM} {i : Instr} {len : Nat} {st : List Value} {h : dH} {cs ss : Nat} {g : dG} (hh : dheap E b d r i len st h cs ss = some g) (hc : g.2.2.1 = cs) : dheap E b d r i len st (none, h.2) cs ss = some (fg9 g) := by
  cases i
  case getfield idx => exact n_use9 (show dor _ _ = (dor _ _).map fg9 by rw [n_getf9, n_gets9, n_or9]) hh
  case putfield idx => exact n_use9 n_putf9 hh
  case iaload => exact n_use9 n_aldI9 hh
  case baload => exact n_use9 (show dor _ (dor _ _) = (dor _ (dor _ _)).map fg9 by rw [n_aldI9, n_aldI9, n_sld9, n_or9, n_or9]) hh
  case laload => exact n_use9 n_aldL9 hh
  case iastore => exact n_use9 n_astI9 hh
  case bastore =>
    refine n_use9 ?_ hh
    show (match dastI b 1 len (vp_nar .byte) st (none, h.2) cs ss with | some g => some g | none => dastI b 3 len (vp_nar .boolean) st (none, h.2) cs ss) = Option.map fg9 (match dastI b 1 len (vp_nar .byte) st h cs ss with | some g => some g | none => dastI b 3 len (vp_nar .boolean) st h cs ss)
    rw [n_astI9 (h := h), n_astI9 (h := h)]
    cases dastI b 1 len (vp_nar .byte) st h cs ss <;> rfl
  case lastore => exact n_use9 n_astL9 hh
  case arraylength => exact n_use9 (show dor _ _ = (dor _ _).map fg9 by rw [n_alen9, n_slen9, n_or9]) hh
  case newarray at0 =>
    exfalso
    have hh : dnewa len at0 st h cs ss = some g := hh
    unfold dnewa at hh
    repeat' split at hh
    all_goals first | (cases hh; done) | (cases hh; exact absurd hc (by show ¬ cs + 1 = cs; omega))
  case new idx =>
    exfalso
    have hh : dnewo E r.2.2.2.2.2.1 len idx st h cs ss = some g := hh
    unfold dnewo at hh
    repeat' split at hh
    all_goals first | (cases hh; done) | (cases hh; exact absurd hc (by show ¬ cs + 1 = cs; omega))
  case anewarray idx =>
    exfalso
    have hh : dnewq E r.2.2.2.2.2.1 len idx st h cs ss = some g := hh
    unfold dnewq at hh
    repeat' split at hh
    all_goals first | (cases hh; done) | (cases hh; exact absurd hc (by show ¬ cs + 1 = cs; omega))
  case aaload => exact n_use9 n_aldQ9 hh
  case aastore => exact n_use9 n_astQ9 hh
  case invokestatic idx => exact n_use9 n_bi9 hh
  case invokespecial idx => exact n_use9 n_oi9 hh
  case getstatic idx => exact n_use9 n_ldc9 hh
  case ldc idx =>
    refine n_use9 ?_ hh
    show (match dldc len 2 ((eCN E r.2.2.2.2.2.1 idx).map Value.int) st (none, h.2) cs ss with | some g => some g | none => dldc len 2 ((eSR E r.2.2.2.2.2.1 idx).map Value.ref) st (none, h.2) cs ss) = Option.map fg9 (match dldc len 2 ((eCN E r.2.2.2.2.2.1 idx).map Value.int) st h cs ss with | some g => some g | none => dldc len 2 ((eSR E r.2.2.2.2.2.1 idx).map Value.ref) st h cs ss)
    rw [n_ldc9 (h := h), n_ldc9 (h := h)]
    cases dldc len 2 ((eCN E r.2.2.2.2.2.1 idx).map Value.int) st h cs ss <;> rfl
  case ldc_w idx => exact n_use9 n_ldc9 hh
  case ldc2_w idx => exact n_use9 n_ldc9 hh
  all_goals cases hh
