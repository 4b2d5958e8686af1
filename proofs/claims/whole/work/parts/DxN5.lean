section
set_option maxHeartbeats 1600000
/-! the class reads an expression: what it emits -/
/-- what an expression leaves as it was -/
def G6 (e e' : E5) : Prop := (∀ g, g ≠ 1002 → g ≠ 1003 → g ≠ 1004 → g ≠ 1016 → g ≠ 515 → e'.1 g = e.1 g) ∧ (∀ g, g ≠ 1015 → g ≠ 507 → g ≠ 508 → e'.2.1 g = e.2.1 g) ∧ e'.2.2 = e.2.2
theorem G_r6 {e : E5} : G6 e e := ⟨fun _ _ _ _ _ _ => rfl, fun _ _ _ _ => rfl, rfl⟩
theorem G_t6 {e f g : E5} (h : G6 e f) (k : G6 f g) : G6 e g := ⟨fun j a b c d i => (k.1 j a b c d i).trans (h.1 j a b c d i), fun j a b c => (k.2.1 j a b c).trans (h.2.1 j a b c), k.2.2.trans h.2.2⟩
theorem G_tq6 {e e' : E5} (h : G6 e e') : tq5 e' = tq5 e := by
  unfold tq5
  rw [h.2.1 taBytes (by decide) (by decide) (by decide), h.2.1 taKinds (by decide) (by decide) (by decide), h.2.1 taPlaces (by decide) (by decide) (by decide), h.2.1 taLengths (by decide) (by decide) (by decide), h.1 taLength (by decide) (by decide) (by decide) (by decide) (by decide), h.1 taTotal (by decide) (by decide) (by decide) (by decide) (by decide), h.2.2]
/-- the code told so far, the latest first -/
def cde6 (e : E5) (R : List Qq6) : Prop := e.1 515 = Int32.ofNat R.length ∧ stk5 (e.2.1 507) (R.map Prod.fst) ∧ stk5 (e.2.1 508) (R.map Prod.snd)
theorem cd_e6 {e e' : E5} {R : List Qq6} (h : cde6 e R) (h1 : e'.1 515 = e.1 515) (h2 : e'.2.1 507 = e.2.1 507) (h3 : e'.2.1 508 = e.2.1 508) : cde6 e' R := ⟨h1.trans h.1, by rw [h2]; exact h.2.1, by rw [h3]; exact h.2.2⟩
theorem wC_e6 {e e' : E5} {C : List Int32} (h : wC5 e C) (h1 : e'.1 1016 = e.1 1016) (h2 : e'.2.1 1015 = e.2.1 1015) : wC5 e' C := ⟨h1.trans h.1, by have z := h.2; show stk5 (e'.2.1 1015) C; rw [h2]; exact z⟩
/-- what stays beside the waiting and the code: token, kind, brackets -/
def K6 (e e' : E5) : Prop := e'.1 1002 = e.1 1002 ∧ e'.1 1003 = e.1 1003 ∧ e'.1 1004 = e.1 1004
theorem em_6 {e : E5} {R : List Qq6} {C : List Int32} {o x : Int32} (h : cde6 e R) (w : wC5 e C) (hl : R.length ≤ 1000000) : ∃ e', f5_Co_emit o x e = .inl (e', ()) ∧ cde6 e' ((o, x) :: R) ∧ wC5 e' C ∧ G6 e e' ∧ K6 e e' := by
  have e0 : (e.1 515).toNatClampNeg = R.length := by rw [h.1, cl_5 (by omega)]
  refine ⟨_, rfl, ⟨?_, ⟨?_, ?_⟩, ⟨?_, ?_⟩⟩, ⟨w.1, ?_⟩, ⟨fun g a b c d i => if_neg i, fun g a b c => ?_, rfl⟩, rfl, rfl, rfl⟩
  · show (if 515 = 515 then e.1 515 + 1 else e.1 515) = Int32.ofNat (R.length + 1)
    rw [if_pos rfl, h.1, on_15 (by omega)]
  · show (if 507 = 507 ∧ (R.map Prod.fst).length = (e.1 515).toNatClampNeg then o else _) = o
    rw [if_pos ⟨rfl, by rw [e0, List.length_map]⟩]
  · refine stk_e5 (fun j hj => ?_) h.2.1
    rw [List.length_map] at hj
    show (if 507 = 507 ∧ j = (e.1 515).toNatClampNeg then o else if 507 = 508 ∧ j = (e.1 515).toNatClampNeg then x else e.2.1 507 j) = _
    rw [e0, if_neg (fun q => by have := q.2; omega), if_neg (fun q => absurd q.1 (by decide))]
  · show (if 508 = 507 ∧ (R.map Prod.snd).length = (e.1 515).toNatClampNeg then o else if 508 = 508 ∧ (R.map Prod.snd).length = (e.1 515).toNatClampNeg then x else _) = x
    rw [if_neg (fun q => absurd q.1 (by decide)), if_pos ⟨rfl, by rw [e0, List.length_map]⟩]
  · refine stk_e5 (fun j hj => ?_) h.2.2
    rw [List.length_map] at hj
    show (if 508 = 507 ∧ j = (e.1 515).toNatClampNeg then o else if 508 = 508 ∧ j = (e.1 515).toNatClampNeg then x else e.2.1 508 j) = _
    rw [e0, if_neg (fun q => absurd q.1 (by decide)), if_neg (fun q => by have := q.2; omega)]
  · refine stk_e5 (fun j hj => ?_) w.2
    show (if 1015 = 507 ∧ j = (e.1 515).toNatClampNeg then o else if 1015 = 508 ∧ j = (e.1 515).toNatClampNeg then x else e.2.1 1015 j) = _
    rw [if_neg (fun q => absurd q.1 (by decide)), if_neg (fun q => absurd q.1 (by decide))]
  · funext j
    show (if g = 507 ∧ j = (e.1 515).toNatClampNeg then o else if g = 508 ∧ j = (e.1 515).toNatClampNeg then x else e.2.1 g j) = _
    rw [if_neg (fun q => b q.1), if_neg (fun q => c q.1)]
theorem ho_c6 {e : E5} {R : List Qq6} {C : List Int32} {o : Int32} (h : cde6 e R) (w : wC5 e C) (hl : C.length ≤ 1000000) : ∃ e', f5_Pa_hold o e = .inl (e', ()) ∧ cde6 e' R ∧ wC5 e' (o :: C) ∧ G6 e e' ∧ K6 e e' := by
  have e0 : (e.1 1016).toNatClampNeg = C.length := by
    have z : e.1 1016 = Int32.ofNat C.length := w.1
    rw [z, cl_5 (by omega)]
  refine ⟨_, rfl, cd_e6 h rfl ?_ ?_, ⟨?_, ?_, ?_⟩, ⟨fun g a b c d i => if_neg d, fun g a b c => ?_, rfl⟩, rfl, rfl, rfl⟩
  · funext j
    show (if 507 = 1015 ∧ j = (e.1 1016).toNatClampNeg then o else e.2.1 507 j) = _
    exact if_neg (fun q => absurd q.1 (by decide))
  · funext j
    show (if 508 = 1015 ∧ j = (e.1 1016).toNatClampNeg then o else e.2.1 508 j) = _
    exact if_neg (fun q => absurd q.1 (by decide))
  · show (if 1016 = 1016 then e.1 1016 + 1 else e.1 1016) = Int32.ofNat (C.length + 1)
    have z : e.1 1016 = Int32.ofNat C.length := w.1
    rw [if_pos rfl, z, on_15 (by omega)]
  · show (if 1015 = 1015 ∧ C.length = (e.1 1016).toNatClampNeg then o else _) = o
    rw [if_pos ⟨rfl, e0.symm⟩]
  · refine stk_e5 (fun j hj => ?_) w.2
    show (if 1015 = 1015 ∧ j = (e.1 1016).toNatClampNeg then o else e.2.1 1015 j) = _
    rw [e0, if_neg (fun q => by have := q.2; omega)]
  · funext j
    show (if g = 1015 ∧ j = (e.1 1016).toNatClampNeg then o else e.2.1 g j) = _
    exact if_neg (fun q => a q.1)
theorem sw_6 {e : E5} {R : List Qq6} {c : Int32} {C : List Int32} (h : cde6 e R) (w : wC5 e (c :: C)) (hl : C.length ≤ 1000000) : ∃ e', sw5 (e.1 paWaits - 1) e = .inl (e', ()) ∧ cde6 e' R ∧ wC5 e' C ∧ G6 e e' ∧ K6 e e' := by
  obtain ⟨_, e1, _⟩ := wC_t5 w hl
  rw [e1]
  refine ⟨_, rfl, cd_e6 h rfl ?_ ?_, ⟨rfl, stk_e5 (fun i hi => ?_) w.2.2⟩, ⟨fun g a b c d i => if_neg d, fun g a b c => ?_, rfl⟩, rfl, rfl, rfl⟩
  · funext j
    show (if 507 = 1015 ∧ ¬ j < (Int32.ofNat C.length).toNatClampNeg then 0 else e.2.1 507 j) = _
    exact if_neg (fun q => absurd q.1 (by decide))
  · funext j
    show (if 508 = 1015 ∧ ¬ j < (Int32.ofNat C.length).toNatClampNeg then 0 else e.2.1 508 j) = _
    exact if_neg (fun q => absurd q.1 (by decide))
  · show (if 1015 = 1015 ∧ ¬ i < (Int32.ofNat C.length).toNatClampNeg then 0 else e.2.1 1015 i) = _
    rw [cl_5 (by omega), if_neg (fun q => q.2 hi)]
  · funext j
    show (if g = 1015 ∧ ¬ j < (Int32.ofNat C.length).toNatClampNeg then 0 else e.2.1 g j) = _
    exact if_neg (fun q => a q.1)
theorem K_t6 {e f g : E5} (h : K6 e f) (k : K6 f g) : K6 e g := ⟨k.1.trans h.1, k.2.1.trans h.2.1, k.2.2.trans h.2.2⟩
/-- operators emitted -/
theorem ew_m6 {r : Int32} : ∀ (m : Nat) (C : List Int32) (R : List Qq6) (e e' : E5), cde6 e R → wC5 e C → C.length ≤ 1000000 → R.length + C.length ≤ 1000000 → f5_Pa_emitWaiting_0 m r e = .inl (e', ()) → cde6 e' ((cd6 (tk6 r C)).reverse ++ R) ∧ wC5 e' (drC5 r C) ∧ G6 e e' ∧ K6 e e'
  | 0, _, _, _, _, _, _, _, _, h => by cases h
  | m + 1, [], R, e, e', hc, w, _, _, h => by
    rw [f5_Pa_emitWaiting_0, if_pos (wC_05 w)] at h
    have z := congrArg Prod.fst (Sum.inl.inj h)
    have z : e = e' := z
    subst z
    exact ⟨hc, w, G_r6, rfl, rfl, rfl⟩
  | m + 1, c :: C, R, e, e', hc, w, hl, hr, h => by
    rw [List.length_cons] at hl hr
    obtain ⟨t1, t2, t3⟩ := wC_t5 w (by omega)
    rw [f5_Pa_emitWaiting_0, if_neg t1] at h
    dsimp only [pb5] at h
    rw [t3] at h
    by_cases q : f5_Pa_rankOf c < r
    · rw [if_pos q] at h
      have z := congrArg Prod.fst (Sum.inl.inj h)
      have z : e = e' := z
      subst z
      have z1 : tk6 r (c :: C) = [] := if_pos q
      have z2 : drC5 r (c :: C) = c :: C := if_pos q
      rw [z1, z2]
      exact ⟨hc, w, G_r6, rfl, rfl, rfl⟩
    · rw [if_neg q] at h
      obtain ⟨e1, p1, p2, p3, p4, p5⟩ := sw_6 hc w (by omega)
      rw [p1, rdl_5] at h
      obtain ⟨e2, q1, q2, q3, q4, q5⟩ := em_6 (o := c) (x := 0) p2 p3 (by omega)
      rw [q1, rdl_5] at h
      obtain ⟨g1, g2, g3, g4⟩ := ew_m6 m C ((c, 0) :: R) e2 e' q2 q3 (by omega) (by rw [List.length_cons]; omega) h
      have z1 : tk6 r (c :: C) = c :: tk6 r C := if_neg q
      have z2 : drC5 r (c :: C) = drC5 r C := if_neg q
      rw [z1, z2]
      refine ⟨?_, g2, G_t6 (G_t6 p4 q4) g3, K_t6 (K_t6 p5 q5) g4⟩
      have z3 : (cd6 (c :: tk6 r C)).reverse ++ R = (cd6 (tk6 r C)).reverse ++ ((c, 0) :: R) := by
        show ((c, 0) :: cd6 (tk6 r C)).reverse ++ R = _
        rw [List.reverse_cons, List.append_assoc]
        rfl
      rw [z3]
      exact g1
theorem ew_6 {r : Int32} {C : List Int32} {R : List Qq6} {e e' : E5} (hc : cde6 e R) (w : wC5 e C) (hr : R.length + C.length ≤ 1000000) (h : f5_Pa_emitWaiting r e = .inl (e', ())) : cde6 e' ((cd6 (tk6 r C)).reverse ++ R) ∧ wC5 e' (drC5 r C) ∧ G6 e e' ∧ K6 e e' := ew_m6 fu5 C R e e' hc w (by omega) hr h
theorem tk_l6 {r : Int32} : ∀ {C : List Int32}, (tk6 r C).length + (drC5 r C).length = C.length
  | [] => rfl
  | c :: C => by
    unfold tk6 drC5
    by_cases q : f5_Pa_rankOf c < r
    · rw [if_pos q, if_pos q]; show 0 + _ = _; omega
    · rw [if_neg q, if_neg q, List.length_cons, List.length_cons, ← tk_l6 (r := r) (C := C)]; omega
theorem cd_l6 {l : List Int32} : (cd6 l).length = l.length := List.length_map _
/-- a bind that succeeds -/
theorem rb_s6 {α β : Type} {m : R5 α} {k : E5 → α → R5 β} {e' : E5} {b : β} (h : rdB5 m k = .inl (e', b)) : ∃ e1 a1, m = .inl (e1, a1) ∧ k e1 a1 = .inl (e', b) := by
  rcases m with ⟨e1, a1⟩ | x
  · exact ⟨e1, a1, rfl, h⟩
  · cases h
/-- a token taken -/
theorem tk_c6 {T : T5} {N a : Nat} {e e' : E5} (hT : tq5 e = T) (hN : T.2.2.2.2.2.1 = Int32.ofNat N) (h6 : N ≤ 65537) (ha : a + 1 < N) (hat : e.1 1002 = Int32.ofNat a) (h : f5_Pa_take e = .inl (e', ())) : e'.1 1002 = Int32.ofNat (a + 1) ∧ e'.1 1003 = T.2.1 (a + 1) ∧ e'.1 1004 = e.1 1004 ∧ e'.2 = e.2 ∧ e'.1 1016 = e.1 1016 ∧ e'.1 515 = e.1 515 ∧ G6 e e' := by
  have ea : e.1 1002 + 1 = Int32.ofNat (a + 1) := by rw [hat, on_15 (by omega)]
  have l1 := ofn_i (n := a + 1) (by omega)
  have l2 := ofn_i (n := N) (by omega)
  have e1 : e.1 taTotal = Int32.ofNat N := by rw [← hN, ← hT]; rfl
  have e2 : e.2.1 taKinds = T.2.1 := by rw [← hT]; rfl
  unfold f5_Pa_take at h
  have h : (if e.1 1002 + 1 < 0 then rdB5 (stI5 paKind 142 (fun g => if g = paAt then e.1 1002 + 1 else e.1 g, e.2)) (fun e3 _ => .inl (e3, ())) else if e.1 taTotal ≤ e.1 1002 + 1 then rdB5 (stI5 paKind 142 (fun g => if g = paAt then e.1 1002 + 1 else e.1 g, e.2)) (fun e4 _ => .inl (e4, ())) else rdB5 (stI5 paKind (e.2.1 taKinds (e.1 1002 + 1).toNatClampNeg) (fun g => if g = paAt then e.1 1002 + 1 else e.1 g, e.2)) (fun e5 _ => .inl (e5, ()))) = (.inl (e', ()) : R5 Unit) := h
  rw [ea, e1, e2, if_neg (by rw [lti, l1, t0i]; omega), if_neg (by rw [lei, l1, l2]; omega), cl_5 (by omega)] at h
  have z := congrArg Prod.fst (Sum.inl.inj h)
  have z : ((fun g => if g = paKind then T.2.1 (a + 1) else if g = paAt then Int32.ofNat (a + 1) else e.1 g, e.2) : E5) = e' := z
  subst z
  refine ⟨rfl, rfl, rfl, rfl, rfl, rfl, fun g a b c d i => ?_, fun _ _ _ _ => rfl, rfl⟩
  show (if g = 1003 then _ else if g = 1002 then _ else e.1 g) = _
  rw [if_neg b, if_neg a]

end
section
set_option maxHeartbeats 1600000
/-! the class's loop over an expression: it is read step by step as Ch6 says, and its code is emitted -/
def rsE6 (e : E5) (t : Nat) : Qq6 := if f5_Ta_findName (tq5 e) (e.2.1 paOwnNames) (e.2.2 paOwnNames) (e.1 paOwns) (Int32.ofNat t) < 0 then (2, f5_Ta_findName (tq5 e) (e.2.1 paVarNames) (e.2.2 paVarNames) (e.1 coVars) (Int32.ofNat t)) else (3, f5_Ta_findName (tq5 e) (e.2.1 paOwnNames) (e.2.2 paOwnNames) (e.1 paOwns) (Int32.ofNat t))
def raE6 (e : E5) (t : Nat) : Int32 := f5_Ta_findName (tq5 e) (e.2.1 paArrayNames) (e.2.2 paArrayNames) (e.1 coArrays) (Int32.ofNat t)
theorem rs_G6 {e e' : E5} (h : G6 e e') : rsE6 e' = rsE6 e := by
  funext t
  unfold rsE6
  rw [G_tq6 h, h.2.1 paOwnNames (by decide) (by decide) (by decide), h.2.1 paVarNames (by decide) (by decide) (by decide), h.2.2, h.1 paOwns (by decide) (by decide) (by decide) (by decide) (by decide), h.1 coVars (by decide) (by decide) (by decide) (by decide) (by decide)]
theorem ra_G6 {e e' : E5} (h : G6 e e') : raE6 e' = raE6 e := by
  funext t
  unfold raE6
  rw [G_tq6 h, h.2.1 paArrayNames (by decide) (by decide) (by decide), h.2.2, h.1 coArrays (by decide) (by decide) (by decide) (by decide) (by decide)]
def owE6 (e : E5) (t : Nat) : Int32 := f5_Ta_findName (tq5 e) (e.2.1 paOwnNames) (e.2.2 paOwnNames) (e.1 paOwns) (Int32.ofNat t)
theorem ow_e6 {e e' : E5} (h : G6 e e') : owE6 e' = owE6 e := by
  funext t
  unfold owE6
  rw [G_tq6 h, h.2.1 paOwnNames (by decide) (by decide) (by decide), h.2.2, h.1 paOwns (by decide) (by decide) (by decide) (by decide) (by decide)]
def ow6 (T : T5) (N : Nat) (e : E5) : Prop := ∀ t, t < N → T.2.1 t = 140 → owE6 e t < 0 → owE6 e t = -1
theorem ow_G6 {T : T5} {N : Nat} {e e' : E5} (g : G6 e e') (h : ow6 T N e) : ow6 T N e' := fun t a b => by rw [ow_e6 g]; exact h t a b
/-- within an expression: token a, operators C that wait, the code R told (the latest first), l brackets open around it -/
def cs6 (T : T5) (N l : Nat) (rs : Nat → Qq6) (ra : Nat → Int32) (a : Nat) (C : List Int32) (R : List Qq6) (e : E5) : Prop := (tq5 e = T ∧ a < N ∧ e.1 1002 = Int32.ofNat a ∧ e.1 1003 = T.2.1 a) ∧ wC5 e C ∧ cde6 e R ∧ (e.1 1004 = Int32.ofNat (l + bk6 C) ∧ l + bk6 C ≤ 40) ∧ rsE6 e = rs ∧ raE6 e = ra ∧ ow6 T N e
def fn6 (T : T5) (N l : Nat) (a' : Nat) (R : List Qq6) (e e' : E5) : Prop := (tq5 e' = T ∧ a' < N ∧ e'.1 1002 = Int32.ofNat a' ∧ e'.1 1003 = T.2.1 a') ∧ cde6 e' R ∧ e'.1 1004 = Int32.ofNat l ∧ R.length ≤ 2 * a' ∧ G6 e e'
/-- what is known of the tokens -/
def tk16 (T : T5) (N : Nat) : Prop := T.2.2.2.2.2.1 = Int32.ofNat N ∧ N ≤ 65537 ∧ ∀ t, t < N → T.2.1 t ≠ 142 → T.2.1 t ≠ 143 → t + 1 < N
theorem tk_T6 {T : T5} {X : X5} {Bk N : Nat} {Z : Int32} (H : TR5 T X Bk N Z) : tk16 T N := ⟨H.1.1, H.1.2.2.1, fun t ht a b => by
  have z := H.2.2.2.1 t ht
  have y : ¬ (t + 1 = N) := fun q => by
    rcases z.mpr q with w | w
    · exact a w
    · exact b w
  omega⟩
section
variable {T : T5} {N l a : Nat} {rs : Nat → Qq6} {ra : Nat → Int32} {C : List Int32} {R : List Qq6} {e e' : E5}
theorem cs_t6 {τ : E5} (H : tk16 T N) (E : cs6 T N l rs ra a C R e) (hk : T.2.1 a ≠ 142 ∧ T.2.1 a ≠ 143) (h : f5_Pa_take e = .inl (τ, ())) : cs6 T N l rs ra (a + 1) C R τ ∧ G6 e τ := by
  obtain ⟨⟨h1, h2, h3, h4⟩, h5, h7, h8, h11, h12, h13⟩ := E
  have ha := H.2.2 a h2 hk.1 hk.2
  obtain ⟨q1, q2, q3, q4, q5, q6, q7⟩ := tk_c6 h1 H.1 H.2.1 ha h3 h
  exact ⟨⟨⟨(G_tq6 q7).trans h1, ha, q1, q2⟩, wC_e6 h5 q5 (by rw [q4]), cd_e6 h7 q6 (by rw [q4]) (by rw [q4]), ⟨q3.trans h8.1, h8.2⟩, (rs_G6 q7).trans h11, (ra_G6 q7).trans h12, ow_G6 q7 h13⟩, q7⟩
/-- waiting and code changed alone -/
theorem cs_k6 {τ : E5} {D : List Int32} {S : List Qq6} (E : cs6 T N l rs ra a C R e) (g : G6 e τ) (k : K6 e τ) (w : wC5 τ D) (c : cde6 τ S) (hb : bk6 D = bk6 C) : cs6 T N l rs ra a D S τ := by
  obtain ⟨⟨h1, h2, h3, h4⟩, h5, h7, h8, h11, h12, h13⟩ := E
  exact ⟨⟨(G_tq6 g).trans h1, h2, k.1.trans h3, k.2.1.trans h4⟩, w, c, ⟨by rw [k.2.2, hb]; exact h8.1, by rw [hb]; exact h8.2⟩, (rs_G6 g).trans h11, (ra_G6 g).trans h12, ow_G6 g h13⟩
/-- a bracket opened: the count of brackets is one more than the list says, until it is held -/
theorem cs_o6 {τ : E5} {s c : Int32} (H : tk16 T N) (E : cs6 T N l rs ra a C R e) (hs : s = 40 ∨ s = 91) (hc : br16 c) (hl : R.length + C.length ≤ 400000) (h : rdB5 (f5_Pa_openSign s e) (fun e1 _ => f5_Pa_hold c e1) = .inl (τ, ())) : T.2.1 a = s ∧ bk6 C < 40 - l ∧ cs6 T N l rs ra (a + 1) (c :: C) R τ ∧ G6 e τ := by
  obtain ⟨e1, _, o1, o2⟩ := rb_s6 h
  obtain ⟨⟨h1, h2, h3, h4⟩, h5, h7, h8, h11, h12, h13⟩ := E
  unfold f5_Pa_openSign f5_Pa_openSign_17 f5_Pa_openSign_35 at o1
  have l40 : (40 : Int32).toInt = 40 := rfl
  by_cases k : e.1 paKind = s
  · rw [if_pos k] at o1
    have k4 : T.2.1 a = s := h4.symm.trans k
    by_cases b : e.1 paOpen < 40
    · rw [if_pos b] at o1
      have o1 : rdB5 (f5_Pa_take (fun g => if g = 1004 then e.1 1004 + 1 else e.1 g, e.2)) (fun e2 _ => .inl (e2, ())) = .inl (e1, ()) := o1
      rw [rb_u5] at o1
      have lo := ofn_i (n := l + bk6 C) (by omega)
      have b' : (e.1 1004).toInt < 40 := by
        have z : e.1 1004 < 40 := b
        rw [lti, l40] at z
        exact z
      rw [h8.1, lo] at b'
      have ha := H.2.2 a h2 (by rw [k4]; rcases hs with q | q <;> rw [q] <;> decide) (by rw [k4]; rcases hs with q | q <;> rw [q] <;> decide)
      obtain ⟨q1, q2, q3, q4, q5, q6, q7⟩ := tk_c6 (e := (fun g => if g = 1004 then e.1 1004 + 1 else e.1 g, e.2)) (T := T) (a := a) h1 H.1 H.2.1 ha h3 o1
      have g1 : G6 e e1 := G_t6 (⟨fun g a b c d i => if_neg c, fun _ _ _ _ => rfl, rfl⟩ : G6 e (fun g => if g = 1004 then e.1 1004 + 1 else e.1 g, e.2)) q7
      obtain ⟨e2, p1, p2, p3, p4, p5⟩ := ho_c6 (o := c) (cd_e6 (e' := e1) h7 q6 (by rw [q4]) (by rw [q4])) (wC_e6 (e' := e1) h5 q5 (by rw [q4])) (by omega)
      rw [p1] at o2
      have z := congrArg Prod.fst (Sum.inl.inj o2)
      have z : e2 = τ := z
      subst z
      have g2 := G_t6 g1 p4
      refine ⟨k4, by omega, ⟨⟨(G_tq6 g2).trans h1, ha, p5.1.trans q1, p5.2.1.trans q2⟩, p3, p2, ⟨?_, ?_⟩, (rs_G6 g2).trans h11, (ra_G6 g2).trans h12, ow_G6 g2 h13⟩, g2⟩
      · rw [p5.2.2, q3]
        show (if 1004 = 1004 then e.1 1004 + 1 else e.1 1004) = _
        rw [if_pos rfl, h8.1, on_15 (by omega), bk_b6 hc]
        rfl
      · rw [bk_b6 hc]; omega
    · rw [if_neg b] at o1; cases o1
  · rw [if_neg k] at o1; cases o1
/-- an operand that is no name -/
theorem opd_6 {r : Int32} (H : tk16 T N) (E : cs6 T N l rs ra a C R e) (hl : R.length + C.length ≤ 400000) (h : f5_Pa_operand e = .inl (e', r)) : G6 e e' ∧ ((T.2.1 a = 141 ∧ r = 0 ∧ cs6 T N l rs ra (a + 1) C ((1, f5_Ta_numberAt T (Int32.ofNat a)) :: R) e') ∨ (∃ o, (T.2.1 a = 33 ∧ o = 6 ∨ T.2.1 a = 45 ∧ o = 5) ∧ r = 1 ∧ cs6 T N l rs ra (a + 1) (o :: C) R e') ∨ (T.2.1 a = 40 ∧ bk6 C < 40 - l ∧ r = 1 ∧ cs6 T N l rs ra (a + 1) (100 :: C) R e')) := by
  have E0 := E
  obtain ⟨⟨h1, h2, h3, h4⟩, h5, h7, h8, h11, h12, h13⟩ := E
  have h4' : e.1 paKind = T.2.1 a := h4
  unfold f5_Pa_operand f5_Pa_operand_15 at h
  by_cases c141 : e.1 paKind = 141
  · rw [if_pos c141, if_neg ne105] at h
    dsimp only [pb5] at h
    have e3 : e.1 paAt = Int32.ofNat a := h3
    rw [h1, e3] at h
    obtain ⟨e1, p1, p2, p3, p4, p5⟩ := em_6 (o := 1) (x := f5_Ta_numberAt T (Int32.ofNat a)) h7 h5 (by omega)
    rw [p1, rdl_5] at h
    obtain ⟨e2, _, t1, t2⟩ := rb_s6 h
    have E1 := cs_k6 E0 p4 p5 p3 p2 rfl
    obtain ⟨E2, g2⟩ := cs_t6 H E1 (by rw [← h4', c141]; decide) t1
    unfold f5_Pa_operand_102 at t2
    rw [if_neg ne105] at t2
    have z := Prod.mk.inj (Sum.inl.inj t2)
    obtain ⟨z1, z2⟩ := z
    subst z1
    exact ⟨G_t6 p4 g2, Or.inl ⟨h4'.symm.trans c141, z2.symm, E2⟩⟩
  · rw [if_neg c141, if_pos rfl] at h
    have sgn : ∀ o : Int32, us16 o → (T.2.1 a = 33 ∨ T.2.1 a = 45) → f5_Pa_operand_80 0 o e = .inl (e', r) → G6 e e' ∧ r = 1 ∧ cs6 T N l rs ra (a + 1) (o :: C) R e' := fun o ho hk h => by
      unfold f5_Pa_operand_80 at h
      obtain ⟨e1, p1, p2, p3, p4, p5⟩ := ho_c6 (o := o) h7 h5 (by omega)
      rw [p1, rdl_5] at h
      obtain ⟨e2, _, t1, t2⟩ := rb_s6 h
      have E1 := cs_k6 E0 p4 p5 p3 p2 (bk_s6 (us_f6 ho).2.2.2.2.1)
      obtain ⟨E2, g2⟩ := cs_t6 H E1 (by rcases hk with q | q <;> rw [q] <;> decide) t1
      unfold f5_Pa_operand_102 at t2
      rw [if_pos rfl] at t2
      have z := Prod.mk.inj (Sum.inl.inj t2)
      obtain ⟨z1, z2⟩ := z
      subst z1
      exact ⟨G_t6 p4 g2, z2.symm, E2⟩
    by_cases c33 : e.1 paKind = 33
    · rw [if_pos c33] at h
      unfold f5_Pa_operand_64 at h
      rw [if_pos c33] at h
      obtain ⟨z1, z2, z3⟩ := sgn 6 (Or.inr rfl) (Or.inl (h4'.symm.trans c33)) h
      exact ⟨z1, Or.inr (Or.inl ⟨6, Or.inl ⟨h4'.symm.trans c33, rfl⟩, z2, z3⟩)⟩
    · rw [if_neg c33] at h
      by_cases c45 : e.1 paKind = 45
      · rw [if_pos c45] at h
        unfold f5_Pa_operand_64 at h
        rw [if_neg c33] at h
        obtain ⟨z1, z2, z3⟩ := sgn 5 (Or.inl rfl) (Or.inr (h4'.symm.trans c45)) h
        exact ⟨z1, Or.inr (Or.inl ⟨5, Or.inr ⟨h4'.symm.trans c45, rfl⟩, z2, z3⟩)⟩
      · rw [if_neg c45] at h
        obtain ⟨e1, _, t1, t2⟩ := rb_s6 h
        obtain ⟨e2, _, t3, t4⟩ := rb_s6 t2
        have ho : rdB5 (f5_Pa_openSign 40 e) (fun e1 _ => f5_Pa_hold 100 e1) = .inl (e2, ()) := by rw [t1]; exact t3
        obtain ⟨z1, z2, z3, z4⟩ := cs_o6 H E0 (Or.inl rfl) (Or.inl rfl) hl ho
        unfold f5_Pa_operand_102 at t4
        rw [if_pos rfl] at t4
        have z := Prod.mk.inj (Sum.inl.inj t4)
        obtain ⟨y1, y2⟩ := z
        subst y1
        exact ⟨z4, Or.inr (Or.inr ⟨z1, z2, y2.symm, z3⟩)⟩
/-- a name that was taken -/
theorem opn_6 {r : Int32} {t : Nat} (H : tk16 T N) (hra : ∀ t, t < N → T.2.1 t = 140 → ra t ≠ -1 → ra t = 0 ∨ ra t = 1 ∨ ra t = 2) (ht : t + 1 = a) (kt : T.2.1 t = 140) (E : cs6 T N l rs ra a C R e) (hl : R.length + C.length ≤ 400000) (h : f5_Pa_operandName (Int32.ofNat t) e = .inl (e', r)) : G6 e e' ∧ T.2.1 a ≠ 40 ∧ ((T.2.1 a ≠ 91 ∧ r = 0 ∧ (((rs t).1 = 2 ∨ (rs t).1 = 3) ∧ (rs t).2 ≠ -1) ∧ cs6 T N l rs ra a C (rs t :: R) e') ∨ (T.2.1 a = 91 ∧ bk6 C < 40 - l ∧ (ra t = 0 ∨ ra t = 1 ∨ ra t = 2) ∧ r = 1 ∧ cs6 T N l rs ra (a + 1) ((101 + ra t) :: C) R e')) := by
  have E0 := E
  obtain ⟨⟨h1, h2, h3, h4⟩, h5, h7, h8, h11, h12, h13⟩ := E
  have h4' : e.1 paKind = T.2.1 a := h4
  unfold f5_Pa_operandName at h
  by_cases c91 : e.1 paKind = 91
  · rw [if_pos c91] at h
    obtain ⟨e1, k, t1, t2⟩ := rb_s6 h
    have fa : e1 = e ∧ k = ra t ∧ ra t ≠ -1 := by
      unfold f5_Pa_findArray at t1
      dsimp only [pb5] at t1
      have er : f5_Ta_findName (tq5 e) (e.2.1 paArrayNames) (e.2.2 paArrayNames) (e.1 coArrays) (Int32.ofNat t) = ra t := by rw [← h12]; rfl
      rw [er] at t1
      by_cases q : ra t = -1
      · rw [if_pos q] at t1; cases t1
      · rw [if_neg q] at t1
        have z := Prod.mk.inj (Sum.inl.inj t1)
        exact ⟨z.1.symm, z.2.symm, q⟩
    obtain ⟨f1, f2, f3⟩ := fa
    subst f1
    subst f2
    have hk := hra t (by omega) kt f3
    have hbr : br16 (101 + ra t) := by rcases hk with q | q | q <;> rw [q] <;> decide
    obtain ⟨e2, _, t3, t4⟩ := rb_s6 t2
    obtain ⟨e3, _, t5, t6⟩ := rb_s6 t4
    have ho : rdB5 (f5_Pa_openSign 91 e1) (fun e1 _ => f5_Pa_hold (101 + ra t) e1) = .inl (e3, ()) := by rw [t3]; exact t5
    obtain ⟨z1, z2, z3, z4⟩ := cs_o6 H E0 (Or.inr rfl) hbr hl ho
    have z := Prod.mk.inj (Sum.inl.inj t6)
    obtain ⟨y1, y2⟩ := z
    subst y1
    exact ⟨z4, by rw [z1]; decide, Or.inr ⟨z1, z2, hk, y2.symm, z3⟩⟩
  · rw [if_neg c91] at h
    by_cases c40 : e.1 paKind = 40
    · rw [if_pos c40] at h; cases h
    · rw [if_neg c40] at h
      unfold f5_Pa_operandName_49 at h
      obtain ⟨e1, k, t1, t2⟩ := rb_s6 h
      have eo : f5_Ta_findName (tq5 e) (e.2.1 paOwnNames) (e.2.2 paOwnNames) (e.1 paOwns) (Int32.ofNat t) = k ∧ e1 = e ∧ (k = -1 → f5_Ta_findName (tq5 e) (e.2.1 paVarNames) (e.2.2 paVarNames) (e.1 coVars) (Int32.ofNat t) ≠ -1) := by
        unfold f5_Pa_findVariable at t1
        dsimp only [pb5] at t1
        by_cases q : f5_Ta_findName (tq5 e) (e.2.1 paOwnNames) (e.2.2 paOwnNames) (e.1 paOwns) (Int32.ofNat t) = -1
        · rw [if_pos q] at t1
          by_cases q2 : f5_Ta_findName (tq5 e) (e.2.1 paVarNames) (e.2.2 paVarNames) (e.1 coVars) (Int32.ofNat t) = -1
          · rw [if_pos q2] at t1; cases t1
          · rw [if_neg q2] at t1
            have z := Prod.mk.inj (Sum.inl.inj t1)
            exact ⟨z.2, z.1.symm, fun _ => q2⟩
        · rw [if_neg q] at t1
          have z := Prod.mk.inj (Sum.inl.inj t1)
          exact ⟨z.2, z.1.symm, fun y => absurd (z.2.trans y) q⟩
      obtain ⟨f1, f2, f3⟩ := eo
      subst f2
      have ers : rs t = if k < 0 then (2, f5_Ta_findName (tq5 e1) (e1.2.1 paVarNames) (e1.2.2 paVarNames) (e1.1 coVars) (Int32.ofNat t)) else (3, k) := by
        rw [← h11]
        unfold rsE6
        rw [f1]
      have fin : ∀ o x : Int32, rs t = (o, x) → (o = 2 ∨ o = 3) → x ≠ -1 → rdB5 (f5_Co_emit o x e1) (fun e4 _ => .inl (e4, (0 : Int32))) = .inl (e', r) → G6 e1 e' ∧ r = 0 ∧ (((rs t).1 = 2 ∨ (rs t).1 = 3) ∧ (rs t).2 ≠ -1) ∧ cs6 T N l rs ra a C (rs t :: R) e' := fun o x q1 q2 q4 q3 => by
        obtain ⟨e2, p1, p2, p3, p4, p5⟩ := em_6 (o := o) (x := x) h7 h5 (by omega)
        rw [p1, rdl_5] at q3
        have z := Prod.mk.inj (Sum.inl.inj q3)
        obtain ⟨y1, y2⟩ := z
        subst y1
        rw [q1]
        exact ⟨p4, y2.symm, ⟨q2, q4⟩, cs_k6 E0 p4 p5 p3 p2 rfl⟩
      have g : G6 e1 e' ∧ r = 0 ∧ (((rs t).1 = 2 ∨ (rs t).1 = 3) ∧ (rs t).2 ≠ -1) ∧ cs6 T N l rs ra a C (rs t :: R) e' := by
        unfold f5_Pa_operandName_68 at t2
        dsimp only [pb5] at t2
        by_cases q : k < 0
        · rw [if_pos q] at ers
          rw [if_pos q, if_pos q] at t2
          exact fin _ _ ers (Or.inl rfl) (f3 (f1.symm.trans (h13 t (by omega) kt (by show f5_Ta_findName _ _ _ _ _ < 0; rw [f1]; exact q)))) t2
        · rw [if_neg q] at ers
          rw [if_neg q, if_neg q] at t2
          exact fin _ _ ers (Or.inr rfl) (fun y => q (by rw [y]; decide)) t2
      exact ⟨g.1, fun q => c40 (h4'.trans q), Or.inl ⟨fun q => c91 (h4'.trans q), g.2⟩⟩
theorem bk_r6 {r : Int32} (h1 : 1 ≤ r.toInt) : ∀ {C : List Int32}, bk6 (drC5 r C) = bk6 C
  | [] => rfl
  | c :: C => by
    unfold drC5
    by_cases q : f5_Pa_rankOf c < r
    · rw [if_pos q]
    · rw [if_neg q, bk_r6 h1, bk_s6]
      intro b
      rw [(br_f6 b).1, lti, t0i] at q
      omega
/-- an operator -/
theorem opr_6 {o : Int32} (H : tk16 T N) (E : cs6 T N l rs ra a C R e) (ho : f5_Pa_binary (T.2.1 a) = o) (hb : bi16 o) (hl : R.length + C.length ≤ 400000) (h : f5_Pa_operator o e = .inl (e', ())) : ∃ r, r = (if f5_Pa_rankOf o = 3 then 4 else f5_Pa_rankOf o) ∧ (f5_Pa_rankOf o = 3 → nt6 (drC5 r C)) ∧ G6 e e' ∧ cs6 T N l rs ra (a + 1) (o :: drC5 r C) ((cd6 (tk6 r C)).reverse ++ R) e' := by
  have E0 := E
  obtain ⟨⟨h1, h2, h3, h4⟩, h5, h7, h8, h11, h12, h13⟩ := E
  have hk := bi_f6 hb
  have nk : T.2.1 a ≠ 142 ∧ T.2.1 a ≠ 143 := by
    refine ⟨fun q => ?_, fun q => ?_⟩
    · rw [q] at ho
      rw [← ho] at hb
      exact absurd hb (by decide)
    · rw [q] at ho
      rw [← ho] at hb
      exact absurd hb (by decide)
  have main : ∀ r : Int32, 1 ≤ r.toInt → f5_Pa_operator_16 o (f5_Pa_rankOf o) r e = .inl (e', ()) → (f5_Pa_rankOf o = 3 → nt6 (drC5 r C)) ∧ G6 e e' ∧ cs6 T N l rs ra (a + 1) (o :: drC5 r C) ((cd6 (tk6 r C)).reverse ++ R) e' := fun r r1 h => by
    unfold f5_Pa_operator_16 at h
    obtain ⟨e1, _, t1, t2⟩ := rb_s6 h
    obtain ⟨p1, p2, p3, p4⟩ := ew_6 h7 h5 (by omega) t1
    have dl := dC_l5 (r := r) (C := C)
    have E1 := cs_k6 E0 p3 p4 p2 p1 (bk_r6 r1)
    have fin : f5_Pa_operator_58 o e1 = .inl (e', ()) → G6 e e' ∧ cs6 T N l rs ra (a + 1) (o :: drC5 r C) ((cd6 (tk6 r C)).reverse ++ R) e' := fun h => by
      unfold f5_Pa_operator_58 at h
      obtain ⟨e2, q1, q2, q3, q4, q5⟩ := ho_c6 (o := o) p1 p2 (by omega)
      rw [q1, rdl_5, rb_u5] at h
      have E2 := cs_k6 E1 q4 q5 q3 q2 (bk_s6 hk.2.2.2.2.2.2)
      obtain ⟨E3, g3⟩ := cs_t6 H E2 nk h
      exact ⟨G_t6 (G_t6 p3 q4) g3, E3⟩
    by_cases q3 : f5_Pa_rankOf o = 3
    · have t2 : (if f5_Pa_rankOf o = 3 then (if e1.1 paWaits ≤ 0 then f5_Pa_operator_58 o e1 else pb5 (f5_Pa_rankOf (e1.2.1 paWaiting (e1.1 paWaits - 1).toNatClampNeg)) (fun r7 => if r7 = 3 then .inr (rv5 2 (e1.1 paAt) e1) else f5_Pa_operator_58 o e1)) else f5_Pa_operator_58 o e1) = .inl (e', ()) := t2
      rw [if_pos q3] at t2
      cases hD : drC5 r C with
      | nil =>
        rw [hD] at p2
        rw [if_pos (wC_05 p2)] at t2
        rw [hD] at fin
        exact ⟨fun _ => trivial, fin t2⟩
      | cons c D =>
        rw [hD] at p2 dl
        rw [List.length_cons] at dl
        obtain ⟨w1, w2, w3⟩ := wC_t5 p2 (by omega)
        rw [if_neg w1, w3] at t2
        dsimp only [pb5] at t2
        by_cases y : f5_Pa_rankOf c = 3
        · rw [if_pos y] at t2; cases t2
        · rw [if_neg y] at t2
          rw [hD] at fin
          exact ⟨fun _ => y, fin t2⟩
    · have t2 : (if f5_Pa_rankOf o = 3 then (if e1.1 paWaits ≤ 0 then f5_Pa_operator_58 o e1 else pb5 (f5_Pa_rankOf (e1.2.1 paWaiting (e1.1 paWaits - 1).toNatClampNeg)) (fun r7 => if r7 = 3 then .inr (rv5 2 (e1.1 paAt) e1) else f5_Pa_operator_58 o e1)) else f5_Pa_operator_58 o e1) = .inl (e', ()) := t2
      rw [if_neg q3] at t2
      exact ⟨fun q => absurd q q3, fin t2⟩
  unfold f5_Pa_operator at h
  dsimp only [pb5] at h
  refine ⟨_, rfl, ?_⟩
  by_cases q3 : f5_Pa_rankOf o = 3
  · rw [if_pos q3] at h ⊢
    exact main 4 (by decide) h
  · rw [if_neg q3] at h ⊢
    exact main _ (by rw [hk.1]; exact hk.2.1) h
/-- a bracket closed -/
theorem cli_6 {c : Int32} {C' : List Int32} (H : tk16 T N) (E : cs6 T N l rs ra a (c :: C') R e) (hb : br16 c) (hl : R.length + C'.length ≤ 400000) (h : f5_Pa_closeInner e = .inl (e', ())) : T.2.1 a = (if c = 100 then 41 else 93) ∧ G6 e e' ∧ cs6 T N l rs ra (a + 1) C' ((if c = 100 then [] else [(4, c - 101)]) ++ R) e' := by
  obtain ⟨⟨h1, h2, h3, h4⟩, h5, h7, h8, h11, h12, h13⟩ := E
  obtain ⟨w1, w2, w3⟩ := wC_t5 h5 (by omega)
  unfold f5_Pa_closeInner at h
  dsimp only [pb5] at h
  rw [w3] at h
  have h : f5_Pa_closeInner_26 c (if c = 100 then 41 else 93) e = .inl (e', ()) := by
    by_cases q : c = 100
    · rw [if_pos q] at h ⊢; exact h
    · rw [if_neg q] at h ⊢; exact h
  unfold f5_Pa_closeInner_26 f5_Pa_closeSign f5_Pa_closeSign_17 at h
  obtain ⟨e1, _, t1, t2⟩ := rb_s6 h
  by_cases k : e.1 paKind = (if c = 100 then 41 else 93)
  · rw [if_pos k] at t1
    have k4 : T.2.1 a = (if c = 100 then 41 else 93) := h4.symm.trans k
    have t1 : rdB5 (f5_Pa_take (fun g => if g = 1004 then e.1 1004 - 1 else e.1 g, e.2)) (fun e2 _ => .inl (e2, ())) = .inl (e1, ()) := t1
    rw [rb_u5] at t1
    rw [bk_b6 hb] at h8
    have ha := H.2.2 a h2 (by rw [k4]; by_cases q : c = 100; rw [if_pos q]; decide; rw [if_neg q]; decide) (by rw [k4]; by_cases q : c = 100; rw [if_pos q]; decide; rw [if_neg q]; decide)
    obtain ⟨q1, q2, q3, q4, q5, q6, q7⟩ := tk_c6 (e := (fun g => if g = 1004 then e.1 1004 - 1 else e.1 g, e.2)) (T := T) (a := a) h1 H.1 H.2.1 ha h3 t1
    have g1 : G6 e e1 := G_t6 (⟨fun g a b c d i => if_neg c, fun _ _ _ _ => rfl, rfl⟩ : G6 e (fun g => if g = 1004 then e.1 1004 - 1 else e.1 g, e.2)) q7
    have eo : e1.1 1004 = Int32.ofNat (l + bk6 C') := by
      rw [q3]
      show (if 1004 = 1004 then e.1 1004 - 1 else e.1 1004) = _
      have l1 := ofn_i (n := l + (bk6 C' + 1)) (by omega)
      have l2 := ofn_i (n := l + bk6 C') (by omega)
      rw [if_pos rfl, h8.1]
      apply Int32.toInt_inj.mp
      rw [sub_i (by rw [t1i]; omega) (by rw [t1i]; omega), l1, l2, t1i]
      omega
    have c1 : cde6 e1 R := cd_e6 h7 q6 (by rw [q4]) (by rw [q4])
    have w4 : wC5 e1 (c :: C') := wC_e6 h5 q5 (by rw [q4])
    obtain ⟨e2, p1, p2, p3, p4, p5⟩ := sw_6 c1 w4 (by omega)
    rw [p1, rdl_5] at t2
    have g2 := G_t6 g1 p4
    have E2 : cs6 T N l rs ra (a + 1) C' R e2 := ⟨⟨(G_tq6 g2).trans h1, ha, p5.1.trans q1, p5.2.1.trans q2⟩, p3, p2, ⟨p5.2.2.trans eo, by omega⟩, (rs_G6 g2).trans h11, (ra_G6 g2).trans h12, ow_G6 g2 h13⟩
    by_cases q : c = 100
    · rw [if_pos q] at t2 ⊢
      have z := congrArg Prod.fst (Sum.inl.inj t2)
      have z : e2 = e' := z
      subst z
      refine ⟨by rw [k4, if_pos q], g2, ?_⟩
      rw [if_pos q]
      exact E2
    · rw [if_neg q] at t2
      obtain ⟨e3, y1, y2, y3, y4, y5⟩ := em_6 (o := 4) (x := c - 101) p2 p3 (by omega)
      rw [y1, rdl_5] at t2
      have z := congrArg Prod.fst (Sum.inl.inj t2)
      have z : e3 = e' := z
      subst z
      refine ⟨k4, G_t6 g2 y4, ?_⟩
      rw [if_neg q]
      exact cs_k6 E2 y4 y5 y3 y2 rfl
  · rw [if_neg k] at t1; cases t1
end
theorem vC_r6 {r : Int32} : ∀ {C : List Int32}, vC6 C → vC6 (drC5 r C)
  | [], _ => trivial
  | c :: C, v => by
    unfold drC5
    by_cases q : f5_Pa_rankOf c < r
    · rw [if_pos q]; exact v
    · rw [if_neg q]; exact vC_r6 v.2
theorem fn_t6 {T : T5} {N l a' : Nat} {R : List Qq6} {e f g : E5} (h : G6 e f) (k : fn6 T N l a' R f g) : fn6 T N l a' R e g := ⟨k.1, k.2.1, k.2.2.1, k.2.2.2.1, G_t6 h k.2.2.2.2⟩
/-- the loop -/
theorem cl_m6 {T : T5} {N l : Nat} {rs : Nat → Qq6} {ra : Nat → Int32} (H : tk16 T N) (hbi : ∀ t, t < N → f5_Pa_binary (T.2.1 t) ≠ -1 → bi16 (f5_Pa_binary (T.2.1 t))) (hra : ∀ t, t < N → T.2.1 t = 140 → ra t ≠ -1 → ra t = 0 ∨ ra t = 1 ∨ ra t = 2) : ∀ m : Nat,
    (∀ (a n : Nat) (C : List Int32) (R : List Qq6) (e e' : E5), cs6 T N l rs ra a C R e → R.length + C.length ≤ 2 * a → n ≤ 2 * a → vC6 C → f5_Pa_expression_36 m (-1) 1 1 (Int32.ofNat n) e = .inl (e', ()) → ∃ mm K a', Ch6 T (40 - l) rs ra mm false a C K a' ∧ fn6 T N l a' ((0, 0) :: (K.reverse ++ R)) e e') ∧
    (∀ (t n : Nat) (C : List Int32) (R : List Qq6) (e e' : E5), cs6 T N l rs ra (t + 1) C R e → T.2.1 t = 140 → R.length + C.length ≤ 2 * t → n ≤ 2 * t + 1 → vC6 C → f5_Pa_expression_36 m (Int32.ofNat t) 1 1 (Int32.ofNat n) e = .inl (e', ()) → ∃ mm K a', Ch6 T (40 - l) rs ra mm false t C K a' ∧ fn6 T N l a' ((0, 0) :: (K.reverse ++ R)) e e') ∧
    (∀ (a n : Nat) (C : List Int32) (R : List Qq6) (e e' : E5), cs6 T N l rs ra a C R e → R.length + C.length + 1 ≤ 2 * a → n ≤ 2 * a → vC6 C → f5_Pa_expression_36 m (-1) 0 1 (Int32.ofNat n) e = .inl (e', ()) → ∃ mm K a', Ch6 T (40 - l) rs ra mm true a C K a' ∧ fn6 T N l a' ((0, 0) :: (K.reverse ++ R)) e e')
  | 0 => ⟨fun _ _ _ _ _ _ _ _ _ _ h => (by cases h), fun _ _ _ _ _ _ _ _ _ _ _ h => (by cases h), fun _ _ _ _ _ _ _ _ _ _ h => (by cases h)⟩
  | m + 1 => by
    obtain ⟨IA, IB, IC⟩ := cl_m6 (l := l) (rs := rs) H hbi hra m
    have h6 := H.2.1
    have hnt : ∀ (a n : Nat) (C : List Int32) (R : List Qq6) (e : E5), cs6 T N l rs ra a C R e → n ≤ 2 * a → ¬ (2 : Int32) * e.1 taTotal < Int32.ofNat n := fun a n C R e E hn => by
      have e1 : e.1 taTotal = Int32.ofNat N := by rw [← H.1, ← E.1.1]; rfl
      have l1 := ofn_i (n := N) (by omega)
      have ha := E.1.2.1
      have l2 := ofn_i (n := n) (by omega)
      rw [e1, lti, mul_i (by rw [l1, t2i]; omega) (by rw [l1, t2i]; omega), l1, l2, t2i]
      omega
    refine ⟨fun a n C R e e' E hr hn v h => ?_, fun t n C R e e' E kt hr hn v h => ?_, fun a n C R e e' E hr hn v h => ?_⟩
    · have ha := E.1.2.1
      have k4 : e.1 paKind = T.2.1 a := E.1.2.2.2
      rw [f5_Pa_expression_36, if_neg ne105, if_neg (hnt a n C R e E hn), if_neg ne105, if_pos rfl] at h
      by_cases k : e.1 paKind = 140
      · rw [if_pos k] at h
        dsimp only [pb5] at h
        obtain ⟨e2, _, t1, t2⟩ := rb_s6 h
        have k5 : T.2.1 a = 140 := k4.symm.trans k
        obtain ⟨E2, g2⟩ := cs_t6 H E (by rw [k5]; decide) t1
        have t2 : f5_Pa_expression_36 m (e.1 paAt) 1 1 (Int32.ofNat n + 1) e2 = .inl (e', ()) := t2
        have ea : e.1 paAt = Int32.ofNat a := E.1.2.2.1
        rw [ea, on_15 (by omega)] at t2
        obtain ⟨mm, K, a', z1, z2⟩ := IB a (n + 1) C R e2 e' E2 k5 hr (by omega) v t2
        exact ⟨mm, K, a', z1, fn_t6 g2 z2⟩
      · rw [if_neg k] at h
        unfold f5_Pa_expression_87 at h
        rw [if_neg ne105, if_pos rfl] at h
        obtain ⟨e2, r, t1, t2⟩ := rb_s6 h
        obtain ⟨g2, z⟩ := opd_6 H E (by omega) t1
        have t2 : f5_Pa_expression_36 m (-1) r 1 (Int32.ofNat n + 1) e2 = .inl (e', ()) := t2
        rw [on_15 (by omega)] at t2
        rcases z with ⟨k1, rfl, E2⟩ | ⟨o, k1, rfl, E2⟩ | ⟨k1, kb, rfl, E2⟩
        · obtain ⟨mm, K, a', z1, z2⟩ := IC (a + 1) (n + 1) C _ e2 e' E2 (by rw [List.length_cons]; omega) (by omega) v t2
          refine ⟨mm + 1, (1, f5_Ta_numberAt T (Int32.ofNat a)) :: K, a', Or.inl ⟨k1, K, rfl, z1⟩, ?_⟩
          have ez : ((1, f5_Ta_numberAt T (Int32.ofNat a)) :: K).reverse ++ R = K.reverse ++ ((1, f5_Ta_numberAt T (Int32.ofNat a)) :: R) := by
            rw [List.reverse_cons, List.append_assoc]; rfl
          rw [ez]
          exact fn_t6 g2 z2
        · have us : us16 o := by rcases k1 with ⟨_, q⟩ | ⟨_, q⟩ <;> rw [q] <;> decide
          obtain ⟨mm, K, a', z1, z2⟩ := IA (a + 1) (n + 1) (o :: C) R e2 e' E2 (by rw [List.length_cons]; omega) (by omega) ⟨Or.inl us, v⟩ t2
          exact ⟨mm + 1, K, a', Or.inr (Or.inl ⟨o, k1, z1⟩), fn_t6 g2 z2⟩
        · obtain ⟨mm, K, a', z1, z2⟩ := IA (a + 1) (n + 1) (100 :: C) R e2 e' E2 (by rw [List.length_cons]; omega) (by omega) ⟨Or.inr (Or.inl (Or.inl rfl)), v⟩ t2
          exact ⟨mm + 1, K, a', Or.inr (Or.inr (Or.inl ⟨k1, kb, z1⟩)), fn_t6 g2 z2⟩
    · have ha := E.1.2.1
      have nt : ¬ Int32.ofNat t = -1 := fun q => by
        have z := congrArg Int32.toInt q
        rw [ofn_i (by omega), tmi] at z
        omega
      rw [f5_Pa_expression_36, if_neg ne105, if_neg (hnt (t + 1) n C R e E (by omega)), if_neg ne105, if_neg nt] at h
      unfold f5_Pa_expression_87 at h
      rw [if_neg ne105, if_neg nt] at h
      obtain ⟨e2, r, t1, t2⟩ := rb_s6 h
      obtain ⟨g2, n40, z⟩ := opn_6 H hra rfl kt E (by omega) t1
      have t2 : f5_Pa_expression_36 m (-1) r 1 (Int32.ofNat n + 1) e2 = .inl (e', ()) := t2
      rw [on_15 (by omega)] at t2
      rcases z with ⟨n91, rfl, kr, E2⟩ | ⟨k91, kb, kr, rfl, E2⟩
      · obtain ⟨mm, K, a', z1, z2⟩ := IC (t + 1) (n + 1) C _ e2 e' E2 (by rw [List.length_cons]; omega) (by omega) v t2
        refine ⟨mm + 1, rs t :: K, a', Or.inr (Or.inr (Or.inr (Or.inl ⟨kt, n91, n40, kr, K, rfl, z1⟩))), ?_⟩
        have ez : (rs t :: K).reverse ++ R = K.reverse ++ (rs t :: R) := by
          rw [List.reverse_cons, List.append_assoc]; rfl
        rw [ez]
        exact fn_t6 g2 z2
      · have hbr : br16 (101 + ra t) := by rcases kr with q | q | q <;> rw [q] <;> decide
        obtain ⟨mm, K, a', z1, z2⟩ := IA (t + 2) (n + 1) ((101 + ra t) :: C) R e2 e' E2 (by rw [List.length_cons]; omega) (by omega) ⟨Or.inr (Or.inl hbr), v⟩ t2
        exact ⟨mm + 1, K, a', Or.inr (Or.inr (Or.inr (Or.inr ⟨kt, k91, kb, kr, z1⟩))), fn_t6 g2 z2⟩
    · have ha := E.1.2.1
      have k4 : e.1 paKind = T.2.1 a := E.1.2.2.2
      rw [f5_Pa_expression_36, if_neg ne105, if_neg (hnt a n C R e E hn), if_pos rfl] at h
      unfold f5_Pa_expression_87 at h
      rw [if_pos rfl, k4] at h
      dsimp only [pb5] at h
      have dl := dC_l5 (r := 1) (C := C)
      by_cases b : f5_Pa_binary (T.2.1 a) = -1
      · rw [if_pos b] at h
        obtain ⟨e4, _, t1, t2⟩ := rb_s6 h
        obtain ⟨p1, p2, p3, p4⟩ := ew_6 E.2.2.1 E.2.1 (by omega) t1
        have E1 := cs_k6 E p3 p4 p2 p1 (bk_r6 (r := 1) (by decide))
        have tl := tk_l6 (r := 1) (C := C)
        have lR : ((cd6 (tk6 1 C)).reverse ++ R).length = (tk6 1 C).length + R.length := by rw [List.length_append, List.length_reverse, cd_l6]
        cases hD : drC5 1 C with
        | nil =>
          rw [hD] at p2 tl
          rw [List.length_nil] at tl
          have t2 : (if e4.1 paWaits ≤ 0 then f5_Pa_expression_161 (f5_Pa_expression_36 m) (-1) 0 (Int32.ofNat n) 0 e4 else f5_Pa_expression_161 (f5_Pa_expression_36 m) (-1) 0 (Int32.ofNat n) 1 e4) = .inl (e', ()) := t2
          rw [if_pos (wC_05 p2)] at t2
          unfold f5_Pa_expression_161 at t2
          rw [if_pos rfl] at t2
          dsimp only [pb5] at t2
          cases m with
          | zero => cases t2
          | succ m =>
            rw [f5_Pa_expression_36, if_pos rfl] at t2
            unfold f5_Pa_expression_178 at t2
            rw [rb_u5] at t2
            obtain ⟨e5, q1, q2, q3, q4, q5⟩ := em_6 (o := 0) (x := 0) p1 p2 (by omega)
            rw [q1] at t2
            have z := congrArg Prod.fst (Sum.inl.inj t2)
            have z : e5 = e' := z
            subst z
            refine ⟨1, cd6 (tk6 1 C), a, Or.inr (Or.inr ⟨b, hD, rfl, rfl⟩), ?_⟩
            have E2 := cs_k6 E1 q4 q5 (by rw [hD]; exact q3) q2 rfl
            have b0 : bk6 (drC5 1 C) = 0 := by rw [hD]; rfl
            refine ⟨E2.1, q2, ?_, ?_, G_t6 p3 q4⟩
            · have z := E2.2.2.2.1.1
              rw [b0] at z
              exact z
            · rw [List.length_cons]; omega
        | cons c C' =>
          have hbr : br16 c := dr_16 (vC_r6 v) hD
          rw [hD] at p2 tl E1 dl
          rw [List.length_cons] at tl dl
          have t2 : (if e4.1 paWaits ≤ 0 then f5_Pa_expression_161 (f5_Pa_expression_36 m) (-1) 0 (Int32.ofNat n) 0 e4 else f5_Pa_expression_161 (f5_Pa_expression_36 m) (-1) 0 (Int32.ofNat n) 1 e4) = .inl (e', ()) := t2
          rw [if_neg (wC_t5 p2 (by omega)).1] at t2
          unfold f5_Pa_expression_161 at t2
          rw [if_neg ne105] at t2
          obtain ⟨e5, _, t3, t4⟩ := rb_s6 t2
          obtain ⟨q1, q2, q3⟩ := cli_6 H E1 hbr (by omega) t3
          have t4 : f5_Pa_expression_36 m (-1) 0 1 (Int32.ofNat n + 1) e5 = .inl (e', ()) := t4
          rw [on_15 (by omega)] at t4
          have lx : ((if c = 100 then ([] : List Qq6) else [(4, c - 101)]) ++ ((cd6 (tk6 1 C)).reverse ++ R)).length ≤ 1 + ((tk6 1 C).length + R.length) := by
            rw [List.length_append, lR]
            by_cases q : c = 100
            · rw [if_pos q, List.length_nil]; omega
            · rw [if_neg q, List.length_singleton]; omega
          have vD : vC6 (c :: C') := by rw [← hD]; exact vC_r6 v
          obtain ⟨mm, K, a', z1, z2⟩ := IC (a + 1) (n + 1) C' _ e5 e' q3 (by omega) (by omega) vD.2 t4
          refine ⟨mm + 1, cd6 (tk6 1 C) ++ ((if c = 100 then [] else [(4, c - 101)]) ++ K), a', Or.inr (Or.inl ⟨b, c, C', K, hD, q1, rfl, z1⟩), ?_⟩
          have ez : (cd6 (tk6 1 C) ++ ((if c = 100 then ([] : List Qq6) else [(4, c - 101)]) ++ K)).reverse ++ R = K.reverse ++ ((if c = 100 then ([] : List Qq6) else [(4, c - 101)]) ++ ((cd6 (tk6 1 C)).reverse ++ R)) := by
            rw [List.reverse_append, List.reverse_append]
            by_cases q : c = 100
            · rw [if_pos q]; simp
            · rw [if_neg q]; simp
          rw [ez]
          exact fn_t6 (G_t6 p3 q2) z2
      · rw [if_neg b] at h
        obtain ⟨e2, _, t1, t2⟩ := rb_s6 h
        have t2 : f5_Pa_expression_36 m (-1) 1 1 (Int32.ofNat n + 1) e2 = .inl (e', ()) := t2
        rw [on_15 (by omega)] at t2
        have hb := hbi a ha b
        obtain ⟨r, r1, r2, r3, r4⟩ := opr_6 H E rfl hb (by omega) t1
        have tl := tk_l6 (r := r) (C := C)
        obtain ⟨mm, K, a', z1, z2⟩ := IA (a + 1) (n + 1) _ _ e2 e' r4 (by rw [List.length_append, List.length_reverse, cd_l6, List.length_cons]; omega) (by omega) ⟨Or.inr (Or.inr hb), vC_r6 v⟩ t2
        refine ⟨mm + 1, cd6 (tk6 r C) ++ K, a', Or.inl ⟨_, r, K, rfl, b, r1, r2, rfl, z1⟩, ?_⟩
        have ez : (cd6 (tk6 r C) ++ K).reverse ++ R = K.reverse ++ ((cd6 (tk6 r C)).reverse ++ R) := by
          rw [List.reverse_append, List.append_assoc]
        rw [ez]
        exact fn_t6 r3 z2

end
section
set_option maxHeartbeats 1600000
/-! the pile of an expression's code: never less than its operators want, never 256 -/
def dl6 : List Qq6 → Nat → Prop
  | [], _ => True
  | c :: K, n => ((c.1 = 1 ∨ c.1 = 2 ∨ c.1 = 3) ∧ n < 256 ∧ dl6 K (n + 1)) ∨ ((c.1 = 4 ∨ us16 c.1) ∧ 1 ≤ n ∧ dl6 K n) ∨ (bi16 c.1 ∧ 2 ≤ n ∧ dl6 K (n - 1))
def lt6 (c : Int32) : List Int32 → Prop
  | [] => True
  | d :: _ => bi16 d → (f5_Pa_rankOf d).toInt < (f5_Pa_rankOf c).toInt
def so6 : List Int32 → Prop
  | [] => True
  | c :: C => (bi16 c → lt6 c C) ∧ so6 C
def tpp6 : List Int32 → Nat
  | [] => 0
  | c :: C => if us16 c then tpp6 C else if bi16 c then (f5_Pa_rankOf c).toInt.toNat else 0
theorem tp_l6 : ∀ {C : List Int32}, tpp6 C ≤ 5
  | [] => by show 0 ≤ 5; omega
  | c :: C => by
    unfold tpp6
    by_cases h : us16 c
    · rw [if_pos h]; exact tp_l6
    · rw [if_neg h]
      by_cases k : bi16 c
      · rw [if_pos k]
        have := bi_f6 k
        rw [this.1]; omega
      · rw [if_neg k]; omega
theorem bc_t6 : ∀ {C : List Int32}, vC6 C → wf6 C → so6 C → bc6 C ≤ 5 * bk6 C + tpp6 C
  | [], _, _, _ => Nat.le_refl _
  | c :: C, v, w, s => by
    have ih := bc_t6 v.2 w.2 s.2
    have t5 := tp_l6 (C := C)
    unfold tpp6
    rcases v.1 with h | h | h
    · rw [if_pos h, bc_s6 (us_f6 h).2.2.2.2.2, bk_s6 (us_f6 h).2.2.2.2.1]; exact ih
    · rw [if_neg (br_f6 h).2.2.2.2.2.1, if_neg (br_f6 h).2.2.2.2.2.2, bc_s6 (br_f6 h).2.2.2.2.2.2, bk_b6 h]; omega
    · have hk := bi_f6 h
      rw [if_neg hk.2.2.2.2.2.1, if_pos h, bc_b6 h, bk_s6 hk.2.2.2.2.2.2]
      have n := w.1 h
      have l := s.1 h
      have r1 : 1 ≤ (f5_Pa_rankOf c).toInt := by rw [hk.1]; exact hk.2.1
      cases C with
      | nil =>
        have : tpp6 [] = 0 := rfl
        omega
      | cons d D =>
        have n : ¬ us16 d := n
        have l : bi16 d → (f5_Pa_rankOf d).toInt < (f5_Pa_rankOf c).toInt := l
        have td : tpp6 (d :: D) < (f5_Pa_rankOf c).toInt.toNat := by
          unfold tpp6
          rw [if_neg n]
          by_cases q : bi16 d
          · rw [if_pos q]
            have := l q
            have r2 := (bi_f6 q).2.1
            rw [← (bi_f6 q).1] at r2
            omega
          · rw [if_neg q]; omega
        omega
theorem bc_max6 {C : List Int32} (v : vC6 C) (w : wf6 C) (s : so6 C) (h : bk6 C ≤ 40) : bc6 C ≤ 205 := by
  have := bc_t6 v w s
  have := tp_l6 (C := C)
  omega
/-- operators taken from the front -/
theorem dl_t6 {r : Int32} (h1 : 1 ≤ r.toInt) {K : List Qq6} : ∀ {C : List Int32}, vC6 C → dl6 K (bc6 (drC5 r C) + 1) → dl6 (cd6 (tk6 r C) ++ K) (bc6 C + 1)
  | [], _, h => h
  | c :: C, v, h => by
    by_cases q : f5_Pa_rankOf c < r
    · have z1 : tk6 r (c :: C) = [] := if_pos q
      have z2 : drC5 r (c :: C) = c :: C := if_pos q
      rw [z2] at h
      rw [z1]
      exact h
    · have z1 : tk6 r (c :: C) = c :: tk6 r C := if_neg q
      have z2 : drC5 r (c :: C) = drC5 r C := if_neg q
      rw [z2] at h
      rw [z1]
      have ih := dl_t6 h1 v.2 h
      show dl6 ((c, 0) :: (cd6 (tk6 r C) ++ K)) _
      rcases v.1 with u | u | u
      · rw [bc_s6 (us_f6 u).2.2.2.2.2]
        exact Or.inr (Or.inl ⟨Or.inr u, by omega, ih⟩)
      · exact absurd (show f5_Pa_rankOf c < r by rw [(br_f6 u).1, lti, t0i]; omega) q
      · rw [bc_b6 u]
        refine Or.inr (Or.inr ⟨u, by omega, ?_⟩)
        rw [show bc6 C + 1 + 1 - 1 = bc6 C + 1 by omega]
        exact ih
theorem so_r6 {r : Int32} : ∀ {C : List Int32}, so6 C → so6 (drC5 r C)
  | [], _ => trivial
  | c :: C, v => by
    unfold drC5
    by_cases q : f5_Pa_rankOf c < r
    · rw [if_pos q]; exact v
    · rw [if_neg q]; exact so_r6 v.2
theorem wf_r6 {r : Int32} : ∀ {C : List Int32}, wf6 C → wf6 (drC5 r C)
  | [], _ => trivial
  | c :: C, v => by
    unfold drC5
    by_cases q : f5_Pa_rankOf c < r
    · rw [if_pos q]; exact v
    · rw [if_neg q]; exact wf_r6 v.2
theorem dC_t6 {r : Int32} : ∀ {C : List Int32} {c : Int32} {D : List Int32}, drC5 r C = c :: D → f5_Pa_rankOf c < r
  | [], _, _, h => by cases h
  | x :: C, c, D, h => by
    unfold drC5 at h
    by_cases z : f5_Pa_rankOf x < r
    · rw [if_pos z] at h
      rw [← (List.cons.inj h).1]
      exact z
    · rw [if_neg z] at h
      exact dC_t6 h
theorem nu_r6 {r : Int32} {C : List Int32} (h5 : r.toInt ≤ 5) : nu6 (drC5 r C) := by
  cases hD : drC5 r C with
  | nil => trivial
  | cons c D =>
    have z := dC_t6 hD
    intro u
    have k6 : (6 : Int32).toInt = 6 := rfl
    rw [(us_f6 u).1, lti, k6] at z
    omega
theorem dl_6 {T : T5} {qb : Nat} {rs : Nat → Qq6} {ra : Nat → Int32} : ∀ {m : Nat} {st : Bool} {a : Nat} {C : List Int32} {K : List Qq6} {a' : Nat}, Ch6 T qb rs ra m st a C K a' → vC6 C → wf6 C → so6 C → bk6 C ≤ 40 → qb ≤ 40 → (∀ t, f5_Pa_binary (T.2.1 t) ≠ -1 → bi16 (f5_Pa_binary (T.2.1 t))) → (st = false → dl6 K (bc6 C)) ∧ (st = true → dl6 K (bc6 C + 1))
  | 0, _, _, _, _, _, h, _, _, _, _, _, _ => h.elim
  | m + 1, false, a, C, K, a', h, v, w, s, b, h40, hb => by
    refine ⟨fun _ => ?_, fun q => (by cases q)⟩
    have mx := bc_max6 v w s b
    rcases h with ⟨_, K', rfl, h⟩ | ⟨o, k, h⟩ | ⟨_, kb, h⟩ | ⟨_, _, _, kr, K', rfl, h⟩ | ⟨_, _, kb, kr, h⟩
    · exact Or.inl ⟨Or.inl rfl, by omega, (dl_6 h v w s b h40 hb).2 rfl⟩
    · have us : us16 o := by rcases k with ⟨_, q⟩ | ⟨_, q⟩ <;> rw [q] <;> decide
      have z := (dl_6 h ⟨Or.inl us, v⟩ ⟨fun q => absurd q (us_f6 us).2.2.2.2.2, w⟩ ⟨fun q => absurd q (us_f6 us).2.2.2.2.2, s⟩ (by rw [bk_s6 (us_f6 us).2.2.2.2.1]; exact b) h40 hb).1 rfl
      rw [bc_s6 (us_f6 us).2.2.2.2.2] at z
      exact z
    · have hbr : br16 (100 : Int32) := Or.inl rfl
      have z := (dl_6 h ⟨Or.inr (Or.inl hbr), v⟩ ⟨fun q => absurd q (br_f6 hbr).2.2.2.2.2.2, w⟩ ⟨fun q => absurd q (br_f6 hbr).2.2.2.2.2.2, s⟩ (by rw [bk_b6 hbr]; omega) h40 hb).1 rfl
      rw [bc_s6 (br_f6 hbr).2.2.2.2.2.2] at z
      exact z
    · exact Or.inl ⟨Or.inr kr.1, by omega, (dl_6 h v w s b h40 hb).2 rfl⟩
    · have hbr : br16 (101 + ra a) := by rcases kr with q | q | q <;> rw [q] <;> decide
      have z := (dl_6 h ⟨Or.inr (Or.inl hbr), v⟩ ⟨fun q => absurd q (br_f6 hbr).2.2.2.2.2.2, w⟩ ⟨fun q => absurd q (br_f6 hbr).2.2.2.2.2.2, s⟩ (by rw [bk_b6 hbr]; omega) h40 hb).1 rfl
      rw [bc_s6 (br_f6 hbr).2.2.2.2.2.2] at z
      exact z
  | m + 1, true, a, C, K, a', h, v, w, s, b, h40, hb => by
    refine ⟨fun q => (by cases q), fun _ => ?_⟩
    rcases h with ⟨o, r, K', ho, ho1, hr, hnt, rfl, h⟩ | ⟨_, c, C', K', hD, _, rfl, h⟩ | ⟨_, hD, rfl, _⟩
    · have bo : bi16 o := by rw [← ho]; exact hb a (by rw [ho]; exact ho1)
      have hk := bi_f6 bo
      have r1 : 1 ≤ r.toInt ∧ r.toInt ≤ 5 := by
        rw [hr]
        by_cases q : f5_Pa_rankOf o = 3
        · rw [if_pos q]; decide
        · rw [if_neg q, hk.1]; omega
      have lo : lt6 o (drC5 r C) := by
        cases hD : drC5 r C with
        | nil => trivial
        | cons d D =>
          intro bd
          have z := dC_t6 hD
          rw [lti] at z
          by_cases q : f5_Pa_rankOf o = 3
          · rw [if_pos q] at hr
            have nt := hnt q
            rw [hD] at nt
            have nt : f5_Pa_rankOf d ≠ 3 := nt
            have t4 : (4 : Int32).toInt = 4 := rfl
            have t3 : (3 : Int32).toInt = 3 := rfl
            rw [hr, t4] at z
            have n3 : (f5_Pa_rankOf d).toInt ≠ 3 := fun y => nt (Int32.toInt_inj.mp (by rw [y, t3]))
            rw [q, t3]; omega
          · rw [if_neg q] at hr
            rw [hr] at z
            exact z
      refine dl_t6 r1.1 v ?_
      have z := (dl_6 h ⟨Or.inr (Or.inr bo), vC_r6 v⟩ ⟨fun _ => nu_r6 r1.2, wf_r6 w⟩ ⟨fun _ => lo, so_r6 s⟩ (by rw [bk_s6 hk.2.2.2.2.2.2, bk_r6 r1.1]; exact b) h40 hb).1 rfl
      rw [bc_b6 bo] at z
      exact z
    · have hbr : br16 c := dr_16 (vC_r6 v) hD
      refine dl_t6 (by decide) v ?_
      rw [hD, bc_s6 (br_f6 hbr).2.2.2.2.2.2]
      have vD : vC6 (c :: C') := by rw [← hD]; exact vC_r6 v
      have wD : wf6 (c :: C') := by rw [← hD]; exact wf_r6 w
      have sD : so6 (c :: C') := by rw [← hD]; exact so_r6 s
      have bD : bk6 (c :: C') ≤ 40 := by rw [← hD, bk_r6 (by decide)]; exact b
      rw [bk_b6 hbr] at bD
      have z := (dl_6 h vD.2 wD.2 sD.2 (by omega) h40 hb).2 rfl
      by_cases q : c = 100
      · rw [if_pos q]; exact z
      · rw [if_neg q]
        exact Or.inr (Or.inl ⟨Or.inl rfl, by omega, z⟩)
    · have z := dl_t6 (r := 1) (K := []) (by decide) v trivial
      rw [List.append_nil] at z
      exact z

end
section
set_option maxHeartbeats 1600000
/-! the reference reads an expression (mode 0): token by token as Ch6 says; what it notes of the names -/
def okz6 (σ : rS) : Prop := σ.1 11 = 0 ∧ σ.1 46 = 0 ∧ σ.1 47 = 0
theorem ok_goz6 {σ : rS} (h : okz6 σ) : g5_goesOn σ = 1 ∧ g5_isRight σ = 1 := by
  have r : g5_isRight σ = 1 := if_pos h.1
  refine ⟨?_, r⟩
  unfold g5_goesOn
  dsimp only [pb5]
  rw [r, if_neg ne105, if_pos h.2.2]
/-- what reading an expression leaves as it was -/
def Nz6 (σ σ' : rS) : Prop := (∀ f, f ≠ 10 → f ≠ 13 → f ≠ 47 → f ≠ 48 → f ≠ 49 → σ'.1 f = σ.1 f) ∧ σ'.2.1 = σ.2.1 ∧ (∀ f, f ≠ 50 → f ≠ 51 → f ≠ 52 → f ≠ 39 → σ'.2.2.1 f = σ.2.2.1 f) ∧ σ'.2.2.2 = σ.2.2.2
theorem Nz_r6 {σ : rS} : Nz6 σ σ := ⟨fun _ _ _ _ _ _ => rfl, rfl, fun _ _ _ _ _ => rfl, rfl⟩
theorem Nz_t6 {σ τ υ : rS} (h : Nz6 σ τ) (k : Nz6 τ υ) : Nz6 σ υ := ⟨fun f a b c d e => (k.1 f a b c d e).trans (h.1 f a b c d e), k.2.1.trans h.2.1, fun f a b c d => (k.2.2.1 f a b c d).trans (h.2.2.1 f a b c d), k.2.2.2.trans h.2.2.2⟩
theorem Nz_F6 {σ τ : rS} (h : F6 σ τ) : Nz6 σ τ := ⟨h.1, h.2.1, fun f a b c _ => h.2.2.1 f a b c, h.2.2.2⟩
theorem F_396 {σ τ : rS} (h : F6 σ τ) : τ.2.2.1 39 = σ.2.2.1 39 := h.2.2.1 39 (by decide) (by decide) (by decide)
theorem Nz_396 {σ : rS} {i : Nat} {x : Int32} : Nz6 σ (riU σ 39 i x) := by
  exact ⟨fun _ _ _ _ _ _ => rfl, rfl, fun g a b c d => ri3 d, rfl⟩
theorem Nz_sx6 {σ σ' : rS} (h : Nz6 σ σ') : sx5 σ' = sx5 σ := by
  unfold sx5
  rw [h.2.2.1 5 (by decide) (by decide) (by decide) (by decide), h.2.2.1 6 (by decide) (by decide) (by decide) (by decide), h.2.2.1 7 (by decide) (by decide) (by decide) (by decide), h.2.2.1 9 (by decide) (by decide) (by decide) (by decide), h.2.2.2]
theorem Nz_gs6 {σ σ' : rS} (h : Nz6 σ σ') : gS5 σ' = gS5 σ := by
  unfold gS5
  rw [h.1 15 (by decide) (by decide) (by decide) (by decide) (by decide), h.1 16 (by decide) (by decide) (by decide) (by decide) (by decide), h.1 18 (by decide) (by decide) (by decide) (by decide) (by decide), h.1 41 (by decide) (by decide) (by decide) (by decide) (by decide), h.1 19 (by decide) (by decide) (by decide) (by decide) (by decide), h.1 42 (by decide) (by decide) (by decide) (by decide) (by decide)]
  rw [h.2.2.1 20 (by decide) (by decide) (by decide) (by decide), h.2.2.1 22 (by decide) (by decide) (by decide) (by decide), h.2.2.1 25 (by decide) (by decide) (by decide) (by decide), h.2.2.1 26 (by decide) (by decide) (by decide) (by decide), h.2.2.1 27 (by decide) (by decide) (by decide) (by decide), h.2.2.1 28 (by decide) (by decide) (by decide) (by decide), h.2.2.1 30 (by decide) (by decide) (by decide) (by decide), h.2.2.1 32 (by decide) (by decide) (by decide) (by decide), h.2.2.1 43 (by decide) (by decide) (by decide) (by decide), h.2.2.1 45 (by decide) (by decide) (by decide) (by decide)]
theorem ok_Nz6 {σ σ' : rS} (h : okz6 σ) (k : Nz6 σ σ') (z : σ'.1 47 = 0) : okz6 σ' := ⟨(k.1 11 (by decide) (by decide) (by decide) (by decide) (by decide)).trans h.1, (k.1 46 (by decide) (by decide) (by decide) (by decide) (by decide)).trans h.2.1, z⟩
/-- the notes on names: those of a stretch of tokens are written -/
def RR6 (T : T5) (Bk : Nat) (rf : Nat → Int32) (row row' : Nat → Int32) (lo hi : Nat) : Prop := ∀ j, row' j = if Bk + lo ≤ j ∧ j < Bk + hi ∧ T.2.1 (j - Bk) = 140 then rf (j - Bk) else row j
section
variable {T : T5} {Bk : Nat} {rf row row1 row' : Nat → Int32} {a b hi : Nat}
theorem RR_06 : RR6 T Bk rf row row a a := fun j => by rw [if_neg (fun q => by have := q.1; have := q.2.1; omega)]
theorem RR_n6 (k : T.2.1 a ≠ 140) (h : RR6 T Bk rf row row' (a + 1) hi) : RR6 T Bk rf row row' a hi := fun j => by
  rw [h j]
  by_cases q : Bk + a ≤ j ∧ j < Bk + hi ∧ T.2.1 (j - Bk) = 140
  · rw [if_pos q]
    have n : j ≠ Bk + a := fun y => by
      have z := q.2.2
      rw [y, Nat.add_sub_cancel_left] at z
      exact k z
    rw [if_pos ⟨by have := q.1; omega, q.2⟩]
  · rw [if_neg q, if_neg (fun y => q ⟨by have := y.1; omega, y.2⟩)]
theorem RR_y6 (k : T.2.1 a = 140) (hh : a < hi) (e : row1 = fun j => if j = Bk + a then rf a else row j) (h : RR6 T Bk rf row1 row' (a + 1) hi) : RR6 T Bk rf row row' a hi := fun j => by
  rw [h j, e]
  show (if Bk + (a + 1) ≤ j ∧ j < Bk + hi ∧ T.2.1 (j - Bk) = 140 then rf (j - Bk) else if j = Bk + a then rf a else row j) = _
  by_cases y : j = Bk + a
  · rw [if_neg (fun q => by have := q.1; omega), if_pos y, y, Nat.add_sub_cancel_left, if_pos ⟨Nat.le_refl _, by omega, k⟩]
  · rw [if_neg y]
    by_cases q : Bk + a ≤ j ∧ j < Bk + hi ∧ T.2.1 (j - Bk) = 140
    · rw [if_pos q, if_pos ⟨by have := q.1; omega, q.2⟩]
    · rw [if_neg q, if_neg (fun z => q ⟨by have := z.1; omega, z.2⟩)]
theorem RR_t6 (hab : a ≤ b) (hbi : b ≤ hi) (h : RR6 T Bk rf row row1 a b) (k : RR6 T Bk rf row1 row' b hi) : RR6 T Bk rf row row' a hi := fun j => by
  rw [k j, h j]
  by_cases q : Bk + a ≤ j ∧ j < Bk + hi ∧ T.2.1 (j - Bk) = 140
  · rw [if_pos q]
    by_cases y : Bk + b ≤ j
    · rw [if_pos ⟨y, q.2⟩]
    · rw [if_neg (fun z => y z.1), if_pos ⟨q.1, by omega, q.2.2⟩]
  · rw [if_neg q, if_neg (fun z => q ⟨by have := z.1; omega, z.2⟩), if_neg (fun z => q ⟨z.1, by have := z.2.1; omega, z.2.2⟩)]
end
/-- an operator taken in mode 0 -/
theorem ap_z6 {σ : rS} {c x y : Int32} {C P : List Int32} (o : okz6 σ) (w : wt6 σ (c :: C)) (p : pl6 σ (y :: x :: P)) (hl : C.length ≤ 1000000) (hp : P.length + 1 ≤ 1000000) : wt6 (g5_apply σ) C ∧ pl6 (g5_apply σ) (x :: P) ∧ F6 σ (g5_apply σ) ∧ (g5_apply σ).1 10 = σ.1 10 ∧ (g5_apply σ).1 13 = σ.1 13 ∧ (g5_apply σ).1 47 = σ.1 47 := by
  obtain ⟨p1, p2, p3⟩ := pl_16 p (by rw [List.length_cons]; exact hp)
  have w3 : wt6 (siU (siU σ 48 (σ.1 48 - 1)) 49 (σ.1 49 - 1)) C := wt_s6 (wt_p6 w hl) (by decide)
  have p4 : pl6 (siU (siU σ 48 (σ.1 48 - 1)) 49 (σ.1 49 - 1)) (x :: P) := ⟨by rw [si1, if_pos rfl, p2], p.2.2⟩
  have e : g5_apply σ = siU (siU σ 48 (σ.1 48 - 1)) 49 (σ.1 49 - 1) := by
    unfold g5_apply
    dsimp only [pb5]
    have m1 : (siU (siU σ 48 (σ.1 48 - 1)) 49 ((siU σ 48 (σ.1 48 - 1)).1 49 - 1)).1 46 = 0 := o.2.1
    have a1 : (siU σ 48 (σ.1 48 - 1)).1 49 = σ.1 49 := rfl
    rw [m1, if_pos rfl, a1]
  rw [e]
  exact ⟨w3, p4, F_t6 (F_si6 (by decide)) (F_si6 (by decide)), rfl, rfl, rfl⟩
theorem se_mz6 {r : Int32} (h1 : 1 ≤ r.toInt) : ∀ (m : Nat) (C P : List Int32) (y : Int32) (σ : rS), okz6 σ → wt6 σ C → vC6 C → nu6 C → wf6 C → pl6 σ (y :: P) → P.length = bc6 C → C.length ≤ 1000000 → C.length < m →
    ∃ y' P', P'.length = bc6 (drC5 r C) ∧ wt6 (g5_settle_0 m r σ) (drC5 r C) ∧ pl6 (g5_settle_0 m r σ) (y' :: P') ∧ F6 σ (g5_settle_0 m r σ) ∧ (g5_settle_0 m r σ).1 10 = σ.1 10 ∧ (g5_settle_0 m r σ).1 13 = σ.1 13 ∧ (g5_settle_0 m r σ).1 47 = 0
  | 0, _, _, _, _, _, _, _, _, _, _, _, _, h => absurd h (by omega)
  | m + 1, [], P, y, σ, o, w, _, _, _, p, hp, _, _ => by
    have k : rk5 0 = 0 := by decide
    have e : g5_settle_0 (m + 1) r σ = σ := by
      rw [g5_settle_0]
      dsimp only [pb5]
      rw [(ok_goz6 o).1, if_neg ne105, tp_06 w, rk_5, k, if_pos (by rw [lti, t0i]; omega)]
    rw [e]
    exact ⟨y, P, hp, w, p, F_r6, rfl, rfl, o.2.2⟩
  | m + 1, c :: C, P, y, σ, o, w, v, n, f, p, hp, hl, hm => by
    rw [List.length_cons] at hl hm
    obtain ⟨t1, t2, t3⟩ := tp_6 w (by omega)
    rcases v.1 with q | q | q
    · exact absurd q n
    · obtain ⟨z1, z2⟩ := tk_06 h1 q (C := C)
      have e : g5_settle_0 (m + 1) r σ = σ := by
        rw [g5_settle_0]
        dsimp only [pb5]
        rw [(ok_goz6 o).1, if_neg ne105, t1, rk_5, (br_f6 q).2.1, if_pos (by rw [lti, t0i]; omega)]
      rw [e, z2]
      exact ⟨y, P, hp, w, p, F_r6, rfl, rfl, o.2.2⟩
    · have hb := bi_f6 q
      have hbc : bc6 (c :: C) = bc6 C + 1 := by
        show (if bi16 c then 1 else 0) + bc6 C = _
        rw [if_pos q]; omega
      rw [hbc] at hp
      by_cases z : f5_Pa_rankOf c < r
      · have z2 : drC5 r (c :: C) = c :: C := if_pos z
        have e : g5_settle_0 (m + 1) r σ = σ := by
          rw [g5_settle_0]
          dsimp only [pb5]
          rw [(ok_goz6 o).1, if_neg ne105, t1, rk_5, ← hb.1, if_pos z]
        rw [e, z2, hbc]
        exact ⟨y, P, hp, w, p, F_r6, rfl, rfl, o.2.2⟩
      · have z2 : drC5 r (c :: C) = drC5 r C := if_neg z
        have e : g5_settle_0 (m + 1) r σ = g5_settle_0 m r (g5_apply σ) := by
          rw [g5_settle_0]
          dsimp only [pb5]
          rw [(ok_goz6 o).1, if_neg ne105, t1, rk_5, ← hb.1, if_neg z, if_neg (by rw [lei, t0i, hb.1]; omega)]
        rw [e, z2]
        cases P with
        | nil => rw [List.length_nil] at hp; omega
        | cons x P =>
          rw [List.length_cons] at hp
          have lb := bc_l6 (C := C)
          obtain ⟨b1, b2, b3, b4, b5, b6⟩ := ap_z6 o w p (by omega) (by omega)
          have o2 : okz6 (g5_apply σ) := ok_Nz6 o (Nz_F6 b3) (b6.trans o.2.2)
          obtain ⟨y', P', g2, g3, g4, g5, g6, g7, g8⟩ := se_mz6 h1 m C P x (g5_apply σ) o2 b1 v.2 (f.1 q) f.2 b2 (by omega) (by omega) (by omega)
          exact ⟨y', P', g2, g3, g4, F_t6 b3 g5, g6.trans b4, g7.trans b5, g8⟩
theorem se_z6 {r : Int32} {C P : List Int32} {y : Int32} {σ : rS} (h1 : 1 ≤ r.toInt) (o : okz6 σ) (w : wt6 σ C) (v : vC6 C) (n : nu6 C) (f : wf6 C) (p : pl6 σ (y :: P)) (hp : P.length = bc6 C) (hl : C.length ≤ 1000000) :
    ∃ y' P', P'.length = bc6 (drC5 r C) ∧ wt6 (g5_settle r σ) (drC5 r C) ∧ pl6 (g5_settle r σ) (y' :: P') ∧ F6 σ (g5_settle r σ) ∧ (g5_settle r σ).1 10 = σ.1 10 ∧ (g5_settle r σ).1 13 = σ.1 13 ∧ (g5_settle r σ).1 47 = 0 := se_mz6 h1 fu5 C P y σ o w v n f p hp hl (by unfold fu5; omega)
def esz6 (X : X5) (W : W5) (Bk l a : Nat) (C : List Int32) (σ : rS) : Prop := okz6 σ ∧ sx5 σ = X ∧ gS5 σ = W ∧ σ.1 10 = Int32.ofNat (Bk + a) ∧ σ.1 13 = Int32.ofNat (l + bk6 C)
theorem es_z6 {X : X5} {W : W5} {Bk l a b : Nat} {C D : List Int32} {σ τ : rS} (h : esz6 X W Bk l a C σ) (k : Nz6 σ τ) (h47 : τ.1 47 = 0) (h10 : τ.1 10 = Int32.ofNat (Bk + b)) (h13 : τ.1 13 = Int32.ofNat (l + bk6 D)) : esz6 X W Bk l b D τ := ⟨ok_Nz6 h.1 k h47, (Nz_sx6 k).trans h.2.1, (Nz_gs6 k).trans h.2.2.1, h10, h13⟩
def rsz6 (T : T5) (Bk l a a' : Nat) (rf : Nat → Int32) (q σ : rS) : Prop := q.1 10 = Int32.ofNat (Bk + a') ∧ q.1 47 = 0 ∧ q.1 13 = Int32.ofNat l ∧ Nz6 σ q ∧ RR6 T Bk rf (σ.2.2.1 39) (q.2.2.1 39) a a'
theorem rs_n6 {T : T5} {Bk l a a' : Nat} {rf : Nat → Int32} {q σ τ : rS} (k : T.2.1 a ≠ 140) (h : rsz6 T Bk l (a + 1) a' rf q τ) (f : F6 σ τ) : rsz6 T Bk l a a' rf q σ := ⟨h.1, h.2.1, h.2.2.1, Nz_t6 (Nz_F6 f) h.2.2.2.1, by have z := h.2.2.2.2; rw [F_396 f] at z; exact RR_n6 k z⟩
/-- what the reference finds of names -/
def nr6 (T : T5) (X : X5) (W : W5) (Bk N : Nat) (rv rA : Nat → Int32) : Prop := ∀ τ, sx5 τ = X → gS5 τ = W → ∀ t, t < N → T.2.1 t = 140 → g5_variableOf (Int32.ofNat (Bk + t)) τ = rv t ∧ g5_arrayOf (Int32.ofNat (Bk + t)) τ = rA t
def rf6 (T : T5) (rv rA : Nat → Int32) (t : Nat) : Int32 := if T.2.1 (t + 1) = 91 then rA t else rv t
section
variable {T : T5} {X : X5} {W : W5} {Bk N : Nat} {Z : Int32} {a : Nat} {σ : rS} {rv rA : Nat → Int32}
theorem ex_0z6 {mr : Nat} {σ : rS} (o : okz6 σ) : g5_expression_12 (mr + 1) 0 σ = if (g5_operand σ).2 = 0 then g5_expression_12 mr 0 (g5_operand σ).1 else g5_expression_12 mr 1 (g5_operand σ).1 := by
  rw [g5_expression_12]
  dsimp only [pb5, pm5]
  rw [(ok_goz6 o).1, if_neg ne105, if_neg (by decide), if_pos rfl]
theorem ex_1z6 {mr : Nat} {σ : rS} (o : okz6 σ) : g5_expression_12 (mr + 1) 1 σ = g5_expression_12 mr (g5_behind σ).2 (g5_behind σ).1 := by
  rw [g5_expression_12]
  dsimp only [pb5, pm5]
  rw [(ok_goz6 o).1, if_neg ne105, if_neg (by decide), if_neg (by decide)]
theorem nm_z6 (H : TR5 T X Bk N Z) (hE : T.2.1 (N - 1) = 142) (hn : nr6 T X W Bk N rv rA) (o : okz6 σ) (hX : sx5 σ = X) (hW : gS5 σ = W) (ha : a + 1 < N) (hat : σ.1 10 = Int32.ofNat (Bk + a)) (k : T.2.1 a = 140) (n40 : T.2.1 (a + 1) ≠ 40) (nf : rf6 T rv rA a ≠ -1) : g5_operand σ = g5_named_79 (Int32.ofNat (Bk + a)) (if T.2.1 (a + 1) = 91 then 1 else 0) (riU (siU σ 10 (Int32.ofNat (Bk + (a + 1)))) 39 (Bk + a) (rf6 T rv rA a)) := by
  have h1 := H.1
  have kd := kd_o5 (H.2.2.1 a (by omega))
  have g := go_6 H hE hX ha hat o.1
  have o2 : okz6 (siU σ 10 (Int32.ofNat (Bk + (a + 1)))) := ⟨o.1, o.2.1, o.2.2⟩
  have hat2 : (siU σ 10 (Int32.ofNat (Bk + (a + 1)))).1 10 = Int32.ofNat (Bk + (a + 1)) := by rw [si1, if_pos rfl]
  have hX2 : sx5 (siU σ 10 (Int32.ofNat (Bk + (a + 1)))) = X := hX
  have hW2 : gS5 (siU σ 10 (Int32.ofNat (Bk + (a + 1)))) = W := hW
  unfold g5_operand
  dsimp only [pb5, pm5]
  rw [ata_6 (c := 33) H hX (by omega) hat (by decide) (by decide), if_neg (show ¬ T.2.1 a = 33 by rw [k]; decide), if_pos rfl, ata_6 (c := 45) H hX (by omega) hat (by decide) (by decide), if_neg (show ¬ T.2.1 a = 45 by rw [k]; decide), if_pos rfl, ata_6 (c := 40) H hX (by omega) hat (by decide) (by decide), if_neg (show ¬ T.2.1 a = 40 by rw [k]; decide), if_pos rfl, (so_6 H hX (by omega) hat).1, if_neg (fun q => by have z := kd.2.2.1.mp q; rw [k] at z; exact absurd z (by decide)), if_pos (kd.2.1.mpr k)]
  unfold g5_named
  dsimp only [pb5]
  rw [g, (ok_goz6 o2).2, if_neg ne105, ata_6 (c := 40) H hX2 ha hat2 (by decide) (by decide), if_neg n40, if_pos rfl, hat]
  have lk : ∀ x : Int32, x ≠ -1 → g5_look (Int32.ofNat (Bk + a)) x (siU σ 10 (Int32.ofNat (Bk + (a + 1)))) = riU (siU σ 10 (Int32.ofNat (Bk + (a + 1)))) 39 (Bk + a) x := fun x hx => by
    unfold g5_look g5_look_28
    dsimp only [pb5]
    rw [if_neg hx, cl_5 (by omega)]
  unfold g5_named_34
  dsimp only [pb5]
  have m1 : (siU σ 10 (Int32.ofNat (Bk + (a + 1)))).1 46 = 0 := o.2.1
  rw [(ok_goz6 o2).2, if_neg ne105, ata_6 (c := 91) H hX2 ha hat2 (by decide) (by decide), m1, if_pos rfl]
  obtain ⟨y1, y2⟩ := hn _ hX2 hW2 a (by omega) k
  unfold rf6 at nf ⊢
  by_cases q : T.2.1 (a + 1) = 91
  · rw [if_pos q] at nf
    rw [if_pos q, if_pos q, if_neg ne105, y2, lk _ nf]
  · rw [if_neg q] at nf
    rw [if_neg q, if_neg q, if_pos rfl, y1, lk _ nf]
end
section
variable {T : T5} {X : X5} {Bk N : Nat} {Z : Int32} {a : Nat} {σ : rS}
/-- behind an operand where no operator stands (mode 0) -/
theorem bh_z6 {C P : List Int32} {x : Int32} (H : TR5 T X Bk N Z) (o : okz6 σ) (hX : sx5 σ = X) (ha : a < N) (hat : σ.1 10 = Int32.ofNat (Bk + a)) (hb : f5_Pa_binary (T.2.1 a) = -1) (v : vC6 C) (f : wf6 C) (n : nu6 C) (w : wt6 σ C) (p : pl6 σ (x :: P)) (hp : P.length = bc6 C) (hl : C.length ≤ 1000000) :
    ∃ y' P' σ2, P'.length = bc6 (drC5 1 C) ∧ wt6 σ2 (drC5 1 C) ∧ pl6 σ2 (y' :: P') ∧ F6 σ σ2 ∧ σ2.1 10 = σ.1 10 ∧ σ2.1 13 = σ.1 13 ∧ σ2.1 47 = 0 ∧
      g5_behind σ = if σ2.1 48 = 0 then (σ2, 2) else if g5_top σ2 = 40 then (g5_turn (siU (g5_close 41 σ2) 48 ((g5_close 41 σ2).1 48 - 1)), 1) else (if g5_goesOn (siU (g5_close 93 σ2) 48 ((g5_close 93 σ2).1 48 - 1)) = 0 then g5_behind_245 (siU (g5_close 93 σ2) 48 ((g5_close 93 σ2).1 48 - 1)) else if (siU (g5_close 93 σ2) 48 ((g5_close 93 σ2).1 48 - 1)).1 46 = 1 then (if g5_cellOf ((g5_close 93 σ2).2.2.1 51 ((g5_close 93 σ2).1 48 - 1).toNatClampNeg) ((siU (g5_close 93 σ2) 48 ((g5_close 93 σ2).1 48 - 1)).2.2.1 52 ((siU (g5_close 93 σ2) 48 ((g5_close 93 σ2).1 48 - 1)).1 49 - 1).toNatClampNeg) (siU (g5_close 93 σ2) 48 ((g5_close 93 σ2).1 48 - 1)) = -1 then g5_behind_216 (g5_cellOf ((g5_close 93 σ2).2.2.1 51 ((g5_close 93 σ2).1 48 - 1).toNatClampNeg) ((siU (g5_close 93 σ2) 48 ((g5_close 93 σ2).1 48 - 1)).2.2.1 52 ((siU (g5_close 93 σ2) 48 ((g5_close 93 σ2).1 48 - 1)).1 49 - 1).toNatClampNeg) (siU (g5_close 93 σ2) 48 ((g5_close 93 σ2).1 48 - 1))) 1 (siU (g5_close 93 σ2) 48 ((g5_close 93 σ2).1 48 - 1)) else g5_behind_216 (g5_cellOf ((g5_close 93 σ2).2.2.1 51 ((g5_close 93 σ2).1 48 - 1).toNatClampNeg) ((siU (g5_close 93 σ2) 48 ((g5_close 93 σ2).1 48 - 1)).2.2.1 52 ((siU (g5_close 93 σ2) 48 ((g5_close 93 σ2).1 48 - 1)).1 49 - 1).toNatClampNeg) (siU (g5_close 93 σ2) 48 ((g5_close 93 σ2).1 48 - 1))) 0 (siU (g5_close 93 σ2) 48 ((g5_close 93 σ2).1 48 - 1))) else g5_behind_245 (siU (g5_close 93 σ2) 48 ((g5_close 93 σ2).1 48 - 1))) := by
  have hz : (if X.1 (Bk + a) = 3 then rk5 (X.2.2.1 (Bk + a)) else 0) = 0 := by
    rcases bi_5 (H.2.2.1 a ha) with ⟨q, w⟩ | ⟨q, _⟩
    · rcases w with w | w
      · rw [if_pos q]; exact w.2
      · exact absurd hb w.1
    · rw [if_neg q]
  have be : g5_behind σ = g5_behind_93 (g5_settle 6 σ) := by
    unfold g5_behind
    dsimp only [pb5]
    rw [(so_6 H hX ha hat).1, (so_6 H hX ha hat).2.1, rk_5]
    have e29 : (if X.1 (Bk + a) = 3 then g5_behind_29 (rk5 (X.2.2.1 (Bk + a))) σ else g5_behind_29 0 σ) = g5_behind_29 0 σ := by
      by_cases c : X.1 (Bk + a) = 3
      · rw [if_pos c] at hz
        rw [if_pos c, hz]
      · rw [if_neg c]
    rw [e29]
    unfold g5_behind_29
    rw [if_neg (by decide), if_pos (by decide)]
    unfold g5_behind_50
    dsimp only [pb5]
    rw [if_pos (by decide)]
  obtain ⟨k1, k2⟩ := dr_66 v n
  rw [be]
  obtain ⟨y0, P0, g2, g3, g4, g5, g6, g7, g8⟩ := se_z6 (r := 6) (by decide) o w v n f p hp hl
  rw [k1] at g2 g3
  generalize g5_settle 6 σ = σ1 at g3 g4 g5 g6 g7 g8
  have o1 : okz6 σ1 := ok_Nz6 o (Nz_F6 g5) g8
  obtain ⟨y', P', j2, j3, j4, j5, j6, j7, j8⟩ := se_z6 (r := 1) (by decide) o1 g3 v n f g4 g2 hl
  refine ⟨y', P', g5_settle 1 σ1, j2, j3, j4, F_t6 g5 j5, j6.trans g6, j7.trans g7, j8, ?_⟩
  unfold g5_behind_93
  dsimp only [pb5]
  rw [(ok_goz6 (ok_Nz6 o1 (Nz_F6 j5) j8)).1, if_neg ne105]
end

end
section
set_option maxHeartbeats 1600000
/-! the reference reads an expression in mode 0, whole -/
theorem rs_y6 {T : T5} {Bk l a a' : Nat} {rf : Nat → Int32} {q σ τ : rS} (k : T.2.1 a = 140) (ha : a < a') (h : rsz6 T Bk l (a + 1) a' rf q τ) (n : Nz6 σ τ) (e : τ.2.2.1 39 = fun j => if j = Bk + a then rf a else σ.2.2.1 39 j) : rsz6 T Bk l a a' rf q σ := ⟨h.1, h.2.1, h.2.2.1, Nz_t6 n h.2.2.2.1, RR_y6 k ha e h.2.2.2.2⟩
theorem e39_6 {σ : rS} {y x : Int32} {i : Nat} : (riU (siU σ 10 y) 39 i x).2.2.1 39 = fun j => if j = i then x else σ.2.2.1 39 j := by
  funext j
  exact ri4
theorem wt_396 {σ : rS} {i : Nat} {x : Int32} {C : List Int32} (w : wt6 σ C) : wt6 (riU σ 39 i x) C := by
  refine wt_e6 w rfl ?_ ?_
  · funext j
    show (if 50 = 39 ∧ j = i then x else σ.2.2.1 50 j) = _
    exact if_neg (fun q => absurd q.1 (by decide))
  · funext j
    show (if 51 = 39 ∧ j = i then x else σ.2.2.1 51 j) = _
    exact if_neg (fun q => absurd q.1 (by decide))
theorem pl_396 {σ : rS} {i : Nat} {x : Int32} {P : List Int32} (p : pl6 σ P) : pl6 (riU σ 39 i x) P := by
  refine pl_e6 p rfl ?_
  funext j
  show (if 52 = 39 ∧ j = i then x else σ.2.2.1 52 j) = _
  exact if_neg (fun q => absurd q.1 (by decide))
theorem sx_396 {σ : rS} {i : Nat} {x : Int32} : sx5 (riU σ 39 i x) = sx5 σ := Nz_sx6 Nz_396
theorem n79_06 {σ : rS} {t : Int32} (o : okz6 σ) : g5_named_79 t 0 σ = (g5_push 0 σ, 1) := by
  unfold g5_named_79
  dsimp only [pb5]
  rw [(ok_goz6 o).2, if_neg ne105, if_pos rfl, o.2.1, if_pos rfl]
theorem n79_16 {σ : rS} {t : Int32} (o : okz6 σ) : g5_named_79 t 1 σ = (g5_hold 91 ((g5_open 91 σ).2.2.1 39 t.toNatClampNeg) (g5_open 91 σ), 0) := by
  unfold g5_named_79
  dsimp only [pb5]
  rw [(ok_goz6 o).2, if_neg ne105, if_neg ne105]
theorem run_z6 {T : T5} {X : X5} {W : W5} {Bk N l : Nat} {Z : Int32} {rs : Nat → Qq6} {ra rv rA : Nat → Int32} {qb : Nat} (hq : l + qb ≤ 40) (H : TR5 T X Bk N Z) (hE : T.2.1 (N - 1) = 142) (hn : nr6 T X W Bk N rv rA) (hf : ∀ t, t < N → T.2.1 t = 140 → ((rs t).2 ≠ -1 → rv t ≠ -1) ∧ (ra t ≠ -1 → rA t = 200 + ra t)) : ∀ (m : Nat),
    (∀ (a : Nat) (C : List Int32) (K : List Qq6) (a' : Nat), Ch6 T qb rs ra m false a C K a' → a' < N → C.length ≤ a → vC6 C → wf6 C → ∀ (mr : Nat) (σ : rS) (P : List Int32), a' - a + 2 ≤ mr → esz6 X W Bk l a C σ → wt6 σ C → pl6 σ P → P.length = bc6 C → rsz6 T Bk l a a' (rf6 T rv rA) (g5_expression_12 mr 0 σ).1 σ) ∧
    (∀ (a : Nat) (C : List Int32) (K : List Qq6) (a' : Nat), Ch6 T qb rs ra m true a C K a' → a' < N → C.length ≤ a → vC6 C → wf6 C → ∀ (mr : Nat) (σ : rS) (x : Int32) (P : List Int32), a' - a + 2 ≤ mr → esz6 X W Bk l a C σ → wt6 σ (dn6 C) → pl6 σ (x :: P) → P.length = bc6 C → rsz6 T Bk l a a' (rf6 T rv rA) (g5_expression_12 mr 1 σ).1 σ)
  | 0 => ⟨fun _ _ _ _ h => h.elim, fun _ _ _ _ h => h.elim⟩
  | m + 1 => by
    obtain ⟨IA, IB⟩ := run_z6 (l := l) (rs := rs) (ra := ra) hq H hE hn hf m
    have h1 := H.1
    refine ⟨fun a C K a' h hN hl v wf mr σ P hmr es w p hp => ?_, fun a C K a' h hN hl v wf mr σ x P hmr es w p hp => ?_⟩
    · have es0 := es
      obtain ⟨o, hX, hW, hat, ho⟩ := es
      have hla := ch_le6 h
      have hlt := hla.2 rfl
      obtain ⟨mr, rfl⟩ : ∃ k, mr = k + 1 := ⟨mr - 1, by omega⟩
      have hbc := bc_l6 (C := C)
      have hbk := bk_l6 (C := C)
      rw [ex_0z6 o]
      rcases h with ⟨k, K', rfl, h⟩ | ⟨c, k, h⟩ | ⟨k, kb, h⟩ | ⟨k, n91, n40, kr, K', rfl, h⟩ | ⟨k, k91, kb, kr, h⟩
      · -- a number
        have hle := ch_le6 h
        have kd := kd_o5 (H.2.2.1 a (by omega))
        have eo : g5_operand σ = (g5_push (f5_Ta_numberAt T (Int32.ofNat a)) (siU σ 10 (Int32.ofNat (Bk + (a + 1)))), 1) := by
          unfold g5_operand
          dsimp only [pb5]
          rw [ata_6 (c := 33) H hX (by omega) hat (by decide) (by decide), if_neg (show ¬ T.2.1 a = 33 by rw [k]; decide), if_pos rfl, ata_6 (c := 45) H hX (by omega) hat (by decide) (by decide), if_neg (show ¬ T.2.1 a = 45 by rw [k]; decide), if_pos rfl, ata_6 (c := 40) H hX (by omega) hat (by decide) (by decide), if_neg (show ¬ T.2.1 a = 40 by rw [k]; decide), if_pos rfl, (so_6 H hX (by omega) hat).1, if_pos (kd.2.2.1.mpr k), (so_6 H hX (by omega) hat).2.1, go_6 H hE hX (by omega) hat o.1, H.2.2.2.2.1 a (by omega) k]
        rw [eo, if_neg ne105]
        generalize f5_Ta_numberAt T (Int32.ofNat a) = nv
        have w1 : wt6 (siU σ 10 (Int32.ofNat (Bk + (a + 1)))) C := wt_s6 w (by decide)
        have p1 : pl6 (siU σ 10 (Int32.ofNat (Bk + (a + 1)))) P := pl_s6 p (by decide)
        obtain ⟨z1, z2, z3, z4, z5, z6⟩ := ps_6 (x := nv) w1 v p1 (by omega) (by omega)
        have fr : F6 σ (g5_push nv (siU σ 10 (Int32.ofNat (Bk + (a + 1))))) := F_t6 (F_si6 (by decide)) z3
        refine rs_n6 (by rw [k]; decide) (IB (a + 1) C K' a' h hN (by omega) v wf mr _ _ P (by omega) (es_z6 es0 (Nz_F6 fr) ?_ ?_ ?_) z1 z2 hp) fr
        · rw [z6, si1, if_neg (by decide)]; exact o.2.2
        · rw [z4, si1, if_pos rfl]
        · rw [z5, si1, if_neg (by decide)]; exact ho
      · -- a sign
        have hle := ch_le6 h
        have us : us16 c := by rcases k with ⟨_, q⟩ | ⟨_, q⟩ <;> rw [q] <;> decide
        have ka : T.2.1 a ≠ 140 := by rcases k with ⟨q, _⟩ | ⟨q, _⟩ <;> rw [q] <;> decide
        have eo : g5_operand σ = (g5_go (g5_hold (sg6 c) 0 σ), 0) := by
          unfold g5_operand g5_operand_18 g5_operand_37
          dsimp only [pb5]
          rw [ata_6 (c := 33) H hX (by omega) hat (by decide) (by decide), ata_6 (c := 45) H hX (by omega) hat (by decide) (by decide)]
          rcases k with ⟨q1, q2⟩ | ⟨q1, q2⟩
          · rw [if_pos q1, if_neg ne105, if_neg ne105, q2]; rfl
          · rw [if_neg (show ¬ T.2.1 a = 33 by rw [q1]; decide), if_pos rfl, if_pos q1, if_neg ne105, if_pos rfl, q2]; rfl
        rw [eo, if_pos rfl]
        obtain ⟨z1, z2, z3, z4, z5, z6, z7⟩ := ho_6 (c := c) (y := 0) w (by omega) (fun q => absurd q (us_f6 us).2.2.2.2.1)
        have p2 := pl_e6 p z6 z7
        show rsz6 T Bk l a a' (rf6 T rv rA) (g5_expression_12 mr 0 (g5_go (g5_hold (sg6 c) 0 σ))).1 σ
        generalize g5_hold (sg6 c) 0 σ = τ at z1 z2 z3 z4 z5 p2
        rw [go_6 (σ := τ) H hE ((F_sx6 z2).trans hX) (by omega) (z3.trans hat) ((z2.1 11 (by decide) (by decide) (by decide) (by decide) (by decide)).trans o.1)]
        have fr : F6 σ (siU τ 10 (Int32.ofNat (Bk + (a + 1)))) := F_t6 z2 (F_si6 (by decide))
        refine rs_n6 ka (IA (a + 1) (c :: C) K a' h hN (by rw [List.length_cons]; omega) ⟨Or.inl us, v⟩ ⟨fun q => absurd q (us_f6 us).2.2.2.2.2, wf⟩ mr _ P (by omega) (es_z6 es0 (Nz_F6 fr) ?_ ?_ ?_) (wt_s6 z1 (by decide)) (pl_s6 p2 (by decide)) (by rw [bc_s6 (us_f6 us).2.2.2.2.2]; exact hp)) fr
        · rw [si1, if_neg (by decide), z5]; exact o.2.2
        · rw [si1, if_pos rfl]
        · rw [si1, if_neg (by decide), z4, bk_s6 (us_f6 us).2.2.2.2.1]; exact ho
      · -- a bracket
        have hle := ch_le6 h
        have eo : g5_operand σ = (g5_hold (sg6 100) 0 (g5_open 40 σ), 0) := by
          unfold g5_operand
          dsimp only [pb5]
          rw [ata_6 (c := 33) H hX (by omega) hat (by decide) (by decide), if_neg (show ¬ T.2.1 a = 33 by rw [k]; decide), if_pos rfl, ata_6 (c := 45) H hX (by omega) hat (by decide) (by decide), if_neg (show ¬ T.2.1 a = 45 by rw [k]; decide), if_pos rfl, ata_6 (c := 40) H hX (by omega) hat (by decide) (by decide), if_pos k, if_neg ne105]
          rfl
        rw [eo, if_pos rfl, op_6 H hE hX (by omega) hat o.1 k (by decide) (by decide) ho (by omega)]
        have hbr : br16 (100 : Int32) := Or.inl rfl
        have w1 : wt6 (siU (siU σ 13 (Int32.ofNat (l + bk6 C + 1))) 10 (Int32.ofNat (Bk + (a + 1)))) C := wt_s6 (wt_s6 w (by decide)) (by decide)
        have p1 : pl6 (siU (siU σ 13 (Int32.ofNat (l + bk6 C + 1))) 10 (Int32.ofNat (Bk + (a + 1)))) P := pl_s6 (pl_s6 p (by decide)) (by decide)
        have f1 : F6 σ (siU (siU σ 13 (Int32.ofNat (l + bk6 C + 1))) 10 (Int32.ofNat (Bk + (a + 1)))) := F_t6 (F_si6 (by decide)) (F_si6 (by decide))
        have a10 : (siU (siU σ 13 (Int32.ofNat (l + bk6 C + 1))) 10 (Int32.ofNat (Bk + (a + 1)))).1 10 = Int32.ofNat (Bk + (a + 1)) := by rw [si1, if_pos rfl]
        have a13 : (siU (siU σ 13 (Int32.ofNat (l + bk6 C + 1))) 10 (Int32.ofNat (Bk + (a + 1)))).1 13 = Int32.ofNat (l + bk6 C + 1) := by rw [si1, if_neg (by decide), si1, if_pos rfl]
        have a47 : (siU (siU σ 13 (Int32.ofNat (l + bk6 C + 1))) 10 (Int32.ofNat (Bk + (a + 1)))).1 47 = 0 := o.2.2
        show rsz6 T Bk l a a' (rf6 T rv rA) (g5_expression_12 mr 0 (g5_hold (sg6 100) 0 (siU (siU σ 13 (Int32.ofNat (l + bk6 C + 1))) 10 (Int32.ofNat (Bk + (a + 1)))))).1 σ
        generalize siU (siU σ 13 (Int32.ofNat (l + bk6 C + 1))) 10 (Int32.ofNat (Bk + (a + 1))) = σ1 at w1 p1 f1 a10 a13 a47
        obtain ⟨z1, z2, z3, z4, z5, z6, z7⟩ := ho_6 (c := 100) (y := 0) w1 (by omega) (fun _ q => absurd rfl q)
        have p2 := pl_e6 p1 z6 z7
        generalize g5_hold (sg6 100) 0 σ1 = τ at z1 z2 z3 z4 z5 p2
        have fr : F6 σ τ := F_t6 f1 z2
        have nb : ¬ bi16 (100 : Int32) := (br_f6 hbr).2.2.2.2.2.2
        exact rs_n6 (by rw [k]; decide) (IA (a + 1) (100 :: C) K a' h hN (by rw [List.length_cons]; omega) ⟨Or.inr (Or.inl hbr), v⟩ ⟨fun q => absurd q nb, wf⟩ mr _ P (by omega) (es_z6 es0 (Nz_F6 fr) (z5.trans a47) (z3.trans a10) (by rw [z4, a13, bk_b6 hbr]; rfl)) z1 p2 (by rw [bc_s6 nb]; exact hp)) fr
      · -- a variable
        have hle := ch_le6 h
        have nf : rf6 T rv rA a ≠ -1 := by
          unfold rf6
          rw [if_neg n91]
          exact (hf a (by omega) k).1 kr.2
        have eo := nm_z6 H hE hn o hX hW (by omega) hat k n40 nf
        rw [if_neg n91] at eo
        have o1 : okz6 (riU (siU σ 10 (Int32.ofNat (Bk + (a + 1)))) 39 (Bk + a) (rf6 T rv rA a)) := ⟨o.1, o.2.1, o.2.2⟩
        have w1 : wt6 (riU (siU σ 10 (Int32.ofNat (Bk + (a + 1)))) 39 (Bk + a) (rf6 T rv rA a)) C := wt_396 (wt_s6 w (by decide))
        have p1 : pl6 (riU (siU σ 10 (Int32.ofNat (Bk + (a + 1)))) 39 (Bk + a) (rf6 T rv rA a)) P := pl_396 (pl_s6 p (by decide))
        have q1 : Nz6 σ (riU (siU σ 10 (Int32.ofNat (Bk + (a + 1)))) 39 (Bk + a) (rf6 T rv rA a)) := Nz_t6 (Nz_F6 (F_si6 (by decide))) Nz_396
        have e39 : (riU (siU σ 10 (Int32.ofNat (Bk + (a + 1)))) 39 (Bk + a) (rf6 T rv rA a)).2.2.1 39 = fun j => if j = Bk + a then rf6 T rv rA a else σ.2.2.1 39 j := e39_6
        have a10 : (riU (siU σ 10 (Int32.ofNat (Bk + (a + 1)))) 39 (Bk + a) (rf6 T rv rA a)).1 10 = Int32.ofNat (Bk + (a + 1)) := by
          show (siU σ 10 (Int32.ofNat (Bk + (a + 1)))).1 10 = _
          rw [si1, if_pos rfl]
        have a13 : (riU (siU σ 10 (Int32.ofNat (Bk + (a + 1)))) 39 (Bk + a) (rf6 T rv rA a)).1 13 = Int32.ofNat (l + bk6 C) := ho
        rw [n79_06 o1] at eo
        rw [eo, if_neg ne105]
        show rsz6 T Bk l a a' (rf6 T rv rA) (g5_expression_12 mr 1 (g5_push 0 (riU (siU σ 10 (Int32.ofNat (Bk + (a + 1)))) 39 (Bk + a) (rf6 T rv rA a)))).1 σ
        generalize riU (siU σ 10 (Int32.ofNat (Bk + (a + 1)))) 39 (Bk + a) (rf6 T rv rA a) = σ1 at o1 w1 p1 q1 e39 a10 a13
        obtain ⟨z1, z2, z3, z4, z5, z6⟩ := ps_6 (x := 0) w1 v p1 (by omega) (by omega)
        have fr : Nz6 σ (g5_push 0 σ1) := Nz_t6 q1 (Nz_F6 z3)
        exact rs_y6 k hlt (IB (a + 1) C K' a' h hN (by omega) v wf mr _ _ P (by omega) (es_z6 es0 fr (z6.trans o1.2.2) (z4.trans a10) (z5.trans a13)) z1 z2 hp) fr ((F_396 z3).trans e39)
      · -- a cell
        have hle := ch_le6 h
        have hle2 := hle.2 rfl
        have eA : rf6 T rv rA a = 200 + ra a := by
          unfold rf6
          rw [if_pos k91]
          exact (hf a (by omega) k).2 (by rcases kr with q | q | q <;> rw [q] <;> decide)
        have hsg : sg6 (101 + ra a) = 91 ∧ br16 (101 + ra a) ∧ 101 + ra a ≠ 100 ∧ 200 + ra a = 101 + ra a + 99 ∧ 200 + ra a ≠ -1 := by
          rcases kr with q | q | q <;> rw [q] <;> decide
        have eo := nm_z6 H hE hn o hX hW (by omega) hat k (by rw [k91]; decide) (by rw [eA]; exact hsg.2.2.2.2)
        rw [if_pos k91] at eo
        have o1 : okz6 (riU (siU σ 10 (Int32.ofNat (Bk + (a + 1)))) 39 (Bk + a) (rf6 T rv rA a)) := ⟨o.1, o.2.1, o.2.2⟩
        have w1 : wt6 (riU (siU σ 10 (Int32.ofNat (Bk + (a + 1)))) 39 (Bk + a) (rf6 T rv rA a)) C := wt_396 (wt_s6 w (by decide))
        have p1 : pl6 (riU (siU σ 10 (Int32.ofNat (Bk + (a + 1)))) 39 (Bk + a) (rf6 T rv rA a)) P := pl_396 (pl_s6 p (by decide))
        have q1 : Nz6 σ (riU (siU σ 10 (Int32.ofNat (Bk + (a + 1)))) 39 (Bk + a) (rf6 T rv rA a)) := Nz_t6 (Nz_F6 (F_si6 (by decide))) Nz_396
        have e39 : (riU (siU σ 10 (Int32.ofNat (Bk + (a + 1)))) 39 (Bk + a) (rf6 T rv rA a)).2.2.1 39 = fun j => if j = Bk + a then rf6 T rv rA a else σ.2.2.1 39 j := e39_6
        have a10 : (riU (siU σ 10 (Int32.ofNat (Bk + (a + 1)))) 39 (Bk + a) (rf6 T rv rA a)).1 10 = Int32.ofNat (Bk + (a + 1)) := by
          show (siU σ 10 (Int32.ofNat (Bk + (a + 1)))).1 10 = _
          rw [si1, if_pos rfl]
        have a13 : (riU (siU σ 10 (Int32.ofNat (Bk + (a + 1)))) 39 (Bk + a) (rf6 T rv rA a)).1 13 = Int32.ofNat (l + bk6 C) := ho
        rw [n79_16 o1] at eo
        rw [eo, if_pos rfl]
        show rsz6 T Bk l a a' (rf6 T rv rA) (g5_expression_12 mr 0 (g5_hold 91 ((g5_open 91 (riU (siU σ 10 (Int32.ofNat (Bk + (a + 1)))) 39 (Bk + a) (rf6 T rv rA a))).2.2.1 39 (Int32.ofNat (Bk + a)).toNatClampNeg) (g5_open 91 (riU (siU σ 10 (Int32.ofNat (Bk + (a + 1)))) 39 (Bk + a) (rf6 T rv rA a))))).1 σ
        generalize riU (siU σ 10 (Int32.ofNat (Bk + (a + 1)))) 39 (Bk + a) (rf6 T rv rA a) = σ1 at o1 w1 p1 q1 e39 a10 a13
        have eop := op_6 (c := 91) (σ := σ1) H hE ((Nz_sx6 q1).trans hX) (by omega) a10 o1.1 k91 (by decide) (by decide) a13 (by omega)
        rw [eop]
        have e39b : (siU (siU σ1 13 (Int32.ofNat (l + bk6 C + 1))) 10 (Int32.ofNat (Bk + (a + 1 + 1)))).2.2.1 39 (Int32.ofNat (Bk + a)).toNatClampNeg = 200 + ra a := by
          rw [cl_5 (by omega)]
          show σ1.2.2.1 39 (Bk + a) = _
          rw [e39]
          show (if Bk + a = Bk + a then rf6 T rv rA a else _) = _
          rw [if_pos rfl, eA]
        rw [e39b, ← hsg.1]
        have w2 : wt6 (siU (siU σ1 13 (Int32.ofNat (l + bk6 C + 1))) 10 (Int32.ofNat (Bk + (a + 1 + 1)))) C := wt_s6 (wt_s6 w1 (by decide)) (by decide)
        have p2 : pl6 (siU (siU σ1 13 (Int32.ofNat (l + bk6 C + 1))) 10 (Int32.ofNat (Bk + (a + 1 + 1)))) P := pl_s6 (pl_s6 p1 (by decide)) (by decide)
        have f2 : F6 σ1 (siU (siU σ1 13 (Int32.ofNat (l + bk6 C + 1))) 10 (Int32.ofNat (Bk + (a + 1 + 1)))) := F_t6 (F_si6 (by decide)) (F_si6 (by decide))
        have b10 : (siU (siU σ1 13 (Int32.ofNat (l + bk6 C + 1))) 10 (Int32.ofNat (Bk + (a + 1 + 1)))).1 10 = Int32.ofNat (Bk + (a + 2)) := by rw [si1, if_pos rfl]
        have b13 : (siU (siU σ1 13 (Int32.ofNat (l + bk6 C + 1))) 10 (Int32.ofNat (Bk + (a + 1 + 1)))).1 13 = Int32.ofNat (l + bk6 C + 1) := by rw [si1, if_neg (by decide), si1, if_pos rfl]
        have b47 : (siU (siU σ1 13 (Int32.ofNat (l + bk6 C + 1))) 10 (Int32.ofNat (Bk + (a + 1 + 1)))).1 47 = 0 := o1.2.2
        generalize siU (siU σ1 13 (Int32.ofNat (l + bk6 C + 1))) 10 (Int32.ofNat (Bk + (a + 1 + 1))) = σ2 at w2 p2 f2 b10 b13 b47
        obtain ⟨z1, z2, z3, z4, z5, z6, z7⟩ := ho_6 (c := 101 + ra a) (y := 200 + ra a) w2 (by omega) (fun _ _ => hsg.2.2.2.1)
        have p3 := pl_e6 p2 z6 z7
        generalize g5_hold (sg6 (101 + ra a)) (200 + ra a) σ2 = τ at z1 z2 z3 z4 z5 p3
        have f3 : F6 σ1 τ := F_t6 f2 z2
        have fr : Nz6 σ τ := Nz_t6 q1 (Nz_F6 f3)
        have nb : ¬ bi16 (101 + ra a) := (br_f6 hsg.2.1).2.2.2.2.2.2
        have g := IA (a + 2) ((101 + ra a) :: C) K a' h hN (by rw [List.length_cons]; omega) ⟨Or.inr (Or.inl hsg.2.1), v⟩ ⟨fun q => absurd q nb, wf⟩ mr _ P (by omega) (es_z6 es0 fr (z5.trans b47) (z3.trans b10) (by rw [z4, b13, bk_b6 hsg.2.1]; rfl)) z1 p3 (by rw [bc_s6 nb]; exact hp)
        exact rs_y6 k hlt (rs_n6 (a := a + 1) (by rw [k91]; decide) g F_r6) fr ((F_396 f3).trans e39)
    · have es0 := es
      obtain ⟨o, hX, hW, hat, ho⟩ := es
      have hla := ch_le6 h
      obtain ⟨mr, rfl⟩ : ∃ k, mr = k + 1 := ⟨mr - 1, by omega⟩
      have hbc := bc_l6 (C := C)
      have hbk := bk_l6 (C := C)
      have hdl := dn_l6 (C := C)
      have v1 := vC_d6 v
      have f1 := wf_d6 wf
      have n1 := nu_d6 (C := C)
      have hp1 : P.length = bc6 (dn6 C) := by rw [bc_d6]; exact hp
      have beh : g5_behind σ = g5_behind_29 (if X.1 (Bk + a) = 3 then rk5 (X.2.2.1 (Bk + a)) else 0) σ := by
        unfold g5_behind
        dsimp only [pb5]
        rw [(so_6 H hX (by omega) hat).1, (so_6 H hX (by omega) hat).2.1, rk_5]
        by_cases c : X.1 (Bk + a) = 3
        · rw [if_pos c, if_pos c]
        · rw [if_neg c, if_neg c]
      rw [ex_1z6 o]
      rcases h with ⟨c, r, K', hb, hb1, hr, hnt, rfl, h⟩ | ⟨hb, c, C', K', hD, hk, rfl, h⟩ | ⟨hb, hD, rfl, rfl⟩
      · -- an operator
        have hle := ch_le6 h
        have hle2 := hle.2 rfl
        have ka : T.2.1 a ≠ 140 := fun q => hb1 (by rw [← hb, q]; decide)
        obtain ⟨x1, x2, x3⟩ := by_6 (H.2.2.1 a (by omega)) (by rw [hb]; exact hb1)
        rw [hb] at x2 x3
        have hk := bi_f6 x2
        rw [if_pos x1, ← x3, ← hk.1] at beh
        have r1 : 1 ≤ r.toInt ∧ r.toInt ≤ 5 := by
          rw [hr]
          by_cases q : f5_Pa_rankOf c = 3
          · rw [if_pos q]; decide
          · rw [if_neg q, hk.1]; omega
        have be2 : g5_behind σ = g5_behind_50 (f5_Pa_rankOf c) r σ := by
          rw [beh, hr]
          unfold g5_behind_29
          by_cases q : f5_Pa_rankOf c = 3
          · rw [if_pos q, if_pos q]
          · rw [if_neg q, if_neg q, if_neg (by rw [lei, t0i, hk.1]; omega)]
        obtain ⟨dc1, dc2⟩ := dC_u6 r1.2 (C := C)
        rw [dc1] at hnt h
        obtain ⟨d1, d2, d3, d4, d5⟩ := dr_6 (r := r) r1.1 v1 f1 n1
        rw [be2]
        unfold g5_behind_50
        dsimp only [pb5]
        rw [if_neg (by rw [lei, t0i, hk.1]; omega)]
        obtain ⟨y', P', g2, g3, g4, g5, g6, g7, g8⟩ := se_z6 (r := r) r1.1 o w v1 n1 f1 p hp1 (by omega)
        generalize g5_settle r σ = σ1 at g3 g4 g5 g6 g7 g8
        have o1 : okz6 σ1 := ok_Nz6 o (Nz_F6 g5) g8
        have q73 : (if f5_Pa_rankOf c = 3 then (if g5_rank (g5_top σ1) σ1 = 3 then g5_behind_93 σ1 else g5_behind_73 σ1) else g5_behind_73 σ1) = g5_behind_73 σ1 := by
          by_cases q : f5_Pa_rankOf c = 3
          · rw [if_pos q]
            have hnt := hnt q
            refine if_neg ?_
            cases hD : drC5 r (dn6 C) with
            | nil =>
              rw [hD] at g3
              rw [tp_06 g3]
              show ¬ rk5 0 = 3
              decide
            | cons c2 D =>
              rw [hD] at g3 d1 d3 hnt d4
              rw [List.length_cons] at d4
              rw [(tp_6 g3 (by omega)).1]
              show ¬ rk5 (sg6 c2) = 3
              rcases d1.1 with q2 | q2 | q2
              · exact absurd q2 d3
              · rw [(br_f6 q2).2.1]; decide
              · rw [← (bi_f6 q2).1]; exact hnt
          · rw [if_neg q]
        rw [q73]
        unfold g5_behind_73
        dsimp only [pb5]
        rw [(so_6 H ((F_sx6 g5).trans hX) (by omega) (g6.trans hat)).2.1, ← x3]
        obtain ⟨z1, z2, z3, z4, z5, z6, z7⟩ := ho_6 (c := c) (y := 0) g3 (by omega) (fun q => absurd q hk.2.2.2.2.2.2)
        have p2 := pl_e6 g4 z6 z7
        generalize g5_hold (sg6 c) 0 σ1 = τ at z1 z2 z3 z4 z5 p2
        have f2 : F6 σ τ := F_t6 g5 z2
        rw [go_6 (σ := τ) H hE ((F_sx6 f2).trans hX) (by omega) (z3.trans (g6.trans hat)) ((f2.1 11 (by decide) (by decide) (by decide) (by decide) (by decide)).trans o.1)]
        have fr : F6 σ (siU τ 10 (Int32.ofNat (Bk + (a + 1)))) := F_t6 f2 (F_si6 (by decide))
        refine rs_n6 ka (IA (a + 1) (c :: drC5 r (dn6 C)) K' a' h hN (by rw [List.length_cons]; omega) ⟨Or.inr (Or.inr x2), d1⟩ ⟨fun _ => d3, d2⟩ mr _ (y' :: P') (by omega) (es_z6 es0 (Nz_F6 fr) ?_ ?_ ?_) (wt_s6 z1 (by decide)) (pl_s6 p2 (by decide)) (by rw [List.length_cons, g2, bc_b6 x2])) fr
        · rw [si1, if_neg (by decide), z5]; exact g8
        · rw [si1, if_pos rfl]
        · rw [si1, if_neg (by decide), z4, g7, bk_s6 hk.2.2.2.2.2.2, d5, bk_d6]; exact ho
      · -- a bracket closed
        have hle := ch_le6 h
        have ka : T.2.1 a ≠ 140 := by
          rw [hk]
          by_cases q : c = 100
          · rw [if_pos q]; decide
          · rw [if_neg q]; decide
        obtain ⟨dc1, dc2⟩ := dC_u6 (r := 1) (by decide) (C := C)
        obtain ⟨d1, d2, d3, d4, d5⟩ := dr_6 (r := 1) (by decide) v1 f1 n1
        rw [← dc1, hD] at d1 d2 d4 d5
        rw [List.length_cons] at d4
        have hbr : br16 c := by
          have z : vC6 (drC5 1 C) := by rw [hD]; exact d1
          exact dr_16 z hD
        have nbi : ¬ bi16 c := (br_f6 hbr).2.2.2.2.2.2
        have bkC : bk6 C = bk6 C' + 1 := by rw [← bk_d6, ← d5, bk_b6 hbr]
        obtain ⟨y', P', σ2, j2, j3, j4, j5, j6, j7, j8, be⟩ := bh_z6 H o hX (by omega) hat hb v1 f1 n1 w p hp1 (by omega)
        rw [← dc1, hD] at j2 j3
        rw [bc_s6 nbi] at j2
        have o2 : okz6 σ2 := ok_Nz6 o (Nz_F6 j5) j8
        obtain ⟨t1, t2, t3⟩ := tp_6 j3 (by omega)
        have e48 : ¬ σ2.1 48 = 0 := fun q => by
          have z0 := j3.1
          rw [q, List.length_cons] at z0
          have y0 := congrArg Int32.toInt z0
          rw [ofn_i (by omega), t0i] at y0
          omega
        rw [if_neg e48, t1] at be
        have hat2 : σ2.1 10 = Int32.ofNat (Bk + a) := j6.trans hat
        have ho2 : σ2.1 13 = Int32.ofNat (l + bk6 C' + 1) := by rw [j7, ho, bkC]; rfl
        have hX2 : sx5 σ2 = X := (F_sx6 j5).trans hX
        rw [be]
        have fin : ∀ cc : Int32, T.2.1 a = cc → 0 < cc.toInt → cc.toInt < 128 → ∃ σ3, siU (g5_close cc σ2) 48 ((g5_close cc σ2).1 48 - 1) = σ3 ∧ okz6 σ3 ∧ rsz6 T Bk l a a' (rf6 T rv rA) (g5_expression_12 mr 1 (g5_turn σ3)).1 σ := fun cc hc c0 c1 => by
          have ec := cs_6 H hE hX2 (by omega) hat2 o2.1 hc c0 c1 ho2 (by omega)
          rw [ec]
          have w3 : wt6 (siU (siU (siU σ2 13 (Int32.ofNat (l + bk6 C'))) 10 (Int32.ofNat (Bk + (a + 1)))) 48 ((siU (siU σ2 13 (Int32.ofNat (l + bk6 C'))) 10 (Int32.ofNat (Bk + (a + 1)))).1 48 - 1)) C' := wt_p6 (wt_s6 (wt_s6 j3 (by decide)) (by decide)) (by omega)
          have p3 : pl6 (siU (siU (siU σ2 13 (Int32.ofNat (l + bk6 C'))) 10 (Int32.ofNat (Bk + (a + 1)))) 48 ((siU (siU σ2 13 (Int32.ofNat (l + bk6 C'))) 10 (Int32.ofNat (Bk + (a + 1)))).1 48 - 1)) (y' :: P') := pl_s6 (pl_s6 (pl_s6 j4 (by decide)) (by decide)) (by decide)
          have f3 : F6 σ (siU (siU (siU σ2 13 (Int32.ofNat (l + bk6 C'))) 10 (Int32.ofNat (Bk + (a + 1)))) 48 ((siU (siU σ2 13 (Int32.ofNat (l + bk6 C'))) 10 (Int32.ofNat (Bk + (a + 1)))).1 48 - 1)) := F_t6 j5 (F_t6 (F_t6 (F_si6 (by decide)) (F_si6 (by decide))) (F_si6 (by decide)))
          have a10 : (siU (siU (siU σ2 13 (Int32.ofNat (l + bk6 C'))) 10 (Int32.ofNat (Bk + (a + 1)))) 48 ((siU (siU σ2 13 (Int32.ofNat (l + bk6 C'))) 10 (Int32.ofNat (Bk + (a + 1)))).1 48 - 1)).1 10 = Int32.ofNat (Bk + (a + 1)) := by rw [si1, if_neg (by decide), si1, if_pos rfl]
          have a13 : (siU (siU (siU σ2 13 (Int32.ofNat (l + bk6 C'))) 10 (Int32.ofNat (Bk + (a + 1)))) 48 ((siU (siU σ2 13 (Int32.ofNat (l + bk6 C'))) 10 (Int32.ofNat (Bk + (a + 1)))).1 48 - 1)).1 13 = Int32.ofNat (l + bk6 C') := by rw [si1, if_neg (by decide), si1, if_neg (by decide), si1, if_pos rfl]
          have a47 : (siU (siU (siU σ2 13 (Int32.ofNat (l + bk6 C'))) 10 (Int32.ofNat (Bk + (a + 1)))) 48 ((siU (siU σ2 13 (Int32.ofNat (l + bk6 C'))) 10 (Int32.ofNat (Bk + (a + 1)))).1 48 - 1)).1 47 = 0 := j8
          generalize siU (siU (siU σ2 13 (Int32.ofNat (l + bk6 C'))) 10 (Int32.ofNat (Bk + (a + 1)))) 48 ((siU (siU σ2 13 (Int32.ofNat (l + bk6 C'))) 10 (Int32.ofNat (Bk + (a + 1)))).1 48 - 1) = σ3 at w3 p3 f3 a10 a13 a47
          have lb := bc_l6 (C := C')
          obtain ⟨u1, u2, u3, u4, u5, u6⟩ := tu_6 w3 d1.2 p3 (by omega) (by omega)
          have fr : F6 σ (g5_turn σ3) := F_t6 f3 u3
          exact ⟨σ3, rfl, ok_Nz6 o (Nz_F6 f3) a47, rs_n6 ka (IB (a + 1) C' K' a' h hN (by omega) d1.2 d2.2 mr _ _ P' (by omega) (es_z6 es0 (Nz_F6 fr) (u6.trans a47) (u4.trans a10) (u5.trans a13)) u1 u2 j2) fr⟩
        by_cases c100 : c = 100
        · rw [if_pos c100] at hk
          rw [if_pos ((br_f6 hbr).2.2.2.2.1.mpr c100)]
          obtain ⟨σ3, e3, _, g⟩ := fin 41 hk (by decide) (by decide)
          rw [e3]
          exact g
        · rw [if_neg c100] at hk
          rw [if_neg (fun q => c100 ((br_f6 hbr).2.2.2.2.1.mp q))]
          obtain ⟨σ3, e3, o3, g⟩ := fin 93 hk (by decide) (by decide)
          rw [e3, (ok_goz6 o3).1, if_neg ne105, o3.2.1, if_neg (by decide)]
          unfold g5_behind_245
          dsimp only [pb5]
          rw [(ok_goz6 o3).1, if_neg ne105]
          exact g
      · -- the end
        obtain ⟨mr, rfl⟩ : ∃ k, mr = k + 1 := ⟨mr - 1, by omega⟩
        obtain ⟨dc1, dc2⟩ := dC_u6 (r := 1) (by decide) (C := C)
        obtain ⟨d1, d2, d3, d4, d5⟩ := dr_6 (r := 1) (by decide) v1 f1 n1
        obtain ⟨y', P', σ2, j2, j3, j4, j5, j6, j7, j8, be⟩ := bh_z6 H o hX (by omega) hat hb v1 f1 n1 w p hp1 (by omega)
        rw [← dc1, hD] at j2 j3 d5
        have e48 : σ2.1 48 = 0 := j3.1
        rw [if_pos e48] at be
        rw [be]
        have e0 : bk6 C = 0 := by
          rw [← bk_d6, ← d5]; rfl
        show rsz6 T Bk l a' a' (rf6 T rv rA) (g5_expression_12 (mr + 1) 2 σ2).1 σ
        rw [ex_26]
        refine ⟨j6.trans hat, j8, ?_, Nz_F6 j5, ?_⟩
        · show σ2.1 13 = _
          rw [j7, ho, e0]; rfl
        · show RR6 T Bk _ (σ.2.2.1 39) (σ2.2.2.1 39) a' a'
          rw [F_396 j5]
          exact RR_06

end
section
set_option maxHeartbeats 1600000
/-! names: what the class finds of a name and what the reference notes of it -/
def vaE6 (e : E5) (t : Nat) : Int32 := f5_Ta_findName (tq5 e) (e.2.1 paVarNames) (e.2.2 paVarNames) (e.1 coVars) (Int32.ofNat t)
def rvE6 (e : E5) (t : Nat) : Int32 := if owE6 e t = -1 then vaE6 e t else 100 + owE6 e t
def rAE6 (e : E5) (t : Nat) : Int32 := if raE6 e t = -1 then -1 else 200 + raE6 e t
theorem fnd_u6 {v : Nat} {P : Nat → Prop} {r : Int32} {j : Nat} (h : fnd5 v P r) (hj : j < v) (pj : P j) (mj : ∀ i, i < j → ¬ P i) : r = Int32.ofNat j := by
  rcases h with ⟨_, n⟩ | ⟨k, k1, k2, k3, k4⟩
  · exact absurd pj (n j hj)
  · have e : k = j := by
      rcases Nat.lt_trichotomy k j with q | q | q
      · exact absurd k2 (mj k q)
      · exact q
      · exact absurd pj (k3 j q)
    rw [k4, e]
section
variable {T : T5} {X : X5} {Bk N t : Nat} {Z : Int32} {V : V5} {W : W5} {e : E5} {σ : rS}
/-- how many vars and arrays there are -/
def nvn6 (e : E5) (nv na : Nat) : Prop := e.1 509 = Int32.ofNat nv ∧ nv ≤ 10 ∧ e.1 510 = Int32.ofNat na ∧ na ≤ 3
theorem nv_6 (H : TR5 T X Bk N Z) (G : nG5 T Bk N V W) (O : nO5 T Bk N V W) (hT : tq5 e = T) (hV : gE5 e = V) (hX : sx5 σ = X) (hW : gS5 σ = W) (ht : t < N) (kt : T.2.1 t = 140) : (owE6 e t = -1 ∨ ∃ k, k < 8 ∧ owE6 e t = Int32.ofNat k) ∧ (vaE6 e t = -1 ∨ ∃ k : Nat, (k : Int) < (e.1 509).toInt ∧ k < 10 ∧ vaE6 e t = Int32.ofNat k) ∧ g5_variableOf (Int32.ofNat (Bk + t)) σ = rvE6 e t := by
  obtain ⟨⟨v1, p1⟩, _, _, g1, g2, g3, g4, _⟩ := G
  obtain ⟨f, w, o2, o3, o4, o5⟩ := O
  have q1 := fun k hk => pN_s5 H hX p1 (k := k) (y := Int32.ofNat (Bk + t)) hk rfl ht kt
  have q4 := fun k hk => pN_s5 H hX o5 (k := k) (y := Int32.ofNat (Bk + t)) hk rfl ht kt
  have F1 := fN_5 H p1 (l1 := vln5 V 1006) (by rw [g1]; exact p1.1) (by rw [g1]; decide) ht kt
  have F4 := fN_5 H o5 (l1 := vln5 V 1009) (by rw [g4]; exact o5.1) (by rw [g4]; decide) ht kt
  subst hV
  subst hW
  have z4 := va2_5 (σ := σ) (tok := Int32.ofNat (Bk + t)) (P := fun k => dn5 T (e.2.1 1009 k).toInt.toNat t) (by have := o5.1; omega) o3 (by omega) o5.2.2.1 q4 fu5 0 (by omega) (by have := o5.1; unfold fu5; omega) (fun j q => absurd q (by omega))
  have z1 := va5_5 (σ := σ) (tok := Int32.ofNat (Bk + t)) (P := fun k => dn5 T (e.2.1 1006 k).toInt.toNat t) (by have := p1.1; omega) p1.2.2.1 q1 fu5 0 (by omega) (by have := p1.1; unfold fu5; omega) (fun j q => absurd q (by omega))
  have F1 : fnd5 v1 (fun j => dn5 T (e.2.1 1006 j).toInt.toNat t) (vaE6 e t) := by
    unfold vaE6
    rw [hT]
    exact F1
  have F4 : fnd5 w (fun j => dn5 T (e.2.1 1009 j).toInt.toNat t) (owE6 e t) := by
    unfold owE6
    rw [hT]
    exact F4
  have hv1 := p1.1
  have hv4 := o5.1
  have c1 := fnd_n5 F1 (by omega)
  have c4 := fnd_n5 F4 (by omega)
  have e509 : (e.1 509).toInt = v1 := by
    have z : e.1 509 = Int32.ofNat v1 := p1.2.1
    rw [z, ofn_i (by omega)]
  refine ⟨?_, ?_, ?_⟩
  · rcases F4 with ⟨q, _⟩ | ⟨k, k1, _, _, k2⟩
    · exact Or.inl q
    · exact Or.inr ⟨k, by omega, k2⟩
  · rcases F1 with ⟨q, _⟩ | ⟨k, k1, _, _, k2⟩
    · exact Or.inl q
    · exact Or.inr ⟨k, by rw [e509]; omega, by omega, k2⟩
  · unfold g5_variableOf rvE6
    rcases z4 with ⟨j, j1, j2, j3, j4⟩ | ⟨j1, j2⟩
    · have u := fnd_u6 F4 j1 j2 j3
      have n : ¬ owE6 e t = -1 := fun q => (c4.mp q) j j1 j2
      rw [if_neg n, u]
      exact j4
    · have n : owE6 e t = -1 := c4.mpr j1
      rw [if_pos n]
      rcases z1 with ⟨i, i1, i2, i3, i4⟩ | ⟨i1, i2⟩
      · rw [fnd_u6 F1 i1 i2 i3]
        exact j2.trans i4
      · rw [c1.mpr i1]
        exact j2.trans i2
theorem na_6 (H : TR5 T X Bk N Z) (G : nG5 T Bk N V W) (hT : tq5 e = T) (hV : gE5 e = V) (hX : sx5 σ = X) (hW : gS5 σ = W) (ht : t < N) (kt : T.2.1 t = 140) : (raE6 e t = -1 ∨ ∃ k : Nat, (k : Int) < (e.1 510).toInt ∧ k < 3 ∧ raE6 e t = Int32.ofNat k) ∧ g5_arrayOf (Int32.ofNat (Bk + t)) σ = rAE6 e t := by
  obtain ⟨_, ⟨v2, p2⟩, _, g1, g2, g3, g4, _⟩ := G
  have q2 := fun k hk => pN_s5 H hX p2 (k := k) (y := Int32.ofNat (Bk + t)) hk rfl ht kt
  have F2 := fN_5 H p2 (l1 := vln5 V 1007) (by rw [g2]; exact p2.1) (by rw [g2]; decide) ht kt
  subst hV
  subst hW
  have z := ar2_5 (σ := σ) (tok := Int32.ofNat (Bk + t)) (P := fun k => dn5 T (e.2.1 1007 k).toInt.toNat t) (by have := p2.1; omega) p2.2.2.1 q2 fu5 0 (by omega) (by have := p2.1; unfold fu5; omega) (fun j q => absurd q (by omega))
  have F2 : fnd5 v2 (fun j => dn5 T (e.2.1 1007 j).toInt.toNat t) (raE6 e t) := by
    unfold raE6
    rw [hT]
    exact F2
  have hv := p2.1
  have c2 := fnd_n5 F2 (by omega)
  have e510 : (e.1 510).toInt = v2 := by
    have z : e.1 510 = Int32.ofNat v2 := p2.2.1
    rw [z, ofn_i (by omega)]
  refine ⟨?_, ?_⟩
  · rcases F2 with ⟨q, _⟩ | ⟨k, k1, _, _, k2⟩
    · exact Or.inl q
    · exact Or.inr ⟨k, by rw [e510]; omega, by omega, k2⟩
  · unfold g5_arrayOf rAE6
    rcases z with ⟨j, j1, j2, j3, j4⟩ | ⟨j1, j2⟩
    · have n : ¬ raE6 e t = -1 := fun q => (c2.mp q) j j1 j2
      rw [if_neg n, fnd_u6 F2 j1 j2 j3]
      exact j4
    · rw [if_pos (c2.mpr j1)]
      exact j2
theorem no_n6 {k : Nat} (h : k ≤ 1000000) : ¬ Int32.ofNat k < 0 := fun q => by
  rw [lti, ofn_i (by omega), t0i] at q
  omega
theorem no_m6 {k : Nat} (h : k ≤ 1000000) : ¬ Int32.ofNat k = -1 := no_m5 h
theorem ad_n6 {k j : Nat} (h : k + j ≤ 1000000) : Int32.ofNat k + Int32.ofNat j = Int32.ofNat (k + j) := by
  apply Int32.toInt_inj.mp
  rw [add_i (by rw [ofn_i (by omega), ofn_i (by omega)]; omega) (by rw [ofn_i (by omega), ofn_i (by omega)]; omega), ofn_i (by omega), ofn_i (by omega), ofn_i (by omega)]
  omega
theorem su_n6 {k j : Nat} (h : k + j ≤ 1000000) : Int32.ofNat (k + j) - Int32.ofNat k = Int32.ofNat j := by
  apply Int32.toInt_inj.mp
  rw [sub_i (by rw [ofn_i (by omega), ofn_i (by omega)]; omega) (by rw [ofn_i (by omega), ofn_i (by omega)]; omega), ofn_i (by omega), ofn_i (by omega), ofn_i (by omega)]
  omega
/-- all that an expression wants of the names -/
theorem ns_6 (H : TR5 T X Bk N Z) (G : nG5 T Bk N (gE5 e) (gS5 σ)) (O : nO5 T Bk N (gE5 e) (gS5 σ)) (hT : tq5 e = T) (hX : sx5 σ = X) : nr6 T X (gS5 σ) Bk N (rvE6 e) (rAE6 e) ∧ (∀ t, t < N → T.2.1 t = 140 → ((rsE6 e t).2 ≠ -1 → rvE6 e t ≠ -1) ∧ (raE6 e t ≠ -1 → rAE6 e t = 200 + raE6 e t)) ∧ ow6 T N e ∧ (∀ t, t < N → T.2.1 t = 140 → raE6 e t ≠ -1 → raE6 e t = 0 ∨ raE6 e t = 1 ∨ raE6 e t = 2) := by
  refine ⟨fun τ x w t ht kt => ?_, fun t ht kt => ⟨fun q => ?_, fun q => ?_⟩, fun t ht kt q => ?_, fun t ht kt q => ?_⟩
  · exact ⟨(nv_6 (e := e) (σ := τ) H G O hT rfl x w ht kt).2.2, (na_6 (e := e) (σ := τ) H G hT rfl x w ht kt).2⟩
  · obtain ⟨a, b, _⟩ := nv_6 (e := e) (σ := σ) H G O hT rfl hX rfl ht kt
    have er : rsE6 e t = if owE6 e t < 0 then (2, vaE6 e t) else (3, owE6 e t) := rfl
    rw [er] at q
    unfold rvE6
    rcases a with a | ⟨k, k1, a⟩
    · rw [a, if_pos (by decide)] at q
      rw [if_pos a]
      exact q
    · rw [a, if_neg (no_m6 (by omega)), show (100 : Int32) = Int32.ofNat 100 from rfl, ad_n6 (by omega)]
      exact no_m6 (by omega)
  · unfold rAE6
    rw [if_neg q]
  · obtain ⟨a, _⟩ := nv_6 (e := e) (σ := σ) H G O hT rfl hX rfl ht kt
    rcases a with a | ⟨k, k1, a⟩
    · exact a
    · rw [a] at q
      exact absurd q (no_n6 (by omega))
  · rcases (na_6 (e := e) (σ := σ) H G hT rfl hX rfl ht kt).1 with a | ⟨k, k0, k1, a⟩
    · exact absurd a q
    · rw [a]
      have : k = 0 ∨ k = 1 ∨ k = 2 := by omega
      rcases this with y | y | y <;> rw [y] <;> decide
end
/-- names of an expression, one by one -/
theorem ch_n6 {T : T5} {qb : Nat} {rs : Nat → Qq6} {ra : Nat → Int32} : ∀ {m : Nat} {st : Bool} {a : Nat} {C : List Int32} {K : List Qq6} {a' : Nat}, Ch6 T qb rs ra m st a C K a' → ∀ t, a ≤ t → t < a' → T.2.1 t = 140 → (T.2.1 (t + 1) = 91 ∧ (ra t = 0 ∨ ra t = 1 ∨ ra t = 2)) ∨ (T.2.1 (t + 1) ≠ 91 ∧ T.2.1 (t + 1) ≠ 40 ∧ ((rs t).1 = 2 ∨ (rs t).1 = 3) ∧ (rs t).2 ≠ -1)
  | 0, _, _, _, _, _, h => h.elim
  | m + 1, false, a, C, K, a', h => fun t h1 h2 kt => by
    rcases h with ⟨k, K', _, h⟩ | ⟨o, k, h⟩ | ⟨k, _, h⟩ | ⟨k, n91, n40, kr, K', _, h⟩ | ⟨k, k91, _, kr, h⟩
    · by_cases y : t = a
      · rw [y, k] at kt; exact absurd kt (by decide)
      · exact ch_n6 h t (by omega) h2 kt
    · by_cases y : t = a
      · rw [y] at kt
        rcases k with ⟨q, _⟩ | ⟨q, _⟩ <;> rw [q] at kt <;> exact absurd kt (by decide)
      · exact ch_n6 h t (by omega) h2 kt
    · by_cases y : t = a
      · rw [y, k] at kt; exact absurd kt (by decide)
      · exact ch_n6 h t (by omega) h2 kt
    · by_cases y : t = a
      · rw [y]; exact Or.inr ⟨n91, n40, kr⟩
      · exact ch_n6 h t (by omega) h2 kt
    · by_cases y : t = a
      · rw [y]; exact Or.inl ⟨k91, kr⟩
      · by_cases y2 : t = a + 1
        · rw [y2, k91] at kt; exact absurd kt (by decide)
        · exact ch_n6 h t (by omega) h2 kt
  | m + 1, true, a, C, K, a', h => fun t h1 h2 kt => by
    rcases h with ⟨o, r, K', ho, ho1, _, _, _, h⟩ | ⟨_, c, C', K', _, k, _, h⟩ | ⟨_, _, _, h⟩
    · by_cases y : t = a
      · rw [y] at kt
        rw [kt] at ho
        exact absurd ho.symm (fun q => ho1 (by rw [q]; decide))
      · exact ch_n6 h t (by omega) h2 kt
    · by_cases y : t = a
      · rw [y, k] at kt
        by_cases q : c = 100
        · rw [if_pos q] at kt; exact absurd kt (by decide)
        · rw [if_neg q] at kt; exact absurd kt (by decide)
      · exact ch_n6 h t (by omega) h2 kt
    · omega
/-- other functions with the same names -/
theorem ch_c6 {T : T5} {qb qc : Nat} (hq : qb ≤ qc) {rs rs' : Nat → Qq6} {ra ra' : Nat → Int32} : ∀ {m : Nat} {st : Bool} {a : Nat} {C : List Int32} {K : List Qq6} {a' : Nat}, Ch6 T qb rs ra m st a C K a' → (∀ t, a ≤ t → t < a' → T.2.1 t = 140 → (T.2.1 (t + 1) = 91 → ra' t = ra t) ∧ (T.2.1 (t + 1) ≠ 91 → rs' t = rs t)) → Ch6 T qc rs' ra' m st a C K a'
  | 0, _, _, _, _, _, h, _ => h.elim
  | m + 1, false, a, C, K, a', h, hc => by
    rcases h with ⟨k, K', eK, h⟩ | ⟨o, k, h⟩ | ⟨k, kb, h⟩ | ⟨k, n91, n40, kr, K', eK, h⟩ | ⟨k, k91, kb, kr, h⟩
    · exact Or.inl ⟨k, K', eK, ch_c6 hq h (fun t x y => hc t (by omega) y)⟩
    · exact Or.inr (Or.inl ⟨o, k, ch_c6 hq h (fun t x y => hc t (by omega) y)⟩)
    · exact Or.inr (Or.inr (Or.inl ⟨k, Nat.lt_of_lt_of_le kb hq, ch_c6 hq h (fun t x y => hc t (by omega) y)⟩))
    · have hle := ch_le6 h
      have z := (hc a (Nat.le_refl _) (by omega) k).2 n91
      exact Or.inr (Or.inr (Or.inr (Or.inl ⟨k, n91, n40, by rw [z]; exact kr, K', by rw [z]; exact eK, ch_c6 hq h (fun t x y => hc t (by omega) y)⟩)))
    · have hle := (ch_le6 h).2 rfl
      have z := (hc a (Nat.le_refl _) (by omega) k).1 k91
      exact Or.inr (Or.inr (Or.inr (Or.inr ⟨k, k91, Nat.lt_of_lt_of_le kb hq, by rw [z]; exact kr, by rw [z]; exact ch_c6 hq h (fun t x y => hc t (by omega) y)⟩)))
  | m + 1, true, a, C, K, a', h, hc => by
    rcases h with ⟨o, r, K', ho, ho1, hr, hnt, eK, h⟩ | ⟨b, c, C', K', hD, k, eK, h⟩ | ⟨b, hD, eK, h⟩
    · exact Or.inl ⟨o, r, K', ho, ho1, hr, hnt, eK, ch_c6 hq h (fun t x y => hc t (by omega) y)⟩
    · exact Or.inr (Or.inl ⟨b, c, C', K', hD, k, eK, ch_c6 hq h (fun t x y => hc t (by omega) y)⟩)
    · exact Or.inr (Or.inr ⟨b, hD, eK, h⟩)

end
