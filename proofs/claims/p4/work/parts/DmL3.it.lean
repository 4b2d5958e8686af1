set_option maxHeartbeats 1600000
/-! heads of functions, side by side -/
abbrev vfn5 (V : V5) : Nat → Int32 := V.2.2.2.2.2.1
abbrev vnc5 (V : V5) : Nat → Int32 := V.2.2.2.2.2.2.1
abbrev vbl5 (V : V5) : Int32 := V.2.2.2.2.2.2.2.2.2.2.2.1
abbrev vrb5 (V : V5) : Nat → Int32 := V.2.2.2.2.2.2.2.2.2.2.2.2.1
abbrev vre5 (V : V5) : Nat → Int32 := V.2.2.2.2.2.2.2.2.2.2.2.2.2.1
abbrev vin5 (V : V5) : Int32 := V.2.2.2.2.2.2.2.2.2.2.2.2.2.2.1
abbrev w26_5 (W : W5) : Nat → Int32 := W.2.2.2.2.2.2.1
abbrev wst5 (W : W5) : Int32 := W.2.2.2.2.2.2.2.2.2.2.1
abbrev w30_5 (W : W5) : Nat → Int32 := W.2.2.2.2.2.2.2.2.2.2.2.1
abbrev w32_5 (W : W5) : Nat → Int32 := W.2.2.2.2.2.2.2.2.2.2.2.2.1
abbrev wbl5 (W : W5) : Int32 := W.2.2.2.2.2.2.2.2.2.2.2.2.2.1
abbrev w43_5 (W : W5) : Nat → Int32 := W.2.2.2.2.2.2.2.2.2.2.2.2.2.2.1
abbrev w45_5 (W : W5) : Nat → Int32 := W.2.2.2.2.2.2.2.2.2.2.2.2.2.2.2
/-- blocks that are open: b of them; whose they are (of s statements), and whether an else's -/
def bK5 (b s : Nat) (V : V5) (W : W5) : Prop := vbl5 V = Int32.ofNat b ∧ wbl5 W = Int32.ofNat b ∧ ∀ j, j < b → vrb5 V j = w43_5 W j ∧ vre5 V j = w45_5 W j ∧ (j = 0 → vrb5 V j = -1) ∧ (0 < j → ∃ o : Nat, o < s ∧ vrb5 V j = Int32.ofNat o)
/-- a function is told, number f, by token t -/
def fO5 (T : T5) (Bk N f w : Nat) (V : V5) (W : W5) : Prop := f < 10 ∧ wfn5 W = Int32.ofNat f ∧ V.2.2.2.2.1 = Int32.ofNat f ∧ pN5 T Bk N 8 (vow5 V) (von5 V) (w27_5 W f) (fun k => w28_5 W (8 * f + k)) w
theorem fO_n5 {T : T5} {Bk N f w : Nat} {V : V5} {W : W5} (h : fO5 T Bk N f w V W) : nO5 T Bk N V W := ⟨f, w, h⟩
def HI5 (T : T5) (Bk N f t b s : Nat) (V : V5) (W : W5) : Prop := nG5 T Bk N V W ∧ (∃ w, fO5 T Bk N f w V W) ∧ vnc5 V f = w26_5 W f ∧ (vfn5 V f = Int32.ofNat t ∧ t < N ∧ T.2.1 t = 140) ∧ vin5 V = 1 ∧ bK5 b s V W ∧ 0 < b
/-- statements told: of the first q what must be known later -/
def sS5 (T : T5) (X : X5) (Bk N : Nat) (R r30 r32 : Nat → Int32) (j : Nat) : Prop := (R (11 * j) = 5 ↔ r30 j = 5) ∧ (R (11 * j) = 6 ↔ r30 j = 6) ∧ (R (11 * j) = 5 → ∃ t, t < N ∧ T.2.1 t = 140 ∧ R (11 * j + 5) = Int32.ofNat t ∧ r32 j = Int32.ofNat (Bk + t) ∧ ∀ σ, sx5 σ = X → g5_countArguments (Int32.ofNat (Bk + t)) σ = R (11 * j + 4))
def SS5 (T : T5) (X : X5) (Bk N q s : Nat) (V : V5) (W : W5) : Prop := s ≤ 150 ∧ vst5 V = Int32.ofNat s ∧ wst5 W = Int32.ofNat s ∧ ∀ j, j < q → sS5 T X Bk N (vrs5 V) (w30_5 W) (w32_5 W) j
/-- what stands behind a function's head in the reference -/
def tlF5 (fs : Nat) (tok : Int32) (σ : rS) : rS := if g5_isRight (g5_close 125 (g5_tellStatements_11 fs σ)) = 0 then g5_close 125 (g5_tellStatements_11 fs σ) else siU (riU (g5_close 125 (g5_tellStatements_11 fs σ)) 25 ((g5_close 125 (g5_tellStatements_11 fs σ)).1 18).toNatClampNeg tok) 18 ((g5_close 125 (g5_tellStatements_11 fs σ)).1 18 + 1)
theorem kq_tlF {s σ : rS} {fs : Nat} {tok : Int32} (h : kq5 s σ) : kq5 s (tlF5 fs tok σ) := kq_if (kq_close (kq_tellStatements_11 _ _ h)) (kq_si (by decide) (by decide) (kq_ri (kq_close (kq_tellStatements_11 _ _ h))))
theorem tlF_5 {σ : rS} {tok : Int32} : g5_tellFunc_218 tok σ = tlF5 fu5 tok (g5_openBlock (-1) 0 (siU (g5_open 123 (g5_close 41 σ)) 42 0)) := by
  unfold g5_tellFunc_218 g5_tellStatements tlF5
  dsimp only [pb5]
  generalize g5_close 125 (g5_tellStatements_11 fu5 (g5_openBlock (-1) 0 (siU (g5_open 123 (g5_close 41 σ)) 42 0))) = τ
  rfl
/-- a block opened -/
def puB5 (x y : Int32) (b : Nat) (e : E5) : E5 := (fun g => if g = paBlocks then Int32.ofNat (b + 1) else e.1 g, fun g j => if g = 1013 ∧ j = b then vp_nar .boolean y else if g = 1012 ∧ j = b then -1 else if g = 1011 ∧ j = b then x else e.2.1 g j, e.2.2)
theorem puB_5 {x y : Int32} {b : Nat} {e : E5} (hl : e.2.2 paOwners = 41) (hb : e.1 paBlocks = Int32.ofNat b) (hb2 : b ≤ 40) : f5_Pa_pushBlock x y e = .inl (puB5 x y b e, ()) := by
  have c : (e.1 paBlocks).toNatClampNeg = b := by rw [hb, cl_5 (by omega)]
  unfold f5_Pa_pushBlock
  rw [hl, if_neg (fun q => absurd ((lti_n5 (m := 41) hb (by omega) (by decide)).mp q) (by omega))]
  show (.inl (((fun g => if g = paBlocks then e.1 paBlocks + 1 else e.1 g), (fun g j => if g = 1013 ∧ j = (e.1 paBlocks).toNatClampNeg then vp_nar .boolean y else if g = 1012 ∧ j = (e.1 paBlocks).toNatClampNeg then -1 else if g = 1011 ∧ j = (e.1 paBlocks).toNatClampNeg then x else e.2.1 g j), e.2.2), ()) : R5 Unit) = _
  rw [c, hb, on_15 (by omega)]
  rfl
theorem bK_p5 {x y : Int32} {b s : Nat} {e : E5} {σ : rS} (h : bK5 b s (gE5 e) (gS5 σ)) (hb : b ≤ 40) (h0 : b = 0 → x = -1) (h1 : 0 < b → ∃ o : Nat, o < s ∧ x = Int32.ofNat o) : bK5 (b + 1) s (gE5 (puB5 x y b e)) (gS5 (g5_openBlock x y σ)) := by
  obtain ⟨p1, p2, p3⟩ := h
  have s42 : σ.1 42 = Int32.ofNat b := p2
  have c : (σ.1 42).toNatClampNeg = b := by rw [s42, cl_5 (by omega)]
  have r43 : ∀ j, (g5_openBlock x y σ).2.2.1 43 j = if j = b then x else σ.2.2.1 43 j := fun j => by
    show (riU (riU (riU σ 43 (σ.1 42).toNatClampNeg x) 44 (σ.1 42).toNatClampNeg (-1)) 45 (σ.1 42).toNatClampNeg (vp_nar .boolean y)).2.2.1 43 j = _
    rw [ri34, if_neg (by decide), ri34, if_neg (by decide), ri34, if_pos rfl, c]
  have r45 : ∀ j, (g5_openBlock x y σ).2.2.1 45 j = if j = b then vp_nar .boolean y else σ.2.2.1 45 j := fun j => by
    show (riU (riU (riU σ 43 (σ.1 42).toNatClampNeg x) 44 (σ.1 42).toNatClampNeg (-1)) 45 (σ.1 42).toNatClampNeg (vp_nar .boolean y)).2.2.1 45 j = _
    rw [ri34, if_pos rfl, c]
    by_cases z : j = b
    · rw [if_pos z, if_pos z]
    · rw [if_neg z, if_neg z, ri34, if_neg (by decide), ri34, if_neg (by decide)]
  have q11 : ∀ j, (puB5 x y b e).2.1 1011 j = if j = b then x else e.2.1 1011 j := fun j => by
    show (if 1011 = 1011 ∧ j = b then x else e.2.1 1011 j) = _
    by_cases z : j = b
    · rw [if_pos ⟨rfl, z⟩, if_pos z]
    · rw [if_neg (fun w => z w.2), if_neg z]
  have q13 : ∀ j, (puB5 x y b e).2.1 1013 j = if j = b then vp_nar .boolean y else e.2.1 1013 j := fun j => by
    show (if 1013 = 1013 ∧ j = b then vp_nar .boolean y else e.2.1 1013 j) = _
    by_cases z : j = b
    · rw [if_pos ⟨rfl, z⟩, if_pos z]
    · rw [if_neg (fun w => z w.2), if_neg z]
  refine ⟨rfl, ?_, fun j hj => ?_⟩
  · show σ.1 42 + 1 = _
    rw [s42, on_15 (by omega)]
  · show (puB5 x y b e).2.1 1011 j = (g5_openBlock x y σ).2.2.1 43 j ∧ (puB5 x y b e).2.1 1013 j = (g5_openBlock x y σ).2.2.1 45 j ∧ (j = 0 → (puB5 x y b e).2.1 1011 j = -1) ∧ (0 < j → ∃ o : Nat, o < s ∧ (puB5 x y b e).2.1 1011 j = Int32.ofNat o)
    rw [q11, q13, r43, r45]
    by_cases z : j = b
    · rw [if_pos z, if_pos z, if_pos z, if_pos z]
      exact ⟨rfl, rfl, fun w => h0 (by omega), fun w => h1 (by omega)⟩
    · rw [if_neg z, if_neg z, if_neg z, if_neg z]
      exact p3 j (by omega)
theorem rdB_a5 {α β γ : Type} {m : R5 α} {k : E5 → α → R5 β} {k' : E5 → β → R5 γ} : rdB5 (rdB5 m k) k' = rdB5 m (fun e a => rdB5 (k e a) k') := by
  rcases m with ⟨e, a⟩ | x <;> rfl
theorem rdB_f5 {α β : Type} {c : Prop} [Decidable c] {A B : R5 α} {k : E5 → α → R5 β} : rdB5 (if c then A else B) k = if c then rdB5 A k else rdB5 B k := by
  by_cases h : c
  · rw [if_pos h, if_pos h]
  · rw [if_neg h, if_neg h]
theorem rdr_5 {α β : Type} {x : Int32 × Int32} {k : E5 → α → R5 β} : rdB5 (.inr x) k = .inr x := rfl
theorem puB_f5 {x y : Int32} {b : Nat} {e : E5} : ∃ (e' : E5) (r1 r2 : Nat → Int32), e' = puB5 x y b e ∧ gE5 e' = (e.1 509, e.2.1 1006, e.1 510, e.2.1 1007, e.1 512, e.2.1 1008, e.2.1 504, e.1 1010, e.2.1 1009, e.1 513, e.2.1 506, Int32.ofNat (b + 1), r1, r2, e.1 1005, e.2.2) ∧ tq5 e' = tq5 e ∧ (e'.1 paAt = e.1 paAt ∧ e'.1 paKind = e.1 paKind ∧ e'.1 paOpen = e.1 paOpen) := ⟨_, _, _, rfl, rfl, rfl, rfl, rfl, rfl⟩
theorem oB_f5 {x y : Int32} {σ : rS} : ∃ (σ' : rS) (b : Int32) (r1 r2 : Nat → Int32), σ' = g5_openBlock x y σ ∧ gS5 σ' = (σ.1 15, σ.2.2.1 20, σ.1 16, σ.2.2.1 22, σ.1 18, σ.2.2.1 25, σ.2.2.1 26, σ.2.2.1 27, σ.2.2.1 28, σ.1 41, σ.1 19, σ.2.2.1 30, σ.2.2.1 32, b, r1, r2) ∧ sx5 σ' = sx5 σ ∧ (σ'.1 2 = σ.1 2 ∧ σ'.1 10 = σ.1 10 ∧ σ'.1 11 = σ.1 11 ∧ σ'.1 46 = σ.1 46 ∧ σ'.1 47 = σ.1 47 ∧ σ'.1 13 = σ.1 13) := ⟨_, _, _, _, rfl, rfl, rfl, rfl, rfl, rfl, rfl, rfl, rfl⟩
theorem nG_k5 {T : T5} {Bk N : Nat} {V V' : V5} {W W' : W5} (h : nG5 T Bk N V W) (a1 : V'.1 = V.1) (a2 : V'.2.1 = V.2.1) (a3 : V'.2.2.1 = V.2.2.1) (a4 : V'.2.2.2.1 = V.2.2.2.1) (a5 : V'.2.2.2.2.1 = V.2.2.2.2.1) (a6 : ∀ v k : Nat, V.2.2.2.2.1 = Int32.ofNat v → v ≤ 10 → k < v → vfn5 V' k = vfn5 V k) (a7 : ∀ v k : Nat, V.2.2.2.2.1 = Int32.ofNat v → v ≤ 10 → k < v → vnc5 V' k = vnc5 V k) (a8 : vln5 V' = vln5 V) (b1 : W'.1 = W.1) (b2 : W'.2.1 = W.2.1) (b3 : W'.2.2.1 = W.2.2.1) (b4 : W'.2.2.2.1 = W.2.2.2.1) (b5 : W'.2.2.2.2.1 = W.2.2.2.2.1) (b6 : W'.2.2.2.2.2.1 = W.2.2.2.2.2.1) (b7 : ∀ v k : Nat, V.2.2.2.2.1 = Int32.ofNat v → v ≤ 10 → k < v → w26_5 W' k = w26_5 W k) : nG5 T Bk N V' W' := by
  obtain ⟨⟨v1, p1⟩, ⟨v2, p2⟩, ⟨v3, p3, p4⟩, p5⟩ := h
  refine ⟨⟨v1, ?_⟩, ⟨v2, ?_⟩, ⟨v3, ⟨p3.1, a5.trans p3.2.1, b5.trans p3.2.2.1, fun k hk => ?_⟩, fun k hk => ?_⟩, ?_⟩
  · rw [a1, a2, b1, b2]; exact p1
  · rw [a3, a4, b3, b4]; exact p2
  · obtain ⟨u, u1, u2, u3, u4⟩ := p3.2.2.2 k hk
    exact ⟨u, u1, u2, (a6 v3 k p3.2.1 p3.1 hk).trans u3, by rw [b6]; exact u4⟩
  · exact (a7 v3 k p3.2.1 p3.1 hk).trans ((p4 k hk).trans (b7 v3 k p3.2.1 p3.1 hk).symm)
  · rw [a8]; exact p5
theorem SS_k5 {T : T5} {X : X5} {Bk N q s : Nat} {V V' : V5} {W W' : W5} (h : SS5 T X Bk N q s V W) (a1 : vst5 V' = vst5 V) (a2 : vrs5 V' = vrs5 V) (b1 : wst5 W' = wst5 W) (b2 : w30_5 W' = w30_5 W) (b3 : w32_5 W' = w32_5 W) : SS5 T X Bk N q s V' W' := by
  unfold SS5 at h ⊢
  rw [a1, a2, b1, b2, b3]
  exact h
theorem fO_k5 {T : T5} {Bk N f w : Nat} {V V' : V5} {W W' : W5} (h : fO5 T Bk N f w V W) (a1 : V'.2.2.2.2.1 = V.2.2.2.2.1) (a2 : vow5 V' = vow5 V) (a3 : von5 V' = von5 V) (b1 : wfn5 W' = wfn5 W) (b2 : w27_5 W' = w27_5 W) (b3 : w28_5 W' = w28_5 W) : fO5 T Bk N f w V' W' := by
  unfold fO5 at h ⊢
  rw [a1, a2, a3, b1, b2, b3]
  exact h
section
variable {T : T5} {X : X5} {Bk N : Nat} {Z : Int32} {V : V5} {W : W5} {a l : Nat} {e : E5} {σ : rS}
/-- the end of a head -/
theorem sr_h88 {β : Type} {Q' : E5 → β → rS → Prop} {kc : E5 → Unit → R5 β} {t f w s : Nat} {tok : Int32} (H : TR5 T X Bk N Z) (L : LR5 T X Bk N Z V W a 1 e σ) (G : nG5 T Bk N V W) (O : fO5 T Bk N f w V W) (h26 : w26_5 W f = Int32.ofNat w) (hi : vin5 V = 0) (hb : vbl5 V = 0) (ht : t < N) (kt : T.2.1 t = 140) (hS : SS5 T X Bk N s s V W) (hd : ∀ p e, dk5 p e → dq5 p (kc e ())) (hK : ∀ e' σ' a', e'.1 paKind ≠ 143 → a < a' → LR5 T X Bk N Z (gE5 e') (gS5 σ') a' 1 e' σ' → HI5 T Bk N f t 1 s (gE5 e') (gS5 σ') → SS5 T X Bk N s s (gE5 e') (gS5 σ') → sr5 Q' (kc e' ()) (tlF5 fu5 tok σ')) : sr5 Q' (rdB5 (f5_Pa_functionHead_88 (Int32.ofNat t) e) kc) (g5_tellFunc_218 tok σ) := by
  rw [tlF_5]
  unfold f5_Pa_functionHead_88
  rw [rdB_a5]
  refine sr_b5 (sr_close H L (by decide) (by decide)) (fun e1 _ n1 Q1 => ?_) (kq_tlF (kq_openBlock (kq_si (by decide) (by decide) (kq_open kq_rf)))) (fun p e1 _ d => ?_)
  · obtain ⟨L1, _, _⟩ := Q1
    rw [rdB_a5]
    generalize g5_close 41 σ = σ1 at L1 ⊢
    refine sr_b5 (sr_open H L1 (by decide) (by decide)) (fun e2 _ n2 Q2 => ?_) (kq_tlF (kq_openBlock (kq_si (by decide) (by decide) kq_rf))) (fun p e2 _ d => ?_)
    · obtain ⟨L2, _, _⟩ := Q2
      generalize g5_open 123 σ1 = σ2 at L2 ⊢
      obtain ⟨hV, hW⟩ := L2.2.1
      subst hV
      subst hW
      obtain ⟨o1, o2, o3, o4⟩ := O
      have e2f : e2.1 coFunctions = Int32.ofNat f := o3
      have c1 : (e2.1 coFunctions).toNatClampNeg = f := by rw [e2f, cl_5 (by omega)]
      have hb2 : e2.1 paBlocks = 0 := hb
      have hln : e2.2.2 paOwners = 41 := G.2.2.2.2.2.2.2
      rw [if_neg (show ¬ (10 : Int32) ≤ e2.1 coFunctions from fun q => absurd ((lti_n5 (m := 10) e2f (by omega) (by decide)).mp q) (by omega))]
      have q8 : ∀ k, (if 1008 = 1008 ∧ k = (e2.1 coFunctions).toNatClampNeg then Int32.ofNat t else e2.2.1 1008 k) = if k = f then Int32.ofNat t else e2.2.1 1008 k := fun k => by
        rw [c1]
        by_cases z : k = f
        · rw [if_pos ⟨rfl, z⟩, if_pos z]
        · rw [if_neg (fun w => z w.2), if_neg z]
      have q4 : ∀ k, (if 504 = 504 ∧ k = (e2.1 coFunctions).toNatClampNeg then e2.1 paOwns else e2.2.1 504 k) = if k = f then e2.1 paOwns else e2.2.1 504 k := fun k => by
        rw [c1]
        by_cases z : k = f
        · rw [if_pos ⟨rfl, z⟩, if_pos z]
        · rw [if_neg (fun w => z w.2), if_neg z]
      obtain ⟨e3, x1, x2, x3, x4, x5, x6, x7⟩ : ∃ e3 : E5, (rdB5 (sa5 paFunctionNames (e2.1 coFunctions).toNatClampNeg (Int32.ofNat t) e2) (fun e9 _ => rdB5 (sa5 coNameCounts (e9.1 coFunctions).toNatClampNeg (e9.1 paOwns) e9) (fun e11 _ => f5_Pa_functionHead_144 e11)) = rdB5 (f5_Pa_pushBlock (-1) 0 e3) (fun e2 _ => .inl (e2, ()))) ∧ (tq5 e3 = tq5 e2 ∧ e3.1 paAt = e2.1 paAt ∧ e3.1 paKind = e2.1 paKind ∧ e3.1 paOpen = e2.1 paOpen ∧ e3.2.2 = e2.2.2) ∧ (e3.1 509 = e2.1 509 ∧ e3.2.1 1006 = e2.2.1 1006 ∧ e3.1 510 = e2.1 510 ∧ e3.2.1 1007 = e2.2.1 1007 ∧ e3.1 512 = e2.1 512) ∧ (∀ k, e3.2.1 1008 k = if k = f then Int32.ofNat t else e2.2.1 1008 k) ∧ (∀ k, e3.2.1 504 k = if k = f then e2.1 paOwns else e2.2.1 504 k) ∧ (e3.1 1010 = e2.1 1010 ∧ e3.2.1 1009 = e2.2.1 1009 ∧ e3.1 513 = e2.1 513 ∧ e3.2.1 506 = e2.2.1 506 ∧ e3.1 1014 = e2.1 1014) ∧ e3.1 1005 = 1 := ⟨((fun g => if g = paInside then 1 else e2.1 g), (fun g j => if g = coNameCounts ∧ j = (e2.1 coFunctions).toNatClampNeg then e2.1 paOwns else if g = paFunctionNames ∧ j = (e2.1 coFunctions).toNatClampNeg then Int32.ofNat t else e2.2.1 g j), e2.2.2), rfl, ⟨rfl, rfl, rfl, rfl, rfl⟩, ⟨rfl, rfl, rfl, rfl, rfl⟩, q8, q4, ⟨rfl, rfl, rfl, rfl, rfl⟩, rfl⟩
      rw [x1, puB_5 (b := 0) (by rw [x2.2.2.2.2]; exact hln) (by rw [x6.2.2.2.2]; exact hb2) (by decide), rdl_5, rdl_5]
      obtain ⟨σ3, y1, y2⟩ : ∃ σ3 : rS, σ3 = siU σ2 42 0 ∧ gS5 σ3 = (σ2.1 15, σ2.2.2.1 20, σ2.1 16, σ2.2.2.1 22, σ2.1 18, σ2.2.2.1 25, σ2.2.2.1 26, σ2.2.2.1 27, σ2.2.2.1 28, σ2.1 41, σ2.1 19, σ2.2.2.1 30, σ2.2.2.1 32, 0, σ2.2.2.1 43, σ2.2.2.1 45) := ⟨_, rfl, rfl⟩
      have L3 : LR5 T X Bk N Z (gE5 e3) (gS5 σ3) (a + 1 + 1) (0 + 1) e3 σ3 := lr_V5 L2 x2.1 ⟨x2.2.1, x2.2.2.1, x2.2.2.2.1⟩ (by rw [y1]; rfl) (by rw [y1]; exact ⟨rfl, rfl, rfl, rfl, rfl, rfl⟩)
      rw [← y1]
      have lf : ∀ v k : Nat, e2.1 512 = Int32.ofNat v → v ≤ 10 → k < v → k ≠ f := fun v k hv hv2 hk => by
        have y := congrArg Int32.toInt (hv.symm.trans e2f)
        rw [ofn_i (by omega), ofn_i (by omega)] at y
        omega
      have bK := bK_p5 (x := -1) (y := 0) (b := 0) (s := s) (e := e3) (σ := σ3) ⟨by show e3.1 1014 = _; rw [x6.2.2.2.2]; exact hb2, by rw [y1]; rfl, fun j hj => absurd hj (by omega)⟩ (by decide) (fun _ => rfl) (fun w => absurd w (by omega))
      obtain ⟨e4, r1, r2, z1, z2, z3, z4⟩ := puB_f5 (x := -1) (y := 0) (b := 0) (e := e3)
      obtain ⟨σ4, b4, r3, r4, u1, u2, u3, u4⟩ := oB_f5 (x := -1) (y := 0) (σ := σ3)
      rw [← z1, ← u1] at bK
      rw [← z1, ← u1]
      have y3 : σ3.1 15 = σ2.1 15 ∧ σ3.2.2.1 20 = σ2.2.2.1 20 ∧ σ3.1 16 = σ2.1 16 ∧ σ3.2.2.1 22 = σ2.2.2.1 22 ∧ σ3.1 18 = σ2.1 18 ∧ σ3.2.2.1 25 = σ2.2.2.1 25 ∧ σ3.2.2.1 26 = σ2.2.2.1 26 ∧ σ3.2.2.1 27 = σ2.2.2.1 27 ∧ σ3.2.2.1 28 = σ2.2.2.1 28 ∧ σ3.1 41 = σ2.1 41 ∧ σ3.1 19 = σ2.1 19 ∧ σ3.2.2.1 30 = σ2.2.2.1 30 ∧ σ3.2.2.1 32 = σ2.2.2.1 32 := by rw [y1]; exact ⟨rfl, rfl, rfl, rfl, rfl, rfl, rfl, rfl, rfl, rfl, rfl, rfl, rfl⟩
      have L4 : LR5 T X Bk N Z (gE5 e4) (gS5 σ4) (a + 1 + 1) 1 e4 σ4 := lr_V5 L3 z3 z4 u3 u4
      have n4 : e4.1 paKind ≠ 143 := by rw [z4.2.1, x2.2.2.1]; exact n2
      obtain ⟨i1, i2, i3, i4, i5, i6, i7, i8, i9, i10, i11, i12, i13⟩ := y3
      refine hK e4 σ4 (a + 1 + 1) n4 (by omega) L4 ⟨?_, ⟨w, ?_⟩, ?_, ⟨?_, ht, kt⟩, ?_, bK, by decide⟩ ?_
      · refine nG_k5 G (by rw [z2]; exact x3.1) (by rw [z2]; exact x3.2.1) (by rw [z2]; exact x3.2.2.1) (by rw [z2]; exact x3.2.2.2.1) (by rw [z2]; exact x3.2.2.2.2) (fun v k h1 h2 h3 => ?_) (fun v k h1 h2 h3 => ?_) (by rw [z2]; exact x2.2.2.2.2) (by rw [u2]; exact i1) (by rw [u2]; exact i2) (by rw [u2]; exact i3) (by rw [u2]; exact i4) (by rw [u2]; exact i5) (by rw [u2]; exact i6) (fun v k h1 h2 h3 => by rw [u2]; exact congrFun i7 k)
        · rw [z2]
          show e3.2.1 1008 k = e2.2.1 1008 k
          rw [x4, if_neg (lf v k h1 h2 h3)]
        · rw [z2]
          show e3.2.1 504 k = e2.2.1 504 k
          rw [x5, if_neg (lf v k h1 h2 h3)]
      · exact fO_k5 ⟨o1, o2, o3, o4⟩ (by rw [z2]; exact x3.2.2.2.2) (by rw [z2]; exact x6.1) (by rw [z2]; exact x6.2.1) (by rw [u2]; exact i10) (by rw [u2]; exact i8) (by rw [u2]; exact i9)
      · rw [z2, u2]
        show e3.2.1 504 f = σ3.2.2.1 26 f
        rw [x5, if_pos rfl, i7]
        have z1 : e2.1 paOwns = Int32.ofNat w := o4.2.1
        rw [z1]
        exact h26.symm
      · rw [z2]
        show e3.2.1 1008 f = _
        rw [x4, if_pos rfl]
      · rw [z2]; exact x7
      · exact SS_k5 hS (by rw [z2]; exact x6.2.2.1) (by rw [z2]; exact x6.2.2.2.1) (by rw [u2]; exact i11) (by rw [u2]; exact i12) (by rw [u2]; exact i13)
    · rw [rdB_f5]
      have d8 : ∀ e9 : E5, dk5 p e9 → dq5 p (rdB5 (f5_Pa_functionHead_144 e9) kc) := fun e9 d9 => by
        unfold f5_Pa_functionHead_144
        rw [rdB_a5]
        refine dq_b5 (dq_i5 (a := ()) d9) (fun e4 _ d4 => ?_)
        rw [rdB_a5]
        refine dq_b5 ?_ (fun e5 _ d5 => ?_)
        · unfold f5_Pa_pushBlock
          repeat' first | with_reducible exact dq_i5 (by assumption) | with_reducible refine dq_t5 rfl ?_ | with_reducible refine dq_e5 ne105 ?_ | with_reducible exact dq_r5 (by assumption) | with_reducible exact dq_x5 (dx_pass (by assumption) (by decide)) | with_reducible exact dq_x5 (dx_open (by assumption) (by decide)) | with_reducible exact dq_x5 (dx_close (by assumption) (by decide)) | with_reducible exact dq_x5 (dx_expect (by assumption) (by decide)) | with_reducible exact dq_x5 (dx_newName (by assumption)) | with_reducible refine dq_n5 (by assumption) (by decide) ?_ | with_reducible refine dq_b5 (dq_expr (by assumption)) (fun _ _ _ => ?_) | dsimp only | with_reducible refine dq_f5 ?_ ?_ | with_reducible refine dq_b5 ?_ (fun _ _ _ => ?_) | with_reducible exact dq_sa5 (by assumption) (by decide) | with_reducible exact dq_sc5 (by assumption) | exact dq_i5 (by assumption)
        · exact hd p e5 d5
      refine dq_f5 (d8 e2 d) ?_
      rw [rdB_a5]
      refine dq_b5 (dq_sa5 d (by decide)) (fun e4 _ d4 => ?_)
      rw [rdB_a5]
      exact dq_b5 (dq_sa5 d4 (by decide)) (fun e5 _ d5 => d8 e5 d5)
  · exact dq_x5 (dx_b5 (dx_open d (by decide)))
end
