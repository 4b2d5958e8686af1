set_option maxHeartbeats 1600000
/-! the expression's loop -/
theorem dq_em5 {p r : Int32} : ∀ (m : Nat) (e : E5), dk5 p e → dq5 p (f5_Pa_emitWaiting_0 m r e)
  | 0, _, _ => Or.inl rfl
  | m + 1, e, d => by
    rw [f5_Pa_emitWaiting_0]
    dsimp only [pb5]
    refine dq_f5 (dq_i5 d) (dq_f5 (dq_i5 d) ?_)
    exact dq_b5 (dq_i5 (a := ()) d) (fun e5 _ d5 => dq_b5 (dq_i5 (a := ()) d5) (fun e7 _ d7 => dq_em5 m e7 d7))
theorem dq_findVariable {p x : Int32} {e : E5} (d : dk5 p e) : dq5 p (f5_Pa_findVariable x e) := by
  unfold f5_Pa_findVariable
  dsimp only [pb5]
  exact dq_f5 (dq_f5 (dq_r5 d) (dq_i5 d)) (dq_i5 d)
theorem dq_findArray {p x : Int32} {e : E5} (d : dk5 p e) : dq5 p (f5_Pa_findArray x e) := by
  unfold f5_Pa_findArray
  dsimp only [pb5]
  exact dq_f5 (dq_r5 d) (dq_i5 d)
theorem dq_operandName {p x : Int32} {e : E5} (d : dk5 p e) : dq5 p (f5_Pa_operandName x e) := by
  unfold f5_Pa_operandName f5_Pa_operandName_49
  have dm : ∀ (e' : E5) (x y z : Int32), dk5 p e' → dq5 p (f5_Pa_operandName_68 x y z e') := fun e' x y z d => by
    unfold f5_Pa_operandName_68
    dsimp only [pb5]
    refine dq_f5 ?_ ?_
    · show dq5 p (rdB5 (f5_Co_emit _ _ e') _)
      exact dq_i5 d
    · show dq5 p (rdB5 (f5_Co_emit _ _ e') _)
      exact dq_i5 d
  exact dq_n5 d (by decide) (dq_n5 d (by decide) (dq_b5 (dq_findVariable d) (fun e' r d' => dq_f5 (dm _ _ _ _ d') (dm _ _ _ _ d'))))
theorem dq_operand {p : Int32} {e : E5} (d : dk5 p e) : dq5 p (f5_Pa_operand e) := by
  unfold f5_Pa_operand f5_Pa_operand_15
  refine dq_n5 d (by decide) ?_
  rw [if_pos rfl]
  exact dq_n5 d (by decide) (dq_n5 d (by decide) (dq_x5 (dx_open d (by decide))))
theorem dq_closeInner {p : Int32} {e : E5} (d : dk5 p e) : dq5 p (f5_Pa_closeInner e) := by
  unfold f5_Pa_closeInner f5_Pa_closeInner_26
  dsimp only [pb5]
  exact dq_f5 (dq_x5 (dx_close d (by decide))) (dq_x5 (dx_close d (by decide)))
theorem dq_178 {p : Int32} {e : E5} (d : dk5 p e) : dq5 p (f5_Pa_expression_178 e) := by
  unfold f5_Pa_expression_178
  exact dq_b5 (dq_i5 (a := ()) d) (fun e5 _ d5 => dq_i5 d5)
theorem dq_36 {p : Int32} : ∀ (m : Nat) (x3 x4 x5 x6 : Int32) (e : E5), dk5 p e → dq5 p (f5_Pa_expression_36 m x3 x4 x5 x6 e)
  | 0, _, _, _, _, _, _ => Or.inl rfl
  | m + 1, x3, x4, x5, x6, e, d => by
    have h161 : ∀ (s0 : Int32) (e' : E5), dk5 p e' → dq5 p (f5_Pa_expression_161 (f5_Pa_expression_36 m) x3 x4 x6 s0 e') := fun s0 e' d' => by
      unfold f5_Pa_expression_161
      dsimp only [pb5]
      exact dq_f5 (dq_36 m _ _ _ _ _ d') (dq_b5 (dq_closeInner d') (fun e2 _ d2 => dq_36 m _ _ _ _ _ d2))
    have h109 : ∀ (s0 : Int32) (e' : E5), dk5 p e' → dq5 p (f5_Pa_expression_109 (f5_Pa_expression_36 m) x5 x6 s0 e') := fun s0 e' d' => by
      unfold f5_Pa_expression_109
      dsimp only [pb5]
      exact dq_36 m _ _ _ _ _ d'
    have h87 : dq5 p (f5_Pa_expression_87 (f5_Pa_expression_36 m) x3 x4 x5 x6 e) := by
      unfold f5_Pa_expression_87
      dsimp only [pb5]
      refine dq_f5 ?_ (dq_f5 (dq_b5 (dq_operand d) (fun e' r d' => h109 r e' d')) (dq_b5 (dq_operandName d) (fun e' r d' => h109 r e' d')))
      have hb : f5_Pa_binary (e.1 paKind) = -1 := by rw [d.1]; decide
      rw [if_pos hb]
      exact dq_b5 (dq_em5 fu5 e d) (fun e' _ d' => dq_f5 (h161 0 e' d') (h161 1 e' d'))
    rw [f5_Pa_expression_36]
    exact dq_f5 (dq_178 d) (dq_f5 (dq_178 d) (dq_f5 h87 (dq_f5 (dq_n5 d (by decide) h87) h87)))
/-- columns -/
def stc5 (s c x : Int32) (e : E5) : E5 := if s < 0 then e else if e.1 coStatements ≤ s then e else (e.1, fun g j => if g = coRows ∧ j = (s * 11 + c).toNatClampNeg then x else e.2.1 g j, e.2.2)
theorem stc_5 {s c x : Int32} {e : E5} : f5_Co_setColumn s c x e = .inl (stc5 s c x e, ()) := by
  unfold f5_Co_setColumn stc5 sa5
  by_cases h : s < 0
  · rw [if_pos h, if_pos h]
  · rw [if_neg h, if_neg h]
    by_cases k : e.1 coStatements ≤ s
    · rw [if_pos k, if_pos k]
    · rw [if_neg k, if_neg k]
theorem stc_15 {s c x : Int32} {e : E5} : (stc5 s c x e).1 = e.1 ∧ (stc5 s c x e).2.2 = e.2.2 ∧ ∀ g, g ≠ 506 → (stc5 s c x e).2.1 g = e.2.1 g := by
  unfold stc5
  by_cases h : s < 0
  · rw [if_pos h]; exact ⟨rfl, rfl, fun _ _ => rfl⟩
  · rw [if_neg h]
    by_cases k : e.1 coStatements ≤ s
    · rw [if_pos k]; exact ⟨rfl, rfl, fun _ _ => rfl⟩
    · rw [if_neg k]; exact ⟨rfl, rfl, fun g hg => funext fun j => if_neg (fun q => hg q.1)⟩
/-- the same, with other rows of statements -/
def vr5 (V : V5) (R : Nat → Int32) : V5 := (V.1, V.2.1, V.2.2.1, V.2.2.2.1, V.2.2.2.2.1, V.2.2.2.2.2.1, V.2.2.2.2.2.2.1, V.2.2.2.2.2.2.2.1, V.2.2.2.2.2.2.2.2.1, V.2.2.2.2.2.2.2.2.2.1, R, V.2.2.2.2.2.2.2.2.2.2.2)
abbrev vrs5 (V : V5) : Nat → Int32 := V.2.2.2.2.2.2.2.2.2.2.1
abbrev vst5 (V : V5) : Int32 := V.2.2.2.2.2.2.2.2.2.1
theorem vr_i5 {V : V5} : vr5 V (vrs5 V) = V := rfl
def rst5 (s c x : Int32) (V : V5) : Nat → Int32 := if s < 0 then vrs5 V else if vst5 V ≤ s then vrs5 V else fun j => if j = (s * 11 + c).toNatClampNeg then x else vrs5 V j
theorem nG_v5 {T : T5} {Bk N : Nat} {V : V5} {W : W5} {R : Nat → Int32} (h : nG5 T Bk N V W) : nG5 T Bk N (vr5 V R) W := h
theorem nO_v5 {T : T5} {Bk N : Nat} {V : V5} {W : W5} {R : Nat → Int32} (h : nO5 T Bk N V W) : nO5 T Bk N (vr5 V R) W := h
theorem gE_st5 {s c x : Int32} {e : E5} : gE5 (stc5 s c x e) = vr5 (gE5 e) (rst5 s c x (gE5 e)) := by
  unfold stc5 rst5
  by_cases h : s < 0
  · rw [if_pos h, if_pos h]; rfl
  · rw [if_neg h, if_neg h]
    by_cases k : e.1 coStatements ≤ s
    · rw [if_pos k, if_pos (show vst5 (gE5 e) ≤ s from k)]; rfl
    · rw [if_neg k, if_neg (show ¬ vst5 (gE5 e) ≤ s from k)]
      have r506 : (fun j => if 506 = coRows ∧ j = (s * 11 + c).toNatClampNeg then x else e.2.1 506 j) = fun j => if j = (s * 11 + c).toNatClampNeg then x else vrs5 (gE5 e) j := funext fun j => by
        by_cases q : j = (s * 11 + c).toNatClampNeg
        · rw [if_pos ⟨rfl, q⟩, if_pos q]
        · rw [if_neg (fun w => q w.2), if_neg q]; rfl
      have o : ∀ g, g ≠ 506 → (fun j => if g = coRows ∧ j = (s * 11 + c).toNatClampNeg then x else e.2.1 g j) = e.2.1 g := fun g hg => funext fun j => if_neg (fun q => hg q.1)
      show (e.1 509, (fun j => if 1006 = coRows ∧ j = (s * 11 + c).toNatClampNeg then x else e.2.1 1006 j), e.1 510, (fun j => if 1007 = coRows ∧ j = (s * 11 + c).toNatClampNeg then x else e.2.1 1007 j), e.1 512, (fun j => if 1008 = coRows ∧ j = (s * 11 + c).toNatClampNeg then x else e.2.1 1008 j), (fun j => if 504 = coRows ∧ j = (s * 11 + c).toNatClampNeg then x else e.2.1 504 j), e.1 1010, (fun j => if 1009 = coRows ∧ j = (s * 11 + c).toNatClampNeg then x else e.2.1 1009 j), e.1 513, (fun j => if 506 = coRows ∧ j = (s * 11 + c).toNatClampNeg then x else e.2.1 506 j), e.1 1014, (fun j => if 1011 = coRows ∧ j = (s * 11 + c).toNatClampNeg then x else e.2.1 1011 j), (fun j => if 1013 = coRows ∧ j = (s * 11 + c).toNatClampNeg then x else e.2.1 1013 j), e.1 1005, e.2.2) = _
      rw [r506, o 1006 (by decide), o 1007 (by decide), o 1008 (by decide), o 504 (by decide), o 1009 (by decide), o 1011 (by decide), o 1013 (by decide)]
      rfl
theorem lr_st5 {T : T5} {X : X5} {Bk N a l : Nat} {Z s c x : Int32} {V : V5} {W : W5} {e : E5} {σ : rS} (L : LR5 T X Bk N Z V W a l e σ) : LR5 T X Bk N Z (vr5 V (rst5 s c x V)) W a l (stc5 s c x e) σ := by
  obtain ⟨p1, p2, p3⟩ := stc_15 (s := s) (c := c) (x := x) (e := e)
  obtain ⟨⟨l1, l2, l3⟩, ⟨l4, l5⟩, l6, l7, l8⟩ := L
  refine ⟨⟨?_, l2, l3⟩, ⟨by rw [gE_st5, l4], l5⟩, by rw [p1]; exact l6, l7, by rw [p1]; exact l8⟩
  rw [← l1]
  unfold tq5
  rw [p1, p2, p3 taBytes (by decide), p3 taKinds (by decide), p3 taPlaces (by decide), p3 taLengths (by decide)]
def cont5 (mr : Nat) (q : rS × Int32) : rS × Int32 := if q.2 = 0 then g5_expression_12 mr 0 q.1 else g5_expression_12 mr 1 q.1
theorem kq_cont {s : rS} {mr : Nat} {q : rS × Int32} (h : kq5 s q.1) : kq5 s (cont5 mr q).1 := kq_ifp (kq_expression_12 _ _ _ h) (kq_expression_12 _ _ _ h)
theorem ex_25 {m : Nat} {σ : rS} : (g5_expression_12 (m + 1) 2 σ).1 = σ := by
  rw [g5_expression_12]
  dsimp only [pb5]
  by_cases c : g5_goesOn σ = 0
  · rw [if_pos c]; rfl
  · rw [if_neg c, if_pos (by decide)]; rfl
section
variable {T : T5} {X : X5} {Bk N : Nat} {Z : Int32} {V : V5} {W : W5} {a0 l a : Nat} {e : E5} {σ : rS}
theorem xr_b5 {α : Type} {Q : E5 → α → rS → Prop} {m : R5 α} {k : E5 → α → R5 Unit} {σ1 σ2 : rS} (h : sr5 Q m σ1) (hk : ∀ e a, e.1 paKind ≠ 143 → Q e a σ1 → xr5 T X Bk N Z V W a0 l (k e a) σ2) (hq : kq5 σ1 σ2) (hd : ∀ p e a, dk5 p e → dq5 p (k e a)) : xr5 T X Bk N Z V W a0 l (rdB5 m k) σ2 := by
  rcases h with h | ⟨e, a, h, n, q⟩ | h
  · rw [h]; exact Or.inl (Or.inl rfl)
  · rw [h]; exact hk e a n q
  · exact Or.inl (sr_b5 (Q := fun _ _ _ => False) (Or.inr (Or.inr h)) (fun e a n q => q.elim) hq hd)
theorem ex_m5 (H : TR5 T X Bk N Z) (G : nG5 T Bk N V W) (O : nO5 T Bk N V W) : ∀ m : Nat,
    (∀ (mr a n : Nat) (C S : List Int32) (e : E5) (σ : rS), es05 T X Bk N Z V W a0 l a C S e σ → n ≤ 2 * a → N - a + 2 ≤ mr → xr5 T X Bk N Z V W a0 l (f5_Pa_expression_36 m (-1) 1 1 (Int32.ofNat n) e) (g5_expression_12 mr 0 σ).1) ∧
    (∀ (mr a n t : Nat) (tok : Int32) (C S : List Int32) (e : E5) (σ : rS), es05 T X Bk N Z V W a0 l a C S e σ → a0 < a → n + 1 ≤ 2 * a → t < N → T.2.1 t = 140 → tok = Int32.ofNat (Bk + t) → N - a + 2 ≤ mr → xr5 T X Bk N Z V W a0 l (f5_Pa_expression_36 m (Int32.ofNat t) 1 1 (Int32.ofNat n) e) (cont5 mr (nmd5 tok σ)).1) ∧
    (∀ (mr a n : Nat) (U C S : List Int32) (e : E5) (σ : rS), es15 T X Bk N Z V W a0 l a U C S e σ → n ≤ 2 * a → N - a + 2 ≤ mr → xr5 T X Bk N Z V W a0 l (f5_Pa_expression_36 m (-1) 0 1 (Int32.ofNat n) e) (g5_expression_12 mr 1 σ).1)
  | 0 => ⟨fun _ _ _ _ _ _ _ _ _ _ => Or.inl (Or.inl rfl), fun _ _ _ _ _ _ _ _ _ _ _ _ _ _ _ _ => Or.inl (Or.inl rfl), fun _ _ _ _ _ _ _ _ _ _ _ => Or.inl (Or.inl rfl)⟩
  | m + 1 => by
    obtain ⟨i1, i2, i3⟩ := ex_m5 H G O m
    have h1 := H.1
    have tot : ∀ (a n : Nat) (e : E5) (σ : rS) (l' : Nat), LR5 T X Bk N Z V W a l' e σ → n ≤ 2 * a → ¬ (2 : Int32) * e.1 taTotal < Int32.ofNat n := fun a n e σ l' L hn => by
      have e1 : e.1 taTotal = Int32.ofNat N := by rw [← h1.1, ← L.1.1]; rfl
      have l2 : (2 : Int32).toInt = 2 := rfl
      have lN := ofn_i (n := N) (by omega)
      have ha := L.2.2.1.1
      have ln := ofn_i (n := n) (by omega)
      rw [e1, lti, mul_i (by rw [l2, lN]; omega) (by rw [l2, lN]; omega), l2, lN, ln]
      omega
    have h109 : ∀ (n : Nat) (s0 : Int32) (e' : E5), n ≤ 1000000 → f5_Pa_expression_109 (f5_Pa_expression_36 m) 1 (Int32.ofNat n) s0 e' = f5_Pa_expression_36 m (-1) s0 1 (Int32.ofNat (n + 1)) e' := fun n s0 e' hn => by
      unfold f5_Pa_expression_109
      dsimp only [pb5]
      rw [on_15 (by omega)]
    have d109 : ∀ (n : Nat) (p s0 : Int32) (e' : E5), dk5 p e' → dq5 p (f5_Pa_expression_109 (f5_Pa_expression_36 m) 1 (Int32.ofNat n) s0 e') := fun n p s0 e' d => by
      unfold f5_Pa_expression_109
      dsimp only [pb5]
      exact dq_36 m _ _ _ _ _ d
    refine ⟨fun mr a n C S e σ E hn hmr => ?_, fun mr a n t tok C S e σ E h0 hn ht kt htok hmr => ?_, fun mr a n U C S e σ E hn hmr => ?_⟩
    · have L := E.1
      have ha := L.2.2.1.1
      obtain ⟨mr, rfl⟩ : ∃ k, mr = k + 1 := ⟨mr - 1, by omega⟩
      have g0 : g5_expression_12 (mr + 1) 0 σ = cont5 mr (g5_operand σ) := by
        rw [g5_expression_12]
        dsimp only [pb5, pm5]
        rw [lr_go5 L, if_neg ne105, if_neg (by decide), if_pos rfl]
        rfl
      rw [g0, f5_Pa_expression_36, if_neg (by decide), if_neg (tot a n e σ _ L hn), if_neg (by decide), if_pos rfl]
      by_cases k : e.1 paKind = 140
      · rw [if_pos k]
        have kd := kd_o5 (lr_kd5 H L)
        have g1 : g5_operand σ = nmd5 (σ.1 10) (g5_go σ) := by
          rw [← nmd_5]
          have z33 : g5_isAt 33 σ = 0 := by rw [lr_at5 H L (by decide) (by decide), if_neg (by rw [k]; decide)]
          have z45 : g5_isAt 45 σ = 0 := by rw [lr_at5 H L (by decide) (by decide), if_neg (by rw [k]; decide)]
          have z40 : g5_isAt 40 σ = 0 := by rw [lr_at5 H L (by decide) (by decide), if_neg (by rw [k]; decide)]
          unfold g5_operand
          dsimp only [pb5, pm5]
          rw [z33, if_pos rfl, z45, if_pos rfl, z40, if_pos rfl, (lr_so5 H L).1, if_neg (fun q => by have z := kd.2.2.1.mp q; rw [k] at z; exact absurd z (by decide)), if_pos (kd.2.1.mpr k)]
        rw [g1]
        dsimp only [pb5]
        refine xr_b5 (sr_take H L (by rw [k]; decide)) (fun e' _ nn Q => ?_) (kq_cont (kq_nmd kq_rf)) (fun p e' _ d => dq_36 m _ _ _ _ _ d)
        rw [L.2.2.1.2.1, on_15 (by omega)]
        have kT := lr_K5 L
        refine i2 mr (a + 1) (n + 1) a (σ.1 10) C S e' (g5_go σ) ⟨Q.1, wC_f5 E.2.1 Q.2.1, wS_f5 E.2.2.1 Q.2.2, E.2.2.2.1, E.2.2.2.2.1, by have := E.2.2.2.2.2.1; omega, ?_⟩ (by have := (E.2.2.2.2.2.2 0).1; omega) (by omega) ha (by rw [kT]; exact k) L.2.2.1.2.2.1 (by omega)
        have hls := a2_l5 E.2.2.2.1
        have hb := bk_l5 (S := S)
        have hl := E.2.2.2.2.2.1
        exact sc_n5 H E.2.2.2.2.2.2 ha (by omega) (by rw [kT, k]; decide) (by rw [kT, k]; decide)
      · rw [if_neg k]
        unfold f5_Pa_expression_87
        rw [if_neg (by decide), if_pos rfl]
        refine xr_b5 (sr_opd H E k) (fun e' r nn Q => ?_) (kq_cont kq_rf) (fun p e' r d => d109 n p r e' d)
        rw [h109 n r e' (by omega)]
        rcases Q with ⟨rfl, q1, C', S', q2⟩ | ⟨rfl, q1, U, C', S', q2⟩
        · have g2 : cont5 mr (g5_operand σ) = g5_expression_12 mr 0 (g5_operand σ).1 := if_pos q1
          rw [g2]
          exact i1 mr (a + 1) (n + 1) C' S' e' _ q2 (by omega) (by omega)
        · have g2 : cont5 mr (g5_operand σ) = g5_expression_12 mr 1 (g5_operand σ).1 := if_neg (by rw [q1]; decide)
          rw [g2]
          exact i3 mr (a + 1) (n + 1) U C' S' e' _ q2 (by omega) (by omega)
    · have L := E.1
      have ha := L.2.2.1.1
      have nt : ¬ Int32.ofNat t = -1 := fun q => by
        have y := congrArg Int32.toInt q
        have l1 := ofn_i (n := t) (by omega)
        have l2 : (-1 : Int32).toInt = -1 := rfl
        omega
      rw [f5_Pa_expression_36, if_neg (by decide), if_neg (tot a n e σ _ L (by omega)), if_neg (by decide), if_neg nt]
      unfold f5_Pa_expression_87
      rw [if_neg (by decide), if_neg nt]
      refine xr_b5 (sr_opn H G O E ht kt htok h0) (fun e' r nn Q => ?_) (kq_cont kq_rf) (fun p e' r d => d109 n p r e' d)
      rw [h109 n r e' (by omega)]
      rcases Q with ⟨rfl, q1, C', S', q2⟩ | ⟨rfl, q1, U, C', S', q2⟩
      · have g2 : cont5 mr (nmd5 tok σ) = g5_expression_12 mr 0 (nmd5 tok σ).1 := if_pos q1
        rw [g2]
        exact i1 mr (a + 1) (n + 1) C' S' e' _ q2 (by omega) (by omega)
      · have g2 : cont5 mr (nmd5 tok σ) = g5_expression_12 mr 1 (nmd5 tok σ).1 := if_neg (by rw [q1]; decide)
        rw [g2]
        exact i3 mr a (n + 1) U C' S' e' _ q2 (by omega) (by omega)
    · have L := E.1
      have ha := L.2.2.1.1
      obtain ⟨mr, rfl⟩ : ∃ k, mr = k + 1 := ⟨mr - 1, by omega⟩
      have g0 : g5_expression_12 (mr + 1) 1 σ = g5_expression_12 mr (g5_behind σ).2 (g5_behind σ).1 := by
        rw [g5_expression_12]
        dsimp only [pb5, pm5]
        rw [lr_go5 L, if_neg ne105, if_neg (by decide), if_neg (by decide)]
      obtain ⟨mr2, rfl⟩ : ∃ k, mr = k + 1 := ⟨mr - 1, by omega⟩
      rw [g0, f5_Pa_expression_36, if_neg (by decide), if_neg (tot a n e σ _ L hn), if_pos rfl]
      unfold f5_Pa_expression_87
      rw [if_pos rfl]
      dsimp only [pb5]
      rw [on_15 (show n + 1 ≤ 67108864 by omega)]
      by_cases b : f5_Pa_binary (e.1 paKind) = -1
      · rw [if_pos b]
        rcases sr_bhE H E b with z | ⟨e4, z1, z⟩
        · rw [z]; exact Or.inl (Or.inl rfl)
        · rw [z1]
          show xr5 _ _ _ _ _ _ _ _ _ (if e4.1 paWaits ≤ 0 then _ else _) _
          rcases z with ⟨w, q1, q2, q3, q4⟩ | ⟨w, q⟩
          · rw [if_pos w, q1, ex_25]
            unfold f5_Pa_expression_161
            dsimp only [pb5]
            rw [if_pos rfl]
            cases m with
            | zero => exact Or.inl (Or.inl rfl)
            | succ m =>
              rw [f5_Pa_expression_36, if_pos rfl]
              unfold f5_Pa_expression_178
              refine Or.inl (sr_i5 ?_ ⟨a, lr_fe5 q2 ⟨rfl, rfl, rfl, rfl, rfl⟩ fs_r5, q3, q4⟩)
              show e4.1 paKind ≠ 143
              exact lr_k5 q2
          · rw [if_neg w]
            unfold f5_Pa_expression_161
            dsimp only [pb5]
            rw [if_neg (by decide), on_15 (show n + 1 ≤ 67108864 by omega)]
            refine xr_b5 q (fun e' _ nn Q => ?_) (kq_expression_12 _ _ _ kq_rf) (fun p e' _ d => dq_36 m _ _ _ _ _ d)
            obtain ⟨Q1, U', C', S', Q2⟩ := Q
            rw [Q1]
            exact i3 (mr2 + 1) (a + 1) (n + 1) U' C' S' e' _ Q2 (by omega) (by omega)
      · rw [if_neg b]
        rcases sr_bhB H E b with q | ⟨q1, q2, q3⟩
        · refine xr_b5 q (fun e' _ nn Q => ?_) (kq_expression_12 _ _ _ kq_rf) (fun p e' _ d => dq_36 m _ _ _ _ _ d)
          obtain ⟨Q1, C', S', Q2⟩ := Q
          rw [Q1]
          exact i1 (mr2 + 1) (a + 1) (n + 1) C' S' e' _ Q2 (by omega) (by omega)
        · rw [q1, q2, ex_25]
          exact Or.inr ⟨a, rfl, q3⟩
/-- the whole expression: rows of statements with one expression more -/
theorem sr_expr {s : Int32} (H : TR5 T X Bk N Z) (G : nG5 T Bk N V W) (O : nO5 T Bk N V W) (L : LR5 T X Bk N Z V W a l e σ) : xr5 T X Bk N Z (vr5 V (rst5 s 4 (cl5 s 4 e + 1) V)) W a l (f5_Pa_expression s (-1) e) (g5_expression σ).1 := by
  have h1 := H.1
  have ha := L.2.2.1.1
  unfold f5_Pa_expression g5_expression
  dsimp only [pb5]
  rw [stc_5]
  have L1 := lr_st5 (s := s) (c := 4) (x := cl5 s 4 e + 1) L
  generalize stc5 s 4 (cl5 s 4 e + 1) e = e1 at L1
  show xr5 _ _ _ _ _ _ _ _ _ (f5_Pa_expression_36 fu5 (-1) 1 1 0 _) _
  refine (ex_m5 H (nG_v5 G) (nO_v5 O) fu5).1 fu5 a 0 [] [] _ _ ⟨?_, ⟨rfl, trivial⟩, ⟨rfl, trivial⟩, trivial, trivial, by show 0 ≤ a; omega, fun n => sc_r5⟩ (by omega) (by unfold fu5; omega)
  exact lr_fe5 (show LR5 T X Bk N Z _ W a (l + bk5 []) e1 σ from L1) ⟨rfl, rfl, rfl, rfl, rfl⟩ ⟨rfl, rfl, rfl, rfl, rfl, rfl, rfl, rfl⟩
/-- with its first name taken already -/
theorem go_c5 {σ : rS} (c : σ.1 11 = 0) : g5_go σ = if (siU σ 10 (σ.1 10 + 1)).2.2.1 5 (σ.1 10 + 1).toNatClampNeg = 4 then siU (siU (siU σ 10 (σ.1 10 + 1)) 11 1) 12 (σ.2.2.1 6 (σ.1 10 + 1).toNatClampNeg) else siU σ 10 (σ.1 10 + 1) := by
  have e : g5_go σ = g5_readNext (siU σ 10 (σ.1 10 + 1)) := by
    unfold g5_go
    dsimp only [pb5]
    exact if_pos c
  rw [e]
  unfold g5_readNext
  by_cases d : (siU σ 10 (σ.1 10 + 1)).2.2.1 5 (σ.1 10 + 1).toNatClampNeg = 4
  · rw [if_pos (show (siU σ 10 (σ.1 10 + 1)).2.2.1 5 ((siU σ 10 (σ.1 10 + 1)).1 10).toNatClampNeg = 4 from d), if_pos d]
    show g5_flaw 1 (σ.1 10 + 1) (siU σ 10 (σ.1 10 + 1)) = _
    unfold g5_flaw g5_flaw_23
    dsimp only [pb5]
    rw [if_pos (show (siU σ 10 (σ.1 10 + 1)).1 11 = 0 from c), if_pos d]
    rfl
  · rw [if_neg (show ¬ (siU σ 10 (σ.1 10 + 1)).2.2.1 5 ((siU σ 10 (σ.1 10 + 1)).1 10).toNatClampNeg = 4 from d), if_neg d]
theorem go_w5 {σ : rS} : g5_go (siU (siU σ 48 0) 49 0) = siU (siU (g5_go σ) 48 0) 49 0 := by
  have sw : ∀ (τ : rS) (k : Nat) (x : Int32), k ≠ 48 → k ≠ 49 → siU (siU (siU τ 48 0) 49 0) k x = siU (siU (siU τ k x) 48 0) 49 0 := fun τ k x h1 h2 => by
    refine Prod.ext (funext fun j => ?_) rfl
    show (if j = k then x else if j = 49 then 0 else if j = 48 then 0 else τ.1 j) = (if j = 49 then 0 else if j = 48 then 0 else if j = k then x else τ.1 j)
    by_cases c : j = k
    · rw [if_pos c, if_neg (by omega), if_neg (by omega), if_pos c]
    · rw [if_neg c, if_neg c]
  by_cases c : σ.1 11 = 0
  · rw [go_c5 c, go_c5 (show (siU (siU σ 48 0) 49 0).1 11 = 0 from c)]
    have e10 : (siU (siU σ 48 0) 49 0).1 10 = σ.1 10 := rfl
    rw [e10, sw σ 10 _ (by decide) (by decide)]
    by_cases d : (siU σ 10 (σ.1 10 + 1)).2.2.1 5 (σ.1 10 + 1).toNatClampNeg = 4
    · rw [if_pos d, if_pos (show (siU (siU (siU σ 10 (σ.1 10 + 1)) 48 0) 49 0).2.2.1 5 (σ.1 10 + 1).toNatClampNeg = 4 from d), sw _ 11 _ (by decide) (by decide), sw _ 12 _ (by decide) (by decide)]
      rfl
    · rw [if_neg d, if_neg (show ¬ (siU (siU (siU σ 10 (σ.1 10 + 1)) 48 0) 49 0).2.2.1 5 (σ.1 10 + 1).toNatClampNeg = 4 from d)]
  · unfold g5_go
    rw [if_neg (show ¬ (siU (siU σ 48 0) 49 0).1 11 = 0 from c), if_neg c]
theorem ge_T5 (H : TR5 T X Bk N Z) (L : LR5 T X Bk N Z V W a l e σ) (k : e.1 paKind = 140) : g5_expression σ = cont5 4294967295 (nmd5 (σ.1 10) (siU (siU (g5_go σ) 48 0) 49 0)) := by
  have L2 : LR5 T X Bk N Z V W a l e (siU (siU σ 48 0) 49 0) := lr_fe5 L fe_r5 ⟨rfl, rfl, rfl, rfl, rfl, rfl, rfl, rfl⟩
  have kd := kd_o5 (lr_kd5 H L2)
  have g1 : g5_operand (siU (siU σ 48 0) 49 0) = nmd5 (σ.1 10) (g5_go (siU (siU σ 48 0) 49 0)) := by
    have z : nmd5 (σ.1 10) (g5_go (siU (siU σ 48 0) 49 0)) = g5_named (siU (siU σ 48 0) 49 0) := rfl
    rw [z]
    have z33 : g5_isAt 33 (siU (siU σ 48 0) 49 0) = 0 := by rw [lr_at5 H L2 (by decide) (by decide), if_neg (by rw [k]; decide)]
    have z45 : g5_isAt 45 (siU (siU σ 48 0) 49 0) = 0 := by rw [lr_at5 H L2 (by decide) (by decide), if_neg (by rw [k]; decide)]
    have z40 : g5_isAt 40 (siU (siU σ 48 0) 49 0) = 0 := by rw [lr_at5 H L2 (by decide) (by decide), if_neg (by rw [k]; decide)]
    unfold g5_operand
    dsimp only [pb5, pm5]
    rw [z33, if_pos rfl, z45, if_pos rfl, z40, if_pos rfl, (lr_so5 H L2).1, if_neg (fun q => by have z := kd.2.2.1.mp q; rw [k] at z; exact absurd z (by decide)), if_pos (kd.2.1.mpr k)]
  unfold g5_expression
  dsimp only [pb5]
  rw [show fu5 = 4294967295 + 1 from rfl, g5_expression_12]
  dsimp only [pb5, pm5]
  rw [lr_go5 L2, if_neg ne105, if_neg (by decide), if_pos rfl, g1, go_w5]
  rfl
theorem sr_exprT {s : Int32} {t : Nat} {e0 : E5} {V0 : V5} {l0 : Nat} (H : TR5 T X Bk N Z) (G : nG5 T Bk N V W) (O : nO5 T Bk N V W) (L0 : LR5 T X Bk N Z V0 W t l0 e0 σ) (k : e0.1 paKind = 140) (L : LR5 T X Bk N Z V W (t + 1) l e (g5_go σ)) : xr5 T X Bk N Z (vr5 V (rst5 s 4 (cl5 s 4 e + 1) V)) W t l (f5_Pa_expression s (Int32.ofNat t) e) (g5_expression σ).1 := by
  have h1 := H.1
  have ha := L.2.2.1.1
  rw [ge_T5 H L0 k]
  unfold f5_Pa_expression
  dsimp only [pb5]
  rw [stc_5]
  have L1 := lr_st5 (s := s) (c := 4) (x := cl5 s 4 e + 1) L
  generalize stc5 s 4 (cl5 s 4 e + 1) e = e1 at L1
  show xr5 _ _ _ _ _ _ _ _ _ (f5_Pa_expression_36 fu5 (Int32.ofNat t) 1 1 0 _) _
  have kT := lr_K5 L0
  refine (ex_m5 H (nG_v5 G) (nO_v5 O) fu5).2.1 4294967295 (t + 1) 0 t (σ.1 10) [] [] _ _ ⟨?_, ⟨rfl, trivial⟩, ⟨rfl, trivial⟩, trivial, trivial, by show 0 ≤ t + 1; omega, ?_⟩ (by omega) (by omega) (by omega) (by rw [kT]; exact k) L0.2.2.1.2.2.1 (by omega)
  · exact lr_fe5 (show LR5 T X Bk N Z _ W (t + 1) (l + bk5 []) e1 (g5_go σ) from L1) ⟨rfl, rfl, rfl, rfl, rfl⟩ ⟨rfl, rfl, rfl, rfl, rfl, rfl, rfl, rfl⟩
  · exact sc_n5 H (fun n => sc_r5) (by omega) (by show 0 ≤ 65537; omega) (by rw [kT, k]; decide) (by rw [kT, k]; decide)
/-- the reference at a second comparison finds it at once -/
theorem dc_at5 {c : Int32} (H : TR5 T X Bk N Z) (d : dcm5 T X Bk N a σ) (h0 : 0 < c.toInt) (h1 : c.toInt < 128) (hc : f5_Pa_binary c = -1) : g5_isAt c σ = 0 := by
  have hh := H.1
  obtain ⟨d1, d2, d3, d4, d5, d6⟩ := d
  have kd := kd_s5 (H.2.2.1 a d1) h0 h1
  have e5 : σ.2.2.1 5 (σ.1 10).toNatClampNeg = X.1 (Bk + a) := by rw [d4, cl_5 (by omega), ← d2]; rfl
  have e7 : σ.2.2.1 7 (σ.1 10).toNatClampNeg = X.2.2.1 (Bk + a) := by rw [d4, cl_5 (by omega), ← d2]; rfl
  unfold g5_isAt
  rw [e5, e7]
  by_cases q : X.1 (Bk + a) = 3
  · rw [if_pos q, if_neg (fun q2 => by
      have z := kd.mp ⟨q, q2⟩
      rw [z, hc] at d6
      exact absurd d6 (by decide))]
  · rw [if_neg q]
theorem dc_fl5 (H : TR5 T X Bk N Z) (d : dcm5 T X Bk N a σ) : (g5_flaw 2 (σ.1 10) σ).1 11 = 2 ∧ (g5_flaw 2 (σ.1 10) σ).1 12 = T.2.2.1 a := fl_5 H d.2.1 d.2.2.1 d.2.2.2.1 d.1 d.2.2.2.2.1
theorem dc_sign {c : Int32} (H : TR5 T X Bk N Z) (d : dcm5 T X Bk N a σ) (h0 : 0 < c.toInt) (h1 : c.toInt < 128) (hc : f5_Pa_binary c = -1) : (g5_sign c σ).1 11 = 2 ∧ (g5_sign c σ).1 12 = T.2.2.1 a := by
  unfold g5_sign
  dsimp only [pb5]
  rw [dc_at5 H d h0 h1 hc, if_pos rfl]
  exact dc_fl5 H d
theorem dc_close {c : Int32} (H : TR5 T X Bk N Z) (d : dcm5 T X Bk N a σ) (h0 : 0 < c.toInt) (h1 : c.toInt < 128) (hc : f5_Pa_binary c = -1) : (g5_close c σ).1 11 = 2 ∧ (g5_close c σ).1 12 = T.2.2.1 a := by
  unfold g5_close g5_close_18
  dsimp only [pb5]
  rw [dc_at5 H d h0 h1 hc, if_pos rfl]
  exact dc_sign (σ := siU σ 13 (σ.1 13 - 0)) H d h0 h1 hc
theorem dc_open {c : Int32} (H : TR5 T X Bk N Z) (d : dcm5 T X Bk N a σ) (h0 : 0 < c.toInt) (h1 : c.toInt < 128) (hc : f5_Pa_binary c = -1) : (g5_open c σ).1 11 = 2 ∧ (g5_open c σ).1 12 = T.2.2.1 a := by
  unfold g5_open
  dsimp only [pb5]
  rw [dc_at5 H d h0 h1 hc, if_pos rfl]
  obtain ⟨f1, f2⟩ := dc_fl5 H d
  obtain ⟨y1, y2⟩ := kq_open_38 (kq_rf (s := g5_flaw 2 (σ.1 10) σ)) (by rw [f1]; decide)
  exact ⟨y1.trans f1, y2.trans f2⟩
/-- an expression and what stands behind it -/
theorem xb_5 {β : Type} {Q' : E5 → β → rS → Prop} {m : R5 Unit} {k : E5 → Unit → R5 β} {σ1 σ2 : rS} (h : xr5 T X Bk N Z V W a0 l m σ1) (hk : ∀ e a', e.1 paKind ≠ 143 → LR5 T X Bk N Z V W a' l e σ1 → a0 < a' → (∀ n, sc5 X Bk a0 a' 0 n n) → sr5 Q' (k e ()) σ2) (hq : kq5 σ1 σ2) (hd : ∀ p e, dk5 p e → dq5 p (k e ())) (hc : ∀ a', dcm5 T X Bk N a' σ1 → σ2.1 11 = 2 ∧ σ2.1 12 = T.2.2.1 a') : sr5 Q' (rdB5 m k) σ2 := by
  rcases h with h | ⟨a', h, d⟩
  · exact sr_b5 h (fun e a n q => by obtain ⟨a', q1, q2, q3⟩ := q; exact hk e a' n q1 q2 q3) hq (fun p e a d => hd p e d)
  · rw [h]
    exact sr_r5 (by decide) (hc a' d).1 (hc a' d).2
theorem dq_expr {p s t : Int32} {e : E5} (d : dk5 p e) : dq5 p (f5_Pa_expression s t e) := by
  unfold f5_Pa_expression
  dsimp only [pb5]
  rw [stc_5]
  have d1 : dk5 p (stc5 s 4 (cl5 s 4 e + 1) e) := by
    obtain ⟨p1, p2, p3⟩ := stc_15 (s := s) (c := 4) (x := cl5 s 4 e + 1) (e := e)
    unfold dk5 pl5 at d ⊢
    rw [p1, p3 taPlaces (by decide)]
    exact d
  exact dq_b5 (dq_i5 (a := ()) d1) (fun e1 _ q1 => dq_b5 (dq_i5 (a := ()) q1) (fun e2 _ q2 => dq_36 _ _ _ _ _ _ q2))
end
