set_option maxHeartbeats 1600000
/-! named statements: columns set, draws, values, calls -/
section
variable {T : T5} {X : X5} {Bk N : Nat} {Z : Int32} {V : V5} {W : W5} {a a0 l b f t s : Nat} {e : E5} {σ : rS}
theorem lr_cw5 {c : Nat} {ci : Int32} (J : jS5 T X Bk N b f t s V W) (L : LR5 T X Bk N Z V W a l e σ) (hc : c ≤ 10) (hci : ci = Int32.ofNat c) : cl5 (Int32.ofNat s) ci e = vrs5 V (11 * s + c) := by
  have h1 : e.1 513 = vst5 V := congrArg (fun V : V5 => vst5 V) L.2.1.1
  have h2 : e.2.1 506 = vrs5 V := congrArg (fun V : V5 => vrs5 V) L.2.1.1
  rw [hci, cl_55 (st := s + 1) (h1.trans J.2.1.2.1) (by omega) (by have := J.2.2; omega) hc, h2]
theorem js_set {c : Nat} {x ci : Int32} (J : jS5 T X Bk N b f t s V W) (L : LR5 T X Bk N Z V W a l e σ) (hc : c ≤ 10) (hci : ci = Int32.ofNat c) : ∃ (e' : E5) (V' : V5), f5_Co_setColumn (Int32.ofNat s) ci x e = .inl (e', ()) ∧ LR5 T X Bk N Z V' W a l e' σ ∧ jS5 T X Bk N b f t s V' W ∧ (∀ j, vrs5 V' j = if j = 11 * s + c then x else vrs5 V j) ∧ e'.1 = e.1 := by
  subst hci
  have z := rst_5 (s := s) (c := c) (x := x) (V := V) J.2.1.2.1 (by omega) (by have := J.2.2; omega) hc
  refine ⟨stc5 (Int32.ofNat s) (Int32.ofNat c) x e, vr5 V (rst5 (Int32.ofNat s) (Int32.ofNat c) x V), stc_5, lr_st5 L, js_st5 J hc, fun j => ?_, stc_15.1⟩
  show rst5 (Int32.ofNat s) (Int32.ofNat c) x V j = _
  rw [z]
theorem js_32 {x : Int32} (J : jS5 T X Bk N b f t s V W) (L : LR5 T X Bk N Z V W a l e σ) : ∃ W' : W5, LR5 T X Bk N Z V W' a l e (riU σ 32 s x) ∧ jS5 T X Bk N b f t s V W' ∧ w30_5 W' s = w30_5 W s ∧ w32_5 W' s = x :=
  ⟨_, lr_325 L, js_v5 (R := vrs5 V) J (fun _ _ => rfl) (fun _ _ => rfl) (fun j hj => if_neg (by omega)), rfl, if_pos rfl⟩
theorem js_30 {x : Int32} (J : jS5 T X Bk N b f t s V W) (L : LR5 T X Bk N Z V W a l e σ) : ∃ W' : W5, LR5 T X Bk N Z V W' a l e (riU σ 30 s x) ∧ jS5 T X Bk N b f t s V W' ∧ w30_5 W' s = x ∧ w32_5 W' s = w32_5 W s :=
  ⟨_, lr_305 L, js_v5 (R := vrs5 V) J (fun _ _ => rfl) (fun j hj => if_neg (by omega)) (fun _ _ => rfl), if_pos rfl, rfl⟩
theorem lr_wk5 {w k : Int32} (H : TR5 T X Bk N Z) (L : LR5 T X Bk N Z V W a l e σ) (h0 : 1 ≤ w.toInt) (h1 : w.toInt ≤ 13) (hk : 149 + w = k) : g5_isWord w σ = if e.1 paKind = k then 1 else 0 := by
  rw [← hk]
  exact lr_wd5 H L h0 h1
theorem lr_op5 {c : Int32} (H : TR5 T X Bk N Z) (L : LR5 T X Bk N Z V W a l e σ) (h0 : 0 < c.toInt) (h1 : c.toInt < 128) (hc : ¬ e.1 paKind = c) : (g5_open c σ).1 11 = 2 ∧ (g5_open c σ).1 12 = T.2.2.1 a := by
  have h := sr_open H L h0 h1
  unfold f5_Pa_openSign at h
  rw [if_neg hc, lr_rva5 H L] at h
  rcases h with h | ⟨_, _, h, _⟩ | ⟨f, p, f0, q1, q2, h3⟩
  · exact absurd (Prod.mk.inj (Sum.inr.inj h)).1 (by decide)
  · cases h
  · rcases h3 with h3 | ⟨_, _, _, h3, _⟩
    · obtain ⟨y1, y2⟩ := Prod.mk.inj (Sum.inr.inj h3)
      exact ⟨q1.trans y1.symm, q2.trans y2.symm⟩
    · cases h3
theorem dP_e5 {e' : E5} {σ' : rS} (J : jS5 T X Bk N b f t s V W) (D : dP5 T X Bk N Z V W a b s e' σ') (h1 : vrs5 V (11 * s) ≠ 5) (h2 : w30_5 W s ≠ 5) (h3 : vrs5 V (11 * s) ≠ 6) (h4 : w30_5 W s ≠ 6) (ha : a0 ≤ a) : eS5 T X Bk N Z a0 f t s e' σ' := by
  obtain ⟨a', R, h, L, hR⟩ := D
  have J' : jS5 T X Bk N b f t s (vr5 V R) W := by
    have q := js_v5 (R := R) (r30 := w30_5 W) (r32 := w32_5 W) J (fun i hi => hR i (by omega)) (fun _ _ => rfl) (fun _ _ => rfl)
    rw [ww_i5] at q
    exact q
  refine ⟨a', b, by omega, js_e5 J' L (sS_n5 ?_ h2 ?_)⟩
  · show R (11 * s) ≠ 5
    rw [hR _ (by omega)]
    exact h1
  · show R (11 * s) = 6 ↔ _
    rw [hR _ (by omega)]
    exact ⟨fun h => absurd h h3, fun h => absurd h h4⟩
theorem dq_233 {p x : Int32} {e : E5} (d : dk5 p e) : dq5 p (f5_Pa_statement_233 x e) := by
  unfold f5_Pa_statement_233
  dsimp only [pb5]
  refine dq_f5 ?_ ?_
  · unfold f5_Pa_spread
    rw [rdB_a5]
    exact dq_x5 (dx_open d (by decide))
  · unfold f5_Pa_finish
    dsimp only [pb5]
    rw [rdB_f5]
    refine dq_f5 ?_ ?_
    · rw [rdB_a5]
      refine dq_b5 (dq_expr d) (fun e9 _ d9 => ?_)
      rw [rdl_5]
      unfold f5_Pa_statement_268
      exact dq_x5 (dx_pass d9 (by decide))
    · rw [rdB_a5]
      exact dq_x5 (dx_open d (by decide))
theorem dq_223 {p x : Int32} {e : E5} (d : dk5 p e) : dq5 p (f5_Pa_statement_223 x e) := by
  unfold f5_Pa_statement_223
  exact dq_b5 (dq_sc5 d) (fun _ _ d1 => dq_233 d1)
theorem dq_191 {p x y z : Int32} {e : E5} (d : dk5 p e) : dq5 p (f5_Pa_statement_191 x y z e) := by
  unfold f5_Pa_statement_191
  refine dq_b5 (dq_sc5 d) (fun e1 _ d1 => ?_)
  exact dq_f5 (dq_f5 (dq_233 d1) (dq_f5 (dq_223 d1) (dq_233 d1))) (dq_223 d1)
theorem dq_91 {p x : Int32} {e : E5} (d : dk5 p e) : dq5 p (f5_Pa_behindPlace_91 x 0 e) := by
  have h : ∀ {e1 : E5}, dk5 p e1 → dq5 p (f5_Pa_behindPlace_133 0 0 e1) := fun {e1} d1 => by
    unfold f5_Pa_behindPlace_133 f5_Pa_behindPlace_159
    rw [if_pos rfl, if_neg (by decide), if_neg (by decide), if_neg (by decide), if_pos rfl]
    exact dq_i5 d1
  unfold f5_Pa_behindPlace_91
  refine dq_b5 (dq_sc5 d) (fun e1 _ d1 => ?_)
  rw [if_pos rfl]
  exact dq_n5 d1 (by decide) (h d1)
theorem dq_177 {p x y : Int32} {e : E5} (d : dk5 p e) : dq5 p (f5_Pa_statement_177 x y 0 e) := by
  unfold f5_Pa_statement_177
  rw [if_pos rfl]
  unfold f5_Pa_behindPlace
  rw [if_neg (show ¬ e.1 paKind = 126 by rw [d.1]; decide)]
  unfold f5_Pa_behindPlace_14
  rw [if_pos rfl, rdB_a5]
  exact dq_x5 (dx_expect d (by decide))
theorem dq_151 {p x y : Int32} {e : E5} (d : dk5 p e) : dq5 p (f5_Pa_statement_151 x y e) := by
  unfold f5_Pa_statement_151
  exact dq_n5 d (by decide) (dq_177 d)
/-- what is behind the place's mark -/
theorem s191_m (J : jS5 T X Bk N b f t s V W) (L : LR5 T X Bk N Z V W a l e σ) : ∃ (e' : E5) (V' : V5), f5_Pa_statement_191 (Int32.ofNat s) 0 (-1) e = f5_Pa_statement_233 (Int32.ofNat s) e' ∧ LR5 T X Bk N Z V' W a l e' σ ∧ jS5 T X Bk N b f t s V' W ∧ (∀ j, vrs5 V' j = if j = 11 * s + 5 then -1 else vrs5 V j) ∧ e'.1 = e.1 := by
  obtain ⟨e1, V1, z, L1, J1, v1, q1⟩ := js_set (c := 5) (x := -1) (ci := 5) J L (by decide) rfl
  refine ⟨e1, V1, ?_, L1, J1, v1, q1⟩
  unfold f5_Pa_statement_191
  rw [z, rdl_5, if_pos rfl, if_pos rfl]
theorem b233_3 (J : jS5 T X Bk N b f t s V W) (L : LR5 T X Bk N Z V W a l e σ) (h : vrs5 V (11 * s) = 3) : f5_Pa_statement_233 (Int32.ofNat s) e = rdB5 (f5_Pa_spread (Int32.ofNat s) e) (fun e8 _ => f5_Pa_statement_268 e8) := by
  unfold f5_Pa_statement_233
  dsimp only [pb5]
  rw [lr_cw5 (c := 0) (ci := 0) J L (by decide) rfl, if_pos (show vrs5 V (11 * s + 0) = 3 from h)]
theorem b233_k {k : Int32} (J : jS5 T X Bk N b f t s V W) (L : LR5 T X Bk N Z V W a l e σ) (h : vrs5 V (11 * s) = k) (k3 : k ≠ 3) : f5_Pa_statement_233 (Int32.ofNat s) e = rdB5 (f5_Pa_finish (Int32.ofNat s) k e) (fun e8 _ => f5_Pa_statement_268 e8) := by
  unfold f5_Pa_statement_233
  dsimp only [pb5]
  rw [lr_cw5 (c := 0) (ci := 0) J L (by decide) rfl, show vrs5 V (11 * s + 0) = k from h, if_neg k3]
theorem b233_0 (J : jS5 T X Bk N b f t s V W) (L : LR5 T X Bk N Z V W a l e σ) (h : vrs5 V (11 * s) = 0) : f5_Pa_statement_233 (Int32.ofNat s) e = rdB5 (f5_Pa_expression (Int32.ofNat s) (vrs5 V (11 * s + 5)) e) (fun e8 _ => f5_Pa_statement_268 e8) := by
  rw [b233_k J L h (by decide)]
  unfold f5_Pa_finish
  dsimp only [pb5]
  rw [if_pos rfl, lr_cw5 (c := 5) (ci := 5) J L (by decide) rfl, rb_u5]
/-- an expression, then the sign at the end -/
theorem sr_xt5 {r : R5 Unit} {R : Nat → Int32} {σ1 : rS} (H : TR5 T X Bk N Z) (J : jS5 T X Bk N b f t s V W) (E : xr5 T X Bk N Z (vr5 V R) W a b r σ1) (hR : ∀ i, i ≠ 11 * s + 4 → R i = vrs5 V i) (h1 : vrs5 V (11 * s) = 0) (h2 : w30_5 W s = 2) (ha : a0 ≤ a) : sr5 (fun e' _ σ' => eS5 T X Bk N Z a0 f t s e' σ') (rdB5 r (fun e8 _ => f5_Pa_statement_268 e8)) (g5_sign 59 σ1) := by
  refine xb_5 E (fun e2 a' n2 L2 h2' _ => ?_) (kq_sign kq_rf) (fun p e2 d => ?_) (fun a' d => dc_sign H d (by decide) (by decide) (by decide))
  · unfold f5_Pa_statement_268
    rw [rb_u5]
    refine sr_m5 (sr_pass H L2 (by decide) (by decide)) (fun e3 _ Q3 => dP_e5 (a := a) J ⟨a' + 1, R, by omega, Q3.1, hR⟩ ?_ ?_ ?_ ?_ ha)
    · rw [h1]; decide
    · rw [h2]; decide
    · rw [h1]; decide
    · rw [h2]; decide
  · unfold f5_Pa_statement_268
    exact dq_x5 (dx_pass d (by decide))
theorem sr_295 (H : TR5 T X Bk N Z) (J : jS5 T X Bk N b f t s V W) (L : LR5 T X Bk N Z V W a b e σ) (h1 : vrs5 V (11 * s) = 0) (h2 : w30_5 W s = 2) (ha : a0 ≤ a) : sr5 (fun e' _ σ' => eS5 T X Bk N Z a0 f t s e' σ') (f5_Pa_statement_191 (Int32.ofNat s) 0 (-1) e) (g5_tellNamed_295 σ) := by
  obtain ⟨e1, V1, z, L1, J1, v1, q1⟩ := s191_m J L
  have h3 : vrs5 V1 (11 * s) = 0 := by rw [v1, if_neg (by omega)]; exact h1
  rw [z, b233_0 J1 L1 h3, show vrs5 V1 (11 * s + 5) = -1 by rw [v1, if_pos (by omega)]]
  unfold g5_tellNamed_295
  rw [pm_e5, pb_e5]
  obtain ⟨R2, E, hR⟩ := sr_exR (R := vrs5 V1) H J1 L1 (fun _ _ => rfl)
  exact sr_xt5 H J1 E hR h3 h2 ha
end
