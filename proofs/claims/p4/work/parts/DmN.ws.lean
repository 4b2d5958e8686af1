set_option maxHeartbeats 1600000
/-! within a statement -/
def ww5 (W : W5) (r30 r32 : Nat → Int32) : W5 := (W.1, W.2.1, W.2.2.1, W.2.2.2.1, W.2.2.2.2.1, W.2.2.2.2.2.1, W.2.2.2.2.2.2.1, W.2.2.2.2.2.2.2.1, W.2.2.2.2.2.2.2.2.1, W.2.2.2.2.2.2.2.2.2.1, W.2.2.2.2.2.2.2.2.2.2.1, r30, r32, W.2.2.2.2.2.2.2.2.2.2.2.2.2)
/-- within statement s: what was told before it stands -/
def jS5 (T : T5) (X : X5) (Bk N b f t s : Nat) (V : V5) (W : W5) : Prop := HI5 T Bk N f t b (s + 1) V W ∧ SS5 T X Bk N s (s + 1) V W ∧ s < 150
theorem js_v5 {T : T5} {X : X5} {Bk N b f t s : Nat} {V : V5} {W : W5} {R r30 r32 : Nat → Int32} (h : jS5 T X Bk N b f t s V W) (hR : ∀ i, i < 11 * s → R i = vrs5 V i) (h30 : ∀ j, j < s → r30 j = w30_5 W j) (h32 : ∀ j, j < s → r32 j = w32_5 W j) : jS5 T X Bk N b f t s (vr5 V R) (ww5 W r30 r32) := by
  obtain ⟨h1, ⟨h2, h3, h4, h5⟩, h6⟩ := h
  exact ⟨h1, ⟨h2, h3, h4, fun j hj => sS_k5 (h5 j hj) (hR _ (by omega)) (hR _ (by omega)) (hR _ (by omega)) (h30 j hj) (h32 j hj)⟩, h6⟩
theorem ww_i5 {W : W5} : ww5 W (w30_5 W) (w32_5 W) = W := rfl
theorem rst_5 {s c : Nat} {x : Int32} {V : V5} {st : Nat} (hst : vst5 V = Int32.ofNat st) (hs : s < st) (hst2 : st ≤ 1000) (hc : c ≤ 10) : rst5 (Int32.ofNat s) (Int32.ofNat c) x V = fun j => if j = 11 * s + c then x else vrs5 V j := by
  have ls := ofn_i (n := s) (by omega)
  have lst := ofn_i (n := st) (by omega)
  unfold rst5
  rw [if_neg (by rw [lti, ls, t0i]; omega), if_neg (by rw [hst, lei, ls, lst]; omega), ix11_5 (n := 0) (by omega) (by omega) hc, ls]
  rfl
theorem cl_55 {s c st : Nat} {e : E5} (hst : e.1 coStatements = Int32.ofNat st) (hs : s < st) (hst2 : st ≤ 1000) (hc : c ≤ 10) : cl5 (Int32.ofNat s) (Int32.ofNat c) e = e.2.1 506 (11 * s + c) := by
  have ls := ofn_i (n := s) (by omega)
  have lst := ofn_i (n := st) (by omega)
  unfold cl5
  rw [if_neg (by rw [lti, ls, t0i]; omega), if_neg (by rw [hst, lei, ls, lst]; omega), ix11_5 (n := 0) (by omega) (by omega) hc, ls]
  rfl
section
variable {T : T5} {X : X5} {Bk N : Nat} {Z : Int32} {V : V5} {W : W5} {a l b f t s : Nat} {e : E5} {σ : rS}
theorem lr_325 {i : Nat} {x : Int32} (L : LR5 T X Bk N Z V W a l e σ) : LR5 T X Bk N Z V (ww5 W (w30_5 W) (fun j => if j = i then x else w32_5 W j)) a l e (riU σ 32 i x) := by
  obtain ⟨l1, ⟨l2, l3⟩, l4, l5, l6⟩ := L
  refine ⟨l1, ⟨l2, ?_⟩, l4, l5, l6⟩
  rw [← l3]
  have z : (riU σ 32 i x).2.2.1 32 = fun j => if j = i then x else σ.2.2.1 32 j := funext fun j => by rw [ri34, if_pos rfl]
  show (σ.1 15, σ.2.2.1 20, σ.1 16, σ.2.2.1 22, σ.1 18, σ.2.2.1 25, σ.2.2.1 26, σ.2.2.1 27, σ.2.2.1 28, σ.1 41, σ.1 19, σ.2.2.1 30, (riU σ 32 i x).2.2.1 32, σ.1 42, σ.2.2.1 43, σ.2.2.1 45) = _
  rw [z]
  rfl
theorem lr_305 {i : Nat} {x : Int32} (L : LR5 T X Bk N Z V W a l e σ) : LR5 T X Bk N Z V (ww5 W (fun j => if j = i then x else w30_5 W j) (w32_5 W)) a l e (riU σ 30 i x) := by
  obtain ⟨l1, ⟨l2, l3⟩, l4, l5, l6⟩ := L
  refine ⟨l1, ⟨l2, ?_⟩, l4, l5, l6⟩
  rw [← l3]
  have z : (riU σ 30 i x).2.2.1 30 = fun j => if j = i then x else σ.2.2.1 30 j := funext fun j => by rw [ri34, if_pos rfl]
  show (σ.1 15, σ.2.2.1 20, σ.1 16, σ.2.2.1 22, σ.1 18, σ.2.2.1 25, σ.2.2.1 26, σ.2.2.1 27, σ.2.2.1 28, σ.1 41, σ.1 19, (riU σ 30 i x).2.2.1 30, σ.2.2.1 32, σ.1 42, σ.2.2.1 43, σ.2.2.1 45) = _
  rw [z]
  rfl
/-- an expression of statement s -/
theorem js_ex5 {x : Int32} (h : jS5 T X Bk N b f t s V W) : jS5 T X Bk N b f t s (vr5 V (rst5 (Int32.ofNat s) 4 x V)) W := by
  have z := rst_5 (s := s) (c := 4) (x := x) h.2.1.2.1 (by omega) (by have := h.2.2; omega) (by decide)
  refine js_v5 (r30 := w30_5 W) (r32 := w32_5 W) h (fun i hi => ?_) (fun _ _ => rfl) (fun _ _ => rfl)
  have z' : rst5 (Int32.ofNat s) 4 x V = fun j => if j = 11 * s + 4 then x else vrs5 V j := z
  rw [z']
  exact if_neg (by omega)
theorem js_st5 {c : Nat} {x : Int32} (h : jS5 T X Bk N b f t s V W) (hc : c ≤ 10) : jS5 T X Bk N b f t s (vr5 V (rst5 (Int32.ofNat s) (Int32.ofNat c) x V)) W := by
  have z := rst_5 (s := s) (c := c) (x := x) h.2.1.2.1 (by omega) (by have := h.2.2; omega) hc
  refine js_v5 (r30 := w30_5 W) (r32 := w32_5 W) h (fun i hi => ?_) (fun _ _ => rfl) (fun _ _ => rfl)
  rw [z]
  exact if_neg (by omega)
/-- the end of a statement that is no call -/
def eS5 (T : T5) (X : X5) (Bk N : Nat) (Z : Int32) (a f t s : Nat) (e' : E5) (σ' : rS) : Prop := ∃ a' b', a < a' ∧ iS5 T X Bk N Z a' b' f t (s + 1) (s + 1) e' σ'
theorem js_e5 (h : jS5 T X Bk N b f t s V W) (L : LR5 T X Bk N Z V W a b e σ) (hs : sS5 T X Bk N (vrs5 V) (w30_5 W) (w32_5 W) s) : iS5 T X Bk N Z a b f t (s + 1) (s + 1) e σ := by
  obtain ⟨h1, ⟨h2, h3, h4, h5⟩, h6⟩ := h
  obtain ⟨hV, hW⟩ := L.2.1
  subst hV
  subst hW
  refine ⟨L, h1, by omega, h3, h4, fun j hj => ?_⟩
  by_cases c : j = s
  · rw [c]; exact hs
  · exact h5 j (by omega)
theorem sS_n5 {R r30 r32 : Nat → Int32} (h1 : R (11 * s) ≠ 5) (h2 : r30 s ≠ 5) (h3 : R (11 * s) = 6 ↔ r30 s = 6) : sS5 T X Bk N R r30 r32 s := ⟨⟨fun q => absurd q h1, fun q => absurd q h2⟩, h3, fun q => absurd q h1⟩
/-- return, observe, gain -/
theorem sr_w97 {k x : Int32} (H : TR5 T X Bk N Z) (J : jS5 T X Bk N b f t s V W) (L : LR5 T X Bk N Z V W a b e σ) (h142 : e.1 paKind ≠ 142) (hk : w30_5 W s = k) (k5 : k ≠ 5) (k6 : k ≠ 6) (x5 : x ≠ 5) (x6 : x ≠ 6) : sr5 (fun e' _ σ' => eS5 T X Bk N Z a f t s e' σ') (rdB5 (f5_Pa_take e) (fun e2 _ => rdB5 (f5_Pa_expression (Int32.ofNat s) (-1) e2) (fun e5 _ => f5_Pa_wordStatement_97 (Int32.ofNat s) 0 x e5))) (g5_sign 59 (g5_expression (riU (g5_go σ) 32 s ((g5_go σ).1 10))).1) := by
  refine sr_b5 (sr_take H L h142) (fun e1 _ n1 Q1 => ?_) (by repeat' first | with_reducible exact kq_rf | dsimp only | with_reducible refine kq_go ?_ | with_reducible refine kq_sign ?_ | with_reducible refine kq_open ?_ | with_reducible refine kq_close ?_ | with_reducible refine kq_flaw ?_ | with_reducible refine kq_look ?_ | with_reducible refine kq_due ?_ | with_reducible refine kq_fresh ?_ | with_reducible refine kq_expression ?_ | with_reducible refine kq_openBlock ?_ | with_reducible refine kq_newStatement ?_ | with_reducible refine kq_turn ?_ | with_reducible refine kq_tellVar_87 ?_ | with_reducible refine kq_tellVar_82 ?_ | with_reducible refine kq_tellVar_53 ?_ | with_reducible refine kq_tellArr_56 ?_ | with_reducible refine kq_arguments ?_ | with_reducible refine kq_arguments_77 ?_ | with_reducible refine kq_tellDraw ?_ | with_reducible refine kq_tellDraw_18 ?_ | with_reducible refine kq_tellDraw_55 ?_ | with_reducible refine kq_tellDraw_172 ?_ | with_reducible refine kq_tellNamed_295 ?_ | with_reducible refine kq_tellNamed_244 ?_ | with_reducible refine kq_tellNamed_175 ?_ | with_reducible refine kq_tellNamed_133 ?_ | with_reducible refine kq_tellNamed_109 ?_ | with_reducible refine kq_tellNamed_90 ?_ | with_reducible refine kq_tellFunc_218 ?_ | with_reducible refine kq_tellFunc_74 ?_ | with_reducible refine kq_tellFunc_34 ?_ | with_reducible refine kq_tellStatements ?_ | with_reducible refine kq_tellStatement ?_ | with_reducible refine kq_endBlock ?_ | with_reducible refine kq_arguments_28 _ _ _ ?_ | with_reducible refine kq_tellDraw_77 _ _ _ _ ?_ | with_reducible refine kq_tellStatements_11 _ _ ?_ | with_reducible refine kq_tellFunc_102 _ _ _ _ ?_ | with_reducible refine kq_expression_12 _ _ _ ?_ | with_reducible refine kq_si (by decide) (by decide) ?_ | with_reducible refine kq_ri ?_ | with_reducible refine kq_if ?_ ?_ | with_reducible refine kq_ifp ?_ ?_) (fun p e1 _ d => ?_)
  · obtain ⟨L1, _, _⟩ := Q1
    generalize g5_go σ = σ1 at L1 ⊢
    have L2 := lr_325 (i := s) (x := σ1.1 10) L1
    have J2 : jS5 T X Bk N b f t s V (ww5 W (w30_5 W) (fun j => if j = s then σ1.1 10 else w32_5 W j)) := js_v5 (R := vrs5 V) J (fun _ _ => rfl) (fun _ _ => rfl) (fun j hj => if_neg (by omega))
    generalize riU σ1 32 s (σ1.1 10) = σ2 at L2 ⊢
    have X3 := sr_expr (s := Int32.ofNat s) H J2.1.1 (HI_O5 J2.1) L2
    have J3 := js_ex5 (x := cl5 (Int32.ofNat s) 4 e1 + 1) J2
    generalize (g5_expression σ2).1 = σ3 at X3 ⊢
    refine xb_5 X3 (fun e2 a' n2 L3 h3 _ => ?_) (by repeat' first | with_reducible exact kq_rf | dsimp only | with_reducible refine kq_go ?_ | with_reducible refine kq_sign ?_ | with_reducible refine kq_open ?_ | with_reducible refine kq_close ?_ | with_reducible refine kq_flaw ?_ | with_reducible refine kq_look ?_ | with_reducible refine kq_due ?_ | with_reducible refine kq_fresh ?_ | with_reducible refine kq_expression ?_ | with_reducible refine kq_openBlock ?_ | with_reducible refine kq_newStatement ?_ | with_reducible refine kq_turn ?_ | with_reducible refine kq_tellVar_87 ?_ | with_reducible refine kq_tellVar_82 ?_ | with_reducible refine kq_tellVar_53 ?_ | with_reducible refine kq_tellArr_56 ?_ | with_reducible refine kq_arguments ?_ | with_reducible refine kq_arguments_77 ?_ | with_reducible refine kq_tellDraw ?_ | with_reducible refine kq_tellDraw_18 ?_ | with_reducible refine kq_tellDraw_55 ?_ | with_reducible refine kq_tellDraw_172 ?_ | with_reducible refine kq_tellNamed_295 ?_ | with_reducible refine kq_tellNamed_244 ?_ | with_reducible refine kq_tellNamed_175 ?_ | with_reducible refine kq_tellNamed_133 ?_ | with_reducible refine kq_tellNamed_109 ?_ | with_reducible refine kq_tellNamed_90 ?_ | with_reducible refine kq_tellFunc_218 ?_ | with_reducible refine kq_tellFunc_74 ?_ | with_reducible refine kq_tellFunc_34 ?_ | with_reducible refine kq_tellStatements ?_ | with_reducible refine kq_tellStatement ?_ | with_reducible refine kq_endBlock ?_ | with_reducible refine kq_arguments_28 _ _ _ ?_ | with_reducible refine kq_tellDraw_77 _ _ _ _ ?_ | with_reducible refine kq_tellStatements_11 _ _ ?_ | with_reducible refine kq_tellFunc_102 _ _ _ _ ?_ | with_reducible refine kq_expression_12 _ _ _ ?_ | with_reducible refine kq_si (by decide) (by decide) ?_ | with_reducible refine kq_ri ?_ | with_reducible refine kq_if ?_ ?_ | with_reducible refine kq_ifp ?_ ?_) (fun p e2 d => ?_) (fun a' d => dc_sign H d (by decide) (by decide) (by decide))
    · unfold f5_Pa_wordStatement_97
      rw [stc_5, rdl_5]
      have L4 := lr_st5 (s := Int32.ofNat s) (c := 0) (x := x) L3
      have J4 := js_st5 (c := 0) (x := x) J3 (by decide)
      refine sr_b5 (sr_pass H L4 (by decide) (by decide)) (fun e3 _ n3 Q3 => ?_) kq_rf (fun p e3 _ d => dq_i5 d)
      refine sr_i5 n3 ⟨a' + 1, b, by omega, js_e5 J4 Q3.1 (sS_n5 ?_ (by rw [show w30_5 (ww5 W (w30_5 W) (fun j => if j = s then σ1.1 10 else w32_5 W j)) s = w30_5 W s from rfl, hk]; exact k5) ?_)⟩
      · have z := rst_5 (s := s) (c := 0) (x := x) (V := vr5 V (rst5 (Int32.ofNat s) 4 (cl5 (Int32.ofNat s) 4 e1 + 1) V)) J3.2.1.2.1 (by omega) (by have := J3.2.2; omega) (by decide)
        show rst5 (Int32.ofNat s) (Int32.ofNat 0) x _ (11 * s) ≠ 5
        rw [z]
        show (if 11 * s = 11 * s + 0 then x else _) ≠ 5
        rw [if_pos (by omega)]
        exact x5
      · have z := rst_5 (s := s) (c := 0) (x := x) (V := vr5 V (rst5 (Int32.ofNat s) 4 (cl5 (Int32.ofNat s) 4 e1 + 1) V)) J3.2.1.2.1 (by omega) (by have := J3.2.2; omega) (by decide)
        have z2 : rst5 (Int32.ofNat s) (Int32.ofNat 0) x (vr5 V (rst5 (Int32.ofNat s) 4 (cl5 (Int32.ofNat s) 4 e1 + 1) V)) (11 * s) = x := by
          rw [z]
          show (if 11 * s = 11 * s + 0 then x else _) = x
          rw [if_pos (by omega)]
        refine ⟨fun q => absurd (z2.symm.trans q) x6, fun q => absurd (hk.symm.trans q) k6⟩
    · unfold f5_Pa_wordStatement_97
      rw [stc_5, rdl_5]
      exact dq_x5 (dx_pass (dk_st5 d) (by decide))
  · exact dq_b5 (dq_expr d) (fun e9 _ d9 => by
      unfold f5_Pa_wordStatement_97
      rw [stc_5, rdl_5]
      exact dq_x5 (dx_pass (dk_st5 d9) (by decide)))
end
