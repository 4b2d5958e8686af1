set_option maxHeartbeats 1600000
/-! pick, flip, choose: one expression or two in brackets -/
section
variable {T : T5} {X : X5} {Bk N : Nat} {Z : Int32} {V : V5} {W : W5} {a b f t s : Nat} {e : E5} {σ : rS}
/-- only the count of statement s's expressions differs -/
def dP5 (T : T5) (X : X5) (Bk N : Nat) (Z : Int32) (V : V5) (W : W5) (a b s : Nat) (e' : E5) (σ' : rS) : Prop := ∃ a' R, a < a' ∧ LR5 T X Bk N Z (vr5 V R) W a' b e' σ' ∧ ∀ i, i ≠ 11 * s + 4 → R i = vrs5 V i
/-- an expression of s, with the rows told -/
theorem sr_exR {l : Nat} {R : Nat → Int32} (H : TR5 T X Bk N Z) (J : jS5 T X Bk N b f t s V W) (L : LR5 T X Bk N Z (vr5 V R) W a l e σ) (hR : ∀ i, i ≠ 11 * s + 4 → R i = vrs5 V i) : ∃ R2 : Nat → Int32, xr5 T X Bk N Z (vr5 V R2) W a l (f5_Pa_expression (Int32.ofNat s) (-1) e) (g5_expression σ).1 ∧ ∀ i, i ≠ 11 * s + 4 → R2 i = vrs5 V i := by
  have X1 := sr_expr (s := Int32.ofNat s) H (nG_v5 (R := R) J.1.1) (nO_v5 (R := R) (HI_O5 J.1)) L
  have zR := rst_5 (s := s) (c := 4) (x := cl5 (Int32.ofNat s) 4 e + 1) (V := vr5 V R) J.2.1.2.1 (by omega) (by have := J.2.2; omega) (by decide)
  refine ⟨rst5 (Int32.ofNat s) 4 (cl5 (Int32.ofNat s) 4 e + 1) (vr5 V R), X1, fun i hi => ?_⟩
  have z : rst5 (Int32.ofNat s) 4 (cl5 (Int32.ofNat s) 4 e + 1) (vr5 V R) = fun j => if j = 11 * s + 4 then cl5 (Int32.ofNat s) 4 e + 1 else R j := zR
  rw [z]
  show (if i = 11 * s + 4 then _ else R i) = _
  rw [if_neg hi]
  exact hR i hi
/-- the bracket closed, the statement ended -/
theorem sr_end41 {R : Nat → Int32} {a1 m : Nat} {k x : Int32} (H : TR5 T X Bk N Z) (L : LR5 T X Bk N Z (vr5 V R) W a1 (b + 1) e σ) (hR : ∀ i, i ≠ 11 * s + 4 → R i = vrs5 V i) (h : a < a1) : sr5 (fun e' _ σ' => dP5 T X Bk N Z V W a b s e' σ') (rdB5 (f5_Pa_finish_48 m (Int32.ofNat s) k 0 x e) (fun e8 _ => f5_Pa_statement_268 e8)) (g5_sign 59 (g5_close 41 σ)) := by
  cases m with
  | zero => exact Or.inl rfl
  | succ m =>
    rw [f5_Pa_finish_48, if_pos rfl, rb_u5]
    refine sr_b5 (sr_close H L (by decide) (by decide)) (fun e9 _ n9 Q9 => ?_) (by repeat' first | with_reducible exact kq_rf | dsimp only | with_reducible refine kq_go ?_ | with_reducible refine kq_sign ?_ | with_reducible refine kq_open ?_ | with_reducible refine kq_close ?_ | with_reducible refine kq_flaw ?_ | with_reducible refine kq_look ?_ | with_reducible refine kq_due ?_ | with_reducible refine kq_fresh ?_ | with_reducible refine kq_expression ?_ | with_reducible refine kq_openBlock ?_ | with_reducible refine kq_newStatement ?_ | with_reducible refine kq_turn ?_ | with_reducible refine kq_tellVar_87 ?_ | with_reducible refine kq_tellVar_82 ?_ | with_reducible refine kq_tellVar_53 ?_ | with_reducible refine kq_tellArr_56 ?_ | with_reducible refine kq_arguments ?_ | with_reducible refine kq_arguments_77 ?_ | with_reducible refine kq_tellDraw ?_ | with_reducible refine kq_tellDraw_18 ?_ | with_reducible refine kq_tellDraw_55 ?_ | with_reducible refine kq_tellDraw_172 ?_ | with_reducible refine kq_tellNamed_295 ?_ | with_reducible refine kq_tellNamed_244 ?_ | with_reducible refine kq_tellNamed_175 ?_ | with_reducible refine kq_tellNamed_133 ?_ | with_reducible refine kq_tellNamed_109 ?_ | with_reducible refine kq_tellNamed_90 ?_ | with_reducible refine kq_tellFunc_218 ?_ | with_reducible refine kq_tellFunc_74 ?_ | with_reducible refine kq_tellFunc_34 ?_ | with_reducible refine kq_tellStatements ?_ | with_reducible refine kq_tellStatement ?_ | with_reducible refine kq_endBlock ?_ | with_reducible refine kq_arguments_28 _ _ _ ?_ | with_reducible refine kq_tellDraw_77 _ _ _ _ ?_ | with_reducible refine kq_tellStatements_11 _ _ ?_ | with_reducible refine kq_tellFunc_102 _ _ _ _ ?_ | with_reducible refine kq_expression_12 _ _ _ ?_ | with_reducible refine kq_si (by decide) (by decide) ?_ | with_reducible refine kq_ri ?_ | with_reducible refine kq_if ?_ ?_ | with_reducible refine kq_ifp ?_ ?_) (fun p e9 _ d => ?_)
    · unfold f5_Pa_statement_268
      rw [rb_u5]
      exact sr_m5 (sr_pass H Q9.1 (by decide) (by decide)) (fun e10 _ Q10 => ⟨a1 + 1 + 1, R, by omega, Q10.1, hR⟩)
    · unfold f5_Pa_statement_268
      exact dq_x5 (dx_pass d (by decide))
theorem sr_one {R : Nat → Int32} {a1 m n : Nat} {k : Int32} (H : TR5 T X Bk N Z) (J : jS5 T X Bk N b f t s V W) (L : LR5 T X Bk N Z (vr5 V R) W a1 (b + 1) e σ) (hR : ∀ i, i ≠ 11 * s + 4 → R i = vrs5 V i) (h : a < a1) (k5 : k ≠ 5) (hk : k ≠ 2 ∨ n ≠ 0) (hn : n ≤ 1) : sr5 (fun e' _ σ' => dP5 T X Bk N Z V W a b s e' σ') (rdB5 (f5_Pa_finish_48 m (Int32.ofNat s) k 1 (Int32.ofNat n) e) (fun e8 _ => f5_Pa_statement_268 e8)) (g5_sign 59 (g5_close 41 (g5_expression σ).1)) := by
  cases m with
  | zero => exact Or.inl rfl
  | succ m =>
    have h1 := H.1
    have et : e.1 taTotal = Int32.ofNat N := by rw [← h1.1, ← L.1.1]; rfl
    have ln := ofn_i (n := n) (by omega)
    have lN := ofn_i (n := N) (by omega)
    obtain ⟨R2, X2, hR2⟩ := sr_exR H J L hR
    rw [f5_Pa_finish_48, if_neg ne105, et, if_neg (show ¬ Int32.ofNat N < Int32.ofNat n by rw [lti, ln, lN]; omega), rdB_a5]
    generalize (g5_expression σ).1 = σ3 at X2 ⊢
    have br : ∀ e7 : E5, (if k = 5 then (if e7.1 paKind = 44 then f5_Pa_finish_107 (f5_Pa_finish_48 m) (Int32.ofNat s) k (Int32.ofNat n) 1 e7 else f5_Pa_finish_107 (f5_Pa_finish_48 m) (Int32.ofNat s) k (Int32.ofNat n) 0 e7) else if k = 2 then (if Int32.ofNat n = 0 then f5_Pa_finish_107 (f5_Pa_finish_48 m) (Int32.ofNat s) k (Int32.ofNat n) 1 e7 else f5_Pa_finish_107 (f5_Pa_finish_48 m) (Int32.ofNat s) k (Int32.ofNat n) 0 e7) else f5_Pa_finish_107 (f5_Pa_finish_48 m) (Int32.ofNat s) k (Int32.ofNat n) 0 e7) = f5_Pa_finish_48 m (Int32.ofNat s) k 0 (Int32.ofNat n + 1) e7 := fun e7 => by
      have z : f5_Pa_finish_107 (f5_Pa_finish_48 m) (Int32.ofNat s) k (Int32.ofNat n) 0 e7 = f5_Pa_finish_48 m (Int32.ofNat s) k 0 (Int32.ofNat n + 1) e7 := by
        unfold f5_Pa_finish_107
        rw [if_pos rfl]
        rfl
      rw [if_neg k5, z]
      by_cases c : k = 2
      · rw [if_pos c, if_neg (fun q => by
          have y := congrArg Int32.toInt q
          rw [ln, t0i] at y
          rcases hk with w | w
          · exact w c
          · omega)]
      · rw [if_neg c]
    refine xb_5 X2 (fun e7 a2 n7 L7 h7 _ => ?_) (by repeat' first | with_reducible exact kq_rf | dsimp only | with_reducible refine kq_go ?_ | with_reducible refine kq_sign ?_ | with_reducible refine kq_open ?_ | with_reducible refine kq_close ?_ | with_reducible refine kq_flaw ?_ | with_reducible refine kq_look ?_ | with_reducible refine kq_due ?_ | with_reducible refine kq_fresh ?_ | with_reducible refine kq_expression ?_ | with_reducible refine kq_openBlock ?_ | with_reducible refine kq_newStatement ?_ | with_reducible refine kq_turn ?_ | with_reducible refine kq_tellVar_87 ?_ | with_reducible refine kq_tellVar_82 ?_ | with_reducible refine kq_tellVar_53 ?_ | with_reducible refine kq_tellArr_56 ?_ | with_reducible refine kq_arguments ?_ | with_reducible refine kq_arguments_77 ?_ | with_reducible refine kq_tellDraw ?_ | with_reducible refine kq_tellDraw_18 ?_ | with_reducible refine kq_tellDraw_55 ?_ | with_reducible refine kq_tellDraw_172 ?_ | with_reducible refine kq_tellNamed_295 ?_ | with_reducible refine kq_tellNamed_244 ?_ | with_reducible refine kq_tellNamed_175 ?_ | with_reducible refine kq_tellNamed_133 ?_ | with_reducible refine kq_tellNamed_109 ?_ | with_reducible refine kq_tellNamed_90 ?_ | with_reducible refine kq_tellFunc_218 ?_ | with_reducible refine kq_tellFunc_74 ?_ | with_reducible refine kq_tellFunc_34 ?_ | with_reducible refine kq_tellStatements ?_ | with_reducible refine kq_tellStatement ?_ | with_reducible refine kq_endBlock ?_ | with_reducible refine kq_arguments_28 _ _ _ ?_ | with_reducible refine kq_tellDraw_77 _ _ _ _ ?_ | with_reducible refine kq_tellStatements_11 _ _ ?_ | with_reducible refine kq_tellFunc_102 _ _ _ _ ?_ | with_reducible refine kq_expression_12 _ _ _ ?_ | with_reducible refine kq_si (by decide) (by decide) ?_ | with_reducible refine kq_ri ?_ | with_reducible refine kq_if ?_ ?_ | with_reducible refine kq_ifp ?_ ?_) (fun p e7 d => ?_) (fun a' d => ?_)
    · rw [br e7]
      exact sr_end41 H L7 hR2 (by omega)
    · rw [br e7]
      exact dq_f48 _ _ _ _ _ d
    · obtain ⟨f1, f2⟩ := dc_close (c := 41) H d (by decide) (by decide) (by decide)
      obtain ⟨g1, g2⟩ := kq_sign (a1 := 59) (kq_rf (s := g5_close 41 σ3)) (by rw [f1]; decide)
      exact ⟨g1.trans f1, g2.trans f2⟩
theorem sr_two {R : Nat → Int32} {a1 m : Nat} (H : TR5 T X Bk N Z) (J : jS5 T X Bk N b f t s V W) (L : LR5 T X Bk N Z (vr5 V R) W a1 (b + 1) e σ) (hR : ∀ i, i ≠ 11 * s + 4 → R i = vrs5 V i) (h : a < a1) : sr5 (fun e' _ σ' => dP5 T X Bk N Z V W a b s e' σ') (rdB5 (f5_Pa_finish_48 m (Int32.ofNat s) 2 1 0 e) (fun e8 _ => f5_Pa_statement_268 e8)) (g5_sign 59 (g5_close 41 (g5_expression (g5_sign 44 (g5_expression σ).1)).1)) := by
  cases m with
  | zero => exact Or.inl rfl
  | succ m =>
    have h1 := H.1
    have et : e.1 taTotal = Int32.ofNat N := by rw [← h1.1, ← L.1.1]; rfl
    have lN := ofn_i (n := N) (by omega)
    obtain ⟨R2, X2, hR2⟩ := sr_exR H J L hR
    rw [f5_Pa_finish_48, if_neg ne105, et, if_neg (show ¬ Int32.ofNat N < 0 by rw [lti, lN, t0i]; omega), rdB_a5]
    generalize (g5_expression σ).1 = σ3 at X2 ⊢
    have br : ∀ e7 : E5, (if (2 : Int32) = 5 then (if e7.1 paKind = 44 then f5_Pa_finish_107 (f5_Pa_finish_48 m) (Int32.ofNat s) 2 0 1 e7 else f5_Pa_finish_107 (f5_Pa_finish_48 m) (Int32.ofNat s) 2 0 0 e7) else if (2 : Int32) = 2 then (if (0 : Int32) = 0 then f5_Pa_finish_107 (f5_Pa_finish_48 m) (Int32.ofNat s) 2 0 1 e7 else f5_Pa_finish_107 (f5_Pa_finish_48 m) (Int32.ofNat s) 2 0 0 e7) else f5_Pa_finish_107 (f5_Pa_finish_48 m) (Int32.ofNat s) 2 0 0 e7) = rdB5 (f5_Pa_pass 44 e7) (fun e2 _ => f5_Pa_finish_48 m (Int32.ofNat s) 2 1 (Int32.ofNat 1) e2) := fun e7 => by
      rw [if_neg (by decide), if_pos rfl, if_pos rfl]
      unfold f5_Pa_finish_107
      rw [if_neg ne105]
      rfl
    refine xb_5 X2 (fun e7 a2 n7 L7 h7 _ => ?_) (by repeat' first | with_reducible exact kq_rf | dsimp only | with_reducible refine kq_go ?_ | with_reducible refine kq_sign ?_ | with_reducible refine kq_open ?_ | with_reducible refine kq_close ?_ | with_reducible refine kq_flaw ?_ | with_reducible refine kq_look ?_ | with_reducible refine kq_due ?_ | with_reducible refine kq_fresh ?_ | with_reducible refine kq_expression ?_ | with_reducible refine kq_openBlock ?_ | with_reducible refine kq_newStatement ?_ | with_reducible refine kq_turn ?_ | with_reducible refine kq_tellVar_87 ?_ | with_reducible refine kq_tellVar_82 ?_ | with_reducible refine kq_tellVar_53 ?_ | with_reducible refine kq_tellArr_56 ?_ | with_reducible refine kq_arguments ?_ | with_reducible refine kq_arguments_77 ?_ | with_reducible refine kq_tellDraw ?_ | with_reducible refine kq_tellDraw_18 ?_ | with_reducible refine kq_tellDraw_55 ?_ | with_reducible refine kq_tellDraw_172 ?_ | with_reducible refine kq_tellNamed_295 ?_ | with_reducible refine kq_tellNamed_244 ?_ | with_reducible refine kq_tellNamed_175 ?_ | with_reducible refine kq_tellNamed_133 ?_ | with_reducible refine kq_tellNamed_109 ?_ | with_reducible refine kq_tellNamed_90 ?_ | with_reducible refine kq_tellFunc_218 ?_ | with_reducible refine kq_tellFunc_74 ?_ | with_reducible refine kq_tellFunc_34 ?_ | with_reducible refine kq_tellStatements ?_ | with_reducible refine kq_tellStatement ?_ | with_reducible refine kq_endBlock ?_ | with_reducible refine kq_arguments_28 _ _ _ ?_ | with_reducible refine kq_tellDraw_77 _ _ _ _ ?_ | with_reducible refine kq_tellStatements_11 _ _ ?_ | with_reducible refine kq_tellFunc_102 _ _ _ _ ?_ | with_reducible refine kq_expression_12 _ _ _ ?_ | with_reducible refine kq_si (by decide) (by decide) ?_ | with_reducible refine kq_ri ?_ | with_reducible refine kq_if ?_ ?_ | with_reducible refine kq_ifp ?_ ?_) (fun p e7 d => ?_) (fun a' d => ?_)
    · rw [br e7, rdB_a5]
      refine sr_b5 (sr_pass H L7 (by decide) (by decide)) (fun e9 _ n9 Q9 => ?_) (by repeat' first | with_reducible exact kq_rf | dsimp only | with_reducible refine kq_go ?_ | with_reducible refine kq_sign ?_ | with_reducible refine kq_open ?_ | with_reducible refine kq_close ?_ | with_reducible refine kq_flaw ?_ | with_reducible refine kq_look ?_ | with_reducible refine kq_due ?_ | with_reducible refine kq_fresh ?_ | with_reducible refine kq_expression ?_ | with_reducible refine kq_openBlock ?_ | with_reducible refine kq_newStatement ?_ | with_reducible refine kq_turn ?_ | with_reducible refine kq_tellVar_87 ?_ | with_reducible refine kq_tellVar_82 ?_ | with_reducible refine kq_tellVar_53 ?_ | with_reducible refine kq_tellArr_56 ?_ | with_reducible refine kq_arguments ?_ | with_reducible refine kq_arguments_77 ?_ | with_reducible refine kq_tellDraw ?_ | with_reducible refine kq_tellDraw_18 ?_ | with_reducible refine kq_tellDraw_55 ?_ | with_reducible refine kq_tellDraw_172 ?_ | with_reducible refine kq_tellNamed_295 ?_ | with_reducible refine kq_tellNamed_244 ?_ | with_reducible refine kq_tellNamed_175 ?_ | with_reducible refine kq_tellNamed_133 ?_ | with_reducible refine kq_tellNamed_109 ?_ | with_reducible refine kq_tellNamed_90 ?_ | with_reducible refine kq_tellFunc_218 ?_ | with_reducible refine kq_tellFunc_74 ?_ | with_reducible refine kq_tellFunc_34 ?_ | with_reducible refine kq_tellStatements ?_ | with_reducible refine kq_tellStatement ?_ | with_reducible refine kq_endBlock ?_ | with_reducible refine kq_arguments_28 _ _ _ ?_ | with_reducible refine kq_tellDraw_77 _ _ _ _ ?_ | with_reducible refine kq_tellStatements_11 _ _ ?_ | with_reducible refine kq_tellFunc_102 _ _ _ _ ?_ | with_reducible refine kq_expression_12 _ _ _ ?_ | with_reducible refine kq_si (by decide) (by decide) ?_ | with_reducible refine kq_ri ?_ | with_reducible refine kq_if ?_ ?_ | with_reducible refine kq_ifp ?_ ?_) (fun p e9 _ d => dq_f48 _ _ _ _ _ d)
      exact sr_one H J Q9.1 hR2 (by omega) (by decide) (Or.inr (by decide)) (by decide)
    · rw [br e7, rdB_a5]
      exact dq_x5 (dx_pass d (by decide))
    · obtain ⟨f1, f2⟩ := dc_sign (c := 44) H d (by decide) (by decide) (by decide)
      have kq : kq5 (g5_sign 44 σ3) (g5_sign 59 (g5_close 41 (g5_expression (g5_sign 44 σ3)).1)) := kq_sign (kq_close (kq_expression kq_rf))
      obtain ⟨g1, g2⟩ := kq (by rw [f1]; decide)
      exact ⟨g1.trans f1, g2.trans f2⟩
end
