set_option maxHeartbeats 1600000
/-! arguments, side by side -/
theorem sc_t5 {X : X5} {Bk a0 a1 a2 : Nat} {n n1 n2 : Int32} (h : sc5 X Bk a0 a1 0 n n1) (k : sc5 X Bk a1 a2 0 n1 n2) : sc5 X Bk a0 a2 0 n n2 := by
  refine ⟨by have := h.1; have := k.1; omega, fun σ m hx => ?_⟩
  have h1 := h.1
  have k1 := k.1
  rw [show m + (a2 - a0) = m + (a2 - a1) + (a1 - a0) by omega, h.2 σ (m + (a2 - a1)) hx]
  exact k.2 σ m hx
theorem sc_e5 {T : T5} {X : X5} {Bk N a0 a : Nat} {Z n n' : Int32} {σ : rS} (H : TR5 T X Bk N Z) (h : sc5 X Bk a0 a 0 n n') (ha : a < N) (hk : T.2.1 a = 41) (hx : sx5 σ = X) : g5_countArguments_45 fu5 (Int32.ofNat (Bk + a0)) 0 n σ = n' := by
  have h1 := H.1
  have h0 := h.1
  have kd := (kd_s5 (c := 41) (H.2.2.1 a ha) (by decide) (by decide)).mpr hk
  have z := h.2 σ (4294967295 - (a - a0) + 1) hx
  rw [show fu5 = 4294967295 - (a - a0) + 1 + (a - a0) by unfold fu5; omega, z, g5_countArguments_45]
  have e5 : σ.2.2.1 5 (Int32.ofNat (Bk + a)).toNatClampNeg = X.1 (Bk + a) := by rw [cl_5 (by omega), ← hx]; rfl
  have e7 : σ.2.2.1 7 (Int32.ofNat (Bk + a)).toNatClampNeg = X.2.2.1 (Bk + a) := by rw [cl_5 (by omega), ← hx]; rfl
  rw [if_neg (by decide), e5, e7, if_pos kd.1, if_pos kd.2]
section
variable {T : T5} {X : X5} {Bk N : Nat} {Z : Int32} {V : V5} {W : W5} {a0 b f t s : Nat}
theorem lr_cl5 {c : Int32} {a l : Nat} {e : E5} {σ : rS} (H : TR5 T X Bk N Z) (L : LR5 T X Bk N Z V W a l e σ) (h0 : 0 < c.toInt) (h1 : c.toInt < 128) (hc : ¬ e.1 paKind = c) : (g5_close c σ).1 11 = 2 ∧ (g5_close c σ).1 12 = T.2.2.1 a := by
  have L3 : LR5 T X Bk N Z V W a l e (siU σ 13 (σ.1 13 - 0)) := lr_fe5 L fe_r5 ⟨rfl, rfl, rfl, rfl, rfl, rfl, rfl, by show σ.1 13 - 0 = σ.1 13; exact Int32.sub_zero _⟩
  have e9 : g5_close c σ = g5_flaw 2 ((siU σ 13 (σ.1 13 - 0)).1 10) (siU σ 13 (σ.1 13 - 0)) := by
    unfold g5_close g5_close_18 g5_sign
    dsimp only [pb5]
    rw [lr_at5 H L h0 h1, if_neg hc, if_pos rfl]
    have e8 : g5_isAt c (siU σ 13 (σ.1 13 - 0)) = g5_isAt c σ := rfl
    rw [e8, lr_at5 H L h0 h1, if_neg hc, if_pos rfl]
  rw [e9]
  exact lr_fl5 H L3
/-- what a call's arguments leave: as many expressions as the reference counts -/
def arP5 (T : T5) (X : X5) (Bk N : Nat) (Z : Int32) (V : V5) (W : W5) (a0 b s : Nat) (e' : E5) (σ' : rS) : Prop := ∃ a' R n, a0 < a' ∧ LR5 T X Bk N Z (vr5 V R) W a' b e' σ' ∧ (∀ i, i ≠ 11 * s + 4 → R i = vrs5 V i) ∧ R (11 * s + 4) = n ∧ ∀ σ, sx5 σ = X → g5_countArguments_45 fu5 (Int32.ofNat (Bk + a0)) 0 1 σ = n
theorem dq_f48 {p : Int32} {k : Int32} : ∀ (m : Nat) (x2 x3 x4 : Int32) (e : E5), dk5 p e → dq5 p (rdB5 (f5_Pa_finish_48 m k x2 x3 x4 e) (fun e8 _ => f5_Pa_statement_268 e8))
  | 0, _, _, _, _, _ => Or.inl rfl
  | m + 1, x2, x3, x4, e, d => by
    have cl : dq5 p (rdB5 (rdB5 (f5_Pa_closeSign 41 e) (fun e1 _ => .inl (e1, ()))) (fun e8 _ => f5_Pa_statement_268 e8)) := by
      rw [dx_close d (by decide)]
      exact Or.inr (Or.inl rfl)
    rw [f5_Pa_finish_48, rdB_f5, rdB_f5]
    refine dq_f5 cl (dq_f5 cl ?_)
    rw [rdB_a5]
    refine dq_b5 (dq_expr d) (fun e7 _ d7 => ?_)
    have h107 : ∀ s0 : Int32, dq5 p (rdB5 (f5_Pa_finish_107 (f5_Pa_finish_48 m) k x2 x4 s0 e7) (fun e8 _ => f5_Pa_statement_268 e8)) := fun s0 => by
      unfold f5_Pa_finish_107
      dsimp only [pb5]
      rw [rdB_f5]
      refine dq_f5 (dq_f48 m _ _ _ _ d7) ?_
      rw [dx_pass d7 (by decide)]
      exact Or.inr (Or.inl rfl)
    rw [rdB_f5, rdB_f5, rdB_f5, rdB_f5]
    exact dq_f5 (dq_f5 (h107 _) (h107 _)) (dq_f5 (dq_f5 (h107 _) (h107 _)) (h107 _))
theorem sr_argL (H : TR5 T X Bk N Z) (J : jS5 T X Bk N b f t s V W) : ∀ (m mr j a1 : Nat) (R : Nat → Int32) (e : E5) (σ : rS), LR5 T X Bk N Z (vr5 V R) W a1 (b + 1) e σ → R (11 * s + 4) = Int32.ofNat j → (∀ i, i ≠ 11 * s + 4 → R i = vrs5 V i) → sc5 X Bk a0 a1 0 1 (Int32.ofNat (1 + j)) → j ≤ a1 → N - a1 + 2 ≤ mr → sr5 (fun e' _ σ' => arP5 T X Bk N Z V W a0 b s e' σ') (rdB5 (f5_Pa_finish_48 m (Int32.ofNat s) 5 1 (Int32.ofNat j) e) (fun e8 _ => f5_Pa_statement_268 e8)) (g5_arguments_28 mr 1 σ)
  | 0, _, _, _, _, _, _, _, _, _, _, _, _ => Or.inl rfl
  | m + 1, mr, j, a1, R, e, σ, L, hj, hR, sc, ja, hmr => by
    have h1 := H.1
    have ha := L.2.2.1.1
    have hs := J.2.2
    obtain ⟨mr, rfl⟩ : ∃ k, mr = k + 1 := ⟨mr - 1, by omega⟩
    have et : e.1 taTotal = Int32.ofNat N := by rw [← h1.1, ← L.1.1]; rfl
    have lj := ofn_i (n := j) (by omega)
    have lN := ofn_i (n := N) (by omega)
    have est : e.1 coStatements = Int32.ofNat (s + 1) := by
      have z : e.1 513 = vst5 V := congrArg (fun V : V5 => vst5 V) L.2.1.1
      exact z.trans J.2.1.2.1
    have er : e.2.1 506 = R := congrArg (fun V : V5 => vrs5 V) L.2.1.1
    have c4 : cl5 (Int32.ofNat s) 4 e = Int32.ofNat j := by
      have z := cl_55 (s := s) (c := 4) est (by omega) (by omega) (by decide)
      rw [er, hj] at z
      exact z
    rw [f5_Pa_finish_48, g5_arguments_28, if_neg ne105, et, if_neg (show ¬ Int32.ofNat N < Int32.ofNat j by rw [lti, lj, lN]; omega), rdB_a5]
    dsimp only [pb5, pm5]
    rw [lr_ir5 L, if_neg ne105, if_neg ne105]
    have G' : nG5 T Bk N (vr5 V R) W := nG_v5 J.1.1
    have O' : nO5 T Bk N (vr5 V R) W := nO_v5 (HI_O5 J.1)
    have X1 := sr_expr (s := Int32.ofNat s) H G' O' L
    rw [c4] at X1
    have zR := rst_5 (s := s) (c := 4) (x := Int32.ofNat j + 1) (V := vr5 V R) J.2.1.2.1 (by omega) (by omega) (by decide)
    have hR1 : rst5 (Int32.ofNat s) 4 (Int32.ofNat j + 1) (vr5 V R) = fun i => if i = 11 * s + 4 then Int32.ofNat j + 1 else R i := zR
    rw [hR1] at X1
    have hR2 : ∀ i, i ≠ 11 * s + 4 → (fun i => if i = 11 * s + 4 then Int32.ofNat j + 1 else R i) i = vrs5 V i := fun i hi => by
      show (if i = 11 * s + 4 then _ else R i) = _
      rw [if_neg hi]
      exact hR i hi
    have hR3 : (fun i => if i = 11 * s + 4 then Int32.ofNat j + 1 else R i) (11 * s + 4) = Int32.ofNat (j + 1) := by
      show (if 11 * s + 4 = 11 * s + 4 then Int32.ofNat j + 1 else _) = _
      rw [if_pos rfl, on_15 (by omega)]
    have X2 : xr5 T X Bk N Z (vr5 V (fun i => if i = 11 * s + 4 then Int32.ofNat j + 1 else R i)) W a1 (b + 1) (f5_Pa_expression (Int32.ofNat s) (-1) e) (g5_expression σ).1 := X1
    generalize (fun i => if i = 11 * s + 4 then Int32.ofNat j + 1 else R i) = R2 at X2 hR2 hR3
    clear X1
    generalize (g5_expression σ).1 = σ3 at X2 ⊢
    have kB : ∀ (x0 : Int32) (σ9 : rS), kq5 σ3 σ9 → kq5 σ3 (g5_arguments_28 mr x0 σ9) := fun x0 σ9 h9 => kq_arguments_28 _ _ _ h9
    have d107 : ∀ (p s0 : Int32) (e7 : E5), dk5 p e7 → dq5 p (rdB5 (f5_Pa_finish_107 (f5_Pa_finish_48 m) (Int32.ofNat s) 5 (Int32.ofNat j) s0 e7) (fun e8 _ => f5_Pa_statement_268 e8)) := fun p s0 e7 d7 => by
      unfold f5_Pa_finish_107
      dsimp only [pb5]
      rw [rdB_f5]
      refine dq_f5 (dq_f48 m _ _ _ _ d7) ?_
      rw [dx_pass d7 (by decide)]
      exact Or.inr (Or.inl rfl)
    refine xb_5 X2 (fun e7 a2 n7 L7 h7 sc7 => ?_) (kq_if (kq_arguments_65 kB kq_rf) (kq_if (kq_arguments_65 kB kq_rf) (kq_arguments_65 kB kq_rf))) (fun p e7 d => ?_) (fun a' d => ?_)
    · have ha2 := L7.2.2.1.1
      have kT := lr_K5 L7
      rw [if_pos rfl, rdB_f5, lr_ir5 L7, if_neg ne105, lr_at5 H L7 (by decide) (by decide)]
      have sc2 := sc_t5 sc (sc7 (Int32.ofNat (1 + j)))
      by_cases c : e7.1 paKind = 44
      · rw [if_pos c, if_pos c, if_neg ne105]
        unfold f5_Pa_finish_107 g5_arguments_65 f5_Pa_pass
        dsimp only [pb5]
        rw [if_neg ne105, if_neg ne105, if_pos c, rb_u5, rdB_a5]
        refine sr_b5 (sr_take H L7 (by rw [c]; decide)) (fun e9 _ n9 Q9 => ?_) (kq_arguments_28 _ _ _ kq_rf) (fun p e9 _ d => dq_f48 m _ _ _ _ d)
        rw [on_15 (by omega)]
        have k44 : T.2.1 a2 = 44 := by rw [kT]; exact c
        refine sr_argL H J m mr (j + 1) (a2 + 1) R2 e9 _ Q9.1 hR3 hR2 ?_ (by omega) (by omega)
        refine sc_s5 H sc2 ha2 (by decide) (Or.inr (Or.inr ⟨by rw [k44]; decide, rfl, Or.inr ⟨k44, rfl, ?_⟩⟩)) (fun w => by rw [k44] at w; exact absurd w (by decide))
        rw [on_15 (by omega)]
        rfl
      · rw [if_neg c, if_neg c, if_pos rfl]
        unfold f5_Pa_finish_107 g5_arguments_65
        dsimp only [pb5]
        rw [if_pos rfl, if_pos rfl]
        obtain ⟨mr, rfl⟩ : ∃ k, mr = k + 1 := ⟨mr - 1, by omega⟩
        cases m with
        | zero => exact Or.inl rfl
        | succ m =>
          rw [f5_Pa_finish_48, if_pos rfl, rb_u5, g5_arguments_28]
          dsimp only [pb5]
          rw [lr_ir5 L7, if_neg ne105, if_pos rfl]
          unfold g5_arguments_77
          dsimp only [pb5]
          by_cases c41 : e7.1 paKind = 41
          · refine sr_b5 (sr_close H L7 (by decide) (by decide)) (fun e9 _ n9 Q9 => ?_) (by repeat' first | with_reducible exact kq_rf | dsimp only | with_reducible refine kq_go ?_ | with_reducible refine kq_sign ?_ | with_reducible refine kq_open ?_ | with_reducible refine kq_close ?_ | with_reducible refine kq_flaw ?_ | with_reducible refine kq_look ?_ | with_reducible refine kq_due ?_ | with_reducible refine kq_fresh ?_ | with_reducible refine kq_expression ?_ | with_reducible refine kq_openBlock ?_ | with_reducible refine kq_newStatement ?_ | with_reducible refine kq_turn ?_ | with_reducible refine kq_tellVar_87 ?_ | with_reducible refine kq_tellVar_82 ?_ | with_reducible refine kq_tellVar_53 ?_ | with_reducible refine kq_tellArr_56 ?_ | with_reducible refine kq_arguments ?_ | with_reducible refine kq_arguments_77 ?_ | with_reducible refine kq_tellDraw ?_ | with_reducible refine kq_tellDraw_18 ?_ | with_reducible refine kq_tellDraw_55 ?_ | with_reducible refine kq_tellDraw_172 ?_ | with_reducible refine kq_tellNamed_295 ?_ | with_reducible refine kq_tellNamed_244 ?_ | with_reducible refine kq_tellNamed_175 ?_ | with_reducible refine kq_tellNamed_133 ?_ | with_reducible refine kq_tellNamed_109 ?_ | with_reducible refine kq_tellNamed_90 ?_ | with_reducible refine kq_tellFunc_218 ?_ | with_reducible refine kq_tellFunc_74 ?_ | with_reducible refine kq_tellFunc_34 ?_ | with_reducible refine kq_tellStatements ?_ | with_reducible refine kq_tellStatement ?_ | with_reducible refine kq_endBlock ?_ | with_reducible refine kq_arguments_28 _ _ _ ?_ | with_reducible refine kq_tellDraw_77 _ _ _ _ ?_ | with_reducible refine kq_tellStatements_11 _ _ ?_ | with_reducible refine kq_tellFunc_102 _ _ _ _ ?_ | with_reducible refine kq_expression_12 _ _ _ ?_ | with_reducible refine kq_si (by decide) (by decide) ?_ | with_reducible refine kq_ri ?_ | with_reducible refine kq_if ?_ ?_ | with_reducible refine kq_ifp ?_ ?_) (fun p e9 _ d => ?_)
            · unfold f5_Pa_statement_268
              rw [rb_u5]
              refine sr_m5 (sr_pass H Q9.1 (by decide) (by decide)) (fun e10 _ Q10 => ⟨a2 + 1 + 1, R2, Int32.ofNat (j + 1), by have := sc2.1; omega, Q10.1, hR2, hR3, fun σ9 hx => ?_⟩)
              have z := sc_e5 H sc2 ha2 (by rw [kT]; exact c41) hx
              rw [z, Nat.add_comm]
            · unfold f5_Pa_statement_268
              exact dq_x5 (dx_pass d (by decide))
          · obtain ⟨f1, f2⟩ := lr_cl5 (c := 41) H L7 (by decide) (by decide) c41
            have fx : f5_Pa_closeSign 41 e7 = .inr (2, T.2.2.1 a2) := by
              unfold f5_Pa_closeSign
              rw [if_neg c41, lr_rva5 H L7]
            rw [fx]
            exact sr_q5 (by decide) f1 f2 (by repeat' first | with_reducible exact kq_rf | dsimp only | with_reducible refine kq_go ?_ | with_reducible refine kq_sign ?_ | with_reducible refine kq_open ?_ | with_reducible refine kq_close ?_ | with_reducible refine kq_flaw ?_ | with_reducible refine kq_look ?_ | with_reducible refine kq_due ?_ | with_reducible refine kq_fresh ?_ | with_reducible refine kq_expression ?_ | with_reducible refine kq_openBlock ?_ | with_reducible refine kq_newStatement ?_ | with_reducible refine kq_turn ?_ | with_reducible refine kq_tellVar_87 ?_ | with_reducible refine kq_tellVar_82 ?_ | with_reducible refine kq_tellVar_53 ?_ | with_reducible refine kq_tellArr_56 ?_ | with_reducible refine kq_arguments ?_ | with_reducible refine kq_arguments_77 ?_ | with_reducible refine kq_tellDraw ?_ | with_reducible refine kq_tellDraw_18 ?_ | with_reducible refine kq_tellDraw_55 ?_ | with_reducible refine kq_tellDraw_172 ?_ | with_reducible refine kq_tellNamed_295 ?_ | with_reducible refine kq_tellNamed_244 ?_ | with_reducible refine kq_tellNamed_175 ?_ | with_reducible refine kq_tellNamed_133 ?_ | with_reducible refine kq_tellNamed_109 ?_ | with_reducible refine kq_tellNamed_90 ?_ | with_reducible refine kq_tellFunc_218 ?_ | with_reducible refine kq_tellFunc_74 ?_ | with_reducible refine kq_tellFunc_34 ?_ | with_reducible refine kq_tellStatements ?_ | with_reducible refine kq_tellStatement ?_ | with_reducible refine kq_endBlock ?_ | with_reducible refine kq_arguments_28 _ _ _ ?_ | with_reducible refine kq_tellDraw_77 _ _ _ _ ?_ | with_reducible refine kq_tellStatements_11 _ _ ?_ | with_reducible refine kq_tellFunc_102 _ _ _ _ ?_ | with_reducible refine kq_expression_12 _ _ _ ?_ | with_reducible refine kq_si (by decide) (by decide) ?_ | with_reducible refine kq_ri ?_ | with_reducible refine kq_if ?_ ?_ | with_reducible refine kq_ifp ?_ ?_)
    · rw [if_pos rfl, rdB_f5]
      exact dq_f5 (d107 p _ e7 d) (d107 p _ e7 d)
    · obtain ⟨mr, rfl⟩ : ∃ k, mr = k + 1 := ⟨mr - 1, by omega⟩
      have ir : g5_isRight σ3 = 1 := if_pos d.2.2.1
      rw [ir, if_neg ne105, dc_at5 H d (by decide) (by decide) (by decide), if_pos rfl]
      unfold g5_arguments_65
      rw [if_pos rfl, g5_arguments_28]
      dsimp only [pb5]
      rw [ir, if_neg ne105, if_pos rfl]
      unfold g5_arguments_77
      dsimp only [pb5]
      obtain ⟨f1, f2⟩ := dc_close (c := 41) H d (by decide) (by decide) (by decide)
      obtain ⟨g1, g2⟩ := kq_sign (a1 := 59) (kq_rf (s := g5_close 41 σ3)) (by rw [f1]; decide)
      exact ⟨g1.trans f1, g2.trans f2⟩
end
