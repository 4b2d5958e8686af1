set_option maxHeartbeats 1600000
/-! a call's arguments whole -/
section
variable {T : T5} {X : X5} {Bk N : Nat} {Z : Int32} {V : V5} {W : W5} {a b f t s tc : Nat} {e : E5} {σ : rS}
theorem cA_5 (H : TR5 T X Bk N Z) (h2 : tc + 2 < N) (hx : sx5 σ = X) : g5_countArguments (Int32.ofNat (Bk + tc)) σ = if T.2.1 (tc + 2) = 41 then g5_countArguments_45 fu5 (Int32.ofNat (Bk + (tc + 2))) 0 0 σ else g5_countArguments_45 fu5 (Int32.ofNat (Bk + (tc + 2))) 0 1 σ := by
  have h1 := H.1
  have kd := kd_s5 (c := 41) (H.2.2.1 (tc + 2) h2) (by decide) (by decide)
  have v2 : Int32.ofNat (Bk + tc) + 2 = Int32.ofNat (Bk + (tc + 2)) := on_5 (b := 2) (by omega)
  have e5 : σ.2.2.1 5 (Int32.ofNat (Bk + (tc + 2))).toNatClampNeg = X.1 (Bk + (tc + 2)) := by rw [cl_5 (by omega), ← hx]; rfl
  have e7 : σ.2.2.1 7 (Int32.ofNat (Bk + (tc + 2))).toNatClampNeg = X.2.2.1 (Bk + (tc + 2)) := by rw [cl_5 (by omega), ← hx]; rfl
  unfold g5_countArguments g5_countArguments_30
  dsimp only [pb5]
  rw [v2, e5, e7]
  by_cases c : T.2.1 (tc + 2) = 41
  · obtain ⟨q1, q2⟩ := kd.mpr c
    rw [if_pos c, if_pos q1, if_pos q2, if_neg ne105]
  · rw [if_neg c]
    by_cases q1 : X.1 (Bk + (tc + 2)) = 3
    · rw [if_pos q1, if_neg (fun q2 => c (kd.mp ⟨q1, q2⟩)), if_pos rfl]
    · rw [if_neg q1, if_pos rfl]
theorem sr_args (H : TR5 T X Bk N Z) (J : jS5 T X Bk N b f t s V W) (L : LR5 T X Bk N Z V W (tc + 1) b e σ) (hE : vrs5 V (11 * s + 4) = 0) : sr5 (fun e' _ σ' => ∃ a' R, tc < a' ∧ LR5 T X Bk N Z (vr5 V R) W a' b e' σ' ∧ (∀ i, i ≠ 11 * s + 4 → R i = vrs5 V i) ∧ ∀ σ, sx5 σ = X → g5_countArguments (Int32.ofNat (Bk + tc)) σ = R (11 * s + 4)) (rdB5 (f5_Pa_finish (Int32.ofNat s) 5 e) (fun e8 _ => f5_Pa_statement_268 e8)) (g5_arguments σ) := by
  unfold f5_Pa_finish f5_Pa_finish_44 g5_arguments
  dsimp only [pb5]
  rw [if_neg (by decide), rdB_a5]
  have kB : ∀ (x0 : Int32) (σ9 s9 : rS), kq5 s9 σ9 → kq5 s9 (g5_arguments_28 fu5 x0 σ9) := fun x0 σ9 s9 h9 => kq_arguments_28 _ _ _ h9
  refine sr_b5 (sr_open H L (by decide) (by decide)) (fun e1 _ n1 Q1 => ?_) (kq_if (kB _ _ _ kq_rf) (kq_if (kB _ _ _ kq_rf) (kB _ _ _ kq_rf))) (fun p e1 _ d => ?_)
  · obtain ⟨L1, _, _⟩ := Q1
    generalize g5_open 40 σ = σ1 at L1 ⊢
    have ha := L1.2.2.1.1
    have kT := lr_K5 L1
    rw [if_pos rfl, rdB_f5, lr_ir5 L1, if_neg ne105, lr_at5 H L1 (by decide) (by decide)]
    by_cases c : e1.1 paKind = 41
    · rw [if_pos c, if_pos c, if_neg ne105]
      rw [show fu5 = 4294967295 + 1 from rfl, f5_Pa_finish_48, if_pos rfl, rb_u5, g5_arguments_28]
      dsimp only [pb5]
      rw [lr_ir5 L1, if_neg ne105, if_pos rfl]
      unfold g5_arguments_77
      dsimp only [pb5]
      refine sr_b5 (sr_close H L1 (by decide) (by decide)) (fun e9 _ n9 Q9 => ?_) (by repeat' first | with_reducible exact kq_rf | dsimp only | with_reducible refine kq_go ?_ | with_reducible refine kq_sign ?_ | with_reducible refine kq_open ?_ | with_reducible refine kq_close ?_ | with_reducible refine kq_flaw ?_ | with_reducible refine kq_look ?_ | with_reducible refine kq_due ?_ | with_reducible refine kq_fresh ?_ | with_reducible refine kq_expression ?_ | with_reducible refine kq_openBlock ?_ | with_reducible refine kq_newStatement ?_ | with_reducible refine kq_turn ?_ | with_reducible refine kq_tellVar_87 ?_ | with_reducible refine kq_tellVar_82 ?_ | with_reducible refine kq_tellVar_53 ?_ | with_reducible refine kq_tellArr_56 ?_ | with_reducible refine kq_arguments ?_ | with_reducible refine kq_arguments_77 ?_ | with_reducible refine kq_tellDraw ?_ | with_reducible refine kq_tellDraw_18 ?_ | with_reducible refine kq_tellDraw_55 ?_ | with_reducible refine kq_tellDraw_172 ?_ | with_reducible refine kq_tellNamed_295 ?_ | with_reducible refine kq_tellNamed_244 ?_ | with_reducible refine kq_tellNamed_175 ?_ | with_reducible refine kq_tellNamed_133 ?_ | with_reducible refine kq_tellNamed_109 ?_ | with_reducible refine kq_tellNamed_90 ?_ | with_reducible refine kq_tellFunc_218 ?_ | with_reducible refine kq_tellFunc_74 ?_ | with_reducible refine kq_tellFunc_34 ?_ | with_reducible refine kq_tellStatements ?_ | with_reducible refine kq_tellStatement ?_ | with_reducible refine kq_endBlock ?_ | with_reducible refine kq_arguments_28 _ _ _ ?_ | with_reducible refine kq_tellDraw_77 _ _ _ _ ?_ | with_reducible refine kq_tellStatements_11 _ _ ?_ | with_reducible refine kq_tellFunc_102 _ _ _ _ ?_ | with_reducible refine kq_expression_12 _ _ _ ?_ | with_reducible refine kq_si (by decide) (by decide) ?_ | with_reducible refine kq_ri ?_ | with_reducible refine kq_if ?_ ?_ | with_reducible refine kq_ifp ?_ ?_) (fun p e9 _ d => ?_)
      · unfold f5_Pa_statement_268
        rw [rb_u5]
        refine sr_m5 (sr_pass H Q9.1 (by decide) (by decide)) (fun e10 _ Q10 => ⟨tc + 1 + 1 + 1 + 1, vrs5 V, by omega, Q10.1, fun _ _ => rfl, fun σ9 hx => ?_⟩)
        have k41 : T.2.1 (tc + 2) = 41 := kT.trans c
        rw [cA_5 H ha hx, if_pos k41, hE]
        exact sc_e5 H sc_r5 ha k41 hx
      · unfold f5_Pa_statement_268
        exact dq_x5 (dx_pass d (by decide))
    · rw [if_neg c, if_neg c, if_pos rfl]
      have z := sr_argL (a0 := tc + 2) H J fu5 fu5 0 (tc + 2) (vrs5 V) e1 σ1 L1 hE (fun _ _ => rfl) sc_r5 (by omega) (by have := H.1; unfold fu5; omega)
      refine sr_m5 z (fun e' _ Q => ?_)
      obtain ⟨a', R, n, q1, q2, q3, q4, q5⟩ := Q
      refine ⟨a', R, by omega, q2, q3, fun σ9 hx => ?_⟩
      rw [cA_5 H ha hx, if_neg (fun k41 => c (by rw [← kT]; exact k41)), q4]
      exact q5 σ9 hx
  · rw [if_pos rfl, rdB_f5]
    exact dq_f5 (dq_f48 _ _ _ _ _ d) (dq_f48 _ _ _ _ _ d)
end
