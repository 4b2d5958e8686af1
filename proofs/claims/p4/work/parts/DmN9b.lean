set_option maxHeartbeats 1600000
/-! named statements: draws -/
section
variable {T : T5} {X : X5} {Bk N : Nat} {Z : Int32} {V : V5} {W : W5} {a a0 l b f t s : Nat} {e : E5} {σ : rS}
theorem sr_draw {x : Int32} (H : TR5 T X Bk N Z) (J : jS5 T X Bk N b f t s V W) (L : LR5 T X Bk N Z V W a b e σ) (hk : e.1 paKind = 126) (ha : a0 ≤ a) : sr5 (fun e' _ σ' => eS5 T X Bk N Z a0 f t s e' σ') (f5_Pa_statement_177 (Int32.ofNat s) x 0 e) (g5_tellDraw (riU (riU (g5_go σ) 30 s 3) 32 s ((riU (g5_go σ) 30 s 3).1 10))) := by
  unfold f5_Pa_statement_177
  rw [if_pos rfl]
  unfold f5_Pa_behindPlace
  rw [if_pos hk]
  unfold f5_Pa_behindPlace_14
  rw [if_neg ne105]
  unfold f5_Pa_behindPlace_25
  rw [rdB_a5]
  refine sr_b5 (sr_take H L (by rw [hk]; decide)) (fun e1 _ n1 Q1 => ?_) (kq_tellDraw (kq_ri (kq_ri kq_rf))) (fun p e1 _ d => ?_)
  · obtain ⟨L1, _, _⟩ := Q1
    generalize g5_go σ = σ1 at L1 ⊢
    obtain ⟨W2, L2, J2, z2, _⟩ := js_30 (x := 3) J L1
    obtain ⟨W3, L3, J3, z3, _⟩ := js_32 (x := (riU σ1 30 s 3).1 10) J2 L2
    have h30 : w30_5 W3 s = 3 := z3.trans z2
    have n5 : w30_5 W3 s ≠ 5 := by rw [h30]; decide
    have n6 : w30_5 W3 s ≠ 6 := by rw [h30]; decide
    generalize riU (riU σ1 30 s 3) 32 s ((riU σ1 30 s 3).1 10) = σ3 at L3 ⊢
    rw [td_5, lr_wk5 H L3 (k := 160) (by decide) (by decide) rfl, lr_wk5 H L3 (k := 161) (by decide) (by decide) rfl]
    rw [if_neg (show ¬ (1 : Int32) = 0 by decide)]
    by_cases c3 : e1.1 paKind = 123
    · have c0 : ¬ e1.1 paKind = 160 := by rw [c3]; decide
      have c1 : ¬ e1.1 paKind = 161 := by rw [c3]; decide
      rw [if_pos c3, if_neg c0, if_pos rfl, if_neg c1, if_pos rfl]
      obtain ⟨e2, V4, z4, L4, J4, v4, _⟩ := js_set (c := 0) (x := 3) (ci := 0) J3 L3 (by decide) rfl
      unfold f5_Pa_behindPlace_63
      rw [if_neg (by decide)]
      unfold f5_Pa_behindPlace_91
      rw [z4, rdl_5, if_neg (by decide)]
      unfold f5_Pa_behindPlace_133
      rw [if_pos rfl, if_neg (by decide), if_neg (by decide), if_neg (by decide)]
      unfold f5_Pa_behindPlace_159
      rw [if_pos rfl, rdl_5]
      obtain ⟨e3, V5', z5, L5, J5, v5, _⟩ := s191_m J4 L4
      have h3 : vrs5 V5' (11 * s) = 3 := by rw [v5, if_neg (by omega), v4, if_pos (by omega)]
      rw [z5, b233_3 J5 L5 h3]
      exact sr_m5 (sr_spr H J5 L5) (fun e' _ D => dP_e5 J5 D (by rw [h3]; decide) n5 (by rw [h3]; decide) n6 (by omega))
    · rw [if_neg c3]
      by_cases c0 : e1.1 paKind = 160
      · rw [if_pos c0, if_pos c0, if_neg ne105]
        obtain ⟨e2, V4, z4, L4, J4, v4, k4⟩ := js_set (c := 0) (x := 1) (ci := 0) J3 L3 (by decide) rfl
        unfold f5_Pa_behindPlace_63
        rw [if_neg (by decide)]
        unfold f5_Pa_behindPlace_91
        rw [z4, rdl_5, if_neg (by decide)]
        unfold f5_Pa_behindPlace_133
        rw [if_pos rfl, if_pos rfl, rdB_a5, td18_5, lr_wk5 H L3 (k := 161) (by decide) (by decide) rfl, if_neg (show ¬ e1.1 paKind = 161 by rw [c0]; decide), if_pos rfl]
        refine sr_b5 (sr_take H L4 (by rw [k4, c0]; decide)) (fun e5 _ n5' Q5 => ?_) (kq_sign (kq_close (kq_expression (kq_open kq_rf)))) (fun p e5 _ d => ?_)
        · obtain ⟨L5, _, _⟩ := Q5
          generalize g5_go σ3 = σ5 at L5 ⊢
          unfold f5_Pa_behindPlace_159
          rw [if_pos rfl, rdl_5]
          obtain ⟨e6, V6, z6, L6, J6, v6, _⟩ := s191_m J4 L5
          have h3 : vrs5 V6 (11 * s) = 1 := by rw [v6, if_neg (by omega), v4, if_pos (by omega)]
          rw [z6, b233_k J6 L6 h3 (by decide)]
          exact sr_m5 (sr_fin1 H J6 L6 (by decide) (by decide) (by decide)) (fun e' _ D => dP_e5 J6 D (by rw [h3]; decide) n5 (by rw [h3]; decide) n6 (by omega))
        · unfold f5_Pa_behindPlace_159
          rw [if_pos rfl, rdl_5]
          exact dq_191 d
      · rw [if_neg c0, if_neg c0, if_pos rfl]
        unfold f5_Pa_behindPlace_63
        rw [if_pos rfl]
        by_cases c1 : e1.1 paKind = 161
        · unfold f5_Pa_expect
          rw [if_pos c1, if_pos c1, if_neg ne105, rdl_5]
          obtain ⟨e2, V4, z4, L4, J4, v4, k4⟩ := js_set (c := 0) (x := 2) (ci := 0) J3 L3 (by decide) rfl
          unfold f5_Pa_behindPlace_91
          rw [z4, rdl_5, if_neg (by decide)]
          unfold f5_Pa_behindPlace_133
          rw [if_pos rfl, if_neg (by decide), if_pos rfl, rdB_a5, td18_5, lr_wk5 H L3 (k := 161) (by decide) (by decide) rfl, if_pos c1, if_neg ne105]
          refine sr_b5 (sr_take H L4 (by rw [k4, c1]; decide)) (fun e5 _ n5' Q5 => ?_) (kq_sign (kq_close (kq_expression (kq_sign (kq_expression (kq_open kq_rf)))))) (fun p e5 _ d => ?_)
          · obtain ⟨L5, _, _⟩ := Q5
            generalize g5_go σ3 = σ5 at L5 ⊢
            unfold f5_Pa_behindPlace_159
            rw [if_pos rfl, rdl_5]
            obtain ⟨e6, V6, z6, L6, J6, v6, _⟩ := s191_m J4 L5
            have h3 : vrs5 V6 (11 * s) = 2 := by rw [v6, if_neg (by omega), v4, if_pos (by omega)]
            rw [z6, b233_k J6 L6 h3 (by decide)]
            exact sr_m5 (sr_fin2 H J6 L6) (fun e' _ D => dP_e5 J6 D (by rw [h3]; decide) n5 (by rw [h3]; decide) n6 (by omega))
          · unfold f5_Pa_behindPlace_159
            rw [if_pos rfl, rdl_5]
            exact dq_191 d
        · unfold f5_Pa_expect
          rw [if_neg c1, if_neg c1, if_pos rfl, lr_rva5 H L3, rdr_5, rdr_5]
          obtain ⟨q1, q2⟩ := lr_op5 (c := 123) H L3 (by decide) (by decide) c3
          exact sr_q5 (by decide) q1 q2 (kq_tellDraw_77 _ _ _ _ kq_rf)
  · rw [if_neg (show ¬ (1 : Int32) = 0 by decide)]
    refine dq_b5 (m := if e1.1 paKind = 123 then f5_Pa_behindPlace_63 (Int32.ofNat s) 3 e1 else if e1.1 paKind = 160 then f5_Pa_behindPlace_63 (Int32.ofNat s) 1 e1 else f5_Pa_behindPlace_63 (Int32.ofNat s) 2 e1) (dq_n5 d (by decide) (dq_n5 d (by decide) ?_)) (fun e9 _ d9 => dq_191 d9)
    unfold f5_Pa_behindPlace_63
    rw [if_pos rfl]
    exact dq_x5 (dx_expect d (by decide))
end
