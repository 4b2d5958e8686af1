set_option maxHeartbeats 1600000
/-! draws and choices whole -/
section
variable {T : T5} {X : X5} {Bk N : Nat} {Z : Int32} {V : V5} {W : W5} {a b f t s : Nat} {e : E5} {σ : rS}
theorem sr_fin1 {k : Int32} (H : TR5 T X Bk N Z) (J : jS5 T X Bk N b f t s V W) (L : LR5 T X Bk N Z V W a b e σ) (k0 : k ≠ 0) (k5 : k ≠ 5) (k2 : k ≠ 2) : sr5 (fun e' _ σ' => dP5 T X Bk N Z V W a b s e' σ') (rdB5 (f5_Pa_finish (Int32.ofNat s) k e) (fun e8 _ => f5_Pa_statement_268 e8)) (g5_sign 59 (g5_close 41 (g5_expression (g5_open 40 σ)).1)) := by
  unfold f5_Pa_finish f5_Pa_finish_44
  rw [if_neg k0, rdB_a5]
  refine sr_b5 (sr_open H L (by decide) (by decide)) (fun e1 _ n1 Q1 => ?_) (kq_sign (kq_close (kq_expression kq_rf))) (fun p e1 _ d => ?_)
  · rw [if_neg k5]
    exact sr_one (n := 0) H J (R := vrs5 V) Q1.1 (fun _ _ => rfl) (by omega) k5 (Or.inl k2) (by decide)
  · rw [if_neg k5]
    exact dq_f48 _ _ _ _ _ d
theorem sr_fin2 (H : TR5 T X Bk N Z) (J : jS5 T X Bk N b f t s V W) (L : LR5 T X Bk N Z V W a b e σ) : sr5 (fun e' _ σ' => dP5 T X Bk N Z V W a b s e' σ') (rdB5 (f5_Pa_finish (Int32.ofNat s) 2 e) (fun e8 _ => f5_Pa_statement_268 e8)) (g5_sign 59 (g5_close 41 (g5_expression (g5_sign 44 (g5_expression (g5_open 40 σ)).1)).1)) := by
  unfold f5_Pa_finish f5_Pa_finish_44
  rw [if_neg (by decide), rdB_a5]
  refine sr_b5 (sr_open H L (by decide) (by decide)) (fun e1 _ n1 Q1 => ?_) (kq_sign (kq_close (kq_expression (kq_sign (kq_expression kq_rf))))) (fun p e1 _ d => ?_)
  · rw [if_neg (by decide)]
    exact sr_two H J (R := vrs5 V) Q1.1 (fun _ _ => rfl) (by omega)
  · rw [if_neg (by decide)]
    exact dq_f48 _ _ _ _ _ d
theorem sr_spr (H : TR5 T X Bk N Z) (J : jS5 T X Bk N b f t s V W) (L : LR5 T X Bk N Z V W a b e σ) : sr5 (fun e' _ σ' => dP5 T X Bk N Z V W a b s e' σ') (rdB5 (f5_Pa_spread (Int32.ofNat s) e) (fun e8 _ => f5_Pa_statement_268 e8)) (g5_tellDraw_77 fu5 0 (g5_isRight (g5_open 123 σ)) (g5_open 123 σ)) := by
  unfold f5_Pa_spread
  rw [rdB_a5]
  refine sr_b5 (sr_open H L (by decide) (by decide)) (fun e1 _ n1 Q1 => ?_) (kq_tellDraw_77 _ _ _ _ kq_rf) (fun p e1 _ d => dq_s10 _ _ _ _ d)
  obtain ⟨L1, _, _⟩ := Q1
  generalize g5_open 123 σ = σ1 at L1 ⊢
  rw [lr_ir5 L1]
  exact sr_sprL H J fu5 fu5 0 (a + 1) (vrs5 V) e1 σ1 L1 (fun _ _ => rfl) (by omega) (by decide) (by have := H.1; unfold fu5; omega)
theorem td_5 : g5_tellDraw σ = if g5_isWord 11 σ = 0 then (if g5_isWord 12 σ = 0 then g5_tellDraw_77 fu5 0 (g5_isRight (g5_open 123 σ)) (g5_open 123 σ) else g5_tellDraw_18 σ) else g5_tellDraw_18 σ := by
  unfold g5_tellDraw
  rw [pb_e5, pb_e5, pb_e5, pb_e5]
theorem td18_5 : g5_tellDraw_18 σ = if g5_isWord 12 σ = 0 then g5_sign 59 (g5_close 41 (g5_expression (g5_open 40 (g5_go σ))).1) else g5_sign 59 (g5_close 41 (g5_expression (g5_sign 44 (g5_expression (g5_open 40 (g5_go σ))).1)).1) := by
  unfold g5_tellDraw_18 g5_tellDraw_55
  rw [pb_e5, pb_e5, pb_e5, pm_e5, pb_e5, pb_e5, pb_e5, pm_e5, pb_e5, pb_e5]
end
