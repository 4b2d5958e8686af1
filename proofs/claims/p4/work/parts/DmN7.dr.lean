set_option maxHeartbeats 1600000
/-! values with their weights in brackets -/
section
variable {T : T5} {X : X5} {Bk N : Nat} {Z : Int32} {V : V5} {W : W5} {a b f t s : Nat} {e : E5} {σ : rS}
theorem dq_s10 {p : Int32} {k : Int32} : ∀ (m : Nat) (x2 x3 : Int32) (e : E5), dk5 p e → dq5 p (rdB5 (f5_Pa_spread_10 m k x2 x3 e) (fun e8 _ => f5_Pa_statement_268 e8))
  | 0, _, _, _, _ => Or.inl rfl
  | m + 1, x2, x3, e, d => by
    have cl : dq5 p (rdB5 (rdB5 (f5_Pa_closeSign 125 e) (fun e1 _ => .inl (e1, ()))) (fun e8 _ => f5_Pa_statement_268 e8)) := by
      rw [dx_close d (by decide)]
      exact Or.inr (Or.inl rfl)
    rw [f5_Pa_spread_10, rdB_f5, rdB_f5]
    refine dq_f5 cl (dq_f5 cl ?_)
    rw [rdB_a5]
    refine dq_b5 (dq_expr d) (fun e7 _ d7 => ?_)
    rw [dx_expect d7 (by decide)]
    exact Or.inr (Or.inl rfl)
theorem sr_end125 {R : Nat → Int32} {a1 m : Nat} {x : Int32} (H : TR5 T X Bk N Z) (L : LR5 T X Bk N Z (vr5 V R) W a1 (b + 1) e σ) (hR : ∀ i, i ≠ 11 * s + 4 → R i = vrs5 V i) (h : a < a1) : sr5 (fun e' _ σ' => dP5 T X Bk N Z V W a b s e' σ') (rdB5 (f5_Pa_spread_10 m (Int32.ofNat s) 0 x e) (fun e8 _ => f5_Pa_statement_268 e8)) (g5_tellDraw_172 σ) := by
  cases m with
  | zero => exact Or.inl rfl
  | succ m =>
    rw [f5_Pa_spread_10, if_pos rfl, rb_u5]
    unfold g5_tellDraw_172
    dsimp only [pb5]
    refine sr_b5 (sr_close H L (by decide) (by decide)) (fun e9 _ n9 Q9 => ?_) (by repeat' first | with_reducible exact kq_rf | dsimp only | with_reducible refine kq_go ?_ | with_reducible refine kq_sign ?_ | with_reducible refine kq_open ?_ | with_reducible refine kq_close ?_ | with_reducible refine kq_flaw ?_ | with_reducible refine kq_look ?_ | with_reducible refine kq_due ?_ | with_reducible refine kq_fresh ?_ | with_reducible refine kq_expression ?_ | with_reducible refine kq_openBlock ?_ | with_reducible refine kq_newStatement ?_ | with_reducible refine kq_turn ?_ | with_reducible refine kq_tellVar_87 ?_ | with_reducible refine kq_tellVar_82 ?_ | with_reducible refine kq_tellVar_53 ?_ | with_reducible refine kq_tellArr_56 ?_ | with_reducible refine kq_arguments ?_ | with_reducible refine kq_arguments_77 ?_ | with_reducible refine kq_tellDraw ?_ | with_reducible refine kq_tellDraw_18 ?_ | with_reducible refine kq_tellDraw_55 ?_ | with_reducible refine kq_tellDraw_172 ?_ | with_reducible refine kq_tellNamed_295 ?_ | with_reducible refine kq_tellNamed_244 ?_ | with_reducible refine kq_tellNamed_175 ?_ | with_reducible refine kq_tellNamed_133 ?_ | with_reducible refine kq_tellNamed_109 ?_ | with_reducible refine kq_tellNamed_90 ?_ | with_reducible refine kq_tellFunc_218 ?_ | with_reducible refine kq_tellFunc_74 ?_ | with_reducible refine kq_tellFunc_34 ?_ | with_reducible refine kq_tellStatements ?_ | with_reducible refine kq_tellStatement ?_ | with_reducible refine kq_endBlock ?_ | with_reducible refine kq_arguments_28 _ _ _ ?_ | with_reducible refine kq_tellDraw_77 _ _ _ _ ?_ | with_reducible refine kq_tellStatements_11 _ _ ?_ | with_reducible refine kq_tellFunc_102 _ _ _ _ ?_ | with_reducible refine kq_expression_12 _ _ _ ?_ | with_reducible refine kq_si (by decide) (by decide) ?_ | with_reducible refine kq_ri ?_ | with_reducible refine kq_if ?_ ?_ | with_reducible refine kq_ifp ?_ ?_) (fun p e9 _ d => ?_)
    · unfold f5_Pa_statement_268
      rw [rb_u5]
      exact sr_m5 (sr_pass H Q9.1 (by decide) (by decide)) (fun e10 _ Q10 => ⟨a1 + 1 + 1, R, by omega, Q10.1, hR⟩)
    · unfold f5_Pa_statement_268
      exact dq_x5 (dx_pass d (by decide))
theorem pb_e5 {α β : Type} {x : α} {k : α → β} : pb5 x k = k x := rfl
theorem pm_e5 {α β : Type} {q : rS × α} {k : rS → α → β} : pm5 q k = k q.1 q.2 := rfl
theorem t77_05 {m : Nat} {n : Int32} {σ : rS} : g5_tellDraw_77 (m + 1) n 0 σ = g5_tellDraw_172 σ := by
  rw [g5_tellDraw_77, pb_e5]
  by_cases c : g5_isRight σ = 0
  · rw [if_pos c]
  · rw [if_neg c, if_pos rfl]
theorem t77_s5 {m : Nat} {n : Int32} {σ σ3 : rS} (h0 : g5_isRight σ = 1) (h3 : (g5_expression σ).1 = σ3) : g5_tellDraw_77 (m + 1) n 1 σ = if g5_isRight σ3 = 0 then g5_tellDraw_125 (g5_tellDraw_77 m) n σ3 else if g5_isAt 58 σ3 = 0 then g5_tellDraw_125 (g5_tellDraw_77 m) n σ3 else if n = 8 then g5_tellDraw_125 (g5_tellDraw_77 m) n (g5_flaw 15 (σ3.1 10) σ3) else g5_tellDraw_125 (g5_tellDraw_77 m) n σ3 := by
  rw [g5_tellDraw_77, pb_e5, h0, if_neg ne105, if_neg ne105, pm_e5, pb_e5, pb_e5, pb_e5, h3]
theorem t125_5 {B : Int32 → Int32 → rS → rS} {n : Int32} {σ : rS} : g5_tellDraw_125 B n σ = if g5_isRight (g5_expression (g5_sign 58 σ)).1 = 0 then g5_tellDraw_160 B (n + 1) 0 (g5_expression (g5_sign 58 σ)).1 else if g5_isAt 44 (g5_expression (g5_sign 58 σ)).1 = 0 then g5_tellDraw_160 B (n + 1) 0 (g5_expression (g5_sign 58 σ)).1 else g5_tellDraw_160 B (n + 1) 1 (g5_expression (g5_sign 58 σ)).1 := by
  unfold g5_tellDraw_125
  rw [pb_e5, pm_e5, pb_e5, pb_e5, pb_e5]
theorem sr_sprL (H : TR5 T X Bk N Z) (J : jS5 T X Bk N b f t s V W) : ∀ (m mr n a1 : Nat) (R : Nat → Int32) (e : E5) (σ : rS), LR5 T X Bk N Z (vr5 V R) W a1 (b + 1) e σ → (∀ i, i ≠ 11 * s + 4 → R i = vrs5 V i) → a < a1 → n ≤ 8 → N - a1 + 3 ≤ mr → sr5 (fun e' _ σ' => dP5 T X Bk N Z V W a b s e' σ') (rdB5 (f5_Pa_spread_10 m (Int32.ofNat s) 1 (Int32.ofNat n) e) (fun e8 _ => f5_Pa_statement_268 e8)) (g5_tellDraw_77 mr (Int32.ofNat n) 1 σ)
  | 0, _, _, _, _, _, _, _, _, _, _, _ => Or.inl rfl
  | m + 1, mr, n, a1, R, e, σ, L, hR, ha1, hn, hmr => by
    have h1 := H.1
    have ha := L.2.2.1.1
    obtain ⟨mr, rfl⟩ : ∃ k, mr = k + 1 := ⟨mr - 1, by omega⟩
    have ln := ofn_i (n := n) (by omega)
    have l8 : (8 : Int32).toInt = 8 := rfl
    obtain ⟨R2, X2, hR2⟩ := sr_exR H J L hR
    have ih := sr_sprL H J m mr
    have kB : ∀ (s9 : rS) (x0 x1 : Int32) (σ9 : rS), kq5 s9 σ9 → kq5 s9 (g5_tellDraw_77 mr x0 x1 σ9) := fun s9 x0 x1 σ9 h9 => kq_tellDraw_77 _ _ _ _ h9
    have hm0 : ∀ (x : Int32) (τ : rS), g5_tellDraw_77 mr x 0 τ = g5_tellDraw_172 τ := fun x τ => by
      obtain ⟨k, rfl⟩ : ∃ k, mr = k + 1 := ⟨mr - 1, by omega⟩
      exact t77_05
    rw [f5_Pa_spread_10, if_neg ne105, if_neg (show ¬ (8 : Int32) < Int32.ofNat n by rw [lti, l8, ln]; omega), rdB_a5]
    obtain ⟨σ3, h3⟩ : ∃ σ3, (g5_expression σ).1 = σ3 := ⟨_, rfl⟩
    rw [t77_s5 (lr_ir5 L) h3]
    rw [h3] at X2
    generalize g5_tellDraw_77 mr = B at ih kB hm0 ⊢
    have k125 : ∀ {s9 τ : rS}, kq5 s9 τ → kq5 s9 (g5_tellDraw_125 B (Int32.ofNat n) τ) := fun h9 => kq_tellDraw_125 (kB _) h9
    refine xb_5 X2 (fun e7 a2 n7 L7 h7 _ => ?_) (kq_if (k125 kq_rf) (kq_if (k125 kq_rf) (kq_if (k125 (kq_flaw kq_rf)) (k125 kq_rf)))) (fun p e7 d => ?_) (fun a' d => ?_)
    · have ha2 := L7.2.2.1.1
      rw [lr_ir5 L7, if_neg ne105, lr_at5 H L7 (by decide) (by decide)]
      unfold f5_Pa_expect
      by_cases c : e7.1 paKind = 58
      · rw [if_pos c, if_pos c, if_neg ne105, rdl_5]
        by_cases c8 : n = 8
        · subst c8
          rw [if_neg (show ¬ Int32.ofNat 8 < 8 by decide), if_pos (show Int32.ofNat 8 = 8 from rfl), lr_rva5 H L7, rdr_5]
          exact sr_q5 (by decide) (lr_fl5 H L7).1 (lr_fl5 H L7).2 (k125 kq_rf)
        · have n8 : ¬ Int32.ofNat n = 8 := fun q => by
            have y := congrArg Int32.toInt q
            rw [ln, l8] at y
            omega
          rw [if_pos (show Int32.ofNat n < 8 by rw [lti, ln, l8]; omega), if_neg n8]
          have tp : f5_Pa_take e7 = f5_Pa_pass 58 e7 := by
            unfold f5_Pa_pass
            rw [if_pos c, rb_u5]
          unfold f5_Pa_spread_48
          rw [t125_5, tp, rdB_a5, on_15 (by omega)]
          have k160 : ∀ {s9 τ : rS} {x y : Int32}, kq5 s9 τ → kq5 s9 (g5_tellDraw_160 B x y τ) := fun h9 => kq_tellDraw_160 (kB _) h9
          refine sr_b5 (sr_pass H L7 (by decide) (by decide)) (fun e9 _ n9 Q9 => ?_) (kq_if (k160 (kq_expression kq_rf)) (kq_if (k160 (kq_expression kq_rf)) (k160 (kq_expression kq_rf)))) (fun p e9 _ d => ?_)
          · obtain ⟨L9, _, _⟩ := Q9
            generalize g5_sign 58 σ3 = σ4 at L9 ⊢
            obtain ⟨R3, X3, hR3⟩ := sr_exR H J L9 hR2
            rw [rdB_a5]
            generalize (g5_expression σ4).1 = σ5 at X3 ⊢
            refine xb_5 X3 (fun e10 a3 n10 L10 h10 _ => ?_) (kq_if (k160 kq_rf) (kq_if (k160 kq_rf) (k160 kq_rf))) (fun p e10 d => ?_) (fun a' d => ?_)
            · rw [rdB_f5, lr_ir5 L10, if_neg ne105, lr_at5 H L10 (by decide) (by decide)]
              unfold f5_Pa_spread_72 g5_tellDraw_160
              dsimp only [pb5]
              rw [on_15 (by omega)]
              by_cases c44 : e10.1 paKind = 44
              · rw [if_pos c44, if_neg ne105, if_pos c44, if_neg ne105, if_neg ne105, rdB_a5]
                refine sr_b5 (sr_take H L10 (by rw [c44]; decide)) (fun e11 _ n11 Q11 => ?_) (kB _ _ _ _ kq_rf) (fun p e11 _ d => dq_s10 m _ _ _ d)
                exact ih (n + 1) (a3 + 1) R3 e11 _ Q11.1 hR3 (by omega) (by omega) (by omega)
              · rw [if_neg c44, if_pos rfl, if_neg c44, if_pos rfl, if_pos rfl, hm0]
                exact sr_end125 H L10 hR3 (by omega)
            · rw [rdB_f5]
              refine dq_n5 d (by decide) ?_
              unfold f5_Pa_spread_72
              dsimp only [pb5]
              rw [if_pos rfl]
              exact dq_s10 m _ _ _ d
            · have ir : g5_isRight σ5 = 1 := if_pos d.2.2.1
              rw [ir, if_neg ne105, dc_at5 H d (by decide) (by decide) (by decide), if_pos rfl]
              unfold g5_tellDraw_160
              rw [if_pos rfl, hm0]
              unfold g5_tellDraw_172
              dsimp only [pb5]
              obtain ⟨f1, f2⟩ := dc_close (c := 125) H d (by decide) (by decide) (by decide)
              obtain ⟨g1, g2⟩ := kq_sign (a1 := 59) (kq_rf (s := g5_close 125 σ5)) (by rw [f1]; decide)
              exact ⟨g1.trans f1, g2.trans f2⟩
          · rw [rdB_a5]
            refine dq_b5 (dq_expr d) (fun e10 _ d10 => ?_)
            rw [rdB_f5]
            refine dq_n5 d10 (by decide) ?_
            unfold f5_Pa_spread_72
            dsimp only [pb5]
            rw [if_pos rfl]
            exact dq_s10 m _ _ _ d10
      · rw [if_neg c, if_neg c, if_pos rfl, lr_rva5 H L7, rdr_5, rdr_5]
        rw [t125_5]
        have sg : (g5_sign 58 σ3).1 11 = 2 ∧ (g5_sign 58 σ3).1 12 = T.2.2.1 a2 := by
          unfold g5_sign
          dsimp only [pb5]
          rw [lr_at5 H L7 (by decide) (by decide), if_neg c, if_pos rfl]
          exact lr_fl5 H L7
        have k160 : ∀ {s9 τ : rS} {x y : Int32}, kq5 s9 τ → kq5 s9 (g5_tellDraw_160 B x y τ) := fun h9 => kq_tellDraw_160 (kB _) h9
        exact sr_q5 (by decide) sg.1 sg.2 (kq_if (k160 (kq_expression kq_rf)) (kq_if (k160 (kq_expression kq_rf)) (k160 (kq_expression kq_rf))))
    · rw [dx_expect d (by decide)]
      exact Or.inr (Or.inl rfl)
    · have ir : g5_isRight σ3 = 1 := if_pos d.2.2.1
      rw [ir, if_neg ne105, dc_at5 H d (by decide) (by decide) (by decide), if_pos rfl]
      obtain ⟨f1, f2⟩ := dc_sign (c := 58) H d (by decide) (by decide) (by decide)
      rw [t125_5]
      have k160 : ∀ {s9 τ : rS} {x y : Int32}, kq5 s9 τ → kq5 s9 (g5_tellDraw_160 B x y τ) := fun h9 => kq_tellDraw_160 (kB _) h9
      have kq : kq5 (g5_sign 58 σ3) (if g5_isRight (g5_expression (g5_sign 58 σ3)).1 = 0 then g5_tellDraw_160 B (Int32.ofNat n + 1) 0 (g5_expression (g5_sign 58 σ3)).1 else if g5_isAt 44 (g5_expression (g5_sign 58 σ3)).1 = 0 then g5_tellDraw_160 B (Int32.ofNat n + 1) 0 (g5_expression (g5_sign 58 σ3)).1 else g5_tellDraw_160 B (Int32.ofNat n + 1) 1 (g5_expression (g5_sign 58 σ3)).1) := kq_if (k160 (kq_expression kq_rf)) (kq_if (k160 (kq_expression kq_rf)) (k160 (kq_expression kq_rf)))
      obtain ⟨g1, g2⟩ := kq (by rw [f1]; decide)
      exact ⟨g1.trans f1, g2.trans f2⟩
end
