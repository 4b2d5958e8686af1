set_option maxHeartbeats 1600000
/-! a function begins -/
theorem hf_f5 {σ : rS} {f : Nat} {x : Int32} : ∃ (σ' : rS) (r6 r7 : Nat → Int32), σ' = riU (riU (riU (siU σ 41 x) 27 f 0) 26 f 0) 29 f (-1) ∧ gS5 σ' = (σ.1 15, σ.2.2.1 20, σ.1 16, σ.2.2.1 22, σ.1 18, σ.2.2.1 25, r6, r7, σ.2.2.1 28, x, σ.1 19, σ.2.2.1 30, σ.2.2.1 32, σ.1 42, σ.2.2.1 43, σ.2.2.1 45) ∧ (∀ k, r6 k = if k = f then 0 else σ.2.2.1 26 k) ∧ (∀ k, r7 k = if k = f then 0 else σ.2.2.1 27 k) ∧ sx5 σ' = sx5 σ ∧ (σ'.1 2 = σ.1 2 ∧ σ'.1 10 = σ.1 10 ∧ σ'.1 11 = σ.1 11 ∧ σ'.1 46 = σ.1 46 ∧ σ'.1 47 = σ.1 47 ∧ σ'.1 13 = σ.1 13) := by
  refine ⟨_, _, _, rfl, rfl, fun k => ?_, fun k => ?_, rfl, rfl, rfl, rfl, rfl, rfl, rfl⟩
  · show (riU (riU (riU (siU σ 41 x) 27 f 0) 26 f 0) 29 f (-1)).2.2.1 26 k = _
    have h1 : (riU (siU σ 41 x) 27 f 0).2.2.1 26 k = σ.2.2.1 26 k := by rw [ri34, if_neg (by decide)]; rfl
    rw [ri34, if_neg (by decide), ri34, if_pos rfl, h1]
  · show (riU (riU (riU (siU σ 41 x) 27 f 0) 26 f 0) 29 f (-1)).2.2.1 27 k = _
    have h1 : (siU σ 41 x).2.2.1 27 k = σ.2.2.1 27 k := rfl
    rw [ri34, if_neg (by decide), ri34, if_neg (by decide), ri34, if_pos rfl, h1]
section
variable {T : T5} {X : X5} {Bk N : Nat} {Z : Int32} {a l : Nat} {e : E5} {σ : rS}
/-- between items -/
def oI5 (T : T5) (X : X5) (Bk N : Nat) (Z : Int32) (a s : Nat) (e : E5) (σ : rS) : Prop := LR5 T X Bk N Z (gE5 e) (gS5 σ) a 0 e σ ∧ nG5 T Bk N (gE5 e) (gS5 σ) ∧ e.1 paOwns = 0 ∧ e.1 paInside = 0 ∧ e.1 paBlocks = 0 ∧ SS5 T X Bk N s s (gE5 e) (gS5 σ)
theorem dq_head {p : Int32} {e : E5} (d : dk5 p e) : dq5 p (f5_Pa_functionHead e) := by
  unfold f5_Pa_functionHead
  exact dq_x5 (dx_newName d)
theorem sr_func {β : Type} {Q' : E5 → β → rS → Prop} {kc : E5 → Unit → R5 β} {s : Nat} (H : TR5 T X Bk N Z) (h : oI5 T X Bk N Z a s e σ) (hk : e.1 paKind = 152) (hd : ∀ p e, dk5 p e → dq5 p (kc e ())) (hK : ∀ e' σ' a' f t tok, e'.1 paKind ≠ 143 → a < a' → LR5 T X Bk N Z (gE5 e') (gS5 σ') a' 1 e' σ' → HI5 T Bk N f t 1 s (gE5 e') (gS5 σ') → SS5 T X Bk N s s (gE5 e') (gS5 σ') → tok = Int32.ofNat (Bk + t) → sr5 Q' (kc e' ()) (tlF5 fu5 tok σ')) : sr5 Q' (rdB5 (f5_Pa_item_35 152 e) kc) (g5_tellFunc σ) := by
  obtain ⟨L, G, hO, hi, hb, hS⟩ := h
  unfold f5_Pa_item_35 g5_tellFunc
  dsimp only [pb5, pm5]
  rw [rdB_a5]
  refine sr_b5 (sr_take H L (by rw [hk]; decide)) (fun e1 _ n1 Q1 => ?_) (by repeat' first | with_reducible exact kq_rf | dsimp only | with_reducible refine kq_go ?_ | with_reducible refine kq_sign ?_ | with_reducible refine kq_open ?_ | with_reducible refine kq_close ?_ | with_reducible refine kq_flaw ?_ | with_reducible refine kq_look ?_ | with_reducible refine kq_due ?_ | with_reducible refine kq_fresh ?_ | with_reducible refine kq_expression ?_ | with_reducible refine kq_openBlock ?_ | with_reducible refine kq_newStatement ?_ | with_reducible refine kq_turn ?_ | with_reducible refine kq_tellVar_87 ?_ | with_reducible refine kq_tellVar_82 ?_ | with_reducible refine kq_tellVar_53 ?_ | with_reducible refine kq_tellArr_56 ?_ | with_reducible refine kq_arguments ?_ | with_reducible refine kq_arguments_77 ?_ | with_reducible refine kq_tellDraw ?_ | with_reducible refine kq_tellDraw_18 ?_ | with_reducible refine kq_tellDraw_55 ?_ | with_reducible refine kq_tellDraw_172 ?_ | with_reducible refine kq_tellNamed_295 ?_ | with_reducible refine kq_tellNamed_244 ?_ | with_reducible refine kq_tellNamed_175 ?_ | with_reducible refine kq_tellNamed_133 ?_ | with_reducible refine kq_tellNamed_109 ?_ | with_reducible refine kq_tellNamed_90 ?_ | with_reducible refine kq_tellFunc_218 ?_ | with_reducible refine kq_tellFunc_74 ?_ | with_reducible refine kq_tellFunc_34 ?_ | with_reducible refine kq_tellStatements ?_ | with_reducible refine kq_tellStatement ?_ | with_reducible refine kq_endBlock ?_ | with_reducible refine kq_arguments_28 _ _ _ ?_ | with_reducible refine kq_tellDraw_77 _ _ _ _ ?_ | with_reducible refine kq_tellStatements_11 _ _ ?_ | with_reducible refine kq_tellFunc_102 _ _ _ _ ?_ | with_reducible refine kq_expression_12 _ _ _ ?_ | with_reducible refine kq_si (by decide) (by decide) ?_ | with_reducible refine kq_ri ?_ | with_reducible refine kq_if ?_ ?_ | with_reducible refine kq_ifp ?_ ?_) (fun p e1 _ d => ?_)
  · obtain ⟨L1, _, _⟩ := Q1
    rw [if_neg (by decide), if_neg (by decide), rb_u5]
    unfold f5_Pa_functionHead
    rw [rdB_a5]
    generalize g5_go σ = σ1 at L1 ⊢
    obtain ⟨v, p1, _⟩ := G.2.2.1
    have v10 := p1.1
    have z1 : e1.1 coFunctions = Int32.ofNat v := by
      have z : e1.1 512 = e.1 512 := congrArg (fun V : V5 => V.2.2.2.2.1) L1.2.1.1
      exact z.trans p1.2.1
    have z2 : σ1.1 18 = Int32.ofNat v := by
      have z : σ1.1 18 = σ.1 18 := congrArg (fun W : W5 => W.2.2.2.2.1) L1.2.1.2
      exact z.trans p1.2.2.1
    rw [z1, z2]
    refine sr_b5 (sr_new H L1 G (Or.inl ⟨rfl, hO⟩)) (fun e2 r n2 Q2 => ?_) (by repeat' first | with_reducible exact kq_rf | dsimp only | with_reducible refine kq_go ?_ | with_reducible refine kq_sign ?_ | with_reducible refine kq_open ?_ | with_reducible refine kq_close ?_ | with_reducible refine kq_flaw ?_ | with_reducible refine kq_look ?_ | with_reducible refine kq_due ?_ | with_reducible refine kq_fresh ?_ | with_reducible refine kq_expression ?_ | with_reducible refine kq_openBlock ?_ | with_reducible refine kq_newStatement ?_ | with_reducible refine kq_turn ?_ | with_reducible refine kq_tellVar_87 ?_ | with_reducible refine kq_tellVar_82 ?_ | with_reducible refine kq_tellVar_53 ?_ | with_reducible refine kq_tellArr_56 ?_ | with_reducible refine kq_arguments ?_ | with_reducible refine kq_arguments_77 ?_ | with_reducible refine kq_tellDraw ?_ | with_reducible refine kq_tellDraw_18 ?_ | with_reducible refine kq_tellDraw_55 ?_ | with_reducible refine kq_tellDraw_172 ?_ | with_reducible refine kq_tellNamed_295 ?_ | with_reducible refine kq_tellNamed_244 ?_ | with_reducible refine kq_tellNamed_175 ?_ | with_reducible refine kq_tellNamed_133 ?_ | with_reducible refine kq_tellNamed_109 ?_ | with_reducible refine kq_tellNamed_90 ?_ | with_reducible refine kq_tellFunc_218 ?_ | with_reducible refine kq_tellFunc_74 ?_ | with_reducible refine kq_tellFunc_34 ?_ | with_reducible refine kq_tellStatements ?_ | with_reducible refine kq_tellStatement ?_ | with_reducible refine kq_endBlock ?_ | with_reducible refine kq_arguments_28 _ _ _ ?_ | with_reducible refine kq_tellDraw_77 _ _ _ _ ?_ | with_reducible refine kq_tellStatements_11 _ _ ?_ | with_reducible refine kq_tellFunc_102 _ _ _ _ ?_ | with_reducible refine kq_expression_12 _ _ _ ?_ | with_reducible refine kq_si (by decide) (by decide) ?_ | with_reducible refine kq_ri ?_ | with_reducible refine kq_if ?_ ?_ | with_reducible refine kq_ifp ?_ ?_) (fun p e2 r d => ?_)
    · obtain ⟨L2, rfl, kt, htok, mm⟩ := Q2
      have ht := L1.2.2.1.1
      have hv10 : v < 10 := lt_n5 (m := 10) rfl (by omega) (by decide) mm
      generalize (g5_fresh 0 (Int32.ofNat v) 10 σ1).2 = tok at htok ⊢
      generalize (g5_fresh 0 (Int32.ofNat v) 10 σ1).1 = σ2 at L2 ⊢
      have z3 : σ2.1 18 = Int32.ofNat v := by
        have z : σ2.1 18 = σ.1 18 := congrArg (fun W : W5 => W.2.2.2.2.1) L2.2.1.2
        exact z.trans p1.2.2.1
      rw [rdB_a5, z3, if_neg (show ¬ (10 : Int32) ≤ Int32.ofNat v from fun q => absurd ((lti_n5 (m := 10) rfl (by omega) (by decide)).mp q) (by omega))]
      unfold g5_tellFunc_34
      dsimp only [pb5]
      have ir : g5_isRight (siU σ2 41 (Int32.ofNat v)) = 1 := if_pos (show (siU σ2 41 (Int32.ofNat v)).1 11 = 0 from L2.2.2.2.1.1)
      rw [ir, if_neg ne105]
      obtain ⟨σ3, r6, r7, u1, u2, u3, u4, u5, u6⟩ := hf_f5 (σ := σ2) (f := v) (x := Int32.ofNat v)
      have cv : ((siU σ2 41 (Int32.ofNat v)).1 41).toNatClampNeg = v := by
        show (Int32.ofNat v).toNatClampNeg = v
        exact cl_5 (by omega)
      show sr5 Q' _ (g5_tellFunc_74 tok (riU (riU (riU (siU σ2 41 (Int32.ofNat v)) 27 ((siU σ2 41 (Int32.ofNat v)).1 41).toNatClampNeg 0) 26 ((siU σ2 41 (Int32.ofNat v)).1 41).toNatClampNeg 0) 29 ((siU σ2 41 (Int32.ofNat v)).1 41).toNatClampNeg (-1)))
      rw [cv, ← u1]
      have hE : gE5 e2 = gE5 e := L2.2.1.1
      have hW : gS5 σ2 = gS5 σ := L2.2.1.2
      have L3 : LR5 T X Bk N Z (gE5 e2) (gS5 σ3) (a + 1 + 1) 0 e2 σ3 := lr_V5 L2 rfl ⟨rfl, rfl, rfl⟩ u5 u6
      rw [← hE, ← hW] at G
      rw [← hE, ← hW] at hS
      have lf : ∀ v' k : Nat, e2.1 512 = Int32.ofNat v' → v' ≤ 10 → k < v' → k ≠ v := fun v' k hv hv2 hk => by
        have z : e2.1 512 = e.1 512 := congrArg (fun V : V5 => V.2.2.2.2.1) hE
        have y := congrArg Int32.toInt (hv.symm.trans (z.trans p1.2.1))
        rw [ofn_i (by omega), ofn_i (by omega)] at y
        omega
      have G3 : nG5 T Bk N (gE5 e2) (gS5 σ3) := by
        refine nG_k5 G rfl rfl rfl rfl rfl (fun _ _ _ _ _ => rfl) (fun _ _ _ _ _ => rfl) rfl (by rw [u2]; rfl) (by rw [u2]; rfl) (by rw [u2]; rfl) (by rw [u2]; rfl) (by rw [u2]; rfl) (by rw [u2]; rfl) (fun v' k h1 h2 h3 => ?_)
        rw [u2]
        show r6 k = σ2.2.2.1 26 k
        rw [u3, if_neg (lf v' k h1 h2 h3)]
      have hS3 : SS5 T X Bk N s s (gE5 e2) (gS5 σ3) := SS_k5 hS rfl rfl (by rw [u2]; rfl) (by rw [u2]; rfl) (by rw [u2]; rfl)
      have O3 : fO5 T Bk N v 0 (gE5 e2) (gS5 σ3) := by
        refine ⟨hv10, by rw [u2], ?_, by decide, ?_, ?_, fun k hk => absurd hk (by omega)⟩
        · have z : e2.1 512 = e.1 512 := congrArg (fun V : V5 => V.2.2.2.2.1) hE
          exact z.trans p1.2.1
        · have z : e2.1 1010 = e.1 1010 := congrArg (fun V : V5 => vow5 V) hE
          exact z.trans hO
        · rw [u2]
          show r7 v = 0
          rw [u4, if_pos rfl]
      have i26 : σ3.2.2.1 26 v = Int32.ofNat 0 := by
        have z : σ3.2.2.1 26 = r6 := congrArg (fun W : W5 => w26_5 W) u2
        rw [z, u3, if_pos rfl]
        rfl
      unfold g5_tellFunc_74
      dsimp only [pb5]
      refine sr_b5 (sr_open H L3 (by decide) (by decide)) (fun e3 _ n3 Q3 => ?_) (by repeat' first | with_reducible exact kq_rf | dsimp only | with_reducible refine kq_go ?_ | with_reducible refine kq_sign ?_ | with_reducible refine kq_open ?_ | with_reducible refine kq_close ?_ | with_reducible refine kq_flaw ?_ | with_reducible refine kq_look ?_ | with_reducible refine kq_due ?_ | with_reducible refine kq_fresh ?_ | with_reducible refine kq_expression ?_ | with_reducible refine kq_openBlock ?_ | with_reducible refine kq_newStatement ?_ | with_reducible refine kq_turn ?_ | with_reducible refine kq_tellVar_87 ?_ | with_reducible refine kq_tellVar_82 ?_ | with_reducible refine kq_tellVar_53 ?_ | with_reducible refine kq_tellArr_56 ?_ | with_reducible refine kq_arguments ?_ | with_reducible refine kq_arguments_77 ?_ | with_reducible refine kq_tellDraw ?_ | with_reducible refine kq_tellDraw_18 ?_ | with_reducible refine kq_tellDraw_55 ?_ | with_reducible refine kq_tellDraw_172 ?_ | with_reducible refine kq_tellNamed_295 ?_ | with_reducible refine kq_tellNamed_244 ?_ | with_reducible refine kq_tellNamed_175 ?_ | with_reducible refine kq_tellNamed_133 ?_ | with_reducible refine kq_tellNamed_109 ?_ | with_reducible refine kq_tellNamed_90 ?_ | with_reducible refine kq_tellFunc_218 ?_ | with_reducible refine kq_tellFunc_74 ?_ | with_reducible refine kq_tellFunc_34 ?_ | with_reducible refine kq_tellStatements ?_ | with_reducible refine kq_tellStatement ?_ | with_reducible refine kq_endBlock ?_ | with_reducible refine kq_arguments_28 _ _ _ ?_ | with_reducible refine kq_tellDraw_77 _ _ _ _ ?_ | with_reducible refine kq_tellStatements_11 _ _ ?_ | with_reducible refine kq_tellFunc_102 _ _ _ _ ?_ | with_reducible refine kq_expression_12 _ _ _ ?_ | with_reducible refine kq_si (by decide) (by decide) ?_ | with_reducible refine kq_ri ?_ | with_reducible refine kq_if ?_ ?_ | with_reducible refine kq_ifp ?_ ?_) (fun p e3 _ d => ?_)
      · obtain ⟨L4, _, _⟩ := Q3
        generalize g5_open 40 σ3 = σ4 at L4 ⊢
        have hN : hN5 T X Bk N Z (a + 1 + 1 + 1) v 0 s e3 σ4 := by
          have hV4 := L4.2.1.1
          have hW4 := L4.2.1.2
          refine ⟨by rw [hV4, hW4]; exact L4, by rw [hV4, hW4]; exact G3, by rw [hV4, hW4]; exact O3, ?_, ?_, ?_, by rw [hV4, hW4]; exact hS3⟩
          · have z : σ4.2.2.1 26 = σ3.2.2.1 26 := congrArg (fun W : W5 => w26_5 W) hW4
            rw [z]; exact i26
          · have z : e3.1 1005 = e.1 1005 := congrArg (fun V : V5 => vin5 V) (hV4.trans hE)
            exact z.trans hi
          · have z : e3.1 1014 = e.1 1014 := congrArg (fun V : V5 => vbl5 V) (hV4.trans hE)
            exact z.trans hb
        rw [lr_ir5 L4, if_neg ne105, lr_at5 H L4 (by decide) (by decide)]
        unfold f5_Pa_functionHead_34
        have go : ∀ mo : Int32, mo = 0 ∨ mo = 1 → sr5 Q' (rdB5 (f5_Pa_functionHead_37 fu5 (Int32.ofNat (a + 1)) mo 0 e3) kc) (g5_tellFunc_102 fu5 tok mo σ4) := fun mo hmo =>
          sr_h37 (a := a) (f := v) (s := s) H ht kt hd (fun e' σ' a' q1 q2 q3 q4 q5 => hK e' σ' a' v (a + 1) tok q1 (by omega) q3 q4 q5 htok) fu5 fu5 0 (a + 1 + 1 + 1) mo e3 σ4 hN (by omega) (by omega) (by unfold fu5; omega) hmo
        by_cases c : e3.1 paKind = 41
        · rw [if_pos c, if_pos c, if_neg ne105]
          exact go 0 (Or.inl rfl)
        · rw [if_neg c, if_neg c, if_pos rfl]
          exact go 1 (Or.inr rfl)
      · unfold f5_Pa_functionHead_34
        exact dq_b5 (dq_n5 d (by decide) (dq_h37 _ _ _ _ _ d)) (fun e9 _ d9 => hd p e9 d9)
    · exact dq_b5 (dq_x5 (dx_open d (by decide))) (fun e9 _ d9 => hd p e9 d9)
  · rw [if_neg (by decide), if_neg (by decide), rb_u5]
    exact dq_b5 (dq_head d) (fun e9 _ d9 => hd p e9 d9)
end
