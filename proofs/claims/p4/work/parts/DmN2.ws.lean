set_option maxHeartbeats 1600000
/-! if, while; local -/
theorem dk_puB5 {p x y : Int32} {e : E5} (d : dk5 p e) : dq5 p (f5_Pa_pushBlock x y e) := by
  unfold f5_Pa_pushBlock
  refine dq_f5 (dq_i5 d) (dq_b5 (dq_sa5 d (by decide)) (fun e1 _ d1 => dq_b5 (dq_sa5 d1 (by decide)) (fun e2 _ d2 => dq_b5 (dq_sa5 d2 (by decide)) (fun e3 _ d3 => dq_b5 (dq_i5 (a := ()) d3) (fun e4 _ d4 => dq_i5 d4)))))
section
variable {T : T5} {X : X5} {Bk N : Nat} {Z : Int32} {V : V5} {W : W5} {a l b f t s : Nat} {e : E5} {σ : rS}
/-- a block of statement o opened -/
theorem sr_block {o q st : Nat} {y : Int32} (I : HI5 T Bk N f t b st V W) (S : SS5 T X Bk N q st V W) (L : LR5 T X Bk N Z V W a (b + 1) e σ) (ho : o < st) : ∃ e', f5_Pa_pushBlock (Int32.ofNat o) y e = .inl (e', ()) ∧ e'.1 paKind = e.1 paKind ∧ iS5 T X Bk N Z a (b + 1) f t q st e' (g5_openBlock (Int32.ofNat o) y σ) := by
  obtain ⟨hV, hW⟩ := L.2.1
  subst hV
  subst hW
  obtain ⟨G, ⟨w, O⟩, nc, fn, hi, bK, b0⟩ := I
  have hb : e.1 paBlocks = Int32.ofNat b := bK.1
  have b39 : b + 1 ≤ 40 := by have := L.2.2.2.2.2; omega
  have hln : e.2.2 paOwners = 41 := G.2.2.2.2.2.2.2
  have bK' := bK_p5 (x := Int32.ofNat o) (y := y) bK (by omega) (fun z => absurd z (by omega)) (fun _ => ⟨o, ho, rfl⟩)
  obtain ⟨e4, r1, r2, z1, z2, z3, z4⟩ := puB_f5 (x := Int32.ofNat o) (y := y) (b := b) (e := e)
  obtain ⟨σ4, b4, r3, r4, u1, u2, u3, u4⟩ := oB_f5 (x := Int32.ofNat o) (y := y) (σ := σ)
  rw [← z1, ← u1] at bK'
  refine ⟨e4, by rw [puB_5 hln hb (by omega), z1], z4.2.1, ?_⟩
  rw [← u1]
  refine ⟨lr_V5 L z3 z4 u3 u4, ⟨?_, ⟨w, ?_⟩, ?_, ?_, ?_, bK', by omega⟩, ?_⟩
  · exact nG_k5 G (by rw [z2]; rfl) (by rw [z2]; rfl) (by rw [z2]; rfl) (by rw [z2]; rfl) (by rw [z2]; rfl) (fun v k _ _ _ => by rw [z2]; rfl) (fun v k _ _ _ => by rw [z2]; rfl) (by rw [z2]; rfl) (by rw [u2]; rfl) (by rw [u2]; rfl) (by rw [u2]; rfl) (by rw [u2]; rfl) (by rw [u2]; rfl) (by rw [u2]; rfl) (fun v k _ _ _ => by rw [u2]; rfl)
  · exact fO_k5 O (by rw [z2]; rfl) (by rw [z2]; rfl) (by rw [z2]; rfl) (by rw [u2]; rfl) (by rw [u2]; rfl) (by rw [u2]; rfl)
  · rw [z2, u2]; exact nc
  · rw [z2]; exact fn
  · rw [z2]; exact hi
  · exact SS_k5 S (by rw [z2]; rfl) (by rw [z2]; rfl) (by rw [u2]; rfl) (by rw [u2]; rfl) (by rw [u2]; rfl)
theorem sr_w49 {k x : Int32} (H : TR5 T X Bk N Z) (J : jS5 T X Bk N b f t s V W) (L : LR5 T X Bk N Z V W a b e σ) (h142 : e.1 paKind ≠ 142) (hk : w30_5 W s = k) (k5 : k ≠ 5) (x5 : x ≠ 5) (hxk : x = 6 ↔ k = 6) : sr5 (fun e' _ σ' => eS5 T X Bk N Z a f t s e' σ') (rdB5 (f5_Pa_take e) (fun e2 _ => rdB5 (f5_Pa_expression (Int32.ofNat s) (-1) e2) (fun e5 _ => f5_Pa_wordStatement_49 (Int32.ofNat s) (Int32.ofNat s) 0 x e5))) (g5_openBlock (Int32.ofNat s) 0 (g5_open 123 (g5_expression (riU (g5_go σ) 32 s ((g5_go σ).1 10))).1)) := by
  have dm : ∀ p (e9 : E5), dk5 p e9 → dq5 p (f5_Pa_wordStatement_49 (Int32.ofNat s) (Int32.ofNat s) 0 x e9) := fun p e9 d => by
    unfold f5_Pa_wordStatement_49
    rw [stc_5, rdl_5]
    exact dq_x5 (dx_open (dk_st5 d) (by decide))
  refine sr_b5 (sr_take H L h142) (fun e1 _ n1 Q1 => ?_) (by repeat' first | with_reducible exact kq_rf | dsimp only | with_reducible refine kq_go ?_ | with_reducible refine kq_sign ?_ | with_reducible refine kq_open ?_ | with_reducible refine kq_close ?_ | with_reducible refine kq_flaw ?_ | with_reducible refine kq_look ?_ | with_reducible refine kq_due ?_ | with_reducible refine kq_fresh ?_ | with_reducible refine kq_expression ?_ | with_reducible refine kq_openBlock ?_ | with_reducible refine kq_newStatement ?_ | with_reducible refine kq_turn ?_ | with_reducible refine kq_tellVar_87 ?_ | with_reducible refine kq_tellVar_82 ?_ | with_reducible refine kq_tellVar_53 ?_ | with_reducible refine kq_tellArr_56 ?_ | with_reducible refine kq_arguments ?_ | with_reducible refine kq_arguments_77 ?_ | with_reducible refine kq_tellDraw ?_ | with_reducible refine kq_tellDraw_18 ?_ | with_reducible refine kq_tellDraw_55 ?_ | with_reducible refine kq_tellDraw_172 ?_ | with_reducible refine kq_tellNamed_295 ?_ | with_reducible refine kq_tellNamed_244 ?_ | with_reducible refine kq_tellNamed_175 ?_ | with_reducible refine kq_tellNamed_133 ?_ | with_reducible refine kq_tellNamed_109 ?_ | with_reducible refine kq_tellNamed_90 ?_ | with_reducible refine kq_tellFunc_218 ?_ | with_reducible refine kq_tellFunc_74 ?_ | with_reducible refine kq_tellFunc_34 ?_ | with_reducible refine kq_tellStatements ?_ | with_reducible refine kq_tellStatement ?_ | with_reducible refine kq_endBlock ?_ | with_reducible refine kq_arguments_28 _ _ _ ?_ | with_reducible refine kq_tellDraw_77 _ _ _ _ ?_ | with_reducible refine kq_tellStatements_11 _ _ ?_ | with_reducible refine kq_tellFunc_102 _ _ _ _ ?_ | with_reducible refine kq_expression_12 _ _ _ ?_ | with_reducible refine kq_si (by decide) (by decide) ?_ | with_reducible refine kq_ri ?_ | with_reducible refine kq_if ?_ ?_ | with_reducible refine kq_ifp ?_ ?_) (fun p e1 _ d => dq_b5 (dq_expr d) (fun e9 _ d9 => dm p e9 d9))
  obtain ⟨L1, _, _⟩ := Q1
  generalize g5_go σ = σ1 at L1 ⊢
  have L2 := lr_325 (i := s) (x := σ1.1 10) L1
  have J2 : jS5 T X Bk N b f t s V (ww5 W (w30_5 W) (fun j => if j = s then σ1.1 10 else w32_5 W j)) := js_v5 (R := vrs5 V) J (fun _ _ => rfl) (fun _ _ => rfl) (fun j hj => if_neg (by omega))
  have hk2 : w30_5 (ww5 W (w30_5 W) (fun j => if j = s then σ1.1 10 else w32_5 W j)) s = k := hk
  generalize ww5 W (w30_5 W) (fun j => if j = s then σ1.1 10 else w32_5 W j) = W2 at L2 J2 hk2
  generalize riU σ1 32 s (σ1.1 10) = σ2 at L2 ⊢
  have X3 := sr_expr (s := Int32.ofNat s) H J2.1.1 (HI_O5 J2.1) L2
  have J3 := js_ex5 (x := cl5 (Int32.ofNat s) 4 e1 + 1) J2
  generalize vr5 V (rst5 (Int32.ofNat s) 4 (cl5 (Int32.ofNat s) 4 e1 + 1) V) = V3 at X3 J3
  generalize (g5_expression σ2).1 = σ3 at X3 ⊢
  refine xb_5 X3 (fun e2 a' n2 L3 h3 _ => ?_) (by repeat' first | with_reducible exact kq_rf | dsimp only | with_reducible refine kq_go ?_ | with_reducible refine kq_sign ?_ | with_reducible refine kq_open ?_ | with_reducible refine kq_close ?_ | with_reducible refine kq_flaw ?_ | with_reducible refine kq_look ?_ | with_reducible refine kq_due ?_ | with_reducible refine kq_fresh ?_ | with_reducible refine kq_expression ?_ | with_reducible refine kq_openBlock ?_ | with_reducible refine kq_newStatement ?_ | with_reducible refine kq_turn ?_ | with_reducible refine kq_tellVar_87 ?_ | with_reducible refine kq_tellVar_82 ?_ | with_reducible refine kq_tellVar_53 ?_ | with_reducible refine kq_tellArr_56 ?_ | with_reducible refine kq_arguments ?_ | with_reducible refine kq_arguments_77 ?_ | with_reducible refine kq_tellDraw ?_ | with_reducible refine kq_tellDraw_18 ?_ | with_reducible refine kq_tellDraw_55 ?_ | with_reducible refine kq_tellDraw_172 ?_ | with_reducible refine kq_tellNamed_295 ?_ | with_reducible refine kq_tellNamed_244 ?_ | with_reducible refine kq_tellNamed_175 ?_ | with_reducible refine kq_tellNamed_133 ?_ | with_reducible refine kq_tellNamed_109 ?_ | with_reducible refine kq_tellNamed_90 ?_ | with_reducible refine kq_tellFunc_218 ?_ | with_reducible refine kq_tellFunc_74 ?_ | with_reducible refine kq_tellFunc_34 ?_ | with_reducible refine kq_tellStatements ?_ | with_reducible refine kq_tellStatement ?_ | with_reducible refine kq_endBlock ?_ | with_reducible refine kq_arguments_28 _ _ _ ?_ | with_reducible refine kq_tellDraw_77 _ _ _ _ ?_ | with_reducible refine kq_tellStatements_11 _ _ ?_ | with_reducible refine kq_tellFunc_102 _ _ _ _ ?_ | with_reducible refine kq_expression_12 _ _ _ ?_ | with_reducible refine kq_si (by decide) (by decide) ?_ | with_reducible refine kq_ri ?_ | with_reducible refine kq_if ?_ ?_ | with_reducible refine kq_ifp ?_ ?_) (fun p e2 d => dm p e2 d) (fun a' d => ?_)
  · unfold f5_Pa_wordStatement_49
    rw [stc_5, rdl_5]
    have L4 := lr_st5 (s := Int32.ofNat s) (c := 0) (x := x) L3
    have J4 := js_st5 (c := 0) (x := x) J3 (by decide)
    have z := rst_5 (s := s) (c := 0) (x := x) (V := V3) J3.2.1.2.1 (by omega) (by have := J3.2.2; omega) (by decide)
    have z2 : vrs5 (vr5 V3 (rst5 (Int32.ofNat s) 0 x V3)) (11 * s) = x := by
      show rst5 (Int32.ofNat s) (Int32.ofNat 0) x V3 (11 * s) = x
      rw [z]
      show (if 11 * s = 11 * s + 0 then x else _) = x
      rw [if_pos (by omega)]
    have J4' : jS5 T X Bk N b f t s (vr5 V3 (rst5 (Int32.ofNat s) 0 x V3)) W2 := J4
    generalize vr5 V3 (rst5 (Int32.ofNat s) 0 x V3) = V4 at L4 J4' z2
    refine sr_b5 (sr_open H L4 (by decide) (by decide)) (fun e3 _ n3 Q3 => ?_) (by repeat' first | with_reducible exact kq_rf | dsimp only | with_reducible refine kq_go ?_ | with_reducible refine kq_sign ?_ | with_reducible refine kq_open ?_ | with_reducible refine kq_close ?_ | with_reducible refine kq_flaw ?_ | with_reducible refine kq_look ?_ | with_reducible refine kq_due ?_ | with_reducible refine kq_fresh ?_ | with_reducible refine kq_expression ?_ | with_reducible refine kq_openBlock ?_ | with_reducible refine kq_newStatement ?_ | with_reducible refine kq_turn ?_ | with_reducible refine kq_tellVar_87 ?_ | with_reducible refine kq_tellVar_82 ?_ | with_reducible refine kq_tellVar_53 ?_ | with_reducible refine kq_tellArr_56 ?_ | with_reducible refine kq_arguments ?_ | with_reducible refine kq_arguments_77 ?_ | with_reducible refine kq_tellDraw ?_ | with_reducible refine kq_tellDraw_18 ?_ | with_reducible refine kq_tellDraw_55 ?_ | with_reducible refine kq_tellDraw_172 ?_ | with_reducible refine kq_tellNamed_295 ?_ | with_reducible refine kq_tellNamed_244 ?_ | with_reducible refine kq_tellNamed_175 ?_ | with_reducible refine kq_tellNamed_133 ?_ | with_reducible refine kq_tellNamed_109 ?_ | with_reducible refine kq_tellNamed_90 ?_ | with_reducible refine kq_tellFunc_218 ?_ | with_reducible refine kq_tellFunc_74 ?_ | with_reducible refine kq_tellFunc_34 ?_ | with_reducible refine kq_tellStatements ?_ | with_reducible refine kq_tellStatement ?_ | with_reducible refine kq_endBlock ?_ | with_reducible refine kq_arguments_28 _ _ _ ?_ | with_reducible refine kq_tellDraw_77 _ _ _ _ ?_ | with_reducible refine kq_tellStatements_11 _ _ ?_ | with_reducible refine kq_tellFunc_102 _ _ _ _ ?_ | with_reducible refine kq_expression_12 _ _ _ ?_ | with_reducible refine kq_si (by decide) (by decide) ?_ | with_reducible refine kq_ri ?_ | with_reducible refine kq_if ?_ ?_ | with_reducible refine kq_ifp ?_ ?_) (fun p e3 _ d => ?_)
    · obtain ⟨L5, _, _⟩ := Q3
      generalize g5_open 123 σ3 = σ4 at L5 ⊢
      have S5 : SS5 T X Bk N (s + 1) (s + 1) V4 W2 := by
        obtain ⟨c1, c2, c3, c4⟩ := J4'.2.1
        refine ⟨c1, c2, c3, fun j hj => ?_⟩
        by_cases c : j = s
        · rw [c]
          exact sS_n5 (by rw [z2]; exact x5) (by rw [hk2]; exact k5) (by rw [z2, hk2]; exact hxk)
        · exact c4 j (by omega)
      obtain ⟨e4, y1, y2, y3⟩ := sr_block (o := s) (y := 0) J4'.1 S5 L5 (by omega)
      rw [y1, rdl_5]
      exact sr_i5 (by rw [y2]; exact n3) ⟨a' + 1, b + 1, by omega, y3⟩
    · exact dq_b5 (dk_puB5 d) (fun e9 _ d9 => dq_i5 d9)
  · obtain ⟨f1, f2⟩ := dc_open (c := 123) H d (by decide) (by decide) (by decide)
    obtain ⟨g1, g2⟩ := kq_openBlock (a1 := Int32.ofNat s) (a2 := 0) (kq_rf (s := g5_open 123 σ3)) (by rw [f1]; decide)
    exact ⟨g1.trans f1, g2.trans f2⟩
end
