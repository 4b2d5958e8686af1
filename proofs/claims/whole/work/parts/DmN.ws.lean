section
set_option maxHeartbeats 1600000
/-! within a statement -/
def ww5 (W : W5) (r30 r32 : Nat → Int32) : W5 := (W.1, W.2.1, W.2.2.1, W.2.2.2.1, W.2.2.2.2.1, W.2.2.2.2.2.1, W.2.2.2.2.2.2.1, W.2.2.2.2.2.2.2.1, W.2.2.2.2.2.2.2.2.1, W.2.2.2.2.2.2.2.2.2.1, W.2.2.2.2.2.2.2.2.2.2.1, r30, r32, W.2.2.2.2.2.2.2.2.2.2.2.2.2)
/-- within statement s: what was told before it stands -/
def jS5 (T : T5) (X : X5) (Bk N b f t s : Nat) (V : V5) (W : W5) : Prop := HI5 T Bk N f t b (s + 1) V W ∧ SS5 T X Bk N s (s + 1) V W ∧ s < 150
theorem js_v5 {T : T5} {X : X5} {Bk N b f t s : Nat} {V : V5} {W : W5} {R r30 r32 : Nat → Int32} (h : jS5 T X Bk N b f t s V W) (hR : ∀ i, i < 11 * s → R i = vrs5 V i) (h30 : ∀ j, j < s → r30 j = w30_5 W j) (h32 : ∀ j, j < s → r32 j = w32_5 W j) : jS5 T X Bk N b f t s (vr5 V R) (ww5 W r30 r32) := by
  obtain ⟨h1, ⟨h2, h3, h4, h5⟩, h6⟩ := h
  exact ⟨h1, ⟨h2, h3, h4, fun j hj => sS_k5 (h5 j hj) (hR _ (by omega)) (hR _ (by omega)) (hR _ (by omega)) (h30 j hj) (h32 j hj)⟩, h6⟩
theorem ww_i5 {W : W5} : ww5 W (w30_5 W) (w32_5 W) = W := rfl
theorem rst_5 {s c : Nat} {x : Int32} {V : V5} {st : Nat} (hst : vst5 V = Int32.ofNat st) (hs : s < st) (hst2 : st ≤ 1000) (hc : c ≤ 10) : rst5 (Int32.ofNat s) (Int32.ofNat c) x V = fun j => if j = 11 * s + c then x else vrs5 V j := by
  have ls := ofn_i (n := s) (by omega)
  have lst := ofn_i (n := st) (by omega)
  unfold rst5
  rw [if_neg (by rw [lti, ls, t0i]; omega), if_neg (by rw [hst, lei, ls, lst]; omega), ix11_5 (n := 0) (by omega) (by omega) hc, ls]
  rfl
theorem cl_55 {s c st : Nat} {e : E5} (hst : e.1 coStatements = Int32.ofNat st) (hs : s < st) (hst2 : st ≤ 1000) (hc : c ≤ 10) : cl5 (Int32.ofNat s) (Int32.ofNat c) e = e.2.1 506 (11 * s + c) := by
  have ls := ofn_i (n := s) (by omega)
  have lst := ofn_i (n := st) (by omega)
  unfold cl5
  rw [if_neg (by rw [lti, ls, t0i]; omega), if_neg (by rw [hst, lei, ls, lst]; omega), ix11_5 (n := 0) (by omega) (by omega) hc, ls]
  rfl
section
variable {T : T5} {X : X5} {Bk N : Nat} {Z : Int32} {V : V5} {W : W5} {a l b f t s : Nat} {e : E5} {σ : rS}
theorem lr_325 {i : Nat} {x : Int32} (L : LR5 T X Bk N Z V W a l e σ) : LR5 T X Bk N Z V (ww5 W (w30_5 W) (fun j => if j = i then x else w32_5 W j)) a l e (riU σ 32 i x) := by
  obtain ⟨l1, ⟨l2, l3⟩, l4, l5, l6⟩ := L
  refine ⟨l1, ⟨l2, ?_⟩, l4, l5, l6⟩
  rw [← l3]
  have z : (riU σ 32 i x).2.2.1 32 = fun j => if j = i then x else σ.2.2.1 32 j := funext fun j => by rw [ri34, if_pos rfl]
  show (σ.1 15, σ.2.2.1 20, σ.1 16, σ.2.2.1 22, σ.1 18, σ.2.2.1 25, σ.2.2.1 26, σ.2.2.1 27, σ.2.2.1 28, σ.1 41, σ.1 19, σ.2.2.1 30, (riU σ 32 i x).2.2.1 32, σ.1 42, σ.2.2.1 43, σ.2.2.1 45) = _
  rw [z]
  rfl
theorem lr_305 {i : Nat} {x : Int32} (L : LR5 T X Bk N Z V W a l e σ) : LR5 T X Bk N Z V (ww5 W (fun j => if j = i then x else w30_5 W j) (w32_5 W)) a l e (riU σ 30 i x) := by
  obtain ⟨l1, ⟨l2, l3⟩, l4, l5, l6⟩ := L
  refine ⟨l1, ⟨l2, ?_⟩, l4, l5, l6⟩
  rw [← l3]
  have z : (riU σ 30 i x).2.2.1 30 = fun j => if j = i then x else σ.2.2.1 30 j := funext fun j => by rw [ri34, if_pos rfl]
  show (σ.1 15, σ.2.2.1 20, σ.1 16, σ.2.2.1 22, σ.1 18, σ.2.2.1 25, σ.2.2.1 26, σ.2.2.1 27, σ.2.2.1 28, σ.1 41, σ.1 19, (riU σ 30 i x).2.2.1 30, σ.2.2.1 32, σ.1 42, σ.2.2.1 43, σ.2.2.1 45) = _
  rw [z]
  rfl
/-- an expression of statement s -/
theorem js_ex5 {x : Int32} (h : jS5 T X Bk N b f t s V W) : jS5 T X Bk N b f t s (vr5 V (rst5 (Int32.ofNat s) 4 x V)) W := by
  have z := rst_5 (s := s) (c := 4) (x := x) h.2.1.2.1 (by omega) (by have := h.2.2; omega) (by decide)
  refine js_v5 (r30 := w30_5 W) (r32 := w32_5 W) h (fun i hi => ?_) (fun _ _ => rfl) (fun _ _ => rfl)
  have z' : rst5 (Int32.ofNat s) 4 x V = fun j => if j = 11 * s + 4 then x else vrs5 V j := z
  rw [z']
  exact if_neg (by omega)
theorem js_st5 {c : Nat} {x : Int32} (h : jS5 T X Bk N b f t s V W) (hc : c ≤ 10) : jS5 T X Bk N b f t s (vr5 V (rst5 (Int32.ofNat s) (Int32.ofNat c) x V)) W := by
  have z := rst_5 (s := s) (c := c) (x := x) h.2.1.2.1 (by omega) (by have := h.2.2; omega) hc
  refine js_v5 (r30 := w30_5 W) (r32 := w32_5 W) h (fun i hi => ?_) (fun _ _ => rfl) (fun _ _ => rfl)
  rw [z]
  exact if_neg (by omega)
/-- the end of a statement that is no call -/
def eS5 (T : T5) (X : X5) (Bk N : Nat) (Z : Int32) (a f t s : Nat) (e' : E5) (σ' : rS) : Prop := ∃ a' b', a < a' ∧ iS5 T X Bk N Z a' b' f t (s + 1) (s + 1) e' σ'
theorem js_e5 (h : jS5 T X Bk N b f t s V W) (L : LR5 T X Bk N Z V W a b e σ) (hs : sS5 T X Bk N (vrs5 V) (w30_5 W) (w32_5 W) s) : iS5 T X Bk N Z a b f t (s + 1) (s + 1) e σ := by
  obtain ⟨h1, ⟨h2, h3, h4, h5⟩, h6⟩ := h
  obtain ⟨hV, hW⟩ := L.2.1
  subst hV
  subst hW
  refine ⟨L, h1, by omega, h3, h4, fun j hj => ?_⟩
  by_cases c : j = s
  · rw [c]; exact hs
  · exact h5 j (by omega)
theorem sS_n5 {R r30 r32 : Nat → Int32} (h1 : R (11 * s) ≠ 5) (h2 : r30 s ≠ 5) (h3 : R (11 * s) = 6 ↔ r30 s = 6) : sS5 T X Bk N R r30 r32 s := ⟨⟨fun q => absurd q h1, fun q => absurd q h2⟩, h3, fun q => absurd q h1⟩
/-- return, observe, gain -/
theorem sr_w97 {k x : Int32} (H : TR5 T X Bk N Z) (J : jS5 T X Bk N b f t s V W) (L : LR5 T X Bk N Z V W a b e σ) (h142 : e.1 paKind ≠ 142) (hk : w30_5 W s = k) (k5 : k ≠ 5) (k6 : k ≠ 6) (x5 : x ≠ 5) (x6 : x ≠ 6) : sr5 (fun e' _ σ' => eS5 T X Bk N Z a f t s e' σ') (rdB5 (f5_Pa_take e) (fun e2 _ => rdB5 (f5_Pa_expression (Int32.ofNat s) (-1) e2) (fun e5 _ => f5_Pa_wordStatement_97 (Int32.ofNat s) 0 x e5))) (g5_sign 59 (g5_expression (riU (g5_go σ) 32 s ((g5_go σ).1 10))).1) := by
  refine sr_b5 (sr_take H L h142) (fun e1 _ n1 Q1 => ?_) (by repeat' first | with_reducible exact kq_rf | dsimp only | with_reducible refine kq_go ?_ | with_reducible refine kq_sign ?_ | with_reducible refine kq_open ?_ | with_reducible refine kq_close ?_ | with_reducible refine kq_flaw ?_ | with_reducible refine kq_look ?_ | with_reducible refine kq_due ?_ | with_reducible refine kq_fresh ?_ | with_reducible refine kq_expression ?_ | with_reducible refine kq_openBlock ?_ | with_reducible refine kq_newStatement ?_ | with_reducible refine kq_turn ?_ | with_reducible refine kq_tellVar_87 ?_ | with_reducible refine kq_tellVar_82 ?_ | with_reducible refine kq_tellVar_53 ?_ | with_reducible refine kq_tellArr_56 ?_ | with_reducible refine kq_arguments ?_ | with_reducible refine kq_arguments_77 ?_ | with_reducible refine kq_tellDraw ?_ | with_reducible refine kq_tellDraw_18 ?_ | with_reducible refine kq_tellDraw_55 ?_ | with_reducible refine kq_tellDraw_172 ?_ | with_reducible refine kq_tellNamed_295 ?_ | with_reducible refine kq_tellNamed_244 ?_ | with_reducible refine kq_tellNamed_175 ?_ | with_reducible refine kq_tellNamed_133 ?_ | with_reducible refine kq_tellNamed_109 ?_ | with_reducible refine kq_tellNamed_90 ?_ | with_reducible refine kq_tellFunc_218 ?_ | with_reducible refine kq_tellFunc_74 ?_ | with_reducible refine kq_tellFunc_34 ?_ | with_reducible refine kq_tellStatements ?_ | with_reducible refine kq_tellStatement ?_ | with_reducible refine kq_endBlock ?_ | with_reducible refine kq_arguments_28 _ _ _ ?_ | with_reducible refine kq_tellDraw_77 _ _ _ _ ?_ | with_reducible refine kq_tellStatements_11 _ _ ?_ | with_reducible refine kq_tellFunc_102 _ _ _ _ ?_ | with_reducible refine kq_expression_12 _ _ _ ?_ | with_reducible refine kq_si (by decide) (by decide) ?_ | with_reducible refine kq_ri ?_ | with_reducible refine kq_if ?_ ?_ | with_reducible refine kq_ifp ?_ ?_) (fun p e1 _ d => ?_)
  · obtain ⟨L1, _, _⟩ := Q1
    generalize g5_go σ = σ1 at L1 ⊢
    have L2 := lr_325 (i := s) (x := σ1.1 10) L1
    have J2 : jS5 T X Bk N b f t s V (ww5 W (w30_5 W) (fun j => if j = s then σ1.1 10 else w32_5 W j)) := js_v5 (R := vrs5 V) J (fun _ _ => rfl) (fun _ _ => rfl) (fun j hj => if_neg (by omega))
    generalize riU σ1 32 s (σ1.1 10) = σ2 at L2 ⊢
    have X3 := sr_expr (s := Int32.ofNat s) H J2.1.1 (HI_O5 J2.1) L2
    have J3 := js_ex5 (x := cl5 (Int32.ofNat s) 4 e1 + 1) J2
    generalize (g5_expression σ2).1 = σ3 at X3 ⊢
    refine xb_5 X3 (fun e2 a' n2 L3 h3 _ => ?_) (by repeat' first | with_reducible exact kq_rf | dsimp only | with_reducible refine kq_go ?_ | with_reducible refine kq_sign ?_ | with_reducible refine kq_open ?_ | with_reducible refine kq_close ?_ | with_reducible refine kq_flaw ?_ | with_reducible refine kq_look ?_ | with_reducible refine kq_due ?_ | with_reducible refine kq_fresh ?_ | with_reducible refine kq_expression ?_ | with_reducible refine kq_openBlock ?_ | with_reducible refine kq_newStatement ?_ | with_reducible refine kq_turn ?_ | with_reducible refine kq_tellVar_87 ?_ | with_reducible refine kq_tellVar_82 ?_ | with_reducible refine kq_tellVar_53 ?_ | with_reducible refine kq_tellArr_56 ?_ | with_reducible refine kq_arguments ?_ | with_reducible refine kq_arguments_77 ?_ | with_reducible refine kq_tellDraw ?_ | with_reducible refine kq_tellDraw_18 ?_ | with_reducible refine kq_tellDraw_55 ?_ | with_reducible refine kq_tellDraw_172 ?_ | with_reducible refine kq_tellNamed_295 ?_ | with_reducible refine kq_tellNamed_244 ?_ | with_reducible refine kq_tellNamed_175 ?_ | with_reducible refine kq_tellNamed_133 ?_ | with_reducible refine kq_tellNamed_109 ?_ | with_reducible refine kq_tellNamed_90 ?_ | with_reducible refine kq_tellFunc_218 ?_ | with_reducible refine kq_tellFunc_74 ?_ | with_reducible refine kq_tellFunc_34 ?_ | with_reducible refine kq_tellStatements ?_ | with_reducible refine kq_tellStatement ?_ | with_reducible refine kq_endBlock ?_ | with_reducible refine kq_arguments_28 _ _ _ ?_ | with_reducible refine kq_tellDraw_77 _ _ _ _ ?_ | with_reducible refine kq_tellStatements_11 _ _ ?_ | with_reducible refine kq_tellFunc_102 _ _ _ _ ?_ | with_reducible refine kq_expression_12 _ _ _ ?_ | with_reducible refine kq_si (by decide) (by decide) ?_ | with_reducible refine kq_ri ?_ | with_reducible refine kq_if ?_ ?_ | with_reducible refine kq_ifp ?_ ?_) (fun p e2 d => ?_) (fun a' d => dc_sign H d (by decide) (by decide) (by decide))
    · unfold f5_Pa_wordStatement_97
      rw [stc_5, rdl_5]
      have L4 := lr_st5 (s := Int32.ofNat s) (c := 0) (x := x) L3
      have J4 := js_st5 (c := 0) (x := x) J3 (by decide)
      refine sr_b5 (sr_pass H L4 (by decide) (by decide)) (fun e3 _ n3 Q3 => ?_) kq_rf (fun p e3 _ d => dq_i5 d)
      refine sr_i5 n3 ⟨a' + 1, b, by omega, js_e5 J4 Q3.1 (sS_n5 ?_ (by rw [show w30_5 (ww5 W (w30_5 W) (fun j => if j = s then σ1.1 10 else w32_5 W j)) s = w30_5 W s from rfl, hk]; exact k5) ?_)⟩
      · have z := rst_5 (s := s) (c := 0) (x := x) (V := vr5 V (rst5 (Int32.ofNat s) 4 (cl5 (Int32.ofNat s) 4 e1 + 1) V)) J3.2.1.2.1 (by omega) (by have := J3.2.2; omega) (by decide)
        show rst5 (Int32.ofNat s) (Int32.ofNat 0) x _ (11 * s) ≠ 5
        rw [z]
        show (if 11 * s = 11 * s + 0 then x else _) ≠ 5
        rw [if_pos (by omega)]
        exact x5
      · have z := rst_5 (s := s) (c := 0) (x := x) (V := vr5 V (rst5 (Int32.ofNat s) 4 (cl5 (Int32.ofNat s) 4 e1 + 1) V)) J3.2.1.2.1 (by omega) (by have := J3.2.2; omega) (by decide)
        have z2 : rst5 (Int32.ofNat s) (Int32.ofNat 0) x (vr5 V (rst5 (Int32.ofNat s) 4 (cl5 (Int32.ofNat s) 4 e1 + 1) V)) (11 * s) = x := by
          rw [z]
          show (if 11 * s = 11 * s + 0 then x else _) = x
          rw [if_pos (by omega)]
        refine ⟨fun q => absurd (z2.symm.trans q) x6, fun q => absurd (hk.symm.trans q) k6⟩
    · unfold f5_Pa_wordStatement_97
      rw [stc_5, rdl_5]
      exact dq_x5 (dx_pass (dk_st5 d) (by decide))
  · exact dq_b5 (dq_expr d) (fun e9 _ d9 => by
      unfold f5_Pa_wordStatement_97
      rw [stc_5, rdl_5]
      exact dq_x5 (dx_pass (dk_st5 d9) (by decide)))
end

end
section
set_option maxHeartbeats 1600000
/-! if, while; local -/
theorem dk_puB5 {p x y : Int32} {e : E5} (d : dk5 p e) : dq5 p (f5_Pa_pushBlock x y e) := by
  unfold f5_Pa_pushBlock
  refine dq_f5 (dq_i5 d) (dq_b5 (dq_sa5 d (by decide)) (fun e1 _ d1 => dq_b5 (dq_sa5 d1 (by decide)) (fun e2 _ d2 => dq_b5 (dq_sa5 d2 (by decide)) (fun e3 _ d3 => dq_b5 (dq_i5 (a := ()) d3) (fun e4 _ d4 => dq_i5 d4)))))
section
variable {T : T5} {X : X5} {Bk N : Nat} {Z : Int32} {V : V5} {W : W5} {a l b f t s : Nat} {e : E5} {σ : rS}
/-- a block of statement o opened -/
theorem sr_block {o q st : Nat} {y : Int32} (I : HI5 T Bk N f t b st V W) (S : SS5 T X Bk N q st V W) (L : LR5 T X Bk N Z V W a (b + 1) e σ) (ho : o < st) : ∃ e', f5_Pa_pushBlock (Int32.ofNat o) y e = .inl (e', ()) ∧ e'.1 paKind = e.1 paKind ∧ iS5 T X Bk N Z a (b + 1) f t q st e' (g5_openBlock (Int32.ofNat o) y σ) := by
  obtain ⟨hV, hW⟩ := L.2.1
  subst hV
  subst hW
  obtain ⟨G, ⟨w, O⟩, nc, fn, hi, bK, b0⟩ := I
  have hb : e.1 paBlocks = Int32.ofNat b := bK.1
  have b39 : b + 1 ≤ 40 := by have := L.2.2.2.2.2; omega
  have hln : e.2.2 paOwners = 41 := G.2.2.2.2.2.2.2
  have bK' := bK_p5 (x := Int32.ofNat o) (y := y) bK (by omega) (fun z => absurd z (by omega)) (fun _ => ⟨o, ho, rfl⟩)
  obtain ⟨e4, r1, r2, z1, z2, z3, z4⟩ := puB_f5 (x := Int32.ofNat o) (y := y) (b := b) (e := e)
  obtain ⟨σ4, b4, r3, r4, u1, u2, u3, u4⟩ := oB_f5 (x := Int32.ofNat o) (y := y) (σ := σ)
  rw [← z1, ← u1] at bK'
  refine ⟨e4, by rw [puB_5 hln hb (by omega), z1], z4.2.1, ?_⟩
  rw [← u1]
  refine ⟨lr_V5 L z3 z4 u3 u4, ⟨?_, ⟨w, ?_⟩, ?_, ?_, ?_, bK', by omega⟩, ?_⟩
  · exact nG_k5 G (by rw [z2]; rfl) (by rw [z2]; rfl) (by rw [z2]; rfl) (by rw [z2]; rfl) (by rw [z2]; rfl) (fun v k _ _ _ => by rw [z2]; rfl) (fun v k _ _ _ => by rw [z2]; rfl) (by rw [z2]; rfl) (by rw [u2]; rfl) (by rw [u2]; rfl) (by rw [u2]; rfl) (by rw [u2]; rfl) (by rw [u2]; rfl) (by rw [u2]; rfl) (fun v k _ _ _ => by rw [u2]; rfl)
  · exact fO_k5 O (by rw [z2]; rfl) (by rw [z2]; rfl) (by rw [z2]; rfl) (by rw [u2]; rfl) (by rw [u2]; rfl) (by rw [u2]; rfl)
  · rw [z2, u2]; exact nc
  · rw [z2]; exact fn
  · rw [z2]; exact hi
  · exact SS_k5 S (by rw [z2]; rfl) (by rw [z2]; rfl) (by rw [u2]; rfl) (by rw [u2]; rfl) (by rw [u2]; rfl)
theorem sr_w49 {k x : Int32} (H : TR5 T X Bk N Z) (J : jS5 T X Bk N b f t s V W) (L : LR5 T X Bk N Z V W a b e σ) (h142 : e.1 paKind ≠ 142) (hk : w30_5 W s = k) (k5 : k ≠ 5) (x5 : x ≠ 5) (hxk : x = 6 ↔ k = 6) : sr5 (fun e' _ σ' => eS5 T X Bk N Z a f t s e' σ') (rdB5 (f5_Pa_take e) (fun e2 _ => rdB5 (f5_Pa_expression (Int32.ofNat s) (-1) e2) (fun e5 _ => f5_Pa_wordStatement_49 (Int32.ofNat s) (Int32.ofNat s) 0 x e5))) (g5_openBlock (Int32.ofNat s) 0 (g5_open 123 (g5_expression (riU (g5_go σ) 32 s ((g5_go σ).1 10))).1)) := by
  have dm : ∀ p (e9 : E5), dk5 p e9 → dq5 p (f5_Pa_wordStatement_49 (Int32.ofNat s) (Int32.ofNat s) 0 x e9) := fun p e9 d => by
    unfold f5_Pa_wordStatement_49
    rw [stc_5, rdl_5]
    exact dq_x5 (dx_open (dk_st5 d) (by decide))
  refine sr_b5 (sr_take H L h142) (fun e1 _ n1 Q1 => ?_) (by repeat' first | with_reducible exact kq_rf | dsimp only | with_reducible refine kq_go ?_ | with_reducible refine kq_sign ?_ | with_reducible refine kq_open ?_ | with_reducible refine kq_close ?_ | with_reducible refine kq_flaw ?_ | with_reducible refine kq_look ?_ | with_reducible refine kq_due ?_ | with_reducible refine kq_fresh ?_ | with_reducible refine kq_expression ?_ | with_reducible refine kq_openBlock ?_ | with_reducible refine kq_newStatement ?_ | with_reducible refine kq_turn ?_ | with_reducible refine kq_tellVar_87 ?_ | with_reducible refine kq_tellVar_82 ?_ | with_reducible refine kq_tellVar_53 ?_ | with_reducible refine kq_tellArr_56 ?_ | with_reducible refine kq_arguments ?_ | with_reducible refine kq_arguments_77 ?_ | with_reducible refine kq_tellDraw ?_ | with_reducible refine kq_tellDraw_18 ?_ | with_reducible refine kq_tellDraw_55 ?_ | with_reducible refine kq_tellDraw_172 ?_ | with_reducible refine kq_tellNamed_295 ?_ | with_reducible refine kq_tellNamed_244 ?_ | with_reducible refine kq_tellNamed_175 ?_ | with_reducible refine kq_tellNamed_133 ?_ | with_reducible refine kq_tellNamed_109 ?_ | with_reducible refine kq_tellNamed_90 ?_ | with_reducible refine kq_tellFunc_218 ?_ | with_reducible refine kq_tellFunc_74 ?_ | with_reducible refine kq_tellFunc_34 ?_ | with_reducible refine kq_tellStatements ?_ | with_reducible refine kq_tellStatement ?_ | with_reducible refine kq_endBlock ?_ | with_reducible refine kq_arguments_28 _ _ _ ?_ | with_reducible refine kq_tellDraw_77 _ _ _ _ ?_ | with_reducible refine kq_tellStatements_11 _ _ ?_ | with_reducible refine kq_tellFunc_102 _ _ _ _ ?_ | with_reducible refine kq_expression_12 _ _ _ ?_ | with_reducible refine kq_si (by decide) (by decide) ?_ | with_reducible refine kq_ri ?_ | with_reducible refine kq_if ?_ ?_ | with_reducible refine kq_ifp ?_ ?_) (fun p e1 _ d => dq_b5 (dq_expr d) (fun e9 _ d9 => dm p e9 d9))
  obtain ⟨L1, _, _⟩ := Q1
  generalize g5_go σ = σ1 at L1 ⊢
  have L2 := lr_325 (i := s) (x := σ1.1 10) L1
  have J2 : jS5 T X Bk N b f t s V (ww5 W (w30_5 W) (fun j => if j = s then σ1.1 10 else w32_5 W j)) := js_v5 (R := vrs5 V) J (fun _ _ => rfl) (fun _ _ => rfl) (fun j hj => if_neg (by omega))
  have hk2 : w30_5 (ww5 W (w30_5 W) (fun j => if j = s then σ1.1 10 else w32_5 W j)) s = k := hk
  generalize ww5 W (w30_5 W) (fun j => if j = s then σ1.1 10 else w32_5 W j) = W2 at L2 J2 hk2
  generalize riU σ1 32 s (σ1.1 10) = σ2 at L2 ⊢
  have X3 := sr_expr (s := Int32.ofNat s) H J2.1.1 (HI_O5 J2.1) L2
  have J3 := js_ex5 (x := cl5 (Int32.ofNat s) 4 e1 + 1) J2
  generalize vr5 V (rst5 (Int32.ofNat s) 4 (cl5 (Int32.ofNat s) 4 e1 + 1) V) = V3 at X3 J3
  generalize (g5_expression σ2).1 = σ3 at X3 ⊢
  refine xb_5 X3 (fun e2 a' n2 L3 h3 _ => ?_) (by repeat' first | with_reducible exact kq_rf | dsimp only | with_reducible refine kq_go ?_ | with_reducible refine kq_sign ?_ | with_reducible refine kq_open ?_ | with_reducible refine kq_close ?_ | with_reducible refine kq_flaw ?_ | with_reducible refine kq_look ?_ | with_reducible refine kq_due ?_ | with_reducible refine kq_fresh ?_ | with_reducible refine kq_expression ?_ | with_reducible refine kq_openBlock ?_ | with_reducible refine kq_newStatement ?_ | with_reducible refine kq_turn ?_ | with_reducible refine kq_tellVar_87 ?_ | with_reducible refine kq_tellVar_82 ?_ | with_reducible refine kq_tellVar_53 ?_ | with_reducible refine kq_tellArr_56 ?_ | with_reducible refine kq_arguments ?_ | with_reducible refine kq_arguments_77 ?_ | with_reducible refine kq_tellDraw ?_ | with_reducible refine kq_tellDraw_18 ?_ | with_reducible refine kq_tellDraw_55 ?_ | with_reducible refine kq_tellDraw_172 ?_ | with_reducible refine kq_tellNamed_295 ?_ | with_reducible refine kq_tellNamed_244 ?_ | with_reducible refine kq_tellNamed_175 ?_ | with_reducible refine kq_tellNamed_133 ?_ | with_reducible refine kq_tellNamed_109 ?_ | with_reducible refine kq_tellNamed_90 ?_ | with_reducible refine kq_tellFunc_218 ?_ | with_reducible refine kq_tellFunc_74 ?_ | with_reducible refine kq_tellFunc_34 ?_ | with_reducible refine kq_tellStatements ?_ | with_reducible refine kq_tellStatement ?_ | with_reducible refine kq_endBlock ?_ | with_reducible refine kq_arguments_28 _ _ _ ?_ | with_reducible refine kq_tellDraw_77 _ _ _ _ ?_ | with_reducible refine kq_tellStatements_11 _ _ ?_ | with_reducible refine kq_tellFunc_102 _ _ _ _ ?_ | with_reducible refine kq_expression_12 _ _ _ ?_ | with_reducible refine kq_si (by decide) (by decide) ?_ | with_reducible refine kq_ri ?_ | with_reducible refine kq_if ?_ ?_ | with_reducible refine kq_ifp ?_ ?_) (fun p e2 d => dm p e2 d) (fun a' d => ?_)
  · unfold f5_Pa_wordStatement_49
    rw [stc_5, rdl_5]
    have L4 := lr_st5 (s := Int32.ofNat s) (c := 0) (x := x) L3
    have J4 := js_st5 (c := 0) (x := x) J3 (by decide)
    have z := rst_5 (s := s) (c := 0) (x := x) (V := V3) J3.2.1.2.1 (by omega) (by have := J3.2.2; omega) (by decide)
    have z2 : vrs5 (vr5 V3 (rst5 (Int32.ofNat s) 0 x V3)) (11 * s) = x := by
      show rst5 (Int32.ofNat s) (Int32.ofNat 0) x V3 (11 * s) = x
      rw [z]
      show (if 11 * s = 11 * s + 0 then x else _) = x
      rw [if_pos (by omega)]
    have J4' : jS5 T X Bk N b f t s (vr5 V3 (rst5 (Int32.ofNat s) 0 x V3)) W2 := J4
    generalize vr5 V3 (rst5 (Int32.ofNat s) 0 x V3) = V4 at L4 J4' z2
    refine sr_b5 (sr_open H L4 (by decide) (by decide)) (fun e3 _ n3 Q3 => ?_) (by repeat' first | with_reducible exact kq_rf | dsimp only | with_reducible refine kq_go ?_ | with_reducible refine kq_sign ?_ | with_reducible refine kq_open ?_ | with_reducible refine kq_close ?_ | with_reducible refine kq_flaw ?_ | with_reducible refine kq_look ?_ | with_reducible refine kq_due ?_ | with_reducible refine kq_fresh ?_ | with_reducible refine kq_expression ?_ | with_reducible refine kq_openBlock ?_ | with_reducible refine kq_newStatement ?_ | with_reducible refine kq_turn ?_ | with_reducible refine kq_tellVar_87 ?_ | with_reducible refine kq_tellVar_82 ?_ | with_reducible refine kq_tellVar_53 ?_ | with_reducible refine kq_tellArr_56 ?_ | with_reducible refine kq_arguments ?_ | with_reducible refine kq_arguments_77 ?_ | with_reducible refine kq_tellDraw ?_ | with_reducible refine kq_tellDraw_18 ?_ | with_reducible refine kq_tellDraw_55 ?_ | with_reducible refine kq_tellDraw_172 ?_ | with_reducible refine kq_tellNamed_295 ?_ | with_reducible refine kq_tellNamed_244 ?_ | with_reducible refine kq_tellNamed_175 ?_ | with_reducible refine kq_tellNamed_133 ?_ | with_reducible refine kq_tellNamed_109 ?_ | with_reducible refine kq_tellNamed_90 ?_ | with_reducible refine kq_tellFunc_218 ?_ | with_reducible refine kq_tellFunc_74 ?_ | with_reducible refine kq_tellFunc_34 ?_ | with_reducible refine kq_tellStatements ?_ | with_reducible refine kq_tellStatement ?_ | with_reducible refine kq_endBlock ?_ | with_reducible refine kq_arguments_28 _ _ _ ?_ | with_reducible refine kq_tellDraw_77 _ _ _ _ ?_ | with_reducible refine kq_tellStatements_11 _ _ ?_ | with_reducible refine kq_tellFunc_102 _ _ _ _ ?_ | with_reducible refine kq_expression_12 _ _ _ ?_ | with_reducible refine kq_si (by decide) (by decide) ?_ | with_reducible refine kq_ri ?_ | with_reducible refine kq_if ?_ ?_ | with_reducible refine kq_ifp ?_ ?_) (fun p e3 _ d => ?_)
    · obtain ⟨L5, _, _⟩ := Q3
      generalize g5_open 123 σ3 = σ4 at L5 ⊢
      have S5 : SS5 T X Bk N (s + 1) (s + 1) V4 W2 := by
        obtain ⟨c1, c2, c3, c4⟩ := J4'.2.1
        refine ⟨c1, c2, c3, fun j hj => ?_⟩
        by_cases c : j = s
        · rw [c]
          exact sS_n5 (by rw [z2]; exact x5) (by rw [hk2]; exact k5) (by rw [z2, hk2]; exact hxk)
        · exact c4 j (by omega)
      obtain ⟨e4, y1, y2, y3⟩ := sr_block (o := s) (y := 0) J4'.1 S5 L5 (by omega)
      rw [y1, rdl_5]
      exact sr_i5 (by rw [y2]; exact n3) ⟨a' + 1, b + 1, by omega, y3⟩
    · exact dq_b5 (dk_puB5 d) (fun e9 _ d9 => dq_i5 d9)
  · obtain ⟨f1, f2⟩ := dc_open (c := 123) H d (by decide) (by decide) (by decide)
    obtain ⟨g1, g2⟩ := kq_openBlock (a1 := Int32.ofNat s) (a2 := 0) (kq_rf (s := g5_open 123 σ3)) (by rw [f1]; decide)
    exact ⟨g1.trans f1, g2.trans f2⟩
end

end
section
set_option maxHeartbeats 1600000
/-! local -/
/-- the reference's local behind its new statement -/
def tlL5 (r2 : Int32) (σ1 : rS) : rS := pb5 (g5_go σ1) (fun σ3 => pm5 (g5_fresh ((1 : Int32)) ((σ3.2.2.1 27 ((σ3.1 41)).toNatClampNeg)) ((8 : Int32)) σ3) (fun σ5 r6 => pb5 (g5_sign ((61 : Int32)) σ5) (fun σ7 => pb5 (riU σ7 32 (r2).toNatClampNeg (σ7.1 10)) (fun σ9 => pm5 (g5_expression σ9) (fun σ10 r11 => pb5 (g5_sign ((59 : Int32)) σ10) (fun σ12 => pb5 (g5_isRight σ12) (fun r15 => (if r15 = 0 then σ12 else pb5 (riU σ12 39 (r6).toNatClampNeg ((100 : Int32) + (σ12.2.2.1 27 ((σ12.1 41)).toNatClampNeg))) (fun σ16 => pb5 (riU σ16 28 ((((8 : Int32) * (σ16.1 41)) + (σ16.2.2.1 27 ((σ16.1 41)).toNatClampNeg))).toNatClampNeg r6) (fun σ17 => pb5 (riU σ17 27 ((σ17.1 41)).toNatClampNeg ((σ17.2.2.1 27 ((σ17.1 41)).toNatClampNeg) + (1 : Int32))) (fun σ18 => σ18)))))))))))
theorem tlL_5 {σ : rS} : g5_tellLocal σ = tlL5 (g5_newStatement 1 σ).2 (g5_newStatement 1 σ).1 := by
  unfold g5_tellLocal tlL5
  dsimp only [pm5, pb5]
theorem rL_f5 {σ : rS} {i i0 f : Nat} {x y y0 : Int32} : ∃ (σ' : rS) (r7 r8 : Nat → Int32), σ' = riU (riU (riU σ 39 i0 y0) 28 i x) 27 f y ∧ gS5 σ' = (σ.1 15, σ.2.2.1 20, σ.1 16, σ.2.2.1 22, σ.1 18, σ.2.2.1 25, σ.2.2.1 26, r7, r8, σ.1 41, σ.1 19, σ.2.2.1 30, σ.2.2.1 32, σ.1 42, σ.2.2.1 43, σ.2.2.1 45) ∧ (∀ k, r7 k = if k = f then y else σ.2.2.1 27 k) ∧ (∀ k, r8 k = if k = i then x else σ.2.2.1 28 k) ∧ sx5 σ' = sx5 σ ∧ (σ'.1 2 = σ.1 2 ∧ σ'.1 10 = σ.1 10 ∧ σ'.1 11 = σ.1 11 ∧ σ'.1 46 = σ.1 46 ∧ σ'.1 47 = σ.1 47 ∧ σ'.1 13 = σ.1 13) := by
  refine ⟨_, _, _, rfl, rfl, fun k => ?_, fun k => ?_, rfl, rfl, rfl, rfl, rfl, rfl, rfl⟩
  · show (riU (riU (riU σ 39 i0 y0) 28 i x) 27 f y).2.2.1 27 k = _
    have h1 : (riU (riU σ 39 i0 y0) 28 i x).2.2.1 27 k = σ.2.2.1 27 k := by rw [ri34, if_neg (by decide), ri34, if_neg (by decide)]
    rw [ri34, if_pos rfl, h1]
  · show (riU (riU (riU σ 39 i0 y0) 28 i x) 27 f y).2.2.1 28 k = _
    have h1 : (riU σ 39 i0 y0).2.2.1 28 k = σ.2.2.1 28 k := by rw [ri34, if_neg (by decide)]
    rw [ri34, if_neg (by decide), ri34, if_pos rfl, h1]
section
variable {T : T5} {X : X5} {Bk N : Nat} {Z : Int32} {V : V5} {W : W5} {a l b f t s : Nat} {e : E5} {σ : rS}
/-- one own name more -/
theorem iS_a5 {q st t1 i0 : Nat} {x y0 : Int32} (h : iS5 T X Bk N Z a b f t q st e σ) (ho : ∃ w, w < 8 ∧ e.1 paOwns = Int32.ofNat w) (hx : x = Int32.ofNat (Bk + t1)) (ht : t1 < N) (kt : T.2.1 t1 = 140) : ∃ (e' : E5), f5_Pa_addOwn (Int32.ofNat t1) e = .inl (e', ()) ∧ e'.1 paKind = e.1 paKind ∧ iS5 T X Bk N Z a b f t q st e' (riU (riU (riU σ 39 i0 y0) 28 ((8 : Int32) * σ.1 41 + σ.2.2.1 27 (σ.1 41).toNatClampNeg).toNatClampNeg x) 27 (σ.1 41).toNatClampNeg (σ.2.2.1 27 (σ.1 41).toNatClampNeg + 1)) := by
  obtain ⟨L, ⟨G, ⟨w, o1, o2, o3, o4⟩, nc, fn, hi, bK, b0⟩, S⟩ := h
  obtain ⟨w', w8, ow'⟩ := ho
  have ow : e.1 paOwns = Int32.ofNat w := o4.2.1
  have hw : w < 8 := by
    have y := congrArg Int32.toInt (ow.symm.trans ow')
    have := o4.1
    rw [ofn_i (by omega), ofn_i (by omega)] at y
    omega
  have s41 : σ.1 41 = Int32.ofNat f := o2
  have s27 : σ.2.2.1 27 f = Int32.ofNat w := o4.2.2.1
  have c41 : (σ.1 41).toNatClampNeg = f := by rw [s41, cl_5 (by omega)]
  have i28 : ((8 : Int32) * σ.1 41 + Int32.ofNat w).toNatClampNeg = 8 * f + w := ix8_5 s41 (by omega) (by omega)
  rw [c41, s27, i28]
  obtain ⟨e', r, z1, z2, z3, z4, z5⟩ := aO_f5 (x := Int32.ofNat t1) ow hw
  obtain ⟨σ', r7, r8, u1, u2, u3, u4, u5, u6⟩ := rL_f5 (σ := σ) (i := 8 * f + w) (i0 := i0) (f := f) (x := x) (y := Int32.ofNat w + 1) (y0 := y0)
  rw [← u1]
  refine ⟨e', z1, z5.2.1, lr_V5 L z4 z5 u5 u6, ⟨?_, ⟨w + 1, o1, by rw [u2]; exact o2, by rw [z2]; exact o3, ?_⟩, ?_, ?_, ?_, ?_, b0⟩, ?_⟩
  · exact nG_k5 G (by rw [z2]; rfl) (by rw [z2]; rfl) (by rw [z2]; rfl) (by rw [z2]; rfl) (by rw [z2]; rfl) (fun v k _ _ _ => by rw [z2]; rfl) (fun v k _ _ _ => by rw [z2]; rfl) (by rw [z2]; rfl) (by rw [u2]; rfl) (by rw [u2]; rfl) (by rw [u2]; rfl) (by rw [u2]; rfl) (by rw [u2]; rfl) (by rw [u2]; rfl) (fun v k _ _ _ => by rw [u2]; rfl)
  · rw [z2, u2]
    refine pN_a5 o4 hw (by decide) ht kt ?_ ?_ z3 (fun k => ?_)
    · show Int32.ofNat (w + 1) = e.1 1010 + 1
      rw [show e.1 1010 = Int32.ofNat w from ow, on_15 (by omega)]
    · show r7 f = σ.2.2.1 27 f + 1
      rw [u3, if_pos rfl, s27]
    · show r8 (8 * f + k) = if k = w then Int32.ofNat (Bk + t1) else σ.2.2.1 28 (8 * f + k)
      rw [u4, hx]
      by_cases c : k = w
      · rw [if_pos c, if_pos (by omega)]
      · rw [if_neg c, if_neg (by omega)]
  · rw [z2, u2]; exact nc
  · rw [z2]; exact fn
  · rw [z2]; exact hi
  · obtain ⟨c1, c2, c3⟩ := bK
    refine ⟨by rw [z2]; exact c1, by rw [u2]; exact c2, ?_⟩
    rw [z2, u2]
    exact c3
  · exact SS_k5 S (by rw [z2]; rfl) (by rw [z2]; rfl) (by rw [u2]; rfl) (by rw [u2]; rfl) (by rw [u2]; rfl)
theorem sr_local (H : TR5 T X Bk N Z) (J : jS5 T X Bk N b f t s V W) (L : LR5 T X Bk N Z V W a b e σ) (h142 : e.1 paKind ≠ 142) (hk : w30_5 W s = 1) : sr5 (fun e' _ σ' => eS5 T X Bk N Z a f t s e' σ') (f5_Pa_localStatement (Int32.ofNat s) e) (tlL5 (Int32.ofNat s) σ) := by
  unfold f5_Pa_localStatement tlL5
  dsimp only [pb5, pm5]
  have cs : (Int32.ofNat s).toNatClampNeg = s := cl_5 (by have := J.2.2; omega)
  rw [cs]
  refine sr_b5 (sr_take H L h142) (fun e1 _ n1 Q1 => ?_) (by repeat' first | with_reducible exact kq_rf | dsimp only | with_reducible refine kq_go ?_ | with_reducible refine kq_sign ?_ | with_reducible refine kq_open ?_ | with_reducible refine kq_close ?_ | with_reducible refine kq_flaw ?_ | with_reducible refine kq_look ?_ | with_reducible refine kq_due ?_ | with_reducible refine kq_fresh ?_ | with_reducible refine kq_expression ?_ | with_reducible refine kq_openBlock ?_ | with_reducible refine kq_newStatement ?_ | with_reducible refine kq_turn ?_ | with_reducible refine kq_tellVar_87 ?_ | with_reducible refine kq_tellVar_82 ?_ | with_reducible refine kq_tellVar_53 ?_ | with_reducible refine kq_tellArr_56 ?_ | with_reducible refine kq_arguments ?_ | with_reducible refine kq_arguments_77 ?_ | with_reducible refine kq_tellDraw ?_ | with_reducible refine kq_tellDraw_18 ?_ | with_reducible refine kq_tellDraw_55 ?_ | with_reducible refine kq_tellDraw_172 ?_ | with_reducible refine kq_tellNamed_295 ?_ | with_reducible refine kq_tellNamed_244 ?_ | with_reducible refine kq_tellNamed_175 ?_ | with_reducible refine kq_tellNamed_133 ?_ | with_reducible refine kq_tellNamed_109 ?_ | with_reducible refine kq_tellNamed_90 ?_ | with_reducible refine kq_tellFunc_218 ?_ | with_reducible refine kq_tellFunc_74 ?_ | with_reducible refine kq_tellFunc_34 ?_ | with_reducible refine kq_tellStatements ?_ | with_reducible refine kq_tellStatement ?_ | with_reducible refine kq_endBlock ?_ | with_reducible refine kq_arguments_28 _ _ _ ?_ | with_reducible refine kq_tellDraw_77 _ _ _ _ ?_ | with_reducible refine kq_tellStatements_11 _ _ ?_ | with_reducible refine kq_tellFunc_102 _ _ _ _ ?_ | with_reducible refine kq_expression_12 _ _ _ ?_ | with_reducible refine kq_si (by decide) (by decide) ?_ | with_reducible refine kq_ri ?_ | with_reducible refine kq_if ?_ ?_ | with_reducible refine kq_ifp ?_ ?_) (fun p e1 _ d => dq_x5 (dx_newName d))
  obtain ⟨L1, _, _⟩ := Q1
  generalize g5_go σ = σ1 at L1 ⊢
  obtain ⟨w, O⟩ := J.1.2.1
  have ow : e1.1 paOwns = Int32.ofNat w := by
    have z : e1.1 1010 = vow5 V := congrArg (fun V : V5 => vow5 V) L1.2.1.1
    exact z.trans O.2.2.2.2.1
  have s27 : σ1.2.2.1 27 (σ1.1 41).toNatClampNeg = Int32.ofNat w := by
    have z1 : σ1.1 41 = wfn5 W := congrArg (fun W : W5 => wfn5 W) L1.2.1.2
    have z2 : σ1.2.2.1 27 = w27_5 W := congrArg (fun W : W5 => w27_5 W) L1.2.1.2
    rw [z1, O.2.1, cl_5 (by have := O.1; omega), z2]
    exact O.2.2.2.2.2.1
  rw [ow, s27]
  refine sr_b5 (sr_new H L1 J.1.1 (Or.inr ⟨rfl, HI_O5 J.1⟩)) (fun e2 r n2 Q2 => ?_) (by repeat' first | with_reducible exact kq_rf | dsimp only | with_reducible refine kq_go ?_ | with_reducible refine kq_sign ?_ | with_reducible refine kq_open ?_ | with_reducible refine kq_close ?_ | with_reducible refine kq_flaw ?_ | with_reducible refine kq_look ?_ | with_reducible refine kq_due ?_ | with_reducible refine kq_fresh ?_ | with_reducible refine kq_expression ?_ | with_reducible refine kq_openBlock ?_ | with_reducible refine kq_newStatement ?_ | with_reducible refine kq_turn ?_ | with_reducible refine kq_tellVar_87 ?_ | with_reducible refine kq_tellVar_82 ?_ | with_reducible refine kq_tellVar_53 ?_ | with_reducible refine kq_tellArr_56 ?_ | with_reducible refine kq_arguments ?_ | with_reducible refine kq_arguments_77 ?_ | with_reducible refine kq_tellDraw ?_ | with_reducible refine kq_tellDraw_18 ?_ | with_reducible refine kq_tellDraw_55 ?_ | with_reducible refine kq_tellDraw_172 ?_ | with_reducible refine kq_tellNamed_295 ?_ | with_reducible refine kq_tellNamed_244 ?_ | with_reducible refine kq_tellNamed_175 ?_ | with_reducible refine kq_tellNamed_133 ?_ | with_reducible refine kq_tellNamed_109 ?_ | with_reducible refine kq_tellNamed_90 ?_ | with_reducible refine kq_tellFunc_218 ?_ | with_reducible refine kq_tellFunc_74 ?_ | with_reducible refine kq_tellFunc_34 ?_ | with_reducible refine kq_tellStatements ?_ | with_reducible refine kq_tellStatement ?_ | with_reducible refine kq_endBlock ?_ | with_reducible refine kq_arguments_28 _ _ _ ?_ | with_reducible refine kq_tellDraw_77 _ _ _ _ ?_ | with_reducible refine kq_tellStatements_11 _ _ ?_ | with_reducible refine kq_tellFunc_102 _ _ _ _ ?_ | with_reducible refine kq_expression_12 _ _ _ ?_ | with_reducible refine kq_si (by decide) (by decide) ?_ | with_reducible refine kq_ri ?_ | with_reducible refine kq_if ?_ ?_ | with_reducible refine kq_ifp ?_ ?_) (fun p e2 r d => dq_x5 (dx_pass d (by decide)))
  obtain ⟨L2, rfl, kt, htok, mm⟩ := Q2
  have ht := L1.2.2.1.1
  have w8 : w < 8 := lt_n5 (m := 8) rfl (by have := O.2.2.2.1; omega) (by decide) mm
  generalize (g5_fresh 1 (Int32.ofNat w) 8 σ1).2 = tk at htok ⊢
  generalize (g5_fresh 1 (Int32.ofNat w) 8 σ1).1 = σ2 at L2 ⊢
  refine sr_b5 (sr_pass H L2 (by decide) (by decide)) (fun e3 _ n3 Q3 => ?_) (by repeat' first | with_reducible exact kq_rf | dsimp only | with_reducible refine kq_go ?_ | with_reducible refine kq_sign ?_ | with_reducible refine kq_open ?_ | with_reducible refine kq_close ?_ | with_reducible refine kq_flaw ?_ | with_reducible refine kq_look ?_ | with_reducible refine kq_due ?_ | with_reducible refine kq_fresh ?_ | with_reducible refine kq_expression ?_ | with_reducible refine kq_openBlock ?_ | with_reducible refine kq_newStatement ?_ | with_reducible refine kq_turn ?_ | with_reducible refine kq_tellVar_87 ?_ | with_reducible refine kq_tellVar_82 ?_ | with_reducible refine kq_tellVar_53 ?_ | with_reducible refine kq_tellArr_56 ?_ | with_reducible refine kq_arguments ?_ | with_reducible refine kq_arguments_77 ?_ | with_reducible refine kq_tellDraw ?_ | with_reducible refine kq_tellDraw_18 ?_ | with_reducible refine kq_tellDraw_55 ?_ | with_reducible refine kq_tellDraw_172 ?_ | with_reducible refine kq_tellNamed_295 ?_ | with_reducible refine kq_tellNamed_244 ?_ | with_reducible refine kq_tellNamed_175 ?_ | with_reducible refine kq_tellNamed_133 ?_ | with_reducible refine kq_tellNamed_109 ?_ | with_reducible refine kq_tellNamed_90 ?_ | with_reducible refine kq_tellFunc_218 ?_ | with_reducible refine kq_tellFunc_74 ?_ | with_reducible refine kq_tellFunc_34 ?_ | with_reducible refine kq_tellStatements ?_ | with_reducible refine kq_tellStatement ?_ | with_reducible refine kq_endBlock ?_ | with_reducible refine kq_arguments_28 _ _ _ ?_ | with_reducible refine kq_tellDraw_77 _ _ _ _ ?_ | with_reducible refine kq_tellStatements_11 _ _ ?_ | with_reducible refine kq_tellFunc_102 _ _ _ _ ?_ | with_reducible refine kq_expression_12 _ _ _ ?_ | with_reducible refine kq_si (by decide) (by decide) ?_ | with_reducible refine kq_ri ?_ | with_reducible refine kq_if ?_ ?_ | with_reducible refine kq_ifp ?_ ?_) (fun p e3 _ d => dq_b5 (dq_expr d) (fun e9 _ d9 => dq_x5 (dx_pass d9 (by decide))))
  obtain ⟨L3, _, _⟩ := Q3
  generalize g5_sign 61 σ2 = σ3 at L3 ⊢
  have L4 := lr_325 (i := s) (x := σ3.1 10) L3
  have J4 : jS5 T X Bk N b f t s V (ww5 W (w30_5 W) (fun j => if j = s then σ3.1 10 else w32_5 W j)) := js_v5 (R := vrs5 V) J (fun _ _ => rfl) (fun _ _ => rfl) (fun j hj => if_neg (by omega))
  have hk2 : w30_5 (ww5 W (w30_5 W) (fun j => if j = s then σ3.1 10 else w32_5 W j)) s = 1 := hk
  generalize ww5 W (w30_5 W) (fun j => if j = s then σ3.1 10 else w32_5 W j) = W2 at L4 J4 hk2
  generalize riU σ3 32 s (σ3.1 10) = σ4 at L4 ⊢
  have X5' := sr_expr (s := Int32.ofNat s) H J4.1.1 (HI_O5 J4.1) L4
  have J5 := js_ex5 (x := cl5 (Int32.ofNat s) 4 e3 + 1) J4
  have ow5 : vow5 (vr5 V (rst5 (Int32.ofNat s) 4 (cl5 (Int32.ofNat s) 4 e3 + 1) V)) = Int32.ofNat w := O.2.2.2.2.1
  generalize vr5 V (rst5 (Int32.ofNat s) 4 (cl5 (Int32.ofNat s) 4 e3 + 1) V) = V5' at X5' J5 ow5
  generalize (g5_expression σ4).1 = σ5 at X5' ⊢
  have dl : ∀ p (e9 : E5), dk5 p e9 → dq5 p (rdB5 (f5_Pa_setPlace (Int32.ofNat s) 2 (e9.1 paOwns) e9) (fun e21 _ => rdB5 (f5_Co_setColumn (Int32.ofNat s) 0 0 e21) (fun e25 _ => rdB5 (f5_Pa_addOwn (Int32.ofNat (a + 1)) e25) (fun e28 _ => .inl (e28, ()))))) := fun p e9 d => by
    unfold f5_Pa_setPlace
    rw [rdB_a5, stc_5, rdl_5, rdB_a5, stc_5, rdl_5, rdl_5, stc_5, rdl_5]
    exact dq_b5 (dq_addOwn (dk_st5 (dk_st5 (dk_st5 d)))) (fun e10 _ d10 => dq_i5 d10)
  refine xb_5 X5' (fun e5 a' n5 L5 h5 _ => ?_) (by repeat' first | with_reducible exact kq_rf | dsimp only | with_reducible refine kq_go ?_ | with_reducible refine kq_sign ?_ | with_reducible refine kq_open ?_ | with_reducible refine kq_close ?_ | with_reducible refine kq_flaw ?_ | with_reducible refine kq_look ?_ | with_reducible refine kq_due ?_ | with_reducible refine kq_fresh ?_ | with_reducible refine kq_expression ?_ | with_reducible refine kq_openBlock ?_ | with_reducible refine kq_newStatement ?_ | with_reducible refine kq_turn ?_ | with_reducible refine kq_tellVar_87 ?_ | with_reducible refine kq_tellVar_82 ?_ | with_reducible refine kq_tellVar_53 ?_ | with_reducible refine kq_tellArr_56 ?_ | with_reducible refine kq_arguments ?_ | with_reducible refine kq_arguments_77 ?_ | with_reducible refine kq_tellDraw ?_ | with_reducible refine kq_tellDraw_18 ?_ | with_reducible refine kq_tellDraw_55 ?_ | with_reducible refine kq_tellDraw_172 ?_ | with_reducible refine kq_tellNamed_295 ?_ | with_reducible refine kq_tellNamed_244 ?_ | with_reducible refine kq_tellNamed_175 ?_ | with_reducible refine kq_tellNamed_133 ?_ | with_reducible refine kq_tellNamed_109 ?_ | with_reducible refine kq_tellNamed_90 ?_ | with_reducible refine kq_tellFunc_218 ?_ | with_reducible refine kq_tellFunc_74 ?_ | with_reducible refine kq_tellFunc_34 ?_ | with_reducible refine kq_tellStatements ?_ | with_reducible refine kq_tellStatement ?_ | with_reducible refine kq_endBlock ?_ | with_reducible refine kq_arguments_28 _ _ _ ?_ | with_reducible refine kq_tellDraw_77 _ _ _ _ ?_ | with_reducible refine kq_tellStatements_11 _ _ ?_ | with_reducible refine kq_tellFunc_102 _ _ _ _ ?_ | with_reducible refine kq_expression_12 _ _ _ ?_ | with_reducible refine kq_si (by decide) (by decide) ?_ | with_reducible refine kq_ri ?_ | with_reducible refine kq_if ?_ ?_ | with_reducible refine kq_ifp ?_ ?_) (fun p e5 d => dq_x5 (dx_pass d (by decide))) (fun a' d => ?_)
  · refine sr_b5 (sr_pass H L5 (by decide) (by decide)) (fun e6 _ n6 Q6 => ?_) (by repeat' first | with_reducible exact kq_rf | dsimp only | with_reducible refine kq_go ?_ | with_reducible refine kq_sign ?_ | with_reducible refine kq_open ?_ | with_reducible refine kq_close ?_ | with_reducible refine kq_flaw ?_ | with_reducible refine kq_look ?_ | with_reducible refine kq_due ?_ | with_reducible refine kq_fresh ?_ | with_reducible refine kq_expression ?_ | with_reducible refine kq_openBlock ?_ | with_reducible refine kq_newStatement ?_ | with_reducible refine kq_turn ?_ | with_reducible refine kq_tellVar_87 ?_ | with_reducible refine kq_tellVar_82 ?_ | with_reducible refine kq_tellVar_53 ?_ | with_reducible refine kq_tellArr_56 ?_ | with_reducible refine kq_arguments ?_ | with_reducible refine kq_arguments_77 ?_ | with_reducible refine kq_tellDraw ?_ | with_reducible refine kq_tellDraw_18 ?_ | with_reducible refine kq_tellDraw_55 ?_ | with_reducible refine kq_tellDraw_172 ?_ | with_reducible refine kq_tellNamed_295 ?_ | with_reducible refine kq_tellNamed_244 ?_ | with_reducible refine kq_tellNamed_175 ?_ | with_reducible refine kq_tellNamed_133 ?_ | with_reducible refine kq_tellNamed_109 ?_ | with_reducible refine kq_tellNamed_90 ?_ | with_reducible refine kq_tellFunc_218 ?_ | with_reducible refine kq_tellFunc_74 ?_ | with_reducible refine kq_tellFunc_34 ?_ | with_reducible refine kq_tellStatements ?_ | with_reducible refine kq_tellStatement ?_ | with_reducible refine kq_endBlock ?_ | with_reducible refine kq_arguments_28 _ _ _ ?_ | with_reducible refine kq_tellDraw_77 _ _ _ _ ?_ | with_reducible refine kq_tellStatements_11 _ _ ?_ | with_reducible refine kq_tellFunc_102 _ _ _ _ ?_ | with_reducible refine kq_expression_12 _ _ _ ?_ | with_reducible refine kq_si (by decide) (by decide) ?_ | with_reducible refine kq_ri ?_ | with_reducible refine kq_if ?_ ?_ | with_reducible refine kq_ifp ?_ ?_) (fun p e6 _ d => dl p e6 d)
    obtain ⟨L6, _, _⟩ := Q6
    generalize g5_sign 59 σ5 = σ6 at L6 ⊢
    rw [lr_ir5 L6, if_neg ne105]
    unfold f5_Pa_setPlace
    rw [rdB_a5, stc_5, rdl_5, rdB_a5, stc_5, rdl_5, rdl_5, stc_5, rdl_5]
    have L7 := lr_st5 (s := Int32.ofNat s) (c := 1) (x := 2) L6
    have J7 := js_st5 (c := 1) (x := 2) J5 (by decide)
    have o7 : vow5 (vr5 V5' (rst5 (Int32.ofNat s) 1 2 V5')) = Int32.ofNat w := ow5
    have J7' : jS5 T X Bk N b f t s (vr5 V5' (rst5 (Int32.ofNat s) 1 2 V5')) W2 := J7
    generalize vr5 V5' (rst5 (Int32.ofNat s) 1 2 V5') = V7 at L7 J7' o7
    have L8 := lr_st5 (s := Int32.ofNat s) (c := 2) (x := e6.1 paOwns) L7
    have J8 : jS5 T X Bk N b f t s (vr5 V7 (rst5 (Int32.ofNat s) 2 (e6.1 paOwns) V7)) W2 := js_st5 (c := 2) (x := e6.1 paOwns) J7' (by decide)
    have o8 : vow5 (vr5 V7 (rst5 (Int32.ofNat s) 2 (e6.1 paOwns) V7)) = Int32.ofNat w := o7
    generalize vr5 V7 (rst5 (Int32.ofNat s) 2 (e6.1 paOwns) V7) = V8 at L8 J8 o8
    have L9 := lr_st5 (s := Int32.ofNat s) (c := 0) (x := 0) L8
    have J9 : jS5 T X Bk N b f t s (vr5 V8 (rst5 (Int32.ofNat s) 0 0 V8)) W2 := js_st5 (c := 0) (x := 0) J8 (by decide)
    have o9 : vow5 (vr5 V8 (rst5 (Int32.ofNat s) 0 0 V8)) = Int32.ofNat w := o8
    have z := rst_5 (s := s) (c := 0) (x := 0) (V := V8) J8.2.1.2.1 (by omega) (by have := J8.2.2; omega) (by decide)
    have z2 : vrs5 (vr5 V8 (rst5 (Int32.ofNat s) 0 0 V8)) (11 * s) = 0 := by
      show rst5 (Int32.ofNat s) (Int32.ofNat 0) 0 V8 (11 * s) = 0
      rw [z]
      show (if 11 * s = 11 * s + 0 then (0 : Int32) else _) = 0
      rw [if_pos (by omega)]
    generalize vr5 V8 (rst5 (Int32.ofNat s) 0 0 V8) = V9 at L9 J9 o9 z2
    generalize stc5 (Int32.ofNat s) 0 0 (stc5 (Int32.ofNat s) 2 (e6.1 paOwns) (stc5 (Int32.ofNat s) 1 2 e6)) = e9 at L9 ⊢
    have I9 := js_e5 J9 L9 (sS_n5 (by rw [z2]; decide) (by rw [hk2]; decide) (by rw [z2, hk2]; decide))
    have h9 : e9.1 paOwns = Int32.ofNat w := by
      have z : e9.1 1010 = vow5 V9 := congrArg (fun V : V5 => vow5 V) L9.2.1.1
      exact z.trans o9
    obtain ⟨e10, y1, y2, y3⟩ := iS_a5 (t1 := a + 1) (i0 := tk.toNatClampNeg) (y0 := (100 : Int32) + σ6.2.2.1 27 (σ6.1 41).toNatClampNeg) (x := tk) I9 ⟨w, w8, h9⟩ htok ht kt
    rw [y1, rdl_5]
    refine sr_i5 (by rw [y2]; exact lr_k5 L9) ⟨a' + 1, b, by omega, ?_⟩
    exact y3
  · obtain ⟨f1, f2⟩ := dc_sign (c := 59) H d (by decide) (by decide) (by decide)
    have kq : kq5 (g5_sign 59 σ5) (if g5_isRight (g5_sign 59 σ5) = 0 then g5_sign 59 σ5 else riU (riU (riU (g5_sign 59 σ5) 39 tk.toNatClampNeg ((100 : Int32) + (g5_sign 59 σ5).2.2.1 27 ((g5_sign 59 σ5).1 41).toNatClampNeg)) 28 ((8 : Int32) * (g5_sign 59 σ5).1 41 + (g5_sign 59 σ5).2.2.1 27 ((g5_sign 59 σ5).1 41).toNatClampNeg).toNatClampNeg tk) 27 ((g5_sign 59 σ5).1 41).toNatClampNeg ((g5_sign 59 σ5).2.2.1 27 ((g5_sign 59 σ5).1 41).toNatClampNeg + 1)) := kq_if kq_rf (kq_ri (kq_ri (kq_ri kq_rf)))
    obtain ⟨g1, g2⟩ := kq (by rw [f1]; decide)
    exact ⟨g1.trans f1, g2.trans f2⟩
end

end
section
set_option maxHeartbeats 1600000
/-! arguments, side by side -/
theorem sc_t5 {X : X5} {Bk a0 a1 a2 : Nat} {n n1 n2 : Int32} (h : sc5 X Bk a0 a1 0 n n1) (k : sc5 X Bk a1 a2 0 n1 n2) : sc5 X Bk a0 a2 0 n n2 := by
  refine ⟨by have := h.1; have := k.1; omega, fun σ m hx => ?_⟩
  have h1 := h.1
  have k1 := k.1
  rw [show m + (a2 - a0) = m + (a2 - a1) + (a1 - a0) by omega, h.2 σ (m + (a2 - a1)) hx]
  exact k.2 σ m hx
theorem sc_e5 {T : T5} {X : X5} {Bk N a0 a : Nat} {Z n n' : Int32} {σ : rS} (H : TR5 T X Bk N Z) (h : sc5 X Bk a0 a 0 n n') (ha : a < N) (hk : T.2.1 a = 41) (hx : sx5 σ = X) : g5_countArguments_45 fu5 (Int32.ofNat (Bk + a0)) 0 n σ = n' := by
  have h1 := H.1
  have h0 := h.1
  have kd := (kd_s5 (c := 41) (H.2.2.1 a ha) (by decide) (by decide)).mpr hk
  have z := h.2 σ (4294967295 - (a - a0) + 1) hx
  rw [show fu5 = 4294967295 - (a - a0) + 1 + (a - a0) by unfold fu5; omega, z, g5_countArguments_45]
  have e5 : σ.2.2.1 5 (Int32.ofNat (Bk + a)).toNatClampNeg = X.1 (Bk + a) := by rw [cl_5 (by omega), ← hx]; rfl
  have e7 : σ.2.2.1 7 (Int32.ofNat (Bk + a)).toNatClampNeg = X.2.2.1 (Bk + a) := by rw [cl_5 (by omega), ← hx]; rfl
  rw [if_neg (by decide), e5, e7, if_pos kd.1, if_pos kd.2]
section
variable {T : T5} {X : X5} {Bk N : Nat} {Z : Int32} {V : V5} {W : W5} {a0 b f t s : Nat}
theorem lr_cl5 {c : Int32} {a l : Nat} {e : E5} {σ : rS} (H : TR5 T X Bk N Z) (L : LR5 T X Bk N Z V W a l e σ) (h0 : 0 < c.toInt) (h1 : c.toInt < 128) (hc : ¬ e.1 paKind = c) : (g5_close c σ).1 11 = 2 ∧ (g5_close c σ).1 12 = T.2.2.1 a := by
  have L3 : LR5 T X Bk N Z V W a l e (siU σ 13 (σ.1 13 - 0)) := lr_fe5 L fe_r5 ⟨rfl, rfl, rfl, rfl, rfl, rfl, rfl, by show σ.1 13 - 0 = σ.1 13; exact Int32.sub_zero _⟩
  have e9 : g5_close c σ = g5_flaw 2 ((siU σ 13 (σ.1 13 - 0)).1 10) (siU σ 13 (σ.1 13 - 0)) := by
    unfold g5_close g5_close_18 g5_sign
    dsimp only [pb5]
    rw [lr_at5 H L h0 h1, if_neg hc, if_pos rfl]
    have e8 : g5_isAt c (siU σ 13 (σ.1 13 - 0)) = g5_isAt c σ := rfl
    rw [e8, lr_at5 H L h0 h1, if_neg hc, if_pos rfl]
  rw [e9]
  exact lr_fl5 H L3
/-- what a call's arguments leave: as many expressions as the reference counts -/
def arP5 (T : T5) (X : X5) (Bk N : Nat) (Z : Int32) (V : V5) (W : W5) (a0 b s : Nat) (e' : E5) (σ' : rS) : Prop := ∃ a' R n, a0 < a' ∧ LR5 T X Bk N Z (vr5 V R) W a' b e' σ' ∧ (∀ i, i ≠ 11 * s + 4 → R i = vrs5 V i) ∧ R (11 * s + 4) = n ∧ ∀ σ, sx5 σ = X → g5_countArguments_45 fu5 (Int32.ofNat (Bk + a0)) 0 1 σ = n
theorem dq_f48 {p : Int32} {k : Int32} : ∀ (m : Nat) (x2 x3 x4 : Int32) (e : E5), dk5 p e → dq5 p (rdB5 (f5_Pa_finish_48 m k x2 x3 x4 e) (fun e8 _ => f5_Pa_statement_268 e8))
  | 0, _, _, _, _, _ => Or.inl rfl
  | m + 1, x2, x3, x4, e, d => by
    have cl : dq5 p (rdB5 (rdB5 (f5_Pa_closeSign 41 e) (fun e1 _ => .inl (e1, ()))) (fun e8 _ => f5_Pa_statement_268 e8)) := by
      rw [dx_close d (by decide)]
      exact Or.inr (Or.inl rfl)
    rw [f5_Pa_finish_48, rdB_f5, rdB_f5]
    refine dq_f5 cl (dq_f5 cl ?_)
    rw [rdB_a5]
    refine dq_b5 (dq_expr d) (fun e7 _ d7 => ?_)
    have h107 : ∀ s0 : Int32, dq5 p (rdB5 (f5_Pa_finish_107 (f5_Pa_finish_48 m) k x2 x4 s0 e7) (fun e8 _ => f5_Pa_statement_268 e8)) := fun s0 => by
      unfold f5_Pa_finish_107
      dsimp only [pb5]
      rw [rdB_f5]
      refine dq_f5 (dq_f48 m _ _ _ _ d7) ?_
      rw [dx_pass d7 (by decide)]
      exact Or.inr (Or.inl rfl)
    rw [rdB_f5, rdB_f5, rdB_f5, rdB_f5]
    exact dq_f5 (dq_f5 (h107 _) (h107 _)) (dq_f5 (dq_f5 (h107 _) (h107 _)) (h107 _))
theorem sr_argL (H : TR5 T X Bk N Z) (J : jS5 T X Bk N b f t s V W) : ∀ (m mr j a1 : Nat) (R : Nat → Int32) (e : E5) (σ : rS), LR5 T X Bk N Z (vr5 V R) W a1 (b + 1) e σ → R (11 * s + 4) = Int32.ofNat j → (∀ i, i ≠ 11 * s + 4 → R i = vrs5 V i) → sc5 X Bk a0 a1 0 1 (Int32.ofNat (1 + j)) → j ≤ a1 → N - a1 + 2 ≤ mr → sr5 (fun e' _ σ' => arP5 T X Bk N Z V W a0 b s e' σ') (rdB5 (f5_Pa_finish_48 m (Int32.ofNat s) 5 1 (Int32.ofNat j) e) (fun e8 _ => f5_Pa_statement_268 e8)) (g5_arguments_28 mr 1 σ)
  | 0, _, _, _, _, _, _, _, _, _, _, _, _ => Or.inl rfl
  | m + 1, mr, j, a1, R, e, σ, L, hj, hR, sc, ja, hmr => by
    have h1 := H.1
    have ha := L.2.2.1.1
    have hs := J.2.2
    obtain ⟨mr, rfl⟩ : ∃ k, mr = k + 1 := ⟨mr - 1, by omega⟩
    have et : e.1 taTotal = Int32.ofNat N := by rw [← h1.1, ← L.1.1]; rfl
    have lj := ofn_i (n := j) (by omega)
    have lN := ofn_i (n := N) (by omega)
    have est : e.1 coStatements = Int32.ofNat (s + 1) := by
      have z : e.1 513 = vst5 V := congrArg (fun V : V5 => vst5 V) L.2.1.1
      exact z.trans J.2.1.2.1
    have er : e.2.1 506 = R := congrArg (fun V : V5 => vrs5 V) L.2.1.1
    have c4 : cl5 (Int32.ofNat s) 4 e = Int32.ofNat j := by
      have z := cl_55 (s := s) (c := 4) est (by omega) (by omega) (by decide)
      rw [er, hj] at z
      exact z
    rw [f5_Pa_finish_48, g5_arguments_28, if_neg ne105, et, if_neg (show ¬ Int32.ofNat N < Int32.ofNat j by rw [lti, lj, lN]; omega), rdB_a5]
    dsimp only [pb5, pm5]
    rw [lr_ir5 L, if_neg ne105, if_neg ne105]
    have G' : nG5 T Bk N (vr5 V R) W := nG_v5 J.1.1
    have O' : nO5 T Bk N (vr5 V R) W := nO_v5 (HI_O5 J.1)
    have X1 := sr_expr (s := Int32.ofNat s) H G' O' L
    rw [c4] at X1
    have zR := rst_5 (s := s) (c := 4) (x := Int32.ofNat j + 1) (V := vr5 V R) J.2.1.2.1 (by omega) (by omega) (by decide)
    have hR1 : rst5 (Int32.ofNat s) 4 (Int32.ofNat j + 1) (vr5 V R) = fun i => if i = 11 * s + 4 then Int32.ofNat j + 1 else R i := zR
    rw [hR1] at X1
    have hR2 : ∀ i, i ≠ 11 * s + 4 → (fun i => if i = 11 * s + 4 then Int32.ofNat j + 1 else R i) i = vrs5 V i := fun i hi => by
      show (if i = 11 * s + 4 then _ else R i) = _
      rw [if_neg hi]
      exact hR i hi
    have hR3 : (fun i => if i = 11 * s + 4 then Int32.ofNat j + 1 else R i) (11 * s + 4) = Int32.ofNat (j + 1) := by
      show (if 11 * s + 4 = 11 * s + 4 then Int32.ofNat j + 1 else _) = _
      rw [if_pos rfl, on_15 (by omega)]
    have X2 : xr5 T X Bk N Z (vr5 V (fun i => if i = 11 * s + 4 then Int32.ofNat j + 1 else R i)) W a1 (b + 1) (f5_Pa_expression (Int32.ofNat s) (-1) e) (g5_expression σ).1 := X1
    generalize (fun i => if i = 11 * s + 4 then Int32.ofNat j + 1 else R i) = R2 at X2 hR2 hR3
    clear X1
    generalize (g5_expression σ).1 = σ3 at X2 ⊢
    have kB : ∀ (x0 : Int32) (σ9 : rS), kq5 σ3 σ9 → kq5 σ3 (g5_arguments_28 mr x0 σ9) := fun x0 σ9 h9 => kq_arguments_28 _ _ _ h9
    have d107 : ∀ (p s0 : Int32) (e7 : E5), dk5 p e7 → dq5 p (rdB5 (f5_Pa_finish_107 (f5_Pa_finish_48 m) (Int32.ofNat s) 5 (Int32.ofNat j) s0 e7) (fun e8 _ => f5_Pa_statement_268 e8)) := fun p s0 e7 d7 => by
      unfold f5_Pa_finish_107
      dsimp only [pb5]
      rw [rdB_f5]
      refine dq_f5 (dq_f48 m _ _ _ _ d7) ?_
      rw [dx_pass d7 (by decide)]
      exact Or.inr (Or.inl rfl)
    refine xb_5 X2 (fun e7 a2 n7 L7 h7 sc7 => ?_) (kq_if (kq_arguments_65 kB kq_rf) (kq_if (kq_arguments_65 kB kq_rf) (kq_arguments_65 kB kq_rf))) (fun p e7 d => ?_) (fun a' d => ?_)
    · have ha2 := L7.2.2.1.1
      have kT := lr_K5 L7
      rw [if_pos rfl, rdB_f5, lr_ir5 L7, if_neg ne105, lr_at5 H L7 (by decide) (by decide)]
      have sc2 := sc_t5 sc (sc7 (Int32.ofNat (1 + j)))
      by_cases c : e7.1 paKind = 44
      · rw [if_pos c, if_pos c, if_neg ne105]
        unfold f5_Pa_finish_107 g5_arguments_65 f5_Pa_pass
        dsimp only [pb5]
        rw [if_neg ne105, if_neg ne105, if_pos c, rb_u5, rdB_a5]
        refine sr_b5 (sr_take H L7 (by rw [c]; decide)) (fun e9 _ n9 Q9 => ?_) (kq_arguments_28 _ _ _ kq_rf) (fun p e9 _ d => dq_f48 m _ _ _ _ d)
        rw [on_15 (by omega)]
        have k44 : T.2.1 a2 = 44 := by rw [kT]; exact c
        refine sr_argL H J m mr (j + 1) (a2 + 1) R2 e9 _ Q9.1 hR3 hR2 ?_ (by omega) (by omega)
        refine sc_s5 H sc2 ha2 (by decide) (Or.inr (Or.inr ⟨by rw [k44]; decide, rfl, Or.inr ⟨k44, rfl, ?_⟩⟩)) (fun w => by rw [k44] at w; exact absurd w (by decide))
        rw [on_15 (by omega)]
        rfl
      · rw [if_neg c, if_neg c, if_pos rfl]
        unfold f5_Pa_finish_107 g5_arguments_65
        dsimp only [pb5]
        rw [if_pos rfl, if_pos rfl]
        obtain ⟨mr, rfl⟩ : ∃ k, mr = k + 1 := ⟨mr - 1, by omega⟩
        cases m with
        | zero => exact Or.inl rfl
        | succ m =>
          rw [f5_Pa_finish_48, if_pos rfl, rb_u5, g5_arguments_28]
          dsimp only [pb5]
          rw [lr_ir5 L7, if_neg ne105, if_pos rfl]
          unfold g5_arguments_77
          dsimp only [pb5]
          by_cases c41 : e7.1 paKind = 41
          · refine sr_b5 (sr_close H L7 (by decide) (by decide)) (fun e9 _ n9 Q9 => ?_) (by repeat' first | with_reducible exact kq_rf | dsimp only | with_reducible refine kq_go ?_ | with_reducible refine kq_sign ?_ | with_reducible refine kq_open ?_ | with_reducible refine kq_close ?_ | with_reducible refine kq_flaw ?_ | with_reducible refine kq_look ?_ | with_reducible refine kq_due ?_ | with_reducible refine kq_fresh ?_ | with_reducible refine kq_expression ?_ | with_reducible refine kq_openBlock ?_ | with_reducible refine kq_newStatement ?_ | with_reducible refine kq_turn ?_ | with_reducible refine kq_tellVar_87 ?_ | with_reducible refine kq_tellVar_82 ?_ | with_reducible refine kq_tellVar_53 ?_ | with_reducible refine kq_tellArr_56 ?_ | with_reducible refine kq_arguments ?_ | with_reducible refine kq_arguments_77 ?_ | with_reducible refine kq_tellDraw ?_ | with_reducible refine kq_tellDraw_18 ?_ | with_reducible refine kq_tellDraw_55 ?_ | with_reducible refine kq_tellDraw_172 ?_ | with_reducible refine kq_tellNamed_295 ?_ | with_reducible refine kq_tellNamed_244 ?_ | with_reducible refine kq_tellNamed_175 ?_ | with_reducible refine kq_tellNamed_133 ?_ | with_reducible refine kq_tellNamed_109 ?_ | with_reducible refine kq_tellNamed_90 ?_ | with_reducible refine kq_tellFunc_218 ?_ | with_reducible refine kq_tellFunc_74 ?_ | with_reducible refine kq_tellFunc_34 ?_ | with_reducible refine kq_tellStatements ?_ | with_reducible refine kq_tellStatement ?_ | with_reducible refine kq_endBlock ?_ | with_reducible refine kq_arguments_28 _ _ _ ?_ | with_reducible refine kq_tellDraw_77 _ _ _ _ ?_ | with_reducible refine kq_tellStatements_11 _ _ ?_ | with_reducible refine kq_tellFunc_102 _ _ _ _ ?_ | with_reducible refine kq_expression_12 _ _ _ ?_ | with_reducible refine kq_si (by decide) (by decide) ?_ | with_reducible refine kq_ri ?_ | with_reducible refine kq_if ?_ ?_ | with_reducible refine kq_ifp ?_ ?_) (fun p e9 _ d => ?_)
            · unfold f5_Pa_statement_268
              rw [rb_u5]
              refine sr_m5 (sr_pass H Q9.1 (by decide) (by decide)) (fun e10 _ Q10 => ⟨a2 + 1 + 1, R2, Int32.ofNat (j + 1), by have := sc2.1; omega, Q10.1, hR2, hR3, fun σ9 hx => ?_⟩)
              have z := sc_e5 H sc2 ha2 (by rw [kT]; exact c41) hx
              rw [z, Nat.add_comm]
            · unfold f5_Pa_statement_268
              exact dq_x5 (dx_pass d (by decide))
          · obtain ⟨f1, f2⟩ := lr_cl5 (c := 41) H L7 (by decide) (by decide) c41
            have fx : f5_Pa_closeSign 41 e7 = .inr (2, T.2.2.1 a2) := by
              unfold f5_Pa_closeSign
              rw [if_neg c41, lr_rva5 H L7]
            rw [fx]
            exact sr_q5 (by decide) f1 f2 (by repeat' first | with_reducible exact kq_rf | dsimp only | with_reducible refine kq_go ?_ | with_reducible refine kq_sign ?_ | with_reducible refine kq_open ?_ | with_reducible refine kq_close ?_ | with_reducible refine kq_flaw ?_ | with_reducible refine kq_look ?_ | with_reducible refine kq_due ?_ | with_reducible refine kq_fresh ?_ | with_reducible refine kq_expression ?_ | with_reducible refine kq_openBlock ?_ | with_reducible refine kq_newStatement ?_ | with_reducible refine kq_turn ?_ | with_reducible refine kq_tellVar_87 ?_ | with_reducible refine kq_tellVar_82 ?_ | with_reducible refine kq_tellVar_53 ?_ | with_reducible refine kq_tellArr_56 ?_ | with_reducible refine kq_arguments ?_ | with_reducible refine kq_arguments_77 ?_ | with_reducible refine kq_tellDraw ?_ | with_reducible refine kq_tellDraw_18 ?_ | with_reducible refine kq_tellDraw_55 ?_ | with_reducible refine kq_tellDraw_172 ?_ | with_reducible refine kq_tellNamed_295 ?_ | with_reducible refine kq_tellNamed_244 ?_ | with_reducible refine kq_tellNamed_175 ?_ | with_reducible refine kq_tellNamed_133 ?_ | with_reducible refine kq_tellNamed_109 ?_ | with_reducible refine kq_tellNamed_90 ?_ | with_reducible refine kq_tellFunc_218 ?_ | with_reducible refine kq_tellFunc_74 ?_ | with_reducible refine kq_tellFunc_34 ?_ | with_reducible refine kq_tellStatements ?_ | with_reducible refine kq_tellStatement ?_ | with_reducible refine kq_endBlock ?_ | with_reducible refine kq_arguments_28 _ _ _ ?_ | with_reducible refine kq_tellDraw_77 _ _ _ _ ?_ | with_reducible refine kq_tellStatements_11 _ _ ?_ | with_reducible refine kq_tellFunc_102 _ _ _ _ ?_ | with_reducible refine kq_expression_12 _ _ _ ?_ | with_reducible refine kq_si (by decide) (by decide) ?_ | with_reducible refine kq_ri ?_ | with_reducible refine kq_if ?_ ?_ | with_reducible refine kq_ifp ?_ ?_)
    · rw [if_pos rfl, rdB_f5]
      exact dq_f5 (d107 p _ e7 d) (d107 p _ e7 d)
    · obtain ⟨mr, rfl⟩ : ∃ k, mr = k + 1 := ⟨mr - 1, by omega⟩
      have ir : g5_isRight σ3 = 1 := if_pos d.2.2.1
      rw [ir, if_neg ne105, dc_at5 H d (by decide) (by decide) (by decide), if_pos rfl]
      unfold g5_arguments_65
      rw [if_pos rfl, g5_arguments_28]
      dsimp only [pb5]
      rw [ir, if_neg ne105, if_pos rfl]
      unfold g5_arguments_77
      dsimp only [pb5]
      obtain ⟨f1, f2⟩ := dc_close (c := 41) H d (by decide) (by decide) (by decide)
      obtain ⟨g1, g2⟩ := kq_sign (a1 := 59) (kq_rf (s := g5_close 41 σ3)) (by rw [f1]; decide)
      exact ⟨g1.trans f1, g2.trans f2⟩
end

end
section
set_option maxHeartbeats 1600000
/-! a call's arguments whole -/
section
variable {T : T5} {X : X5} {Bk N : Nat} {Z : Int32} {V : V5} {W : W5} {a b f t s tc : Nat} {e : E5} {σ : rS}
theorem cA_5 (H : TR5 T X Bk N Z) (h2 : tc + 2 < N) (hx : sx5 σ = X) : g5_countArguments (Int32.ofNat (Bk + tc)) σ = if T.2.1 (tc + 2) = 41 then g5_countArguments_45 fu5 (Int32.ofNat (Bk + (tc + 2))) 0 0 σ else g5_countArguments_45 fu5 (Int32.ofNat (Bk + (tc + 2))) 0 1 σ := by
  have h1 := H.1
  have kd := kd_s5 (c := 41) (H.2.2.1 (tc + 2) h2) (by decide) (by decide)
  have v2 : Int32.ofNat (Bk + tc) + 2 = Int32.ofNat (Bk + (tc + 2)) := on_5 (b := 2) (by omega)
  have e5 : σ.2.2.1 5 (Int32.ofNat (Bk + (tc + 2))).toNatClampNeg = X.1 (Bk + (tc + 2)) := by rw [cl_5 (by omega), ← hx]; rfl
  have e7 : σ.2.2.1 7 (Int32.ofNat (Bk + (tc + 2))).toNatClampNeg = X.2.2.1 (Bk + (tc + 2)) := by rw [cl_5 (by omega), ← hx]; rfl
  unfold g5_countArguments g5_countArguments_30
  dsimp only [pb5]
  rw [v2, e5, e7]
  by_cases c : T.2.1 (tc + 2) = 41
  · obtain ⟨q1, q2⟩ := kd.mpr c
    rw [if_pos c, if_pos q1, if_pos q2, if_neg ne105]
  · rw [if_neg c]
    by_cases q1 : X.1 (Bk + (tc + 2)) = 3
    · rw [if_pos q1, if_neg (fun q2 => c (kd.mp ⟨q1, q2⟩)), if_pos rfl]
    · rw [if_neg q1, if_pos rfl]
theorem sr_args (H : TR5 T X Bk N Z) (J : jS5 T X Bk N b f t s V W) (L : LR5 T X Bk N Z V W (tc + 1) b e σ) (hE : vrs5 V (11 * s + 4) = 0) : sr5 (fun e' _ σ' => ∃ a' R, tc < a' ∧ LR5 T X Bk N Z (vr5 V R) W a' b e' σ' ∧ (∀ i, i ≠ 11 * s + 4 → R i = vrs5 V i) ∧ ∀ σ, sx5 σ = X → g5_countArguments (Int32.ofNat (Bk + tc)) σ = R (11 * s + 4)) (rdB5 (f5_Pa_finish (Int32.ofNat s) 5 e) (fun e8 _ => f5_Pa_statement_268 e8)) (g5_arguments σ) := by
  unfold f5_Pa_finish f5_Pa_finish_44 g5_arguments
  dsimp only [pb5]
  rw [if_neg (by decide), rdB_a5]
  have kB : ∀ (x0 : Int32) (σ9 s9 : rS), kq5 s9 σ9 → kq5 s9 (g5_arguments_28 fu5 x0 σ9) := fun x0 σ9 s9 h9 => kq_arguments_28 _ _ _ h9
  refine sr_b5 (sr_open H L (by decide) (by decide)) (fun e1 _ n1 Q1 => ?_) (kq_if (kB _ _ _ kq_rf) (kq_if (kB _ _ _ kq_rf) (kB _ _ _ kq_rf))) (fun p e1 _ d => ?_)
  · obtain ⟨L1, _, _⟩ := Q1
    generalize g5_open 40 σ = σ1 at L1 ⊢
    have ha := L1.2.2.1.1
    have kT := lr_K5 L1
    rw [if_pos rfl, rdB_f5, lr_ir5 L1, if_neg ne105, lr_at5 H L1 (by decide) (by decide)]
    by_cases c : e1.1 paKind = 41
    · rw [if_pos c, if_pos c, if_neg ne105]
      rw [show fu5 = 4294967295 + 1 from rfl, f5_Pa_finish_48, if_pos rfl, rb_u5, g5_arguments_28]
      dsimp only [pb5]
      rw [lr_ir5 L1, if_neg ne105, if_pos rfl]
      unfold g5_arguments_77
      dsimp only [pb5]
      refine sr_b5 (sr_close H L1 (by decide) (by decide)) (fun e9 _ n9 Q9 => ?_) (by repeat' first | with_reducible exact kq_rf | dsimp only | with_reducible refine kq_go ?_ | with_reducible refine kq_sign ?_ | with_reducible refine kq_open ?_ | with_reducible refine kq_close ?_ | with_reducible refine kq_flaw ?_ | with_reducible refine kq_look ?_ | with_reducible refine kq_due ?_ | with_reducible refine kq_fresh ?_ | with_reducible refine kq_expression ?_ | with_reducible refine kq_openBlock ?_ | with_reducible refine kq_newStatement ?_ | with_reducible refine kq_turn ?_ | with_reducible refine kq_tellVar_87 ?_ | with_reducible refine kq_tellVar_82 ?_ | with_reducible refine kq_tellVar_53 ?_ | with_reducible refine kq_tellArr_56 ?_ | with_reducible refine kq_arguments ?_ | with_reducible refine kq_arguments_77 ?_ | with_reducible refine kq_tellDraw ?_ | with_reducible refine kq_tellDraw_18 ?_ | with_reducible refine kq_tellDraw_55 ?_ | with_reducible refine kq_tellDraw_172 ?_ | with_reducible refine kq_tellNamed_295 ?_ | with_reducible refine kq_tellNamed_244 ?_ | with_reducible refine kq_tellNamed_175 ?_ | with_reducible refine kq_tellNamed_133 ?_ | with_reducible refine kq_tellNamed_109 ?_ | with_reducible refine kq_tellNamed_90 ?_ | with_reducible refine kq_tellFunc_218 ?_ | with_reducible refine kq_tellFunc_74 ?_ | with_reducible refine kq_tellFunc_34 ?_ | with_reducible refine kq_tellStatements ?_ | with_reducible refine kq_tellStatement ?_ | with_reducible refine kq_endBlock ?_ | with_reducible refine kq_arguments_28 _ _ _ ?_ | with_reducible refine kq_tellDraw_77 _ _ _ _ ?_ | with_reducible refine kq_tellStatements_11 _ _ ?_ | with_reducible refine kq_tellFunc_102 _ _ _ _ ?_ | with_reducible refine kq_expression_12 _ _ _ ?_ | with_reducible refine kq_si (by decide) (by decide) ?_ | with_reducible refine kq_ri ?_ | with_reducible refine kq_if ?_ ?_ | with_reducible refine kq_ifp ?_ ?_) (fun p e9 _ d => ?_)
      · unfold f5_Pa_statement_268
        rw [rb_u5]
        refine sr_m5 (sr_pass H Q9.1 (by decide) (by decide)) (fun e10 _ Q10 => ⟨tc + 1 + 1 + 1 + 1, vrs5 V, by omega, Q10.1, fun _ _ => rfl, fun σ9 hx => ?_⟩)
        have k41 : T.2.1 (tc + 2) = 41 := kT.trans c
        rw [cA_5 H ha hx, if_pos k41, hE]
        exact sc_e5 H sc_r5 ha k41 hx
      · unfold f5_Pa_statement_268
        exact dq_x5 (dx_pass d (by decide))
    · rw [if_neg c, if_neg c, if_pos rfl]
      have z := sr_argL (a0 := tc + 2) H J fu5 fu5 0 (tc + 2) (vrs5 V) e1 σ1 L1 hE (fun _ _ => rfl) sc_r5 (by omega) (by have := H.1; unfold fu5; omega)
      refine sr_m5 z (fun e' _ Q => ?_)
      obtain ⟨a', R, n, q1, q2, q3, q4, q5⟩ := Q
      refine ⟨a', R, by omega, q2, q3, fun σ9 hx => ?_⟩
      rw [cA_5 H ha hx, if_neg (fun k41 => c (by rw [← kT]; exact k41)), q4]
      exact q5 σ9 hx
  · rw [if_pos rfl, rdB_f5]
    exact dq_f5 (dq_f48 _ _ _ _ _ d) (dq_f48 _ _ _ _ _ d)
end

end
section
set_option maxHeartbeats 1600000
/-! pick, flip, choose: one expression or two in brackets -/
section
variable {T : T5} {X : X5} {Bk N : Nat} {Z : Int32} {V : V5} {W : W5} {a b f t s : Nat} {e : E5} {σ : rS}
/-- only the count of statement s's expressions differs -/
def dP5 (T : T5) (X : X5) (Bk N : Nat) (Z : Int32) (V : V5) (W : W5) (a b s : Nat) (e' : E5) (σ' : rS) : Prop := ∃ a' R, a < a' ∧ LR5 T X Bk N Z (vr5 V R) W a' b e' σ' ∧ ∀ i, i ≠ 11 * s + 4 → R i = vrs5 V i
/-- an expression of s, with the rows told -/
theorem sr_exR {l : Nat} {R : Nat → Int32} (H : TR5 T X Bk N Z) (J : jS5 T X Bk N b f t s V W) (L : LR5 T X Bk N Z (vr5 V R) W a l e σ) (hR : ∀ i, i ≠ 11 * s + 4 → R i = vrs5 V i) : ∃ R2 : Nat → Int32, xr5 T X Bk N Z (vr5 V R2) W a l (f5_Pa_expression (Int32.ofNat s) (-1) e) (g5_expression σ).1 ∧ ∀ i, i ≠ 11 * s + 4 → R2 i = vrs5 V i := by
  have X1 := sr_expr (s := Int32.ofNat s) H (nG_v5 (R := R) J.1.1) (nO_v5 (R := R) (HI_O5 J.1)) L
  have zR := rst_5 (s := s) (c := 4) (x := cl5 (Int32.ofNat s) 4 e + 1) (V := vr5 V R) J.2.1.2.1 (by omega) (by have := J.2.2; omega) (by decide)
  refine ⟨rst5 (Int32.ofNat s) 4 (cl5 (Int32.ofNat s) 4 e + 1) (vr5 V R), X1, fun i hi => ?_⟩
  have z : rst5 (Int32.ofNat s) 4 (cl5 (Int32.ofNat s) 4 e + 1) (vr5 V R) = fun j => if j = 11 * s + 4 then cl5 (Int32.ofNat s) 4 e + 1 else R j := zR
  rw [z]
  show (if i = 11 * s + 4 then _ else R i) = _
  rw [if_neg hi]
  exact hR i hi
/-- the bracket closed, the statement ended -/
theorem sr_end41 {R : Nat → Int32} {a1 m : Nat} {k x : Int32} (H : TR5 T X Bk N Z) (L : LR5 T X Bk N Z (vr5 V R) W a1 (b + 1) e σ) (hR : ∀ i, i ≠ 11 * s + 4 → R i = vrs5 V i) (h : a < a1) : sr5 (fun e' _ σ' => dP5 T X Bk N Z V W a b s e' σ') (rdB5 (f5_Pa_finish_48 m (Int32.ofNat s) k 0 x e) (fun e8 _ => f5_Pa_statement_268 e8)) (g5_sign 59 (g5_close 41 σ)) := by
  cases m with
  | zero => exact Or.inl rfl
  | succ m =>
    rw [f5_Pa_finish_48, if_pos rfl, rb_u5]
    refine sr_b5 (sr_close H L (by decide) (by decide)) (fun e9 _ n9 Q9 => ?_) (by repeat' first | with_reducible exact kq_rf | dsimp only | with_reducible refine kq_go ?_ | with_reducible refine kq_sign ?_ | with_reducible refine kq_open ?_ | with_reducible refine kq_close ?_ | with_reducible refine kq_flaw ?_ | with_reducible refine kq_look ?_ | with_reducible refine kq_due ?_ | with_reducible refine kq_fresh ?_ | with_reducible refine kq_expression ?_ | with_reducible refine kq_openBlock ?_ | with_reducible refine kq_newStatement ?_ | with_reducible refine kq_turn ?_ | with_reducible refine kq_tellVar_87 ?_ | with_reducible refine kq_tellVar_82 ?_ | with_reducible refine kq_tellVar_53 ?_ | with_reducible refine kq_tellArr_56 ?_ | with_reducible refine kq_arguments ?_ | with_reducible refine kq_arguments_77 ?_ | with_reducible refine kq_tellDraw ?_ | with_reducible refine kq_tellDraw_18 ?_ | with_reducible refine kq_tellDraw_55 ?_ | with_reducible refine kq_tellDraw_172 ?_ | with_reducible refine kq_tellNamed_295 ?_ | with_reducible refine kq_tellNamed_244 ?_ | with_reducible refine kq_tellNamed_175 ?_ | with_reducible refine kq_tellNamed_133 ?_ | with_reducible refine kq_tellNamed_109 ?_ | with_reducible refine kq_tellNamed_90 ?_ | with_reducible refine kq_tellFunc_218 ?_ | with_reducible refine kq_tellFunc_74 ?_ | with_reducible refine kq_tellFunc_34 ?_ | with_reducible refine kq_tellStatements ?_ | with_reducible refine kq_tellStatement ?_ | with_reducible refine kq_endBlock ?_ | with_reducible refine kq_arguments_28 _ _ _ ?_ | with_reducible refine kq_tellDraw_77 _ _ _ _ ?_ | with_reducible refine kq_tellStatements_11 _ _ ?_ | with_reducible refine kq_tellFunc_102 _ _ _ _ ?_ | with_reducible refine kq_expression_12 _ _ _ ?_ | with_reducible refine kq_si (by decide) (by decide) ?_ | with_reducible refine kq_ri ?_ | with_reducible refine kq_if ?_ ?_ | with_reducible refine kq_ifp ?_ ?_) (fun p e9 _ d => ?_)
    · unfold f5_Pa_statement_268
      rw [rb_u5]
      exact sr_m5 (sr_pass H Q9.1 (by decide) (by decide)) (fun e10 _ Q10 => ⟨a1 + 1 + 1, R, by omega, Q10.1, hR⟩)
    · unfold f5_Pa_statement_268
      exact dq_x5 (dx_pass d (by decide))
theorem sr_one {R : Nat → Int32} {a1 m n : Nat} {k : Int32} (H : TR5 T X Bk N Z) (J : jS5 T X Bk N b f t s V W) (L : LR5 T X Bk N Z (vr5 V R) W a1 (b + 1) e σ) (hR : ∀ i, i ≠ 11 * s + 4 → R i = vrs5 V i) (h : a < a1) (k5 : k ≠ 5) (hk : k ≠ 2 ∨ n ≠ 0) (hn : n ≤ 1) : sr5 (fun e' _ σ' => dP5 T X Bk N Z V W a b s e' σ') (rdB5 (f5_Pa_finish_48 m (Int32.ofNat s) k 1 (Int32.ofNat n) e) (fun e8 _ => f5_Pa_statement_268 e8)) (g5_sign 59 (g5_close 41 (g5_expression σ).1)) := by
  cases m with
  | zero => exact Or.inl rfl
  | succ m =>
    have h1 := H.1
    have et : e.1 taTotal = Int32.ofNat N := by rw [← h1.1, ← L.1.1]; rfl
    have ln := ofn_i (n := n) (by omega)
    have lN := ofn_i (n := N) (by omega)
    obtain ⟨R2, X2, hR2⟩ := sr_exR H J L hR
    rw [f5_Pa_finish_48, if_neg ne105, et, if_neg (show ¬ Int32.ofNat N < Int32.ofNat n by rw [lti, ln, lN]; omega), rdB_a5]
    generalize (g5_expression σ).1 = σ3 at X2 ⊢
    have br : ∀ e7 : E5, (if k = 5 then (if e7.1 paKind = 44 then f5_Pa_finish_107 (f5_Pa_finish_48 m) (Int32.ofNat s) k (Int32.ofNat n) 1 e7 else f5_Pa_finish_107 (f5_Pa_finish_48 m) (Int32.ofNat s) k (Int32.ofNat n) 0 e7) else if k = 2 then (if Int32.ofNat n = 0 then f5_Pa_finish_107 (f5_Pa_finish_48 m) (Int32.ofNat s) k (Int32.ofNat n) 1 e7 else f5_Pa_finish_107 (f5_Pa_finish_48 m) (Int32.ofNat s) k (Int32.ofNat n) 0 e7) else f5_Pa_finish_107 (f5_Pa_finish_48 m) (Int32.ofNat s) k (Int32.ofNat n) 0 e7) = f5_Pa_finish_48 m (Int32.ofNat s) k 0 (Int32.ofNat n + 1) e7 := fun e7 => by
      have z : f5_Pa_finish_107 (f5_Pa_finish_48 m) (Int32.ofNat s) k (Int32.ofNat n) 0 e7 = f5_Pa_finish_48 m (Int32.ofNat s) k 0 (Int32.ofNat n + 1) e7 := by
        unfold f5_Pa_finish_107
        rw [if_pos rfl]
        rfl
      rw [if_neg k5, z]
      by_cases c : k = 2
      · rw [if_pos c, if_neg (fun q => by
          have y := congrArg Int32.toInt q
          rw [ln, t0i] at y
          rcases hk with w | w
          · exact w c
          · omega)]
      · rw [if_neg c]
    refine xb_5 X2 (fun e7 a2 n7 L7 h7 _ => ?_) (by repeat' first | with_reducible exact kq_rf | dsimp only | with_reducible refine kq_go ?_ | with_reducible refine kq_sign ?_ | with_reducible refine kq_open ?_ | with_reducible refine kq_close ?_ | with_reducible refine kq_flaw ?_ | with_reducible refine kq_look ?_ | with_reducible refine kq_due ?_ | with_reducible refine kq_fresh ?_ | with_reducible refine kq_expression ?_ | with_reducible refine kq_openBlock ?_ | with_reducible refine kq_newStatement ?_ | with_reducible refine kq_turn ?_ | with_reducible refine kq_tellVar_87 ?_ | with_reducible refine kq_tellVar_82 ?_ | with_reducible refine kq_tellVar_53 ?_ | with_reducible refine kq_tellArr_56 ?_ | with_reducible refine kq_arguments ?_ | with_reducible refine kq_arguments_77 ?_ | with_reducible refine kq_tellDraw ?_ | with_reducible refine kq_tellDraw_18 ?_ | with_reducible refine kq_tellDraw_55 ?_ | with_reducible refine kq_tellDraw_172 ?_ | with_reducible refine kq_tellNamed_295 ?_ | with_reducible refine kq_tellNamed_244 ?_ | with_reducible refine kq_tellNamed_175 ?_ | with_reducible refine kq_tellNamed_133 ?_ | with_reducible refine kq_tellNamed_109 ?_ | with_reducible refine kq_tellNamed_90 ?_ | with_reducible refine kq_tellFunc_218 ?_ | with_reducible refine kq_tellFunc_74 ?_ | with_reducible refine kq_tellFunc_34 ?_ | with_reducible refine kq_tellStatements ?_ | with_reducible refine kq_tellStatement ?_ | with_reducible refine kq_endBlock ?_ | with_reducible refine kq_arguments_28 _ _ _ ?_ | with_reducible refine kq_tellDraw_77 _ _ _ _ ?_ | with_reducible refine kq_tellStatements_11 _ _ ?_ | with_reducible refine kq_tellFunc_102 _ _ _ _ ?_ | with_reducible refine kq_expression_12 _ _ _ ?_ | with_reducible refine kq_si (by decide) (by decide) ?_ | with_reducible refine kq_ri ?_ | with_reducible refine kq_if ?_ ?_ | with_reducible refine kq_ifp ?_ ?_) (fun p e7 d => ?_) (fun a' d => ?_)
    · rw [br e7]
      exact sr_end41 H L7 hR2 (by omega)
    · rw [br e7]
      exact dq_f48 _ _ _ _ _ d
    · obtain ⟨f1, f2⟩ := dc_close (c := 41) H d (by decide) (by decide) (by decide)
      obtain ⟨g1, g2⟩ := kq_sign (a1 := 59) (kq_rf (s := g5_close 41 σ3)) (by rw [f1]; decide)
      exact ⟨g1.trans f1, g2.trans f2⟩
theorem sr_two {R : Nat → Int32} {a1 m : Nat} (H : TR5 T X Bk N Z) (J : jS5 T X Bk N b f t s V W) (L : LR5 T X Bk N Z (vr5 V R) W a1 (b + 1) e σ) (hR : ∀ i, i ≠ 11 * s + 4 → R i = vrs5 V i) (h : a < a1) : sr5 (fun e' _ σ' => dP5 T X Bk N Z V W a b s e' σ') (rdB5 (f5_Pa_finish_48 m (Int32.ofNat s) 2 1 0 e) (fun e8 _ => f5_Pa_statement_268 e8)) (g5_sign 59 (g5_close 41 (g5_expression (g5_sign 44 (g5_expression σ).1)).1)) := by
  cases m with
  | zero => exact Or.inl rfl
  | succ m =>
    have h1 := H.1
    have et : e.1 taTotal = Int32.ofNat N := by rw [← h1.1, ← L.1.1]; rfl
    have lN := ofn_i (n := N) (by omega)
    obtain ⟨R2, X2, hR2⟩ := sr_exR H J L hR
    rw [f5_Pa_finish_48, if_neg ne105, et, if_neg (show ¬ Int32.ofNat N < 0 by rw [lti, lN, t0i]; omega), rdB_a5]
    generalize (g5_expression σ).1 = σ3 at X2 ⊢
    have br : ∀ e7 : E5, (if (2 : Int32) = 5 then (if e7.1 paKind = 44 then f5_Pa_finish_107 (f5_Pa_finish_48 m) (Int32.ofNat s) 2 0 1 e7 else f5_Pa_finish_107 (f5_Pa_finish_48 m) (Int32.ofNat s) 2 0 0 e7) else if (2 : Int32) = 2 then (if (0 : Int32) = 0 then f5_Pa_finish_107 (f5_Pa_finish_48 m) (Int32.ofNat s) 2 0 1 e7 else f5_Pa_finish_107 (f5_Pa_finish_48 m) (Int32.ofNat s) 2 0 0 e7) else f5_Pa_finish_107 (f5_Pa_finish_48 m) (Int32.ofNat s) 2 0 0 e7) = rdB5 (f5_Pa_pass 44 e7) (fun e2 _ => f5_Pa_finish_48 m (Int32.ofNat s) 2 1 (Int32.ofNat 1) e2) := fun e7 => by
      rw [if_neg (by decide), if_pos rfl, if_pos rfl]
      unfold f5_Pa_finish_107
      rw [if_neg ne105]
      rfl
    refine xb_5 X2 (fun e7 a2 n7 L7 h7 _ => ?_) (by repeat' first | with_reducible exact kq_rf | dsimp only | with_reducible refine kq_go ?_ | with_reducible refine kq_sign ?_ | with_reducible refine kq_open ?_ | with_reducible refine kq_close ?_ | with_reducible refine kq_flaw ?_ | with_reducible refine kq_look ?_ | with_reducible refine kq_due ?_ | with_reducible refine kq_fresh ?_ | with_reducible refine kq_expression ?_ | with_reducible refine kq_openBlock ?_ | with_reducible refine kq_newStatement ?_ | with_reducible refine kq_turn ?_ | with_reducible refine kq_tellVar_87 ?_ | with_reducible refine kq_tellVar_82 ?_ | with_reducible refine kq_tellVar_53 ?_ | with_reducible refine kq_tellArr_56 ?_ | with_reducible refine kq_arguments ?_ | with_reducible refine kq_arguments_77 ?_ | with_reducible refine kq_tellDraw ?_ | with_reducible refine kq_tellDraw_18 ?_ | with_reducible refine kq_tellDraw_55 ?_ | with_reducible refine kq_tellDraw_172 ?_ | with_reducible refine kq_tellNamed_295 ?_ | with_reducible refine kq_tellNamed_244 ?_ | with_reducible refine kq_tellNamed_175 ?_ | with_reducible refine kq_tellNamed_133 ?_ | with_reducible refine kq_tellNamed_109 ?_ | with_reducible refine kq_tellNamed_90 ?_ | with_reducible refine kq_tellFunc_218 ?_ | with_reducible refine kq_tellFunc_74 ?_ | with_reducible refine kq_tellFunc_34 ?_ | with_reducible refine kq_tellStatements ?_ | with_reducible refine kq_tellStatement ?_ | with_reducible refine kq_endBlock ?_ | with_reducible refine kq_arguments_28 _ _ _ ?_ | with_reducible refine kq_tellDraw_77 _ _ _ _ ?_ | with_reducible refine kq_tellStatements_11 _ _ ?_ | with_reducible refine kq_tellFunc_102 _ _ _ _ ?_ | with_reducible refine kq_expression_12 _ _ _ ?_ | with_reducible refine kq_si (by decide) (by decide) ?_ | with_reducible refine kq_ri ?_ | with_reducible refine kq_if ?_ ?_ | with_reducible refine kq_ifp ?_ ?_) (fun p e7 d => ?_) (fun a' d => ?_)
    · rw [br e7, rdB_a5]
      refine sr_b5 (sr_pass H L7 (by decide) (by decide)) (fun e9 _ n9 Q9 => ?_) (by repeat' first | with_reducible exact kq_rf | dsimp only | with_reducible refine kq_go ?_ | with_reducible refine kq_sign ?_ | with_reducible refine kq_open ?_ | with_reducible refine kq_close ?_ | with_reducible refine kq_flaw ?_ | with_reducible refine kq_look ?_ | with_reducible refine kq_due ?_ | with_reducible refine kq_fresh ?_ | with_reducible refine kq_expression ?_ | with_reducible refine kq_openBlock ?_ | with_reducible refine kq_newStatement ?_ | with_reducible refine kq_turn ?_ | with_reducible refine kq_tellVar_87 ?_ | with_reducible refine kq_tellVar_82 ?_ | with_reducible refine kq_tellVar_53 ?_ | with_reducible refine kq_tellArr_56 ?_ | with_reducible refine kq_arguments ?_ | with_reducible refine kq_arguments_77 ?_ | with_reducible refine kq_tellDraw ?_ | with_reducible refine kq_tellDraw_18 ?_ | with_reducible refine kq_tellDraw_55 ?_ | with_reducible refine kq_tellDraw_172 ?_ | with_reducible refine kq_tellNamed_295 ?_ | with_reducible refine kq_tellNamed_244 ?_ | with_reducible refine kq_tellNamed_175 ?_ | with_reducible refine kq_tellNamed_133 ?_ | with_reducible refine kq_tellNamed_109 ?_ | with_reducible refine kq_tellNamed_90 ?_ | with_reducible refine kq_tellFunc_218 ?_ | with_reducible refine kq_tellFunc_74 ?_ | with_reducible refine kq_tellFunc_34 ?_ | with_reducible refine kq_tellStatements ?_ | with_reducible refine kq_tellStatement ?_ | with_reducible refine kq_endBlock ?_ | with_reducible refine kq_arguments_28 _ _ _ ?_ | with_reducible refine kq_tellDraw_77 _ _ _ _ ?_ | with_reducible refine kq_tellStatements_11 _ _ ?_ | with_reducible refine kq_tellFunc_102 _ _ _ _ ?_ | with_reducible refine kq_expression_12 _ _ _ ?_ | with_reducible refine kq_si (by decide) (by decide) ?_ | with_reducible refine kq_ri ?_ | with_reducible refine kq_if ?_ ?_ | with_reducible refine kq_ifp ?_ ?_) (fun p e9 _ d => dq_f48 _ _ _ _ _ d)
      exact sr_one H J Q9.1 hR2 (by omega) (by decide) (Or.inr (by decide)) (by decide)
    · rw [br e7, rdB_a5]
      exact dq_x5 (dx_pass d (by decide))
    · obtain ⟨f1, f2⟩ := dc_sign (c := 44) H d (by decide) (by decide) (by decide)
      have kq : kq5 (g5_sign 44 σ3) (g5_sign 59 (g5_close 41 (g5_expression (g5_sign 44 σ3)).1)) := kq_sign (kq_close (kq_expression kq_rf))
      obtain ⟨g1, g2⟩ := kq (by rw [f1]; decide)
      exact ⟨g1.trans f1, g2.trans f2⟩
end

end
section
set_option maxHeartbeats 1600000
/-! values with their weights in brackets -/
section
variable {T : T5} {X : X5} {Bk N : Nat} {Z : Int32} {V : V5} {W : W5} {a b f t s : Nat} {e : E5} {σ : rS}
theorem dq_s10 {p : Int32} {k : Int32} : ∀ (m : Nat) (x2 x3 : Int32) (e : E5), dk5 p e → dq5 p (rdB5 (f5_Pa_spread_10 m k x2 x3 e) (fun e8 _ => f5_Pa_statement_268 e8))
  | 0, _, _, _, _ => Or.inl rfl
  | m + 1, x2, x3, e, d => by
    have cl : dq5 p (rdB5 (rdB5 (f5_Pa_closeSign 125 e) (fun e1 _ => .inl (e1, ()))) (fun e8 _ => f5_Pa_statement_268 e8)) := by
      rw [dx_close d (by decide)]
      exact Or.inr (Or.inl rfl)
    rw [f5_Pa_spread_10, rdB_f5, rdB_f5]
    refine dq_f5 cl (dq_f5 cl ?_)
    rw [rdB_a5]
    refine dq_b5 (dq_expr d) (fun e7 _ d7 => ?_)
    rw [dx_expect d7 (by decide)]
    exact Or.inr (Or.inl rfl)
theorem sr_end125 {R : Nat → Int32} {a1 m : Nat} {x : Int32} (H : TR5 T X Bk N Z) (L : LR5 T X Bk N Z (vr5 V R) W a1 (b + 1) e σ) (hR : ∀ i, i ≠ 11 * s + 4 → R i = vrs5 V i) (h : a < a1) : sr5 (fun e' _ σ' => dP5 T X Bk N Z V W a b s e' σ') (rdB5 (f5_Pa_spread_10 m (Int32.ofNat s) 0 x e) (fun e8 _ => f5_Pa_statement_268 e8)) (g5_tellDraw_172 σ) := by
  cases m with
  | zero => exact Or.inl rfl
  | succ m =>
    rw [f5_Pa_spread_10, if_pos rfl, rb_u5]
    unfold g5_tellDraw_172
    dsimp only [pb5]
    refine sr_b5 (sr_close H L (by decide) (by decide)) (fun e9 _ n9 Q9 => ?_) (by repeat' first | with_reducible exact kq_rf | dsimp only | with_reducible refine kq_go ?_ | with_reducible refine kq_sign ?_ | with_reducible refine kq_open ?_ | with_reducible refine kq_close ?_ | with_reducible refine kq_flaw ?_ | with_reducible refine kq_look ?_ | with_reducible refine kq_due ?_ | with_reducible refine kq_fresh ?_ | with_reducible refine kq_expression ?_ | with_reducible refine kq_openBlock ?_ | with_reducible refine kq_newStatement ?_ | with_reducible refine kq_turn ?_ | with_reducible refine kq_tellVar_87 ?_ | with_reducible refine kq_tellVar_82 ?_ | with_reducible refine kq_tellVar_53 ?_ | with_reducible refine kq_tellArr_56 ?_ | with_reducible refine kq_arguments ?_ | with_reducible refine kq_arguments_77 ?_ | with_reducible refine kq_tellDraw ?_ | with_reducible refine kq_tellDraw_18 ?_ | with_reducible refine kq_tellDraw_55 ?_ | with_reducible refine kq_tellDraw_172 ?_ | with_reducible refine kq_tellNamed_295 ?_ | with_reducible refine kq_tellNamed_244 ?_ | with_reducible refine kq_tellNamed_175 ?_ | with_reducible refine kq_tellNamed_133 ?_ | with_reducible refine kq_tellNamed_109 ?_ | with_reducible refine kq_tellNamed_90 ?_ | with_reducible refine kq_tellFunc_218 ?_ | with_reducible refine kq_tellFunc_74 ?_ | with_reducible refine kq_tellFunc_34 ?_ | with_reducible refine kq_tellStatements ?_ | with_reducible refine kq_tellStatement ?_ | with_reducible refine kq_endBlock ?_ | with_reducible refine kq_arguments_28 _ _ _ ?_ | with_reducible refine kq_tellDraw_77 _ _ _ _ ?_ | with_reducible refine kq_tellStatements_11 _ _ ?_ | with_reducible refine kq_tellFunc_102 _ _ _ _ ?_ | with_reducible refine kq_expression_12 _ _ _ ?_ | with_reducible refine kq_si (by decide) (by decide) ?_ | with_reducible refine kq_ri ?_ | with_reducible refine kq_if ?_ ?_ | with_reducible refine kq_ifp ?_ ?_) (fun p e9 _ d => ?_)
    · unfold f5_Pa_statement_268
      rw [rb_u5]
      exact sr_m5 (sr_pass H Q9.1 (by decide) (by decide)) (fun e10 _ Q10 => ⟨a1 + 1 + 1, R, by omega, Q10.1, hR⟩)
    · unfold f5_Pa_statement_268
      exact dq_x5 (dx_pass d (by decide))
theorem pb_e5 {α β : Type} {x : α} {k : α → β} : pb5 x k = k x := rfl
theorem pm_e5 {α β : Type} {q : rS × α} {k : rS → α → β} : pm5 q k = k q.1 q.2 := rfl
theorem t77_05 {m : Nat} {n : Int32} {σ : rS} : g5_tellDraw_77 (m + 1) n 0 σ = g5_tellDraw_172 σ := by
  rw [g5_tellDraw_77, pb_e5]
  by_cases c : g5_isRight σ = 0
  · rw [if_pos c]
  · rw [if_neg c, if_pos rfl]
theorem t77_s5 {m : Nat} {n : Int32} {σ σ3 : rS} (h0 : g5_isRight σ = 1) (h3 : (g5_expression σ).1 = σ3) : g5_tellDraw_77 (m + 1) n 1 σ = if g5_isRight σ3 = 0 then g5_tellDraw_125 (g5_tellDraw_77 m) n σ3 else if g5_isAt 58 σ3 = 0 then g5_tellDraw_125 (g5_tellDraw_77 m) n σ3 else if n = 8 then g5_tellDraw_125 (g5_tellDraw_77 m) n (g5_flaw 15 (σ3.1 10) σ3) else g5_tellDraw_125 (g5_tellDraw_77 m) n σ3 := by
  rw [g5_tellDraw_77, pb_e5, h0, if_neg ne105, if_neg ne105, pm_e5, pb_e5, pb_e5, pb_e5, h3]
theorem t125_5 {B : Int32 → Int32 → rS → rS} {n : Int32} {σ : rS} : g5_tellDraw_125 B n σ = if g5_isRight (g5_expression (g5_sign 58 σ)).1 = 0 then g5_tellDraw_160 B (n + 1) 0 (g5_expression (g5_sign 58 σ)).1 else if g5_isAt 44 (g5_expression (g5_sign 58 σ)).1 = 0 then g5_tellDraw_160 B (n + 1) 0 (g5_expression (g5_sign 58 σ)).1 else g5_tellDraw_160 B (n + 1) 1 (g5_expression (g5_sign 58 σ)).1 := by
  unfold g5_tellDraw_125
  rw [pb_e5, pm_e5, pb_e5, pb_e5, pb_e5]
theorem sr_sprL (H : TR5 T X Bk N Z) (J : jS5 T X Bk N b f t s V W) : ∀ (m mr n a1 : Nat) (R : Nat → Int32) (e : E5) (σ : rS), LR5 T X Bk N Z (vr5 V R) W a1 (b + 1) e σ → (∀ i, i ≠ 11 * s + 4 → R i = vrs5 V i) → a < a1 → n ≤ 8 → N - a1 + 3 ≤ mr → sr5 (fun e' _ σ' => dP5 T X Bk N Z V W a b s e' σ') (rdB5 (f5_Pa_spread_10 m (Int32.ofNat s) 1 (Int32.ofNat n) e) (fun e8 _ => f5_Pa_statement_268 e8)) (g5_tellDraw_77 mr (Int32.ofNat n) 1 σ)
  | 0, _, _, _, _, _, _, _, _, _, _, _ => Or.inl rfl
  | m + 1, mr, n, a1, R, e, σ, L, hR, ha1, hn, hmr => by
    have h1 := H.1
    have ha := L.2.2.1.1
    obtain ⟨mr, rfl⟩ : ∃ k, mr = k + 1 := ⟨mr - 1, by omega⟩
    have ln := ofn_i (n := n) (by omega)
    have l8 : (8 : Int32).toInt = 8 := rfl
    obtain ⟨R2, X2, hR2⟩ := sr_exR H J L hR
    have ih := sr_sprL H J m mr
    have kB : ∀ (s9 : rS) (x0 x1 : Int32) (σ9 : rS), kq5 s9 σ9 → kq5 s9 (g5_tellDraw_77 mr x0 x1 σ9) := fun s9 x0 x1 σ9 h9 => kq_tellDraw_77 _ _ _ _ h9
    have hm0 : ∀ (x : Int32) (τ : rS), g5_tellDraw_77 mr x 0 τ = g5_tellDraw_172 τ := fun x τ => by
      obtain ⟨k, rfl⟩ : ∃ k, mr = k + 1 := ⟨mr - 1, by omega⟩
      exact t77_05
    rw [f5_Pa_spread_10, if_neg ne105, if_neg (show ¬ (8 : Int32) < Int32.ofNat n by rw [lti, l8, ln]; omega), rdB_a5]
    obtain ⟨σ3, h3⟩ : ∃ σ3, (g5_expression σ).1 = σ3 := ⟨_, rfl⟩
    rw [t77_s5 (lr_ir5 L) h3]
    rw [h3] at X2
    generalize g5_tellDraw_77 mr = B at ih kB hm0 ⊢
    have k125 : ∀ {s9 τ : rS}, kq5 s9 τ → kq5 s9 (g5_tellDraw_125 B (Int32.ofNat n) τ) := fun h9 => kq_tellDraw_125 (kB _) h9
    refine xb_5 X2 (fun e7 a2 n7 L7 h7 _ => ?_) (kq_if (k125 kq_rf) (kq_if (k125 kq_rf) (kq_if (k125 (kq_flaw kq_rf)) (k125 kq_rf)))) (fun p e7 d => ?_) (fun a' d => ?_)
    · have ha2 := L7.2.2.1.1
      rw [lr_ir5 L7, if_neg ne105, lr_at5 H L7 (by decide) (by decide)]
      unfold f5_Pa_expect
      by_cases c : e7.1 paKind = 58
      · rw [if_pos c, if_pos c, if_neg ne105, rdl_5]
        by_cases c8 : n = 8
        · subst c8
          rw [if_neg (show ¬ Int32.ofNat 8 < 8 by decide), if_pos (show Int32.ofNat 8 = 8 from rfl), lr_rva5 H L7, rdr_5]
          exact sr_q5 (by decide) (lr_fl5 H L7).1 (lr_fl5 H L7).2 (k125 kq_rf)
        · have n8 : ¬ Int32.ofNat n = 8 := fun q => by
            have y := congrArg Int32.toInt q
            rw [ln, l8] at y
            omega
          rw [if_pos (show Int32.ofNat n < 8 by rw [lti, ln, l8]; omega), if_neg n8]
          have tp : f5_Pa_take e7 = f5_Pa_pass 58 e7 := by
            unfold f5_Pa_pass
            rw [if_pos c, rb_u5]
          unfold f5_Pa_spread_48
          rw [t125_5, tp, rdB_a5, on_15 (by omega)]
          have k160 : ∀ {s9 τ : rS} {x y : Int32}, kq5 s9 τ → kq5 s9 (g5_tellDraw_160 B x y τ) := fun h9 => kq_tellDraw_160 (kB _) h9
          refine sr_b5 (sr_pass H L7 (by decide) (by decide)) (fun e9 _ n9 Q9 => ?_) (kq_if (k160 (kq_expression kq_rf)) (kq_if (k160 (kq_expression kq_rf)) (k160 (kq_expression kq_rf)))) (fun p e9 _ d => ?_)
          · obtain ⟨L9, _, _⟩ := Q9
            generalize g5_sign 58 σ3 = σ4 at L9 ⊢
            obtain ⟨R3, X3, hR3⟩ := sr_exR H J L9 hR2
            rw [rdB_a5]
            generalize (g5_expression σ4).1 = σ5 at X3 ⊢
            refine xb_5 X3 (fun e10 a3 n10 L10 h10 _ => ?_) (kq_if (k160 kq_rf) (kq_if (k160 kq_rf) (k160 kq_rf))) (fun p e10 d => ?_) (fun a' d => ?_)
            · rw [rdB_f5, lr_ir5 L10, if_neg ne105, lr_at5 H L10 (by decide) (by decide)]
              unfold f5_Pa_spread_72 g5_tellDraw_160
              dsimp only [pb5]
              rw [on_15 (by omega)]
              by_cases c44 : e10.1 paKind = 44
              · rw [if_pos c44, if_neg ne105, if_pos c44, if_neg ne105, if_neg ne105, rdB_a5]
                refine sr_b5 (sr_take H L10 (by rw [c44]; decide)) (fun e11 _ n11 Q11 => ?_) (kB _ _ _ _ kq_rf) (fun p e11 _ d => dq_s10 m _ _ _ d)
                exact ih (n + 1) (a3 + 1) R3 e11 _ Q11.1 hR3 (by omega) (by omega) (by omega)
              · rw [if_neg c44, if_pos rfl, if_neg c44, if_pos rfl, if_pos rfl, hm0]
                exact sr_end125 H L10 hR3 (by omega)
            · rw [rdB_f5]
              refine dq_n5 d (by decide) ?_
              unfold f5_Pa_spread_72
              dsimp only [pb5]
              rw [if_pos rfl]
              exact dq_s10 m _ _ _ d
            · have ir : g5_isRight σ5 = 1 := if_pos d.2.2.1
              rw [ir, if_neg ne105, dc_at5 H d (by decide) (by decide) (by decide), if_pos rfl]
              unfold g5_tellDraw_160
              rw [if_pos rfl, hm0]
              unfold g5_tellDraw_172
              dsimp only [pb5]
              obtain ⟨f1, f2⟩ := dc_close (c := 125) H d (by decide) (by decide) (by decide)
              obtain ⟨g1, g2⟩ := kq_sign (a1 := 59) (kq_rf (s := g5_close 125 σ5)) (by rw [f1]; decide)
              exact ⟨g1.trans f1, g2.trans f2⟩
          · rw [rdB_a5]
            refine dq_b5 (dq_expr d) (fun e10 _ d10 => ?_)
            rw [rdB_f5]
            refine dq_n5 d10 (by decide) ?_
            unfold f5_Pa_spread_72
            dsimp only [pb5]
            rw [if_pos rfl]
            exact dq_s10 m _ _ _ d10
      · rw [if_neg c, if_neg c, if_pos rfl, lr_rva5 H L7, rdr_5, rdr_5]
        rw [t125_5]
        have sg : (g5_sign 58 σ3).1 11 = 2 ∧ (g5_sign 58 σ3).1 12 = T.2.2.1 a2 := by
          unfold g5_sign
          dsimp only [pb5]
          rw [lr_at5 H L7 (by decide) (by decide), if_neg c, if_pos rfl]
          exact lr_fl5 H L7
        have k160 : ∀ {s9 τ : rS} {x y : Int32}, kq5 s9 τ → kq5 s9 (g5_tellDraw_160 B x y τ) := fun h9 => kq_tellDraw_160 (kB _) h9
        exact sr_q5 (by decide) sg.1 sg.2 (kq_if (k160 (kq_expression kq_rf)) (kq_if (k160 (kq_expression kq_rf)) (k160 (kq_expression kq_rf))))
    · rw [dx_expect d (by decide)]
      exact Or.inr (Or.inl rfl)
    · have ir : g5_isRight σ3 = 1 := if_pos d.2.2.1
      rw [ir, if_neg ne105, dc_at5 H d (by decide) (by decide) (by decide), if_pos rfl]
      obtain ⟨f1, f2⟩ := dc_sign (c := 58) H d (by decide) (by decide) (by decide)
      rw [t125_5]
      have k160 : ∀ {s9 τ : rS} {x y : Int32}, kq5 s9 τ → kq5 s9 (g5_tellDraw_160 B x y τ) := fun h9 => kq_tellDraw_160 (kB _) h9
      have kq : kq5 (g5_sign 58 σ3) (if g5_isRight (g5_expression (g5_sign 58 σ3)).1 = 0 then g5_tellDraw_160 B (Int32.ofNat n + 1) 0 (g5_expression (g5_sign 58 σ3)).1 else if g5_isAt 44 (g5_expression (g5_sign 58 σ3)).1 = 0 then g5_tellDraw_160 B (Int32.ofNat n + 1) 0 (g5_expression (g5_sign 58 σ3)).1 else g5_tellDraw_160 B (Int32.ofNat n + 1) 1 (g5_expression (g5_sign 58 σ3)).1) := kq_if (k160 (kq_expression kq_rf)) (kq_if (k160 (kq_expression kq_rf)) (k160 (kq_expression kq_rf)))
      obtain ⟨g1, g2⟩ := kq (by rw [f1]; decide)
      exact ⟨g1.trans f1, g2.trans f2⟩
end

end
section
set_option maxHeartbeats 1600000
/-! draws and choices whole -/
section
variable {T : T5} {X : X5} {Bk N : Nat} {Z : Int32} {V : V5} {W : W5} {a b f t s : Nat} {e : E5} {σ : rS}
theorem sr_fin1 {k : Int32} (H : TR5 T X Bk N Z) (J : jS5 T X Bk N b f t s V W) (L : LR5 T X Bk N Z V W a b e σ) (k0 : k ≠ 0) (k5 : k ≠ 5) (k2 : k ≠ 2) : sr5 (fun e' _ σ' => dP5 T X Bk N Z V W a b s e' σ') (rdB5 (f5_Pa_finish (Int32.ofNat s) k e) (fun e8 _ => f5_Pa_statement_268 e8)) (g5_sign 59 (g5_close 41 (g5_expression (g5_open 40 σ)).1)) := by
  unfold f5_Pa_finish f5_Pa_finish_44
  rw [if_neg k0, rdB_a5]
  refine sr_b5 (sr_open H L (by decide) (by decide)) (fun e1 _ n1 Q1 => ?_) (kq_sign (kq_close (kq_expression kq_rf))) (fun p e1 _ d => ?_)
  · rw [if_neg k5]
    exact sr_one (n := 0) H J (R := vrs5 V) Q1.1 (fun _ _ => rfl) (by omega) k5 (Or.inl k2) (by decide)
  · rw [if_neg k5]
    exact dq_f48 _ _ _ _ _ d
theorem sr_fin2 (H : TR5 T X Bk N Z) (J : jS5 T X Bk N b f t s V W) (L : LR5 T X Bk N Z V W a b e σ) : sr5 (fun e' _ σ' => dP5 T X Bk N Z V W a b s e' σ') (rdB5 (f5_Pa_finish (Int32.ofNat s) 2 e) (fun e8 _ => f5_Pa_statement_268 e8)) (g5_sign 59 (g5_close 41 (g5_expression (g5_sign 44 (g5_expression (g5_open 40 σ)).1)).1)) := by
  unfold f5_Pa_finish f5_Pa_finish_44
  rw [if_neg (by decide), rdB_a5]
  refine sr_b5 (sr_open H L (by decide) (by decide)) (fun e1 _ n1 Q1 => ?_) (kq_sign (kq_close (kq_expression (kq_sign (kq_expression kq_rf))))) (fun p e1 _ d => ?_)
  · rw [if_neg (by decide)]
    exact sr_two H J (R := vrs5 V) Q1.1 (fun _ _ => rfl) (by omega)
  · rw [if_neg (by decide)]
    exact dq_f48 _ _ _ _ _ d
theorem sr_spr (H : TR5 T X Bk N Z) (J : jS5 T X Bk N b f t s V W) (L : LR5 T X Bk N Z V W a b e σ) : sr5 (fun e' _ σ' => dP5 T X Bk N Z V W a b s e' σ') (rdB5 (f5_Pa_spread (Int32.ofNat s) e) (fun e8 _ => f5_Pa_statement_268 e8)) (g5_tellDraw_77 fu5 0 (g5_isRight (g5_open 123 σ)) (g5_open 123 σ)) := by
  unfold f5_Pa_spread
  rw [rdB_a5]
  refine sr_b5 (sr_open H L (by decide) (by decide)) (fun e1 _ n1 Q1 => ?_) (kq_tellDraw_77 _ _ _ _ kq_rf) (fun p e1 _ d => dq_s10 _ _ _ _ d)
  obtain ⟨L1, _, _⟩ := Q1
  generalize g5_open 123 σ = σ1 at L1 ⊢
  rw [lr_ir5 L1]
  exact sr_sprL H J fu5 fu5 0 (a + 1) (vrs5 V) e1 σ1 L1 (fun _ _ => rfl) (by omega) (by decide) (by have := H.1; unfold fu5; omega)
theorem td_5 : g5_tellDraw σ = if g5_isWord 11 σ = 0 then (if g5_isWord 12 σ = 0 then g5_tellDraw_77 fu5 0 (g5_isRight (g5_open 123 σ)) (g5_open 123 σ) else g5_tellDraw_18 σ) else g5_tellDraw_18 σ := by
  unfold g5_tellDraw
  rw [pb_e5, pb_e5, pb_e5, pb_e5]
theorem td18_5 : g5_tellDraw_18 σ = if g5_isWord 12 σ = 0 then g5_sign 59 (g5_close 41 (g5_expression (g5_open 40 (g5_go σ))).1) else g5_sign 59 (g5_close 41 (g5_expression (g5_sign 44 (g5_expression (g5_open 40 (g5_go σ))).1)).1) := by
  unfold g5_tellDraw_18 g5_tellDraw_55
  rw [pb_e5, pb_e5, pb_e5, pm_e5, pb_e5, pb_e5, pb_e5, pm_e5, pb_e5, pb_e5]
end

end
section
set_option maxHeartbeats 1600000
/-! named statements: columns set, draws, values, calls -/
section
variable {T : T5} {X : X5} {Bk N : Nat} {Z : Int32} {V : V5} {W : W5} {a a0 l b f t s : Nat} {e : E5} {σ : rS}
theorem lr_cw5 {c : Nat} {ci : Int32} (J : jS5 T X Bk N b f t s V W) (L : LR5 T X Bk N Z V W a l e σ) (hc : c ≤ 10) (hci : ci = Int32.ofNat c) : cl5 (Int32.ofNat s) ci e = vrs5 V (11 * s + c) := by
  have h1 : e.1 513 = vst5 V := congrArg (fun V : V5 => vst5 V) L.2.1.1
  have h2 : e.2.1 506 = vrs5 V := congrArg (fun V : V5 => vrs5 V) L.2.1.1
  rw [hci, cl_55 (st := s + 1) (h1.trans J.2.1.2.1) (by omega) (by have := J.2.2; omega) hc, h2]
theorem js_set {c : Nat} {x ci : Int32} (J : jS5 T X Bk N b f t s V W) (L : LR5 T X Bk N Z V W a l e σ) (hc : c ≤ 10) (hci : ci = Int32.ofNat c) : ∃ (e' : E5) (V' : V5), f5_Co_setColumn (Int32.ofNat s) ci x e = .inl (e', ()) ∧ LR5 T X Bk N Z V' W a l e' σ ∧ jS5 T X Bk N b f t s V' W ∧ (∀ j, vrs5 V' j = if j = 11 * s + c then x else vrs5 V j) ∧ e'.1 = e.1 := by
  subst hci
  have z := rst_5 (s := s) (c := c) (x := x) (V := V) J.2.1.2.1 (by omega) (by have := J.2.2; omega) hc
  refine ⟨stc5 (Int32.ofNat s) (Int32.ofNat c) x e, vr5 V (rst5 (Int32.ofNat s) (Int32.ofNat c) x V), stc_5, lr_st5 L, js_st5 J hc, fun j => ?_, stc_15.1⟩
  show rst5 (Int32.ofNat s) (Int32.ofNat c) x V j = _
  rw [z]
theorem js_32 {x : Int32} (J : jS5 T X Bk N b f t s V W) (L : LR5 T X Bk N Z V W a l e σ) : ∃ W' : W5, LR5 T X Bk N Z V W' a l e (riU σ 32 s x) ∧ jS5 T X Bk N b f t s V W' ∧ w30_5 W' s = w30_5 W s ∧ w32_5 W' s = x :=
  ⟨_, lr_325 L, js_v5 (R := vrs5 V) J (fun _ _ => rfl) (fun _ _ => rfl) (fun j hj => if_neg (by omega)), rfl, if_pos rfl⟩
theorem js_30 {x : Int32} (J : jS5 T X Bk N b f t s V W) (L : LR5 T X Bk N Z V W a l e σ) : ∃ W' : W5, LR5 T X Bk N Z V W' a l e (riU σ 30 s x) ∧ jS5 T X Bk N b f t s V W' ∧ w30_5 W' s = x ∧ w32_5 W' s = w32_5 W s :=
  ⟨_, lr_305 L, js_v5 (R := vrs5 V) J (fun _ _ => rfl) (fun j hj => if_neg (by omega)) (fun _ _ => rfl), if_pos rfl, rfl⟩
theorem lr_wk5 {w k : Int32} (H : TR5 T X Bk N Z) (L : LR5 T X Bk N Z V W a l e σ) (h0 : 1 ≤ w.toInt) (h1 : w.toInt ≤ 13) (hk : 149 + w = k) : g5_isWord w σ = if e.1 paKind = k then 1 else 0 := by
  rw [← hk]
  exact lr_wd5 H L h0 h1
theorem lr_op5 {c : Int32} (H : TR5 T X Bk N Z) (L : LR5 T X Bk N Z V W a l e σ) (h0 : 0 < c.toInt) (h1 : c.toInt < 128) (hc : ¬ e.1 paKind = c) : (g5_open c σ).1 11 = 2 ∧ (g5_open c σ).1 12 = T.2.2.1 a := by
  have h := sr_open H L h0 h1
  unfold f5_Pa_openSign at h
  rw [if_neg hc, lr_rva5 H L] at h
  rcases h with h | ⟨_, _, h, _⟩ | ⟨f, p, f0, q1, q2, h3⟩
  · exact absurd (Prod.mk.inj (Sum.inr.inj h)).1 (by decide)
  · cases h
  · rcases h3 with h3 | ⟨_, _, _, h3, _⟩
    · obtain ⟨y1, y2⟩ := Prod.mk.inj (Sum.inr.inj h3)
      exact ⟨q1.trans y1.symm, q2.trans y2.symm⟩
    · cases h3
theorem dP_e5 {e' : E5} {σ' : rS} (J : jS5 T X Bk N b f t s V W) (D : dP5 T X Bk N Z V W a b s e' σ') (h1 : vrs5 V (11 * s) ≠ 5) (h2 : w30_5 W s ≠ 5) (h3 : vrs5 V (11 * s) ≠ 6) (h4 : w30_5 W s ≠ 6) (ha : a0 ≤ a) : eS5 T X Bk N Z a0 f t s e' σ' := by
  obtain ⟨a', R, h, L, hR⟩ := D
  have J' : jS5 T X Bk N b f t s (vr5 V R) W := by
    have q := js_v5 (R := R) (r30 := w30_5 W) (r32 := w32_5 W) J (fun i hi => hR i (by omega)) (fun _ _ => rfl) (fun _ _ => rfl)
    rw [ww_i5] at q
    exact q
  refine ⟨a', b, by omega, js_e5 J' L (sS_n5 ?_ h2 ?_)⟩
  · show R (11 * s) ≠ 5
    rw [hR _ (by omega)]
    exact h1
  · show R (11 * s) = 6 ↔ _
    rw [hR _ (by omega)]
    exact ⟨fun h => absurd h h3, fun h => absurd h h4⟩
theorem dq_233 {p x : Int32} {e : E5} (d : dk5 p e) : dq5 p (f5_Pa_statement_233 x e) := by
  unfold f5_Pa_statement_233
  dsimp only [pb5]
  refine dq_f5 ?_ ?_
  · unfold f5_Pa_spread
    rw [rdB_a5]
    exact dq_x5 (dx_open d (by decide))
  · unfold f5_Pa_finish
    dsimp only [pb5]
    rw [rdB_f5]
    refine dq_f5 ?_ ?_
    · rw [rdB_a5]
      refine dq_b5 (dq_expr d) (fun e9 _ d9 => ?_)
      rw [rdl_5]
      unfold f5_Pa_statement_268
      exact dq_x5 (dx_pass d9 (by decide))
    · rw [rdB_a5]
      exact dq_x5 (dx_open d (by decide))
theorem dq_223 {p x : Int32} {e : E5} (d : dk5 p e) : dq5 p (f5_Pa_statement_223 x e) := by
  unfold f5_Pa_statement_223
  exact dq_b5 (dq_sc5 d) (fun _ _ d1 => dq_233 d1)
theorem dq_191 {p x y z : Int32} {e : E5} (d : dk5 p e) : dq5 p (f5_Pa_statement_191 x y z e) := by
  unfold f5_Pa_statement_191
  refine dq_b5 (dq_sc5 d) (fun e1 _ d1 => ?_)
  exact dq_f5 (dq_f5 (dq_233 d1) (dq_f5 (dq_223 d1) (dq_233 d1))) (dq_223 d1)
theorem dq_91 {p x : Int32} {e : E5} (d : dk5 p e) : dq5 p (f5_Pa_behindPlace_91 x 0 e) := by
  have h : ∀ {e1 : E5}, dk5 p e1 → dq5 p (f5_Pa_behindPlace_133 0 0 e1) := fun {e1} d1 => by
    unfold f5_Pa_behindPlace_133 f5_Pa_behindPlace_159
    rw [if_pos rfl, if_neg (by decide), if_neg (by decide), if_neg (by decide), if_pos rfl]
    exact dq_i5 d1
  unfold f5_Pa_behindPlace_91
  refine dq_b5 (dq_sc5 d) (fun e1 _ d1 => ?_)
  rw [if_pos rfl]
  exact dq_n5 d1 (by decide) (h d1)
theorem dq_177 {p x y : Int32} {e : E5} (d : dk5 p e) : dq5 p (f5_Pa_statement_177 x y 0 e) := by
  unfold f5_Pa_statement_177
  rw [if_pos rfl]
  unfold f5_Pa_behindPlace
  rw [if_neg (show ¬ e.1 paKind = 126 by rw [d.1]; decide)]
  unfold f5_Pa_behindPlace_14
  rw [if_pos rfl, rdB_a5]
  exact dq_x5 (dx_expect d (by decide))
theorem dq_151 {p x y : Int32} {e : E5} (d : dk5 p e) : dq5 p (f5_Pa_statement_151 x y e) := by
  unfold f5_Pa_statement_151
  exact dq_n5 d (by decide) (dq_177 d)
/-- what is behind the place's mark -/
theorem s191_m (J : jS5 T X Bk N b f t s V W) (L : LR5 T X Bk N Z V W a l e σ) : ∃ (e' : E5) (V' : V5), f5_Pa_statement_191 (Int32.ofNat s) 0 (-1) e = f5_Pa_statement_233 (Int32.ofNat s) e' ∧ LR5 T X Bk N Z V' W a l e' σ ∧ jS5 T X Bk N b f t s V' W ∧ (∀ j, vrs5 V' j = if j = 11 * s + 5 then -1 else vrs5 V j) ∧ e'.1 = e.1 := by
  obtain ⟨e1, V1, z, L1, J1, v1, q1⟩ := js_set (c := 5) (x := -1) (ci := 5) J L (by decide) rfl
  refine ⟨e1, V1, ?_, L1, J1, v1, q1⟩
  unfold f5_Pa_statement_191
  rw [z, rdl_5, if_pos rfl, if_pos rfl]
theorem b233_3 (J : jS5 T X Bk N b f t s V W) (L : LR5 T X Bk N Z V W a l e σ) (h : vrs5 V (11 * s) = 3) : f5_Pa_statement_233 (Int32.ofNat s) e = rdB5 (f5_Pa_spread (Int32.ofNat s) e) (fun e8 _ => f5_Pa_statement_268 e8) := by
  unfold f5_Pa_statement_233
  dsimp only [pb5]
  rw [lr_cw5 (c := 0) (ci := 0) J L (by decide) rfl, if_pos (show vrs5 V (11 * s + 0) = 3 from h)]
theorem b233_k {k : Int32} (J : jS5 T X Bk N b f t s V W) (L : LR5 T X Bk N Z V W a l e σ) (h : vrs5 V (11 * s) = k) (k3 : k ≠ 3) : f5_Pa_statement_233 (Int32.ofNat s) e = rdB5 (f5_Pa_finish (Int32.ofNat s) k e) (fun e8 _ => f5_Pa_statement_268 e8) := by
  unfold f5_Pa_statement_233
  dsimp only [pb5]
  rw [lr_cw5 (c := 0) (ci := 0) J L (by decide) rfl, show vrs5 V (11 * s + 0) = k from h, if_neg k3]
theorem b233_0 (J : jS5 T X Bk N b f t s V W) (L : LR5 T X Bk N Z V W a l e σ) (h : vrs5 V (11 * s) = 0) : f5_Pa_statement_233 (Int32.ofNat s) e = rdB5 (f5_Pa_expression (Int32.ofNat s) (vrs5 V (11 * s + 5)) e) (fun e8 _ => f5_Pa_statement_268 e8) := by
  rw [b233_k J L h (by decide)]
  unfold f5_Pa_finish
  dsimp only [pb5]
  rw [if_pos rfl, lr_cw5 (c := 5) (ci := 5) J L (by decide) rfl, rb_u5]
/-- an expression, then the sign at the end -/
theorem sr_xt5 {r : R5 Unit} {R : Nat → Int32} {σ1 : rS} (H : TR5 T X Bk N Z) (J : jS5 T X Bk N b f t s V W) (E : xr5 T X Bk N Z (vr5 V R) W a b r σ1) (hR : ∀ i, i ≠ 11 * s + 4 → R i = vrs5 V i) (h1 : vrs5 V (11 * s) = 0) (h2 : w30_5 W s = 2) (ha : a0 ≤ a) : sr5 (fun e' _ σ' => eS5 T X Bk N Z a0 f t s e' σ') (rdB5 r (fun e8 _ => f5_Pa_statement_268 e8)) (g5_sign 59 σ1) := by
  refine xb_5 E (fun e2 a' n2 L2 h2' _ => ?_) (kq_sign kq_rf) (fun p e2 d => ?_) (fun a' d => dc_sign H d (by decide) (by decide) (by decide))
  · unfold f5_Pa_statement_268
    rw [rb_u5]
    refine sr_m5 (sr_pass H L2 (by decide) (by decide)) (fun e3 _ Q3 => dP_e5 (a := a) J ⟨a' + 1, R, by omega, Q3.1, hR⟩ ?_ ?_ ?_ ?_ ha)
    · rw [h1]; decide
    · rw [h2]; decide
    · rw [h1]; decide
    · rw [h2]; decide
  · unfold f5_Pa_statement_268
    exact dq_x5 (dx_pass d (by decide))
theorem sr_295 (H : TR5 T X Bk N Z) (J : jS5 T X Bk N b f t s V W) (L : LR5 T X Bk N Z V W a b e σ) (h1 : vrs5 V (11 * s) = 0) (h2 : w30_5 W s = 2) (ha : a0 ≤ a) : sr5 (fun e' _ σ' => eS5 T X Bk N Z a0 f t s e' σ') (f5_Pa_statement_191 (Int32.ofNat s) 0 (-1) e) (g5_tellNamed_295 σ) := by
  obtain ⟨e1, V1, z, L1, J1, v1, q1⟩ := s191_m J L
  have h3 : vrs5 V1 (11 * s) = 0 := by rw [v1, if_neg (by omega)]; exact h1
  rw [z, b233_0 J1 L1 h3, show vrs5 V1 (11 * s + 5) = -1 by rw [v1, if_pos (by omega)]]
  unfold g5_tellNamed_295
  rw [pm_e5, pb_e5]
  obtain ⟨R2, E, hR⟩ := sr_exR (R := vrs5 V1) H J1 L1 (fun _ _ => rfl)
  exact sr_xt5 H J1 E hR h3 h2 ha
end

end
section
set_option maxHeartbeats 1600000
/-! named statements: draws -/
section
variable {T : T5} {X : X5} {Bk N : Nat} {Z : Int32} {V : V5} {W : W5} {a a0 l b f t s : Nat} {e : E5} {σ : rS}
theorem sr_draw {x : Int32} (H : TR5 T X Bk N Z) (J : jS5 T X Bk N b f t s V W) (L : LR5 T X Bk N Z V W a b e σ) (hk : e.1 paKind = 126) (ha : a0 ≤ a) : sr5 (fun e' _ σ' => eS5 T X Bk N Z a0 f t s e' σ') (f5_Pa_statement_177 (Int32.ofNat s) x 0 e) (g5_tellDraw (riU (riU (g5_go σ) 30 s 3) 32 s ((riU (g5_go σ) 30 s 3).1 10))) := by
  unfold f5_Pa_statement_177
  rw [if_pos rfl]
  unfold f5_Pa_behindPlace
  rw [if_pos hk]
  unfold f5_Pa_behindPlace_14
  rw [if_neg ne105]
  unfold f5_Pa_behindPlace_25
  rw [rdB_a5]
  refine sr_b5 (sr_take H L (by rw [hk]; decide)) (fun e1 _ n1 Q1 => ?_) (kq_tellDraw (kq_ri (kq_ri kq_rf))) (fun p e1 _ d => ?_)
  · obtain ⟨L1, _, _⟩ := Q1
    generalize g5_go σ = σ1 at L1 ⊢
    obtain ⟨W2, L2, J2, z2, _⟩ := js_30 (x := 3) J L1
    obtain ⟨W3, L3, J3, z3, _⟩ := js_32 (x := (riU σ1 30 s 3).1 10) J2 L2
    have h30 : w30_5 W3 s = 3 := z3.trans z2
    have n5 : w30_5 W3 s ≠ 5 := by rw [h30]; decide
    have n6 : w30_5 W3 s ≠ 6 := by rw [h30]; decide
    generalize riU (riU σ1 30 s 3) 32 s ((riU σ1 30 s 3).1 10) = σ3 at L3 ⊢
    rw [td_5, lr_wk5 H L3 (k := 160) (by decide) (by decide) rfl, lr_wk5 H L3 (k := 161) (by decide) (by decide) rfl]
    rw [if_neg (show ¬ (1 : Int32) = 0 by decide)]
    by_cases c3 : e1.1 paKind = 123
    · have c0 : ¬ e1.1 paKind = 160 := by rw [c3]; decide
      have c1 : ¬ e1.1 paKind = 161 := by rw [c3]; decide
      rw [if_pos c3, if_neg c0, if_pos rfl, if_neg c1, if_pos rfl]
      obtain ⟨e2, V4, z4, L4, J4, v4, _⟩ := js_set (c := 0) (x := 3) (ci := 0) J3 L3 (by decide) rfl
      unfold f5_Pa_behindPlace_63
      rw [if_neg (by decide)]
      unfold f5_Pa_behindPlace_91
      rw [z4, rdl_5, if_neg (by decide)]
      unfold f5_Pa_behindPlace_133
      rw [if_pos rfl, if_neg (by decide), if_neg (by decide), if_neg (by decide)]
      unfold f5_Pa_behindPlace_159
      rw [if_pos rfl, rdl_5]
      obtain ⟨e3, V5', z5, L5, J5, v5, _⟩ := s191_m J4 L4
      have h3 : vrs5 V5' (11 * s) = 3 := by rw [v5, if_neg (by omega), v4, if_pos (by omega)]
      rw [z5, b233_3 J5 L5 h3]
      exact sr_m5 (sr_spr H J5 L5) (fun e' _ D => dP_e5 J5 D (by rw [h3]; decide) n5 (by rw [h3]; decide) n6 (by omega))
    · rw [if_neg c3]
      by_cases c0 : e1.1 paKind = 160
      · rw [if_pos c0, if_pos c0, if_neg ne105]
        obtain ⟨e2, V4, z4, L4, J4, v4, k4⟩ := js_set (c := 0) (x := 1) (ci := 0) J3 L3 (by decide) rfl
        unfold f5_Pa_behindPlace_63
        rw [if_neg (by decide)]
        unfold f5_Pa_behindPlace_91
        rw [z4, rdl_5, if_neg (by decide)]
        unfold f5_Pa_behindPlace_133
        rw [if_pos rfl, if_pos rfl, rdB_a5, td18_5, lr_wk5 H L3 (k := 161) (by decide) (by decide) rfl, if_neg (show ¬ e1.1 paKind = 161 by rw [c0]; decide), if_pos rfl]
        refine sr_b5 (sr_take H L4 (by rw [k4, c0]; decide)) (fun e5 _ n5' Q5 => ?_) (kq_sign (kq_close (kq_expression (kq_open kq_rf)))) (fun p e5 _ d => ?_)
        · obtain ⟨L5, _, _⟩ := Q5
          generalize g5_go σ3 = σ5 at L5 ⊢
          unfold f5_Pa_behindPlace_159
          rw [if_pos rfl, rdl_5]
          obtain ⟨e6, V6, z6, L6, J6, v6, _⟩ := s191_m J4 L5
          have h3 : vrs5 V6 (11 * s) = 1 := by rw [v6, if_neg (by omega), v4, if_pos (by omega)]
          rw [z6, b233_k J6 L6 h3 (by decide)]
          exact sr_m5 (sr_fin1 H J6 L6 (by decide) (by decide) (by decide)) (fun e' _ D => dP_e5 J6 D (by rw [h3]; decide) n5 (by rw [h3]; decide) n6 (by omega))
        · unfold f5_Pa_behindPlace_159
          rw [if_pos rfl, rdl_5]
          exact dq_191 d
      · rw [if_neg c0, if_neg c0, if_pos rfl]
        unfold f5_Pa_behindPlace_63
        rw [if_pos rfl]
        by_cases c1 : e1.1 paKind = 161
        · unfold f5_Pa_expect
          rw [if_pos c1, if_pos c1, if_neg ne105, rdl_5]
          obtain ⟨e2, V4, z4, L4, J4, v4, k4⟩ := js_set (c := 0) (x := 2) (ci := 0) J3 L3 (by decide) rfl
          unfold f5_Pa_behindPlace_91
          rw [z4, rdl_5, if_neg (by decide)]
          unfold f5_Pa_behindPlace_133
          rw [if_pos rfl, if_neg (by decide), if_pos rfl, rdB_a5, td18_5, lr_wk5 H L3 (k := 161) (by decide) (by decide) rfl, if_pos c1, if_neg ne105]
          refine sr_b5 (sr_take H L4 (by rw [k4, c1]; decide)) (fun e5 _ n5' Q5 => ?_) (kq_sign (kq_close (kq_expression (kq_sign (kq_expression (kq_open kq_rf)))))) (fun p e5 _ d => ?_)
          · obtain ⟨L5, _, _⟩ := Q5
            generalize g5_go σ3 = σ5 at L5 ⊢
            unfold f5_Pa_behindPlace_159
            rw [if_pos rfl, rdl_5]
            obtain ⟨e6, V6, z6, L6, J6, v6, _⟩ := s191_m J4 L5
            have h3 : vrs5 V6 (11 * s) = 2 := by rw [v6, if_neg (by omega), v4, if_pos (by omega)]
            rw [z6, b233_k J6 L6 h3 (by decide)]
            exact sr_m5 (sr_fin2 H J6 L6) (fun e' _ D => dP_e5 J6 D (by rw [h3]; decide) n5 (by rw [h3]; decide) n6 (by omega))
          · unfold f5_Pa_behindPlace_159
            rw [if_pos rfl, rdl_5]
            exact dq_191 d
        · unfold f5_Pa_expect
          rw [if_neg c1, if_neg c1, if_pos rfl, lr_rva5 H L3, rdr_5, rdr_5]
          obtain ⟨q1, q2⟩ := lr_op5 (c := 123) H L3 (by decide) (by decide) c3
          exact sr_q5 (by decide) q1 q2 (kq_tellDraw_77 _ _ _ _ kq_rf)
  · rw [if_neg (show ¬ (1 : Int32) = 0 by decide)]
    refine dq_b5 (m := if e1.1 paKind = 123 then f5_Pa_behindPlace_63 (Int32.ofNat s) 3 e1 else if e1.1 paKind = 160 then f5_Pa_behindPlace_63 (Int32.ofNat s) 1 e1 else f5_Pa_behindPlace_63 (Int32.ofNat s) 2 e1) (dq_n5 d (by decide) (dq_n5 d (by decide) ?_)) (fun e9 _ d9 => dq_191 d9)
    unfold f5_Pa_behindPlace_63
    rw [if_pos rfl]
    exact dq_x5 (dx_expect d (by decide))
end

end
section
set_option maxHeartbeats 1600000
/-! named statements: calls, values -/
theorem ofU_5 {b : Nat} {x : Int32} (hx : x = Int32.ofNat (b + 1)) (hb : b ≤ 1000000) : x - 1 = Int32.ofNat b := by
  apply Int32.toInt_inj.mp
  have l1 := ofn_i (n := b + 1) (by omega)
  have l2 := ofn_i (n := b) (by omega)
  rw [hx, sub_i (by rw [t1i]; omega) (by rw [t1i]; omega), l1, l2, t1i]
  omega
theorem ep_5 {β : Type} {c : Int32} {e : E5} {k : E5 → Unit → R5 β} : rdB5 (f5_Pa_expect c e) (fun e1 _ => rdB5 (f5_Pa_take e1) k) = rdB5 (f5_Pa_pass c e) k := by
  unfold f5_Pa_expect f5_Pa_pass
  by_cases h : e.1 paKind = c
  · rw [if_pos h, if_pos h, rdl_5, rb_u5]
  · rw [if_neg h, if_neg h, rdr_5, rdr_5]
theorem no_m5 {a : Nat} (h : a ≤ 1000000) : ¬ Int32.ofNat a = -1 := fun q => by
  have y := congrArg Int32.toInt q
  rw [ofn_i (by omega)] at y
  have z : (-1 : Int32).toInt = -1 := rfl
  omega
section
variable {T : T5} {X : X5} {Bk N : Nat} {Z : Int32} {V : V5} {W : W5} {a a0 l b f t s tc : Nat} {e : E5} {σ : rS}
theorem lr_N5 (H : TR5 T X Bk N Z) (L : LR5 T X Bk N Z V W a l e σ) (hk : e.1 paKind ≠ 142) : a + 1 < N := by
  have z := H.2.2.2.1 a L.2.2.1.1
  have a4 := L.2.2.1.2.2.2.1
  have a5 := L.2.2.1.2.2.2.2
  have y : ¬ (a + 1 = N) := fun q => by
    rcases z.mpr q with w | w
    · exact hk (a4.trans w)
    · exact a5 w
  have := L.2.2.1.1
  omega
theorem lr_nx5 {c : Int32} (H : TR5 T X Bk N Z) (L : LR5 T X Bk N Z V W a l e σ) (h0 : 0 < c.toInt) (h1 : c.toInt < 128) (hN : a + 1 < N) : g5_isNext c σ = if T.2.1 (a + 1) = c then 1 else 0 := by
  have hh := H.1
  have es : σ.1 10 + 1 = Int32.ofNat (Bk + (a + 1)) := by rw [L.2.2.1.2.2.1, on_15 (by omega)]; rfl
  have e2 : sx5 σ = X := L.1.2.1
  have k := kd_s5 (H.2.2.1 (a + 1) hN) h0 h1
  have s1 : σ.2.2.1 5 (Bk + (a + 1)) = X.1 (Bk + (a + 1)) := by rw [← e2]; rfl
  have s2 : σ.2.2.1 7 (Bk + (a + 1)) = X.2.2.1 (Bk + (a + 1)) := by rw [← e2]; rfl
  unfold g5_isNext
  rw [es, cl_5 (by omega), s1, s2]
  by_cases q : T.2.1 (a + 1) = c
  · obtain ⟨q1, q2⟩ := k.mpr q
    rw [if_pos q, if_pos q1, if_pos q2]
  · rw [if_neg q]
    by_cases q1 : X.1 (Bk + (a + 1)) = 3
    · rw [if_pos q1, if_neg (fun q2 => q (k.mp ⟨q1, q2⟩))]
    · rw [if_neg q1]
theorem rst_45 {x : Int32} (J : jS5 T X Bk N b f t s V W) : ∀ i, i ≠ 11 * s + 4 → rst5 (Int32.ofNat s) 4 x V i = vrs5 V i := fun i hi => by
  show rst5 (Int32.ofNat s) (Int32.ofNat 4) x V i = vrs5 V i
  rw [rst_5 (s := s) (c := 4) (x := x) (V := V) J.2.1.2.1 (by omega) (by have := J.2.2; omega) (by decide)]
  exact if_neg hi
/-- a call's arguments -/
theorem sr_223 (H : TR5 T X Bk N Z) (J : jS5 T X Bk N b f t s V W) (L : LR5 T X Bk N Z V W (tc + 1) b e σ) (hE : vrs5 V (11 * s + 4) = 0) (h5 : vrs5 V (11 * s + 5) = Int32.ofNat tc) (h30 : w30_5 W s = 5) (hw : w32_5 W s = Int32.ofNat (Bk + tc)) (kt : T.2.1 tc = 140) (ha : a0 ≤ tc) : sr5 (fun e' _ σ' => eS5 T X Bk N Z a0 f t s e' σ') (f5_Pa_statement_223 (Int32.ofNat s) e) (g5_arguments σ) := by
  obtain ⟨e1, V1, z1, L1, J1, v1, k1⟩ := js_set (c := 0) (x := 5) (ci := 0) J L (by decide) rfl
  have hN := L.2.2.1.1
  unfold f5_Pa_statement_223
  rw [z1, rdl_5, b233_k J1 L1 (show vrs5 V1 (11 * s) = 5 by rw [v1, if_pos (by omega)]) (by decide)]
  refine sr_m5 (sr_args H J1 L1 (by rw [v1, if_neg (by omega)]; exact hE)) (fun e' _ Q => ?_)
  obtain ⟨a', R, h, L', hR, hc⟩ := Q
  have J' : jS5 T X Bk N b f t s (vr5 V1 R) W := by
    have q := js_v5 (R := R) (r30 := w30_5 W) (r32 := w32_5 W) J1 (fun i hi => hR i (by omega)) (fun _ _ => rfl) (fun _ _ => rfl)
    rw [ww_i5] at q
    exact q
  have r0 : R (11 * s) = 5 := by rw [hR _ (by omega), v1, if_pos (by omega)]
  have r5 : R (11 * s + 5) = Int32.ofNat tc := by rw [hR _ (by omega), v1, if_neg (by omega)]; exact h5
  exact ⟨a', b, by omega, js_e5 J' L' ⟨⟨fun _ => h30, fun _ => r0⟩, ⟨fun h => absurd (r0.symm.trans h) (by decide), fun h => absurd (h30.symm.trans h) (by decide)⟩, fun _ => ⟨tc, by omega, kt, r5, hw, hc⟩⟩⟩
theorem sr_244 {a3 : Int32} (H : TR5 T X Bk N Z) (J : jS5 T X Bk N b f t s V W) (L : LR5 T X Bk N Z V W a b e σ) (h2 : w30_5 W s = 2) (hw : w32_5 W s = Int32.ofNat (Bk + a)) (hE : vrs5 V (11 * s + 4) = 0) (h3 : a3 ≠ 0 ↔ vrs5 V (11 * s + 1) = 3) (ha : a0 ≤ a) : sr5 (fun e' _ σ' => eS5 T X Bk N Z a0 f t s e' σ') (rdB5 (f5_Pa_behindPlace_91 (Int32.ofNat s) 0 e) (fun e1 r2 => f5_Pa_statement_191 (Int32.ofNat s) 0 r2 e1)) (g5_tellNamed_244 (Int32.ofNat s) a3 σ) := by
  have hh := H.1
  have aN := L.2.2.1.1
  have cs : (Int32.ofNat s).toNatClampNeg = s := cl_5 (by have := J.2.2; omega)
  obtain ⟨e1, V1, z1, L1, J1, v1, k1⟩ := js_set (c := 0) (x := 0) (ci := 0) J L (by decide) rfl
  have c0 : vrs5 V1 (11 * s) = 0 := by rw [v1, if_pos (by omega)]
  have c1 : vrs5 V1 (11 * s + 1) = vrs5 V (11 * s + 1) := by rw [v1, if_neg (by omega)]
  have c4 : vrs5 V1 (11 * s + 4) = 0 := by rw [v1, if_neg (by omega)]; exact hE
  unfold f5_Pa_behindPlace_91
  rw [z1, rdl_5, if_pos rfl]
  unfold g5_tellNamed_244
  rw [pb_e5, pb_e5, lr_ir5 L, if_neg ne105]
  have b0 : f5_Pa_behindPlace_133 0 0 e1 = .inl (e1, -1) := by
    unfold f5_Pa_behindPlace_133 f5_Pa_behindPlace_159
    rw [if_pos rfl, if_neg (by decide), if_neg (by decide), if_neg (by decide), if_pos rfl]
  have D := sr_295 (a0 := a0) H J1 L1 c0 h2 ha
  obtain ⟨so, _, _⟩ := lr_so5 H L1
  have ko := (kd_o5 (lr_kd5 H L1)).2.1
  by_cases ck : e1.1 paKind = 140
  · by_cases c3 : a3 = 0
    · have hN := lr_N5 H L1 (by rw [ck]; decide)
      rw [if_pos ck, lr_cw5 (c := 1) (ci := 1) J1 L1 (by decide) rfl, c1, if_neg (fun h => (h3.mpr h) c3)]
      unfold f5_Pa_behindPlace_133
      rw [if_neg ne105, rdB_a5, if_pos c3, if_pos (so.trans (ko.mpr ck)), pb_e5, lr_nx5 H L1 (by decide) (by decide) hN]
      by_cases c40 : T.2.1 (a + 1) = 40
      · rw [if_pos c40, if_neg ne105, pb_e5, pb_e5, pb_e5, cs]
        obtain ⟨W2, L2, J2, w2, w2'⟩ := js_30 (x := 5) J1 L1
        generalize riU σ 30 s 5 = σ2 at L2 ⊢
        refine sr_b5 (sr_take H L2 (by rw [ck]; decide)) (fun e2 _ n2 Q2 => ?_) (kq_arguments kq_rf) (fun p e2 _ d => ?_)
        · obtain ⟨L3, _, _⟩ := Q2
          generalize g5_go σ2 = σ3 at L3 ⊢
          unfold f5_Pa_behindPlace_159
          rw [if_neg ne105, rdl_5, ofU_5 L3.2.2.1.2.1 (by omega)]
          obtain ⟨e3, V3, z3, L4, J4, v3, k3⟩ := js_set (c := 5) (x := Int32.ofNat a) (ci := 5) J2 L3 (by decide) rfl
          unfold f5_Pa_statement_191
          rw [z3, rdl_5, if_pos rfl, if_neg (no_m5 (by omega)), if_pos (show e3.1 paKind = 40 by rw [k3, L3.2.2.1.2.2.2.1]; exact c40)]
          exact sr_223 H J4 L4 (by rw [v3, if_neg (by omega)]; exact c4) (by rw [v3, if_pos (by omega)]) w2 (w2'.trans hw) ((lr_K5 L1).trans ck) ha
        · unfold f5_Pa_behindPlace_159
          rw [if_neg ne105, rdl_5]
          exact dq_191 d
      · rw [if_neg c40, if_pos rfl]
        unfold g5_tellNamed_295
        rw [pm_e5, pb_e5]
        refine sr_b5 (sr_take H L1 (by rw [ck]; decide)) (fun e2 _ n2 Q2 => ?_) ?_ (fun p e2 _ d => ?_)
        · obtain ⟨L3, _, _⟩ := Q2
          unfold f5_Pa_behindPlace_159
          rw [if_neg ne105, rdl_5, ofU_5 L3.2.2.1.2.1 (by omega)]
          obtain ⟨e3, V3, z3, L4, J4, v3, k3⟩ := js_set (c := 5) (x := Int32.ofNat a) (ci := 5) J1 L3 (by decide) rfl
          have c03 : vrs5 V3 (11 * s) = 0 := by rw [v3, if_neg (by omega)]; exact c0
          unfold f5_Pa_statement_191
          rw [z3, rdl_5, if_pos rfl, if_neg (no_m5 (by omega)), if_neg (show ¬ e3.1 paKind = 40 by rw [k3, L3.2.2.1.2.2.2.1]; exact c40), b233_0 J4 L4 c03, show vrs5 V3 (11 * s + 5) = Int32.ofNat a by rw [v3, if_pos (by omega)]]
          exact sr_xt5 H J4 (sr_exprT (s := Int32.ofNat s) H J4.1.1 (HI_O5 J4.1) L1 ck L4) (rst_45 J4) c03 h2 ha
        · rw [ge_T5 H L1 ck]
          exact kq_sign (kq_cont (kq_nmd (kq_si (by decide) (by decide) (kq_si (by decide) (by decide) kq_rf))))
        · unfold f5_Pa_behindPlace_159
          rw [if_neg ne105, rdl_5]
          exact dq_191 d
    · rw [if_pos ck, lr_cw5 (c := 1) (ci := 1) J1 L1 (by decide) rfl, c1, if_pos (h3.mp c3), b0, rdl_5, if_neg c3]
      exact D
  · rw [if_neg ck, b0, rdl_5]
    by_cases c3 : a3 = 0
    · rw [if_pos c3, if_neg (fun h => ck (ko.mp (so.symm.trans h)))]
      exact D
    · rw [if_neg c3]
      exact D
/-- behind the sign of a value -/
def q175_5 (a1 : Int32) (a3 : Int32) (σ1 : rS) : rS := pb5 (riU σ1 32 (a1).toNatClampNeg (σ1.1 10)) (fun σ3 => pb5 (g5_isRight σ3) (fun r5 => (if r5 = 0 then (g5_tellNamed_244 (a1) (a3) (σ3)) else pb5 (g5_isWord ((13 : Int32)) σ3) (fun r7 => (if r7 = 0 then (g5_tellNamed_244 (a1) (a3) (σ3)) else pb5 (riU σ3 30 (a1).toNatClampNeg (4 : Int32)) (fun σ8 => pb5 (g5_go σ8) (fun σ9 => pb5 (g5_open ((40 : Int32)) σ9) (fun σ11 => pm5 (g5_expression σ11) (fun σ13 r14 => pb5 (g5_close ((41 : Int32)) σ13) (fun σ15 => pb5 (g5_sign ((59 : Int32)) σ15) (fun σ17 => σ17)))))))))))
theorem t175_5 {a1 a3 : Int32} : g5_tellNamed_175 a1 a3 σ = q175_5 a1 a3 (g5_sign 61 σ) := by
  unfold g5_tellNamed_175 q175_5
  rw [pb_e5]
theorem kq_q175 {s9 : rS} {a1 a3 : Int32} (h : kq5 s9 σ) : kq5 s9 (q175_5 a1 a3 σ) := by
  unfold q175_5
  refine kq_pb (kq_pb (kq_if (kq_tellNamed_244 (kq_ri h)) (kq_pb (kq_if (kq_tellNamed_244 (kq_ri h)) (kq_pb (kq_pb (kq_pb (kq_pm (kq_pb (kq_pb ?_)))))))))) 
  exact kq_sign (kq_close (kq_expression (kq_open (kq_go (kq_ri (kq_ri h))))))
theorem sr_asg {a3 : Int32} (H : TR5 T X Bk N Z) (J : jS5 T X Bk N b f t s V W) (L : LR5 T X Bk N Z V W a b e σ) (h2 : w30_5 W s = 2) (hE : vrs5 V (11 * s + 4) = 0) (h3 : a3 ≠ 0 ↔ vrs5 V (11 * s + 1) = 3) (ha : a0 ≤ a) : sr5 (fun e' _ σ' => eS5 T X Bk N Z a0 f t s e' σ') (rdB5 (f5_Pa_behindPlace_14 (Int32.ofNat s) 0 e) (fun e1 r2 => f5_Pa_statement_191 (Int32.ofNat s) 0 r2 e1)) (g5_tellNamed_175 (Int32.ofNat s) a3 σ) := by
  have cs : (Int32.ofNat s).toNatClampNeg = s := cl_5 (by have := J.2.2; omega)
  rw [t175_5]
  unfold f5_Pa_behindPlace_14
  rw [if_pos rfl]
  unfold f5_Pa_behindPlace_25
  rw [ep_5, rdB_a5]
  refine sr_b5 (sr_pass H L (by decide) (by decide)) (fun e1 _ n1 Q1 => ?_) (kq_q175 kq_rf) (fun p e1 _ d => ?_)
  · obtain ⟨L1, _, _⟩ := Q1
    generalize g5_sign 61 σ = σ1 at L1 ⊢
    unfold q175_5
    rw [pb_e5, cs]
    obtain ⟨W2, L2, J2, w2, w2'⟩ := js_32 (x := σ1.1 10) J L1
    have hw : w32_5 W2 s = Int32.ofNat (Bk + (a + 1)) := w2'.trans L1.2.2.1.2.2.1
    generalize riU σ1 32 s (σ1.1 10) = σ2 at L2 ⊢
    rw [pb_e5, lr_ir5 L2, if_neg ne105, pb_e5, lr_wk5 H L2 (k := 162) (by decide) (by decide) rfl, if_pos (show (0 : Int32) = 0 from rfl)]
    by_cases c : e1.1 paKind = 162
    · rw [if_pos c, if_pos c, if_neg ne105, pb_e5, pb_e5, pb_e5, pm_e5, pb_e5, pb_e5]
      obtain ⟨W3, L3, J3, w3, _⟩ := js_30 (x := 4) J2 L2
      generalize riU σ2 30 s 4 = σ3 at L3 ⊢
      obtain ⟨e2, V4, z4, L4, J4, v4, k4⟩ := js_set (c := 0) (x := 4) (ci := 0) J3 L3 (by decide) rfl
      unfold f5_Pa_behindPlace_91
      rw [z4, rdl_5, if_neg (by decide)]
      unfold f5_Pa_behindPlace_133
      rw [if_pos rfl, if_neg (by decide), if_neg (by decide), if_pos rfl, rdB_a5]
      refine sr_b5 (sr_take H L4 (by rw [k4, c]; decide)) (fun e5 _ n5 Q5 => ?_) (kq_sign (kq_close (kq_expression (kq_open kq_rf)))) (fun p e5 _ d => ?_)
      · obtain ⟨L5, _, _⟩ := Q5
        generalize g5_go σ3 = σ5 at L5 ⊢
        unfold f5_Pa_behindPlace_159
        rw [if_pos rfl, rdl_5]
        obtain ⟨e6, V6, z6, L6, J6, v6, _⟩ := s191_m J4 L5
        have h4 : vrs5 V6 (11 * s) = 4 := by rw [v6, if_neg (by omega), v4, if_pos (by omega)]
        rw [z6, b233_k J6 L6 h4 (by decide)]
        exact sr_m5 (sr_fin1 H J6 L6 (by decide) (by decide) (by decide)) (fun e' _ D => dP_e5 J6 D (by rw [h4]; decide) (by rw [w3]; decide) (by rw [h4]; decide) (by rw [w3]; decide) (by omega))
      · unfold f5_Pa_behindPlace_159
        rw [if_pos rfl, rdl_5]
        exact dq_191 d
    · rw [if_neg c, if_neg c, if_pos (show (0 : Int32) = 0 from rfl)]
      exact sr_244 H J2 L2 (w2.trans h2) hw hE h3 (by omega)
  · rw [if_pos rfl]
    refine dq_b5 (m := if e1.1 paKind = 162 then f5_Pa_behindPlace_91 (Int32.ofNat s) 4 e1 else f5_Pa_behindPlace_91 (Int32.ofNat s) 0 e1) (dq_n5 d (by decide) (dq_91 d)) (fun e9 _ d9 => dq_191 d9)
end

end
