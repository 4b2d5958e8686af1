set_option maxHeartbeats 1600000
/-! local -/
/-- the reference's local behind its new statement -/
def tlL5 (r2 : Int32) (σ1 : rS) : rS := pb5 (g5_go σ1) (fun σ3 => pm5 (g5_fresh ((1 : Int32)) ((σ3.2.2.1 27 ((σ3.1 41)).toNatClampNeg)) ((8 : Int32)) σ3) (fun σ5 r6 => pb5 (g5_sign ((61 : Int32)) σ5) (fun σ7 => pb5 (riU σ7 32 (r2).toNatClampNeg (σ7.1 10)) (fun σ9 => pm5 (g5_expression σ9) (fun σ10 r11 => pb5 (g5_sign ((59 : Int32)) σ10) (fun σ12 => pb5 (g5_isRight σ12) (fun r15 => (if r15 = 0 then σ12 else pb5 (riU σ12 39 (r6).toNatClampNeg ((100 : Int32) + (σ12.2.2.1 27 ((σ12.1 41)).toNatClampNeg))) (fun σ16 => pb5 (riU σ16 28 ((((8 : Int32) * (σ16.1 41)) + (σ16.2.2.1 27 ((σ16.1 41)).toNatClampNeg))).toNatClampNeg r6) (fun σ17 => pb5 (riU σ17 27 ((σ17.1 41)).toNatClampNeg ((σ17.2.2.1 27 ((σ17.1 41)).toNatClampNeg) + (1 : Int32))) (fun σ18 => σ18)))))))))))
theorem tlL_5 {σ : rS} : g5_tellLocal σ = tlL5 (g5_newStatement 1 σ).2 (g5_newStatement 1 σ).1 := by
  unfold g5_tellLocal tlL5
  dsimp only [pm5, pb5]
theorem rL_f5 {σ : rS} {i i0 f : Nat} {x y y0 : Int32} : ∃ (σ' : rS) (r7 r8 : Nat → Int32), σ' = riU (riU (riU σ 39 i0 y0) 28 i x) 27 f y ∧ gS5 σ' = (σ.1 15, σ.2.2.1 20, σ.1 16, σ.2.2.1 22, σ.1 18, σ.2.2.1 25, σ.2.2.1 26, r7, r8, σ.1 41, σ.1 19, σ.2.2.1 30, σ.2.2.1 32, σ.1 42, σ.2.2.1 43, σ.2.2.1 45) ∧ (∀ k, r7 k = if k = f then y else σ.2.2.1 27 k) ∧ (∀ k, r8 k = if k = i then x else σ.2.2.1 28 k) ∧ sx5 σ' = sx5 σ ∧ (σ'.1 2 = σ.1 2 ∧ σ'.1 10 = σ.1 10 ∧ σ'.1 11 = σ.1 11 ∧ σ'.1 46 = σ.1 46 ∧ σ'.1 47 = σ.1 47 ∧ σ'.1 13 = σ.1 13) := by
  refine ⟨_, _, _, rfl, rfl, fun k => ?_, fun k => ?_, rfl, rfl, rfl, rfl, rfl, rfl, rfl⟩
  · show (riU (riU (riU σ 39 i0 y0) 28 i x) 27 f y).2.2.1 27 k = _
    have h1 : (riU (riU σ 39 i0 y0) 28 i x).2.2.1 27 k = σ.2.2.1 27 k := by rw [ri34, if_neg (by decide), ri34, if_neg (by decide)]
    rw [ri34, if_pos rfl, h1]
  · show (riU (riU (riU σ 39 i0 y0) 28 i x) 27 f y).2.2.1 28 k = _
    have h1 : (riU σ 39 i0 y0).2.2.1 28 k = σ.2.2.1 28 k := by rw [ri34, if_neg (by decide)]
    rw [ri34, if_neg (by decide), ri34, if_pos rfl, h1]
section
variable {T : T5} {X : X5} {Bk N : Nat} {Z : Int32} {V : V5} {W : W5} {a l b f t s : Nat} {e : E5} {σ : rS}
/-- one own name more -/
theorem iS_a5 {q st t1 i0 : Nat} {x y0 : Int32} (h : iS5 T X Bk N Z a b f t q st e σ) (ho : ∃ w, w < 8 ∧ e.1 paOwns = Int32.ofNat w) (hx : x = Int32.ofNat (Bk + t1)) (ht : t1 < N) (kt : T.2.1 t1 = 140) : ∃ (e' : E5), f5_Pa_addOwn (Int32.ofNat t1) e = .inl (e', ()) ∧ e'.1 paKind = e.1 paKind ∧ iS5 T X Bk N Z a b f t q st e' (riU (riU (riU σ 39 i0 y0) 28 ((8 : Int32) * σ.1 41 + σ.2.2.1 27 (σ.1 41).toNatClampNeg).toNatClampNeg x) 27 (σ.1 41).toNatClampNeg (σ.2.2.1 27 (σ.1 41).toNatClampNeg + 1)) := by
  obtain ⟨L, ⟨G, ⟨w, o1, o2, o3, o4⟩, nc, fn, hi, bK, b0⟩, S⟩ := h
  obtain ⟨w', w8, ow'⟩ := ho
  have ow : e.1 paOwns = Int32.ofNat w := o4.2.1
  have hw : w < 8 := by
    have y := congrArg Int32.toInt (ow.symm.trans ow')
    have := o4.1
    rw [ofn_i (by omega), ofn_i (by omega)] at y
    omega
  have s41 : σ.1 41 = Int32.ofNat f := o2
  have s27 : σ.2.2.1 27 f = Int32.ofNat w := o4.2.2.1
  have c41 : (σ.1 41).toNatClampNeg = f := by rw [s41, cl_5 (by omega)]
  have i28 : ((8 : Int32) * σ.1 41 + Int32.ofNat w).toNatClampNeg = 8 * f + w := ix8_5 s41 (by omega) (by omega)
  rw [c41, s27, i28]
  obtain ⟨e', r, z1, z2, z3, z4, z5⟩ := aO_f5 (x := Int32.ofNat t1) ow hw
  obtain ⟨σ', r7, r8, u1, u2, u3, u4, u5, u6⟩ := rL_f5 (σ := σ) (i := 8 * f + w) (i0 := i0) (f := f) (x := x) (y := Int32.ofNat w + 1) (y0 := y0)
  rw [← u1]
  refine ⟨e', z1, z5.2.1, lr_V5 L z4 z5 u5 u6, ⟨?_, ⟨w + 1, o1, by rw [u2]; exact o2, by rw [z2]; exact o3, ?_⟩, ?_, ?_, ?_, ?_, b0⟩, ?_⟩
  · exact nG_k5 G (by rw [z2]; rfl) (by rw [z2]; rfl) (by rw [z2]; rfl) (by rw [z2]; rfl) (by rw [z2]; rfl) (fun v k _ _ _ => by rw [z2]; rfl) (fun v k _ _ _ => by rw [z2]; rfl) (by rw [z2]; rfl) (by rw [u2]; rfl) (by rw [u2]; rfl) (by rw [u2]; rfl) (by rw [u2]; rfl) (by rw [u2]; rfl) (by rw [u2]; rfl) (fun v k _ _ _ => by rw [u2]; rfl)
  · rw [z2, u2]
    refine pN_a5 o4 hw (by decide) ht kt ?_ ?_ z3 (fun k => ?_)
    · show Int32.ofNat (w + 1) = e.1 1010 + 1
      rw [show e.1 1010 = Int32.ofNat w from ow, on_15 (by omega)]
    · show r7 f = σ.2.2.1 27 f + 1
      rw [u3, if_pos rfl, s27]
    · show r8 (8 * f + k) = if k = w then Int32.ofNat (Bk + t1) else σ.2.2.1 28 (8 * f + k)
      rw [u4, hx]
      by_cases c : k = w
      · rw [if_pos c, if_pos (by omega)]
      · rw [if_neg c, if_neg (by omega)]
  · rw [z2, u2]; exact nc
  · rw [z2]; exact fn
  · rw [z2]; exact hi
  · obtain ⟨c1, c2, c3⟩ := bK
    refine ⟨by rw [z2]; exact c1, by rw [u2]; exact c2, ?_⟩
    rw [z2, u2]
    exact c3
  · exact SS_k5 S (by rw [z2]; rfl) (by rw [z2]; rfl) (by rw [u2]; rfl) (by rw [u2]; rfl) (by rw [u2]; rfl)
theorem sr_local (H : TR5 T X Bk N Z) (J : jS5 T X Bk N b f t s V W) (L : LR5 T X Bk N Z V W a b e σ) (h142 : e.1 paKind ≠ 142) (hk : w30_5 W s = 1) : sr5 (fun e' _ σ' => eS5 T X Bk N Z a f t s e' σ') (f5_Pa_localStatement (Int32.ofNat s) e) (tlL5 (Int32.ofNat s) σ) := by
  unfold f5_Pa_localStatement tlL5
  dsimp only [pb5, pm5]
  have cs : (Int32.ofNat s).toNatClampNeg = s := cl_5 (by have := J.2.2; omega)
  rw [cs]
  refine sr_b5 (sr_take H L h142) (fun e1 _ n1 Q1 => ?_) (by repeat' first | with_reducible exact kq_rf | dsimp only | with_reducible refine kq_go ?_ | with_reducible refine kq_sign ?_ | with_reducible refine kq_open ?_ | with_reducible refine kq_close ?_ | with_reducible refine kq_flaw ?_ | with_reducible refine kq_look ?_ | with_reducible refine kq_due ?_ | with_reducible refine kq_fresh ?_ | with_reducible refine kq_expression ?_ | with_reducible refine kq_openBlock ?_ | with_reducible refine kq_newStatement ?_ | with_reducible refine kq_turn ?_ | with_reducible refine kq_tellVar_87 ?_ | with_reducible refine kq_tellVar_82 ?_ | with_reducible refine kq_tellVar_53 ?_ | with_reducible refine kq_tellArr_56 ?_ | with_reducible refine kq_arguments ?_ | with_reducible refine kq_arguments_77 ?_ | with_reducible refine kq_tellDraw ?_ | with_reducible refine kq_tellDraw_18 ?_ | with_reducible refine kq_tellDraw_55 ?_ | with_reducible refine kq_tellDraw_172 ?_ | with_reducible refine kq_tellNamed_295 ?_ | with_reducible refine kq_tellNamed_244 ?_ | with_reducible refine kq_tellNamed_175 ?_ | with_reducible refine kq_tellNamed_133 ?_ | with_reducible refine kq_tellNamed_109 ?_ | with_reducible refine kq_tellNamed_90 ?_ | with_reducible refine kq_tellFunc_218 ?_ | with_reducible refine kq_tellFunc_74 ?_ | with_reducible refine kq_tellFunc_34 ?_ | with_reducible refine kq_tellStatements ?_ | with_reducible refine kq_tellStatement ?_ | with_reducible refine kq_endBlock ?_ | with_reducible refine kq_arguments_28 _ _ _ ?_ | with_reducible refine kq_tellDraw_77 _ _ _ _ ?_ | with_reducible refine kq_tellStatements_11 _ _ ?_ | with_reducible refine kq_tellFunc_102 _ _ _ _ ?_ | with_reducible refine kq_expression_12 _ _ _ ?_ | with_reducible refine kq_si (by decide) (by decide) ?_ | with_reducible refine kq_ri ?_ | with_reducible refine kq_if ?_ ?_ | with_reducible refine kq_ifp ?_ ?_) (fun p e1 _ d => dq_x5 (dx_newName d))
  obtain ⟨L1, _, _⟩ := Q1
  generalize g5_go σ = σ1 at L1 ⊢
  obtain ⟨w, O⟩ := J.1.2.1
  have ow : e1.1 paOwns = Int32.ofNat w := by
    have z : e1.1 1010 = vow5 V := congrArg (fun V : V5 => vow5 V) L1.2.1.1
    exact z.trans O.2.2.2.2.1
  have s27 : σ1.2.2.1 27 (σ1.1 41).toNatClampNeg = Int32.ofNat w := by
    have z1 : σ1.1 41 = wfn5 W := congrArg (fun W : W5 => wfn5 W) L1.2.1.2
    have z2 : σ1.2.2.1 27 = w27_5 W := congrArg (fun W : W5 => w27_5 W) L1.2.1.2
    rw [z1, O.2.1, cl_5 (by have := O.1; omega), z2]
    exact O.2.2.2.2.2.1
  rw [ow, s27]
  refine sr_b5 (sr_new H L1 J.1.1 (Or.inr ⟨rfl, HI_O5 J.1⟩)) (fun e2 r n2 Q2 => ?_) (by repeat' first | with_reducible exact kq_rf | dsimp only | with_reducible refine kq_go ?_ | with_reducible refine kq_sign ?_ | with_reducible refine kq_open ?_ | with_reducible refine kq_close ?_ | with_reducible refine kq_flaw ?_ | with_reducible refine kq_look ?_ | with_reducible refine kq_due ?_ | with_reducible refine kq_fresh ?_ | with_reducible refine kq_expression ?_ | with_reducible refine kq_openBlock ?_ | with_reducible refine kq_newStatement ?_ | with_reducible refine kq_turn ?_ | with_reducible refine kq_tellVar_87 ?_ | with_reducible refine kq_tellVar_82 ?_ | with_reducible refine kq_tellVar_53 ?_ | with_reducible refine kq_tellArr_56 ?_ | with_reducible refine kq_arguments ?_ | with_reducible refine kq_arguments_77 ?_ | with_reducible refine kq_tellDraw ?_ | with_reducible refine kq_tellDraw_18 ?_ | with_reducible refine kq_tellDraw_55 ?_ | with_reducible refine kq_tellDraw_172 ?_ | with_reducible refine kq_tellNamed_295 ?_ | with_reducible refine kq_tellNamed_244 ?_ | with_reducible refine kq_tellNamed_175 ?_ | with_reducible refine kq_tellNamed_133 ?_ | with_reducible refine kq_tellNamed_109 ?_ | with_reducible refine kq_tellNamed_90 ?_ | with_reducible refine kq_tellFunc_218 ?_ | with_reducible refine kq_tellFunc_74 ?_ | with_reducible refine kq_tellFunc_34 ?_ | with_reducible refine kq_tellStatements ?_ | with_reducible refine kq_tellStatement ?_ | with_reducible refine kq_endBlock ?_ | with_reducible refine kq_arguments_28 _ _ _ ?_ | with_reducible refine kq_tellDraw_77 _ _ _ _ ?_ | with_reducible refine kq_tellStatements_11 _ _ ?_ | with_reducible refine kq_tellFunc_102 _ _ _ _ ?_ | with_reducible refine kq_expression_12 _ _ _ ?_ | with_reducible refine kq_si (by decide) (by decide) ?_ | with_reducible refine kq_ri ?_ | with_reducible refine kq_if ?_ ?_ | with_reducible refine kq_ifp ?_ ?_) (fun p e2 r d => dq_x5 (dx_pass d (by decide)))
  obtain ⟨L2, rfl, kt, htok, mm⟩ := Q2
  have ht := L1.2.2.1.1
  have w8 : w < 8 := lt_n5 (m := 8) rfl (by have := O.2.2.2.1; omega) (by decide) mm
  generalize (g5_fresh 1 (Int32.ofNat w) 8 σ1).2 = tk at htok ⊢
  generalize (g5_fresh 1 (Int32.ofNat w) 8 σ1).1 = σ2 at L2 ⊢
  refine sr_b5 (sr_pass H L2 (by decide) (by decide)) (fun e3 _ n3 Q3 => ?_) (by repeat' first | with_reducible exact kq_rf | dsimp only | with_reducible refine kq_go ?_ | with_reducible refine kq_sign ?_ | with_reducible refine kq_open ?_ | with_reducible refine kq_close ?_ | with_reducible refine kq_flaw ?_ | with_reducible refine kq_look ?_ | with_reducible refine kq_due ?_ | with_reducible refine kq_fresh ?_ | with_reducible refine kq_expression ?_ | with_reducible refine kq_openBlock ?_ | with_reducible refine kq_newStatement ?_ | with_reducible refine kq_turn ?_ | with_reducible refine kq_tellVar_87 ?_ | with_reducible refine kq_tellVar_82 ?_ | with_reducible refine kq_tellVar_53 ?_ | with_reducible refine kq_tellArr_56 ?_ | with_reducible refine kq_arguments ?_ | with_reducible refine kq_arguments_77 ?_ | with_reducible refine kq_tellDraw ?_ | with_reducible refine kq_tellDraw_18 ?_ | with_reducible refine kq_tellDraw_55 ?_ | with_reducible refine kq_tellDraw_172 ?_ | with_reducible refine kq_tellNamed_295 ?_ | with_reducible refine kq_tellNamed_244 ?_ | with_reducible refine kq_tellNamed_175 ?_ | with_reducible refine kq_tellNamed_133 ?_ | with_reducible refine kq_tellNamed_109 ?_ | with_reducible refine kq_tellNamed_90 ?_ | with_reducible refine kq_tellFunc_218 ?_ | with_reducible refine kq_tellFunc_74 ?_ | with_reducible refine kq_tellFunc_34 ?_ | with_reducible refine kq_tellStatements ?_ | with_reducible refine kq_tellStatement ?_ | with_reducible refine kq_endBlock ?_ | with_reducible refine kq_arguments_28 _ _ _ ?_ | with_reducible refine kq_tellDraw_77 _ _ _ _ ?_ | with_reducible refine kq_tellStatements_11 _ _ ?_ | with_reducible refine kq_tellFunc_102 _ _ _ _ ?_ | with_reducible refine kq_expression_12 _ _ _ ?_ | with_reducible refine kq_si (by decide) (by decide) ?_ | with_reducible refine kq_ri ?_ | with_reducible refine kq_if ?_ ?_ | with_reducible refine kq_ifp ?_ ?_) (fun p e3 _ d => dq_b5 (dq_expr d) (fun e9 _ d9 => dq_x5 (dx_pass d9 (by decide))))
  obtain ⟨L3, _, _⟩ := Q3
  generalize g5_sign 61 σ2 = σ3 at L3 ⊢
  have L4 := lr_325 (i := s) (x := σ3.1 10) L3
  have J4 : jS5 T X Bk N b f t s V (ww5 W (w30_5 W) (fun j => if j = s then σ3.1 10 else w32_5 W j)) := js_v5 (R := vrs5 V) J (fun _ _ => rfl) (fun _ _ => rfl) (fun j hj => if_neg (by omega))
  have hk2 : w30_5 (ww5 W (w30_5 W) (fun j => if j = s then σ3.1 10 else w32_5 W j)) s = 1 := hk
  generalize ww5 W (w30_5 W) (fun j => if j = s then σ3.1 10 else w32_5 W j) = W2 at L4 J4 hk2
  generalize riU σ3 32 s (σ3.1 10) = σ4 at L4 ⊢
  have X5' := sr_expr (s := Int32.ofNat s) H J4.1.1 (HI_O5 J4.1) L4
  have J5 := js_ex5 (x := cl5 (Int32.ofNat s) 4 e3 + 1) J4
  have ow5 : vow5 (vr5 V (rst5 (Int32.ofNat s) 4 (cl5 (Int32.ofNat s) 4 e3 + 1) V)) = Int32.ofNat w := O.2.2.2.2.1
  generalize vr5 V (rst5 (Int32.ofNat s) 4 (cl5 (Int32.ofNat s) 4 e3 + 1) V) = V5' at X5' J5 ow5
  generalize (g5_expression σ4).1 = σ5 at X5' ⊢
  have dl : ∀ p (e9 : E5), dk5 p e9 → dq5 p (rdB5 (f5_Pa_setPlace (Int32.ofNat s) 2 (e9.1 paOwns) e9) (fun e21 _ => rdB5 (f5_Co_setColumn (Int32.ofNat s) 0 0 e21) (fun e25 _ => rdB5 (f5_Pa_addOwn (Int32.ofNat (a + 1)) e25) (fun e28 _ => .inl (e28, ()))))) := fun p e9 d => by
    unfold f5_Pa_setPlace
    rw [rdB_a5, stc_5, rdl_5, rdB_a5, stc_5, rdl_5, rdl_5, stc_5, rdl_5]
    exact dq_b5 (dq_addOwn (dk_st5 (dk_st5 (dk_st5 d)))) (fun e10 _ d10 => dq_i5 d10)
  refine xb_5 X5' (fun e5 a' n5 L5 h5 _ => ?_) (by repeat' first | with_reducible exact kq_rf | dsimp only | with_reducible refine kq_go ?_ | with_reducible refine kq_sign ?_ | with_reducible refine kq_open ?_ | with_reducible refine kq_close ?_ | with_reducible refine kq_flaw ?_ | with_reducible refine kq_look ?_ | with_reducible refine kq_due ?_ | with_reducible refine kq_fresh ?_ | with_reducible refine kq_expression ?_ | with_reducible refine kq_openBlock ?_ | with_reducible refine kq_newStatement ?_ | with_reducible refine kq_turn ?_ | with_reducible refine kq_tellVar_87 ?_ | with_reducible refine kq_tellVar_82 ?_ | with_reducible refine kq_tellVar_53 ?_ | with_reducible refine kq_tellArr_56 ?_ | with_reducible refine kq_arguments ?_ | with_reducible refine kq_arguments_77 ?_ | with_reducible refine kq_tellDraw ?_ | with_reducible refine kq_tellDraw_18 ?_ | with_reducible refine kq_tellDraw_55 ?_ | with_reducible refine kq_tellDraw_172 ?_ | with_reducible refine kq_tellNamed_295 ?_ | with_reducible refine kq_tellNamed_244 ?_ | with_reducible refine kq_tellNamed_175 ?_ | with_reducible refine kq_tellNamed_133 ?_ | with_reducible refine kq_tellNamed_109 ?_ | with_reducible refine kq_tellNamed_90 ?_ | with_reducible refine kq_tellFunc_218 ?_ | with_reducible refine kq_tellFunc_74 ?_ | with_reducible refine kq_tellFunc_34 ?_ | with_reducible refine kq_tellStatements ?_ | with_reducible refine kq_tellStatement ?_ | with_reducible refine kq_endBlock ?_ | with_reducible refine kq_arguments_28 _ _ _ ?_ | with_reducible refine kq_tellDraw_77 _ _ _ _ ?_ | with_reducible refine kq_tellStatements_11 _ _ ?_ | with_reducible refine kq_tellFunc_102 _ _ _ _ ?_ | with_reducible refine kq_expression_12 _ _ _ ?_ | with_reducible refine kq_si (by decide) (by decide) ?_ | with_reducible refine kq_ri ?_ | with_reducible refine kq_if ?_ ?_ | with_reducible refine kq_ifp ?_ ?_) (fun p e5 d => dq_x5 (dx_pass d (by decide))) (fun a' d => ?_)
  · refine sr_b5 (sr_pass H L5 (by decide) (by decide)) (fun e6 _ n6 Q6 => ?_) (by repeat' first | with_reducible exact kq_rf | dsimp only | with_reducible refine kq_go ?_ | with_reducible refine kq_sign ?_ | with_reducible refine kq_open ?_ | with_reducible refine kq_close ?_ | with_reducible refine kq_flaw ?_ | with_reducible refine kq_look ?_ | with_reducible refine kq_due ?_ | with_reducible refine kq_fresh ?_ | with_reducible refine kq_expression ?_ | with_reducible refine kq_openBlock ?_ | with_reducible refine kq_newStatement ?_ | with_reducible refine kq_turn ?_ | with_reducible refine kq_tellVar_87 ?_ | with_reducible refine kq_tellVar_82 ?_ | with_reducible refine kq_tellVar_53 ?_ | with_reducible refine kq_tellArr_56 ?_ | with_reducible refine kq_arguments ?_ | with_reducible refine kq_arguments_77 ?_ | with_reducible refine kq_tellDraw ?_ | with_reducible refine kq_tellDraw_18 ?_ | with_reducible refine kq_tellDraw_55 ?_ | with_reducible refine kq_tellDraw_172 ?_ | with_reducible refine kq_tellNamed_295 ?_ | with_reducible refine kq_tellNamed_244 ?_ | with_reducible refine kq_tellNamed_175 ?_ | with_reducible refine kq_tellNamed_133 ?_ | with_reducible refine kq_tellNamed_109 ?_ | with_reducible refine kq_tellNamed_90 ?_ | with_reducible refine kq_tellFunc_218 ?_ | with_reducible refine kq_tellFunc_74 ?_ | with_reducible refine kq_tellFunc_34 ?_ | with_reducible refine kq_tellStatements ?_ | with_reducible refine kq_tellStatement ?_ | with_reducible refine kq_endBlock ?_ | with_reducible refine kq_arguments_28 _ _ _ ?_ | with_reducible refine kq_tellDraw_77 _ _ _ _ ?_ | with_reducible refine kq_tellStatements_11 _ _ ?_ | with_reducible refine kq_tellFunc_102 _ _ _ _ ?_ | with_reducible refine kq_expression_12 _ _ _ ?_ | with_reducible refine kq_si (by decide) (by decide) ?_ | with_reducible refine kq_ri ?_ | with_reducible refine kq_if ?_ ?_ | with_reducible refine kq_ifp ?_ ?_) (fun p e6 _ d => dl p e6 d)
    obtain ⟨L6, _, _⟩ := Q6
    generalize g5_sign 59 σ5 = σ6 at L6 ⊢
    rw [lr_ir5 L6, if_neg ne105]
    unfold f5_Pa_setPlace
    rw [rdB_a5, stc_5, rdl_5, rdB_a5, stc_5, rdl_5, rdl_5, stc_5, rdl_5]
    have L7 := lr_st5 (s := Int32.ofNat s) (c := 1) (x := 2) L6
    have J7 := js_st5 (c := 1) (x := 2) J5 (by decide)
    have o7 : vow5 (vr5 V5' (rst5 (Int32.ofNat s) 1 2 V5')) = Int32.ofNat w := ow5
    have J7' : jS5 T X Bk N b f t s (vr5 V5' (rst5 (Int32.ofNat s) 1 2 V5')) W2 := J7
    generalize vr5 V5' (rst5 (Int32.ofNat s) 1 2 V5') = V7 at L7 J7' o7
    have L8 := lr_st5 (s := Int32.ofNat s) (c := 2) (x := e6.1 paOwns) L7
    have J8 : jS5 T X Bk N b f t s (vr5 V7 (rst5 (Int32.ofNat s) 2 (e6.1 paOwns) V7)) W2 := js_st5 (c := 2) (x := e6.1 paOwns) J7' (by decide)
    have o8 : vow5 (vr5 V7 (rst5 (Int32.ofNat s) 2 (e6.1 paOwns) V7)) = Int32.ofNat w := o7
    generalize vr5 V7 (rst5 (Int32.ofNat s) 2 (e6.1 paOwns) V7) = V8 at L8 J8 o8
    have L9 := lr_st5 (s := Int32.ofNat s) (c := 0) (x := 0) L8
    have J9 : jS5 T X Bk N b f t s (vr5 V8 (rst5 (Int32.ofNat s) 0 0 V8)) W2 := js_st5 (c := 0) (x := 0) J8 (by decide)
    have o9 : vow5 (vr5 V8 (rst5 (Int32.ofNat s) 0 0 V8)) = Int32.ofNat w := o8
    have z := rst_5 (s := s) (c := 0) (x := 0) (V := V8) J8.2.1.2.1 (by omega) (by have := J8.2.2; omega) (by decide)
    have z2 : vrs5 (vr5 V8 (rst5 (Int32.ofNat s) 0 0 V8)) (11 * s) = 0 := by
      show rst5 (Int32.ofNat s) (Int32.ofNat 0) 0 V8 (11 * s) = 0
      rw [z]
      show (if 11 * s = 11 * s + 0 then (0 : Int32) else _) = 0
      rw [if_pos (by omega)]
    generalize vr5 V8 (rst5 (Int32.ofNat s) 0 0 V8) = V9 at L9 J9 o9 z2
    generalize stc5 (Int32.ofNat s) 0 0 (stc5 (Int32.ofNat s) 2 (e6.1 paOwns) (stc5 (Int32.ofNat s) 1 2 e6)) = e9 at L9 ⊢
    have I9 := js_e5 J9 L9 (sS_n5 (by rw [z2]; decide) (by rw [hk2]; decide) (by rw [z2, hk2]; decide))
    have h9 : e9.1 paOwns = Int32.ofNat w := by
      have z : e9.1 1010 = vow5 V9 := congrArg (fun V : V5 => vow5 V) L9.2.1.1
      exact z.trans o9
    obtain ⟨e10, y1, y2, y3⟩ := iS_a5 (t1 := a + 1) (i0 := tk.toNatClampNeg) (y0 := (100 : Int32) + σ6.2.2.1 27 (σ6.1 41).toNatClampNeg) (x := tk) I9 ⟨w, w8, h9⟩ htok ht kt
    rw [y1, rdl_5]
    refine sr_i5 (by rw [y2]; exact lr_k5 L9) ⟨a' + 1, b, by omega, ?_⟩
    exact y3
  · obtain ⟨f1, f2⟩ := dc_sign (c := 59) H d (by decide) (by decide) (by decide)
    have kq : kq5 (g5_sign 59 σ5) (if g5_isRight (g5_sign 59 σ5) = 0 then g5_sign 59 σ5 else riU (riU (riU (g5_sign 59 σ5) 39 tk.toNatClampNeg ((100 : Int32) + (g5_sign 59 σ5).2.2.1 27 ((g5_sign 59 σ5).1 41).toNatClampNeg)) 28 ((8 : Int32) * (g5_sign 59 σ5).1 41 + (g5_sign 59 σ5).2.2.1 27 ((g5_sign 59 σ5).1 41).toNatClampNeg).toNatClampNeg tk) 27 ((g5_sign 59 σ5).1 41).toNatClampNeg ((g5_sign 59 σ5).2.2.1 27 ((g5_sign 59 σ5).1 41).toNatClampNeg + 1)) := kq_if kq_rf (kq_ri (kq_ri (kq_ri kq_rf)))
    obtain ⟨g1, g2⟩ := kq (by rw [f1]; decide)
    exact ⟨g1.trans f1, g2.trans f2⟩
end
