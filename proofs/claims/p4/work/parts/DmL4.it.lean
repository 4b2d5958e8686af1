set_option maxHeartbeats 1600000
/-! a function's names, its head whole -/
theorem aO_f5 {x : Int32} {w : Nat} {e : E5} (hw : e.1 paOwns = Int32.ofNat w) (hw8 : w < 8) : ∃ (e' : E5) (r : Nat → Int32), f5_Pa_addOwn x e = .inl (e', ()) ∧ gE5 e' = (e.1 509, e.2.1 1006, e.1 510, e.2.1 1007, e.1 512, e.2.1 1008, e.2.1 504, Int32.ofNat (w + 1), r, e.1 513, e.2.1 506, e.1 1014, e.2.1 1011, e.2.1 1013, e.1 1005, e.2.2) ∧ (∀ k, r k = if k = w then x else e.2.1 1009 k) ∧ tq5 e' = tq5 e ∧ (e'.1 paAt = e.1 paAt ∧ e'.1 paKind = e.1 paKind ∧ e'.1 paOpen = e.1 paOpen) := by
  have c : (e.1 paOwns).toNatClampNeg = w := by rw [hw, cl_5 (by omega)]
  have f1 : f5_Pa_addOwn x e = .inl (((fun g => if g = paOwns then e.1 paOwns + 1 else e.1 g), (fun g j => if g = paOwnNames ∧ j = (e.1 paOwns).toNatClampNeg then x else e.2.1 g j), e.2.2), ()) := by
    unfold f5_Pa_addOwn
    rw [if_neg (show ¬ (8 : Int32) ≤ e.1 paOwns from fun q => absurd ((lti_n5 (m := 8) hw (by omega) (by decide)).mp q) (by omega))]
    rfl
  rw [c, hw, on_15 (by omega)] at f1
  refine ⟨_, _, f1, rfl, fun k => ?_, rfl, rfl, rfl, rfl⟩
  show (if 1009 = 1009 ∧ k = w then x else e.2.1 1009 k) = _
  by_cases z : k = w
  · rw [if_pos ⟨rfl, z⟩, if_pos z]
  · rw [if_neg (fun q => z q.2), if_neg z]
theorem rO_f5 {σ : rS} {i f : Nat} {x y z : Int32} : ∃ (σ' : rS) (r6 r7 r8 : Nat → Int32), σ' = riU (riU (riU σ 28 i x) 27 f y) 26 f z ∧ gS5 σ' = (σ.1 15, σ.2.2.1 20, σ.1 16, σ.2.2.1 22, σ.1 18, σ.2.2.1 25, r6, r7, r8, σ.1 41, σ.1 19, σ.2.2.1 30, σ.2.2.1 32, σ.1 42, σ.2.2.1 43, σ.2.2.1 45) ∧ (∀ k, r6 k = if k = f then z else σ.2.2.1 26 k) ∧ (∀ k, r7 k = if k = f then y else σ.2.2.1 27 k) ∧ (∀ k, r8 k = if k = i then x else σ.2.2.1 28 k) ∧ sx5 σ' = sx5 σ ∧ (σ'.1 2 = σ.1 2 ∧ σ'.1 10 = σ.1 10 ∧ σ'.1 11 = σ.1 11 ∧ σ'.1 46 = σ.1 46 ∧ σ'.1 47 = σ.1 47 ∧ σ'.1 13 = σ.1 13) := by
  refine ⟨_, _, _, _, rfl, rfl, fun k => ?_, fun k => ?_, fun k => ?_, rfl, rfl, rfl, rfl, rfl, rfl, rfl⟩
  · show (riU (riU (riU σ 28 i x) 27 f y) 26 f z).2.2.1 26 k = _
    have h1 : (riU (riU σ 28 i x) 27 f y).2.2.1 26 k = σ.2.2.1 26 k := by rw [ri34, if_neg (by decide), ri34, if_neg (by decide)]
    rw [ri34, if_pos rfl, h1]
  · show (riU (riU (riU σ 28 i x) 27 f y) 26 f z).2.2.1 27 k = _
    have h1 : (riU σ 28 i x).2.2.1 27 k = σ.2.2.1 27 k := by rw [ri34, if_neg (by decide)]
    rw [ri34, if_neg (by decide), ri34, if_pos rfl, h1]
  · show (riU (riU (riU σ 28 i x) 27 f y) 26 f z).2.2.1 28 k = _
    rw [ri34, if_neg (by decide), ri34, if_neg (by decide), ri34, if_pos rfl]
section
variable {T : T5} {X : X5} {Bk N : Nat} {Z : Int32} {a l : Nat}
/-- while a function's names are told -/
def hN5 (T : T5) (X : X5) (Bk N : Nat) (Z : Int32) (a f w s : Nat) (e : E5) (σ : rS) : Prop := LR5 T X Bk N Z (gE5 e) (gS5 σ) a 1 e σ ∧ nG5 T Bk N (gE5 e) (gS5 σ) ∧ fO5 T Bk N f w (gE5 e) (gS5 σ) ∧ σ.2.2.1 26 f = Int32.ofNat w ∧ e.1 paInside = 0 ∧ e.1 paBlocks = 0 ∧ SS5 T X Bk N s s (gE5 e) (gS5 σ)
/-- one name more -/
theorem hN_a5 {f w s t : Nat} {x : Int32} {e : E5} {σ : rS} (H : TR5 T X Bk N Z) (h : hN5 T X Bk N Z a f w s e σ) (hw : w < 8) (hx : x = Int32.ofNat (Bk + t)) (ht : t < N) (kt : T.2.1 t = 140) : ∃ (e' : E5) (σ' : rS), f5_Pa_addOwn (Int32.ofNat t) e = .inl (e', ()) ∧ e'.1 paKind = e.1 paKind ∧ riU (riU (riU σ 28 ((8 : Int32) * σ.1 41 + σ.2.2.1 27 (σ.1 41).toNatClampNeg).toNatClampNeg x) 27 (σ.1 41).toNatClampNeg (σ.2.2.1 27 (σ.1 41).toNatClampNeg + 1)) 26 (σ.1 41).toNatClampNeg (σ.2.2.1 26 (σ.1 41).toNatClampNeg + 1) = σ' ∧ hN5 T X Bk N Z a f (w + 1) s e' σ' := by
  obtain ⟨L, G, ⟨o1, o2, o3, o4⟩, h26, hi, hb, hS⟩ := h
  have ow : e.1 paOwns = Int32.ofNat w := o4.2.1
  have s41 : σ.1 41 = Int32.ofNat f := o2
  have s27 : σ.2.2.1 27 f = Int32.ofNat w := o4.2.2.1
  have c41 : (σ.1 41).toNatClampNeg = f := by rw [s41, cl_5 (by omega)]
  have i28 : ((8 : Int32) * σ.1 41 + Int32.ofNat w).toNatClampNeg = 8 * f + w := ix8_5 s41 (by omega) (by omega)
  obtain ⟨e', r, z1, z2, z3, z4, z5⟩ := aO_f5 (x := Int32.ofNat t) ow hw
  obtain ⟨σ', r6, r7, r8, u1, u2, u3, u4, u5, u6, u7⟩ := rO_f5 (σ := σ) (i := 8 * f + w) (f := f) (x := x) (y := Int32.ofNat w + 1) (z := Int32.ofNat w + 1)
  refine ⟨e', σ', z1, z5.2.1, by rw [c41, s27, h26, i28, u1], lr_V5 L z4 z5 u6 u7, ?_, ?_, ?_, ?_, ?_, ?_⟩
  · have lf : ∀ v k : Nat, e.1 512 = Int32.ofNat v → v ≤ 10 → k < v → k ≠ f := fun v k hv hv2 hk => by
      have y := congrArg Int32.toInt (hv.symm.trans o3)
      rw [ofn_i (by omega), ofn_i (by omega)] at y
      omega
    refine nG_k5 G (by rw [z2]; rfl) (by rw [z2]; rfl) (by rw [z2]; rfl) (by rw [z2]; rfl) (by rw [z2]; rfl) (fun v k _ _ _ => by rw [z2]; rfl) (fun v k _ _ _ => by rw [z2]; rfl) (by rw [z2]; rfl) (by rw [u2]; rfl) (by rw [u2]; rfl) (by rw [u2]; rfl) (by rw [u2]; rfl) (by rw [u2]; rfl) (by rw [u2]; rfl) (fun v k h1 h2 h3 => ?_)
    rw [u2]
    show r6 k = σ.2.2.1 26 k
    rw [u3, if_neg (lf v k h1 h2 h3)]
  · refine ⟨o1, by rw [u2]; exact o2, by rw [z2]; exact o3, ?_⟩
    rw [z2, u2]
    refine pN_a5 o4 hw (by decide) ht kt ?_ ?_ z3 (fun k => ?_)
    · show Int32.ofNat (w + 1) = e.1 1010 + 1
      rw [show e.1 1010 = Int32.ofNat w from ow, on_15 (by omega)]
    · show r7 f = σ.2.2.1 27 f + 1
      rw [u4, if_pos rfl, s27]
    · show r8 (8 * f + k) = if k = w then Int32.ofNat (Bk + t) else σ.2.2.1 28 (8 * f + k)
      rw [u5, hx]
      by_cases c : k = w
      · rw [if_pos c, if_pos (by omega)]
      · rw [if_neg c, if_neg (by omega)]
  · have z : σ'.2.2.1 26 = r6 := congrArg (fun W : W5 => w26_5 W) u2
    rw [z, u3, if_pos rfl, on_15 (by omega)]
  · have z : e'.1 1005 = e.1 1005 := congrArg (fun V : V5 => vin5 V) z2
    exact z.trans hi
  · have z : e'.1 1014 = e.1 1014 := congrArg (fun V : V5 => vbl5 V) z2
    exact z.trans hb
  · exact SS_k5 hS (by rw [z2]; rfl) (by rw [z2]; rfl) (by rw [u2]; rfl) (by rw [u2]; rfl) (by rw [u2]; rfl)
/-- hN5 goes with the tokens -/
theorem hN_t5 {a' f w s : Nat} {e e' : E5} {σ σ' : rS} (h : hN5 T X Bk N Z a f w s e σ) (L : LR5 T X Bk N Z (gE5 e) (gS5 σ) a' 1 e' σ') : hN5 T X Bk N Z a' f w s e' σ' := by
  obtain ⟨_, G, O, h26, hi, hb, hS⟩ := h
  have hV := L.2.1.1
  have hW := L.2.1.2
  refine ⟨by rw [hV, hW]; exact L, by rw [hV, hW]; exact G, by rw [hV, hW]; exact O, ?_, ?_, ?_, by rw [hV, hW]; exact hS⟩
  · have z : σ'.2.2.1 26 = σ.2.2.1 26 := congrArg (fun W : W5 => w26_5 W) hW
    rw [z]; exact h26
  · have z : e'.1 1005 = e.1 1005 := congrArg (fun V : V5 => vin5 V) hV
    exact z.trans hi
  · have z : e'.1 1014 = e.1 1014 := congrArg (fun V : V5 => vbl5 V) hV
    exact z.trans hb
theorem dq_addOwn {p x : Int32} {e : E5} (d : dk5 p e) : dq5 p (f5_Pa_addOwn x e) := by
  unfold f5_Pa_addOwn
  exact dq_f5 (dq_i5 d) (dq_b5 (dq_sa5 d (by decide)) (fun e1 _ d1 => dq_b5 (dq_i5 (a := ()) d1) (fun e2 _ d2 => dq_i5 d2)))
theorem dq_h88 {p x : Int32} {e : E5} (d : dk5 p e) : dq5 p (f5_Pa_functionHead_88 x e) := by
  unfold f5_Pa_functionHead_88
  exact dq_x5 (dx_close d (by decide))
theorem dq_h37 {p : Int32} : ∀ (m : Nat) (x y z : Int32) (e : E5), dk5 p e → dq5 p (f5_Pa_functionHead_37 m x y z e)
  | 0, _, _, _, _, _ => Or.inl rfl
  | m + 1, x, y, z, e, d => by
    rw [f5_Pa_functionHead_37]
    exact dq_f5 (dq_h88 d) (dq_f5 (dq_h88 d) (dq_x5 (dx_newName d)))
theorem sr_h37 {β : Type} {Q' : E5 → β → rS → Prop} {kc : E5 → Unit → R5 β} {t f s : Nat} {tok : Int32} (H : TR5 T X Bk N Z) (ht : t < N) (kt : T.2.1 t = 140) (hd : ∀ p e, dk5 p e → dq5 p (kc e ())) (hK : ∀ e' σ' a', e'.1 paKind ≠ 143 → a < a' → LR5 T X Bk N Z (gE5 e') (gS5 σ') a' 1 e' σ' → HI5 T Bk N f t 1 s (gE5 e') (gS5 σ') → SS5 T X Bk N s s (gE5 e') (gS5 σ') → sr5 Q' (kc e' ()) (tlF5 fu5 tok σ')) : ∀ (m mr w a1 : Nat) (mo : Int32) (e : E5) (σ : rS), hN5 T X Bk N Z a1 f w s e σ → a ≤ a1 → w ≤ 4 → 6 - w ≤ mr → (mo = 0 ∨ mo = 1) → sr5 Q' (rdB5 (f5_Pa_functionHead_37 m (Int32.ofNat t) mo (Int32.ofNat w) e) kc) (g5_tellFunc_102 mr tok mo σ)
  | 0, _, _, _, _, _, _, _, _, _, _, _ => Or.inl rfl
  | m + 1, mr, w, a1, mo, e, σ, h, ha, hw, hmr, hmo => by
    obtain ⟨mr, rfl⟩ : ∃ k, mr = k + 1 := ⟨mr - 1, by omega⟩
    obtain ⟨L, G, O, h26, hi, hb, hS⟩ := h
    have h0 : hN5 T X Bk N Z a1 f w s e σ := ⟨L, G, O, h26, hi, hb, hS⟩
    rw [f5_Pa_functionHead_37, g5_tellFunc_102]
    dsimp only [pb5, pm5]
    rw [lr_ir5 L, if_neg ne105]
    rcases hmo with rfl | rfl
    · rw [if_pos rfl, if_pos rfl]
      exact sr_h88 H L G O h26 hi hb ht kt hS hd (fun e' σ' a' q1 q2 q3 q4 q5 => hK e' σ' a' q1 (by omega) q3 q4 q5)
    · have lw := ofn_i (n := w) (by omega)
      rw [if_neg ne105, if_neg ne105, if_neg (by rw [lti, lw]; have : (4 : Int32).toInt = 4 := rfl; omega), rdB_a5]
      have ow : e.1 paOwns = Int32.ofNat w := O.2.2.2.2.1
      have s27 : σ.2.2.1 27 (σ.1 41).toNatClampNeg = Int32.ofNat w := by
        have s41 : σ.1 41 = Int32.ofNat f := O.2.1
        rw [s41, cl_5 (by have := O.1; omega)]
        exact O.2.2.2.2.2.1
      rw [ow, s27]
      refine sr_b5 (sr_new H L G (Or.inr ⟨rfl, fO_n5 O⟩)) (fun e1 r n1 Q1 => ?_) ?_ (fun p e1 r d => ?_)
      · obtain ⟨L1, rfl, k1, htok, mm⟩ := Q1
        have hw4 : w < 4 := lt_n5 (m := 4) rfl (by omega) (by decide) mm
        generalize (g5_fresh 1 (Int32.ofNat w) 4 σ).2 = tk at htok ⊢
        generalize (g5_fresh 1 (Int32.ofNat w) 4 σ).1 = σ1 at L1 ⊢
        have h1 := hN_t5 h0 L1
        obtain ⟨e2, σ2, z1, z2, z3, z4⟩ := hN_a5 H h1 (by omega) htok L.2.2.1.1 k1
        rw [rdB_a5, z1, rdl_5, lr_ir5 L1, if_neg ne105]
        show sr5 Q' _ (g5_tellFunc_185 (g5_tellFunc_102 mr) tok (riU (riU (riU σ1 28 ((8 : Int32) * σ1.1 41 + σ1.2.2.1 27 (σ1.1 41).toNatClampNeg).toNatClampNeg tk) 27 (σ1.1 41).toNatClampNeg (σ1.2.2.1 27 (σ1.1 41).toNatClampNeg + 1)) 26 (σ1.1 41).toNatClampNeg (σ1.2.2.1 26 (σ1.1 41).toNatClampNeg + 1)))
        rw [z3]
        have L2 := z4.1
        have n2 : e2.1 paKind ≠ 143 := by rw [z2]; exact n1
        unfold g5_tellFunc_185 g5_tellFunc_206 f5_Pa_functionHead_73
        dsimp only [pb5]
        rw [lr_ir5 L2, if_neg ne105, lr_at5 H L2 (by decide) (by decide), rdB_f5]
        by_cases c : e2.1 paKind = 44
        · rw [if_pos c, if_pos c, if_neg ne105, if_neg ne105, if_neg ne105, rdB_a5]
          refine sr_b5 (sr_take H L2 (by rw [c]; decide)) (fun e3 _ n3 Q3 => ?_) (kq_tellFunc_102 _ _ _ _ kq_rf) (fun p e3 _ d => ?_)
          · rw [on_15 (by omega)]
            exact sr_h37 H ht kt hd hK m mr (w + 1) (a1 + 1 + 1) 1 e3 _ (hN_t5 z4 Q3.1) (by omega) (by omega) (by omega) (Or.inr rfl)
          · exact dq_b5 (dq_h37 m _ _ _ e3 d) (fun e9 _ d9 => hd p e9 d9)
        · rw [if_neg c, if_neg c, if_pos rfl, if_pos rfl, if_pos rfl, on_15 (by omega)]
          exact sr_h37 H ht kt hd hK m mr (w + 1) (a1 + 1) 0 e2 _ z4 (by omega) (by omega) (by omega) (Or.inl rfl)
      · exact kq_if (kq_tellFunc_185 (fun x0 x1 σ9 h9 => kq_tellFunc_102 _ _ _ _ h9) kq_rf) (kq_tellFunc_185 (fun x0 x1 σ9 h9 => kq_tellFunc_102 _ _ _ _ h9) (kq_ri (kq_ri (kq_ri kq_rf))))
      · refine dq_b5 ?_ (fun e9 _ d9 => hd p e9 d9)
        refine dq_b5 (dq_addOwn d) (fun e9 _ d9 => ?_)
        unfold f5_Pa_functionHead_73
        rw [if_neg ne105, if_pos rfl]
        exact dq_n5 d9 (by decide) (dq_h37 m _ _ _ e9 d9)
end
