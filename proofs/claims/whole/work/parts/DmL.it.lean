section
set_option maxHeartbeats 1600000
/-! items, side by side -/
theorem pN_a5 {T : T5} {Bk N m v t : Nat} {c c' d d' : Int32} {nr rr ns rs : Nat → Int32} (h : pN5 T Bk N m c nr c' rr v) (hv : v < m) (hm : m ≤ 1000) (ht : t < N) (kt : T.2.1 t = 140) (hd : d = c + 1) (hd' : d' = c' + 1) (hn : ∀ k, ns k = if k = v then Int32.ofNat t else nr k) (hr : ∀ k, rs k = if k = v then Int32.ofNat (Bk + t) else rr k) : pN5 T Bk N m d ns d' rs (v + 1) := by
  obtain ⟨h1, h2, h3, h4⟩ := h
  refine ⟨by omega, by rw [hd, h2, on_15 (by omega)], by rw [hd', h3, on_15 (by omega)], fun k hk => ?_⟩
  rw [hn, hr]
  by_cases c : k = v
  · rw [if_pos c, if_pos c]
    exact ⟨t, ht, kt, rfl, rfl⟩
  · rw [if_neg c, if_neg c]
    exact h4 k (by omega)
theorem lr_V5 {T : T5} {X : X5} {Bk N a l : Nat} {Z : Int32} {V : V5} {W : W5} {e e' : E5} {σ σ' : rS} (L : LR5 T X Bk N Z V W a l e σ) (h1 : tq5 e' = tq5 e) (h2 : e'.1 paAt = e.1 paAt ∧ e'.1 paKind = e.1 paKind ∧ e'.1 paOpen = e.1 paOpen) (k1 : sx5 σ' = sx5 σ) (k2 : σ'.1 2 = σ.1 2 ∧ σ'.1 10 = σ.1 10 ∧ σ'.1 11 = σ.1 11 ∧ σ'.1 46 = σ.1 46 ∧ σ'.1 47 = σ.1 47 ∧ σ'.1 13 = σ.1 13) : LR5 T X Bk N Z (gE5 e') (gS5 σ') a l e' σ' := by
  obtain ⟨l1, l2, l3, l4, l5⟩ := L
  obtain ⟨a1, a2, a3⟩ := h2
  obtain ⟨b1, b2, b3, b4, b5, b6⟩ := k2
  refine ⟨⟨h1.trans l1.1, k1.trans l1.2.1, b1.trans l1.2.2⟩, ⟨rfl, rfl⟩, ⟨l3.1, a1.trans l3.2.1, b2.trans l3.2.2.1, a2.trans l3.2.2.2.1, l3.2.2.2.2⟩, ⟨b3.trans l4.1, b4.trans l4.2.1, b5.trans l4.2.2⟩, ⟨?_, ?_⟩⟩
  · rw [b6, a3]; exact l5.1
  · rw [a3]; exact l5.2
theorem lti_n5 {x : Int32} {v m : Nat} (hx : x = Int32.ofNat v) (hv : v ≤ 1000) (hm : m ≤ 1000) : Int32.ofNat m ≤ x ↔ m ≤ v := by
  have l1 := ofn_i (n := v) (by omega)
  have l2 := ofn_i (n := m) (by omega)
  rw [hx, lei, l1, l2]
  omega
theorem lt_n5 {x : Int32} {v m : Nat} (hx : x = Int32.ofNat v) (hv : v ≤ 1000) (hm : m ≤ 1000) (h : x < Int32.ofNat m) : v < m := by
  have l1 := ofn_i (n := v) (by omega)
  have l2 := ofn_i (n := m) (by omega)
  rw [hx, lti, l1, l2] at h
  omega
theorem dq_t5 {α : Type} {p : Int32} {c : Prop} [Decidable c] {A B : R5 α} (h : c) (hA : dq5 p A) : dq5 p (if c then A else B) := by
  rw [if_pos h]; exact hA
theorem dq_e5 {α : Type} {p : Int32} {c : Prop} [Decidable c] {A B : R5 α} (h : ¬ c) (hB : dq5 p B) : dq5 p (if c then A else B) := by
  rw [if_neg h]; exact hB
theorem dk_st5 {p s c x : Int32} {e : E5} (d : dk5 p e) : dk5 p (stc5 s c x e) := by
  obtain ⟨p1, p2, p3⟩ := stc_15 (s := s) (c := c) (x := x) (e := e)
  unfold dk5 pl5 at d ⊢
  rw [p1, p3 taPlaces (by decide)]
  exact d
theorem dq_sc5 {p s c x : Int32} {e : E5} (d : dk5 p e) : dq5 p (f5_Co_setColumn s c x e) := by
  rw [stc_5]
  exact dq_i5 (dk_st5 d)
theorem dq_sa5 {p x : Int32} {f i : Nat} {e : E5} (d : dk5 p e) (h : f ≠ 1303) : dq5 p (sa5 f i x e) := by
  refine dq_i5 (e := (e.1, fun g j => if g = f ∧ j = i then x else e.2.1 g j, e.2.2)) ?_
  have z : (fun j => if taPlaces = f ∧ j = i then x else e.2.1 taPlaces j) = e.2.1 taPlaces := funext fun j => if_neg (fun q => h q.1.symm)
  unfold dk5 pl5 at d ⊢
  refine ⟨d.1, ?_⟩
  rw [← d.2]
  show (if _ then _ else if _ then _ else (fun j => if taPlaces = f ∧ j = i then x else e.2.1 taPlaces j) _) = _
  rw [z]
section
variable {T : T5} {X : X5} {Bk N : Nat} {Z : Int32} {V : V5} {W : W5} {a l : Nat} {e : E5} {σ : rS}
/-- what a var or an array leaves -/
def itP5 (T : T5) (X : X5) (Bk N : Nat) (Z : Int32) (V : V5) (W : W5) (a l : Nat) (e' : E5) (σ' : rS) : Prop := ∃ a', a < a' ∧ LR5 T X Bk N Z (gE5 e') (gS5 σ') a' l e' σ' ∧ nG5 T Bk N (gE5 e') (gS5 σ') ∧ (gE5 e').2.2.2.2 = V.2.2.2.2 ∧ (gS5 σ').2.2.2.2 = W.2.2.2.2
theorem sr_v94 {t v : Nat} {x y tok : Int32} {a9 : Nat} (H : TR5 T X Bk N Z) (L : LR5 T X Bk N Z V W a l e σ) (G : nG5 T Bk N V W) (ht : t < N) (kt : T.2.1 t = 140) (htok : tok = Int32.ofNat (Bk + t)) (p1 : pN5 T Bk N 10 V.1 V.2.1 W.1 W.2.1 v) (v10 : v < 10) (h9 : a9 < a) : sr5 (fun e' _ σ' => itP5 T X Bk N Z V W a9 l e' σ') (f5_Pa_varItem_94 (Int32.ofNat t) x e) (g5_tellVar_87 tok y σ) := by
  unfold f5_Pa_varItem_94 g5_tellVar_87
  dsimp only [pb5]
  refine sr_b5 (sr_pass H L (by decide) (by decide)) (fun e1 _ n1 Q1 => ?_) (by repeat' first | with_reducible exact kq_rf | dsimp only | with_reducible refine kq_go ?_ | with_reducible refine kq_sign ?_ | with_reducible refine kq_open ?_ | with_reducible refine kq_close ?_ | with_reducible refine kq_flaw ?_ | with_reducible refine kq_look ?_ | with_reducible refine kq_due ?_ | with_reducible refine kq_fresh ?_ | with_reducible refine kq_expression ?_ | with_reducible refine kq_openBlock ?_ | with_reducible refine kq_newStatement ?_ | with_reducible refine kq_turn ?_ | with_reducible refine kq_tellVar_87 ?_ | with_reducible refine kq_tellVar_82 ?_ | with_reducible refine kq_tellVar_53 ?_ | with_reducible refine kq_tellArr_56 ?_ | with_reducible refine kq_arguments ?_ | with_reducible refine kq_arguments_77 ?_ | with_reducible refine kq_tellDraw ?_ | with_reducible refine kq_tellDraw_18 ?_ | with_reducible refine kq_tellDraw_55 ?_ | with_reducible refine kq_tellDraw_172 ?_ | with_reducible refine kq_tellNamed_295 ?_ | with_reducible refine kq_tellNamed_244 ?_ | with_reducible refine kq_tellNamed_175 ?_ | with_reducible refine kq_tellNamed_133 ?_ | with_reducible refine kq_tellNamed_109 ?_ | with_reducible refine kq_tellNamed_90 ?_ | with_reducible refine kq_tellFunc_218 ?_ | with_reducible refine kq_tellFunc_74 ?_ | with_reducible refine kq_tellFunc_34 ?_ | with_reducible refine kq_tellStatements ?_ | with_reducible refine kq_tellStatement ?_ | with_reducible refine kq_endBlock ?_ | with_reducible refine kq_arguments_28 _ _ _ ?_ | with_reducible refine kq_tellDraw_77 _ _ _ _ ?_ | with_reducible refine kq_tellStatements_11 _ _ ?_ | with_reducible refine kq_tellFunc_102 _ _ _ _ ?_ | with_reducible refine kq_expression_12 _ _ _ ?_ | with_reducible refine kq_si (by decide) (by decide) ?_ | with_reducible refine kq_ri ?_ | with_reducible refine kq_if ?_ ?_ | with_reducible refine kq_ifp ?_ ?_) (fun p e1 _ d => ?_)
  · obtain ⟨L1, _, _⟩ := Q1
    obtain ⟨hV, hW⟩ := L1.2.1
    subst hV
    subst hW
    have e1v : e1.1 coVars = Int32.ofNat v := p1.2.1
    have s1v : (g5_sign 59 σ).1 15 = Int32.ofNat v := p1.2.2.1
    have c1 : (e1.1 coVars).toNatClampNeg = v := by rw [e1v, cl_5 (by omega)]
    have c2 : ((g5_sign 59 σ).1 15).toNatClampNeg = v := by rw [s1v, cl_5 (by omega)]
    rw [lr_ir5 L1, if_neg ne105, if_neg (show ¬ (10 : Int32) ≤ e1.1 coVars from fun q => absurd ((lti_n5 (m := 10) e1v (by omega) (by decide)).mp q) (by omega))]
    refine sr_i5 n1 ⟨a + 1, by omega, lr_V5 L1 rfl ⟨rfl, rfl, rfl⟩ rfl ⟨rfl, rfl, rfl, rfl, rfl, rfl⟩, ⟨⟨v + 1, pN_a5 p1 v10 (by decide) ht kt rfl rfl (fun k => ?_) (fun k => ?_)⟩, G.2⟩, rfl, rfl⟩
    · show (if 1006 = 1006 ∧ k = (e1.1 coVars).toNatClampNeg then Int32.ofNat t else e1.2.1 1006 k) = _
      rw [c1]
      by_cases c : k = v
      · rw [if_pos ⟨rfl, c⟩, if_pos c]
      · rw [if_neg (fun q => c q.2), if_neg c]; rfl
    · show (riU (riU (g5_sign 59 σ) 20 ((g5_sign 59 σ).1 15).toNatClampNeg tok) 21 ((riU (g5_sign 59 σ) 20 ((g5_sign 59 σ).1 15).toNatClampNeg tok).1 15).toNatClampNeg y).2.2.1 20 k = _
      rw [ri34, if_neg (by decide), ri34, if_pos rfl, c2, htok]
      rfl
  · repeat' first | with_reducible exact dq_i5 (by assumption) | with_reducible refine dq_t5 rfl ?_ | with_reducible refine dq_e5 ne105 ?_ | with_reducible exact dq_r5 (by assumption) | with_reducible exact dq_x5 (dx_pass (by assumption) (by decide)) | with_reducible exact dq_x5 (dx_open (by assumption) (by decide)) | with_reducible exact dq_x5 (dx_close (by assumption) (by decide)) | with_reducible exact dq_x5 (dx_expect (by assumption) (by decide)) | with_reducible exact dq_x5 (dx_newName (by assumption)) | with_reducible refine dq_n5 (by assumption) (by decide) ?_ | with_reducible refine dq_b5 (dq_expr (by assumption)) (fun _ _ _ => ?_) | dsimp only | with_reducible refine dq_f5 ?_ ?_ | with_reducible refine dq_b5 ?_ (fun _ _ _ => ?_) | with_reducible exact dq_sa5 (by assumption) (by decide) | with_reducible exact dq_sc5 (by assumption) | exact dq_i5 (by assumption)
theorem sr_xp5 {β : Type} {Q' : E5 → β → rS → Prop} {s c : Int32} {k : E5 → Unit → R5 β} {σ2 : rS} (H : TR5 T X Bk N Z) (L : LR5 T X Bk N Z V W a l e σ) (hs : X.1 (Bk + a) = s ↔ e.1 paKind = c) (hok : e.1 paKind = c → g5_due s σ = (σ, σ.1 10) → sr5 Q' (k e ()) σ2) (hq : kq5 (g5_due s σ).1 σ2) : sr5 Q' (rdB5 (f5_Pa_expect c e) k) σ2 := by
  unfold f5_Pa_expect
  by_cases q : e.1 paKind = c
  · rw [if_pos q]
    refine hok q ?_
    unfold g5_due
    rw [(lr_so5 H L).1, if_pos (hs.mpr q)]
  · rw [if_neg q, lr_rva5 H L]
    have hd : (g5_due s σ).1 = g5_flaw 2 (σ.1 10) σ := by
      unfold g5_due
      rw [(lr_so5 H L).1, if_neg (fun z => q (hs.mp z))]
      rfl
    rw [hd] at hq
    exact sr_q5 (by decide) (lr_fl5 H L).1 (lr_fl5 H L).2 hq
/-- var -/
theorem sr_var (H : TR5 T X Bk N Z) (L : LR5 T X Bk N Z V W a l e σ) (G : nG5 T Bk N V W) (hO : vow5 V = 0) (hk : e.1 paKind = 150) : sr5 (fun e' _ σ' => itP5 T X Bk N Z V W a l e' σ') (f5_Pa_item_35 150 e) (g5_tellVar σ) := by
  have h1 := H.1
  unfold f5_Pa_item_35 g5_tellVar
  dsimp only [pb5, pm5]
  refine sr_b5 (sr_take H L (by rw [hk]; decide)) (fun e1 _ n1 Q1 => ?_) (by repeat' first | with_reducible exact kq_rf | dsimp only | with_reducible refine kq_go ?_ | with_reducible refine kq_sign ?_ | with_reducible refine kq_open ?_ | with_reducible refine kq_close ?_ | with_reducible refine kq_flaw ?_ | with_reducible refine kq_look ?_ | with_reducible refine kq_due ?_ | with_reducible refine kq_fresh ?_ | with_reducible refine kq_expression ?_ | with_reducible refine kq_openBlock ?_ | with_reducible refine kq_newStatement ?_ | with_reducible refine kq_turn ?_ | with_reducible refine kq_tellVar_87 ?_ | with_reducible refine kq_tellVar_82 ?_ | with_reducible refine kq_tellVar_53 ?_ | with_reducible refine kq_tellArr_56 ?_ | with_reducible refine kq_arguments ?_ | with_reducible refine kq_arguments_77 ?_ | with_reducible refine kq_tellDraw ?_ | with_reducible refine kq_tellDraw_18 ?_ | with_reducible refine kq_tellDraw_55 ?_ | with_reducible refine kq_tellDraw_172 ?_ | with_reducible refine kq_tellNamed_295 ?_ | with_reducible refine kq_tellNamed_244 ?_ | with_reducible refine kq_tellNamed_175 ?_ | with_reducible refine kq_tellNamed_133 ?_ | with_reducible refine kq_tellNamed_109 ?_ | with_reducible refine kq_tellNamed_90 ?_ | with_reducible refine kq_tellFunc_218 ?_ | with_reducible refine kq_tellFunc_74 ?_ | with_reducible refine kq_tellFunc_34 ?_ | with_reducible refine kq_tellStatements ?_ | with_reducible refine kq_tellStatement ?_ | with_reducible refine kq_endBlock ?_ | with_reducible refine kq_arguments_28 _ _ _ ?_ | with_reducible refine kq_tellDraw_77 _ _ _ _ ?_ | with_reducible refine kq_tellStatements_11 _ _ ?_ | with_reducible refine kq_tellFunc_102 _ _ _ _ ?_ | with_reducible refine kq_expression_12 _ _ _ ?_ | with_reducible refine kq_si (by decide) (by decide) ?_ | with_reducible refine kq_ri ?_ | with_reducible refine kq_if ?_ ?_ | with_reducible refine kq_ifp ?_ ?_) (fun p e1 _ d => ?_)
  · obtain ⟨L1, _, _⟩ := Q1
    rw [if_pos rfl, rb_u5]
    unfold f5_Pa_varItem
    obtain ⟨v, p1⟩ := G.1
    have mn : (g5_go σ).1 15 = e1.1 coVars := by
      have z1 : e1.1 coVars = V.1 := by rw [← L1.2.1.1]; rfl
      have z2 : (g5_go σ).1 15 = W.1 := by rw [← L1.2.1.2]; rfl
      rw [z1, z2, p1.2.1, p1.2.2.1]
    rw [mn]
    refine sr_b5 (sr_new H L1 G (Or.inl ⟨rfl, hO⟩)) (fun e2 r n2 Q2 => ?_) (by repeat' first | with_reducible exact kq_rf | dsimp only | with_reducible refine kq_go ?_ | with_reducible refine kq_sign ?_ | with_reducible refine kq_open ?_ | with_reducible refine kq_close ?_ | with_reducible refine kq_flaw ?_ | with_reducible refine kq_look ?_ | with_reducible refine kq_due ?_ | with_reducible refine kq_fresh ?_ | with_reducible refine kq_expression ?_ | with_reducible refine kq_openBlock ?_ | with_reducible refine kq_newStatement ?_ | with_reducible refine kq_turn ?_ | with_reducible refine kq_tellVar_87 ?_ | with_reducible refine kq_tellVar_82 ?_ | with_reducible refine kq_tellVar_53 ?_ | with_reducible refine kq_tellArr_56 ?_ | with_reducible refine kq_arguments ?_ | with_reducible refine kq_arguments_77 ?_ | with_reducible refine kq_tellDraw ?_ | with_reducible refine kq_tellDraw_18 ?_ | with_reducible refine kq_tellDraw_55 ?_ | with_reducible refine kq_tellDraw_172 ?_ | with_reducible refine kq_tellNamed_295 ?_ | with_reducible refine kq_tellNamed_244 ?_ | with_reducible refine kq_tellNamed_175 ?_ | with_reducible refine kq_tellNamed_133 ?_ | with_reducible refine kq_tellNamed_109 ?_ | with_reducible refine kq_tellNamed_90 ?_ | with_reducible refine kq_tellFunc_218 ?_ | with_reducible refine kq_tellFunc_74 ?_ | with_reducible refine kq_tellFunc_34 ?_ | with_reducible refine kq_tellStatements ?_ | with_reducible refine kq_tellStatement ?_ | with_reducible refine kq_endBlock ?_ | with_reducible refine kq_arguments_28 _ _ _ ?_ | with_reducible refine kq_tellDraw_77 _ _ _ _ ?_ | with_reducible refine kq_tellStatements_11 _ _ ?_ | with_reducible refine kq_tellFunc_102 _ _ _ _ ?_ | with_reducible refine kq_expression_12 _ _ _ ?_ | with_reducible refine kq_si (by decide) (by decide) ?_ | with_reducible refine kq_ri ?_ | with_reducible refine kq_if ?_ ?_ | with_reducible refine kq_ifp ?_ ?_) (fun p e1 _ d => ?_)
    · obtain ⟨L2, rfl, kt, htok, mm⟩ := Q2
      have ht := L1.2.2.1.1
      have v10 : v < 10 := by
        have z1 : e1.1 coVars = Int32.ofNat v := by rw [← p1.2.1, ← L1.2.1.1]; rfl
        exact lt_n5 (m := 10) z1 (by have := p1.1; omega) (by decide) mm
      rw [lr_ir5 L2, if_neg ne105, lr_at5 H L2 (by decide) (by decide)]
      by_cases c61 : e2.1 paKind = 61
      · rw [if_pos c61, if_pos c61, if_neg ne105]
        refine sr_b5 (sr_take H L2 (by rw [c61]; decide)) (fun e3 _ n3 Q3 => ?_) (by repeat' first | with_reducible exact kq_rf | dsimp only | with_reducible refine kq_go ?_ | with_reducible refine kq_sign ?_ | with_reducible refine kq_open ?_ | with_reducible refine kq_close ?_ | with_reducible refine kq_flaw ?_ | with_reducible refine kq_look ?_ | with_reducible refine kq_due ?_ | with_reducible refine kq_fresh ?_ | with_reducible refine kq_expression ?_ | with_reducible refine kq_openBlock ?_ | with_reducible refine kq_newStatement ?_ | with_reducible refine kq_turn ?_ | with_reducible refine kq_tellVar_87 ?_ | with_reducible refine kq_tellVar_82 ?_ | with_reducible refine kq_tellVar_53 ?_ | with_reducible refine kq_tellArr_56 ?_ | with_reducible refine kq_arguments ?_ | with_reducible refine kq_arguments_77 ?_ | with_reducible refine kq_tellDraw ?_ | with_reducible refine kq_tellDraw_18 ?_ | with_reducible refine kq_tellDraw_55 ?_ | with_reducible refine kq_tellDraw_172 ?_ | with_reducible refine kq_tellNamed_295 ?_ | with_reducible refine kq_tellNamed_244 ?_ | with_reducible refine kq_tellNamed_175 ?_ | with_reducible refine kq_tellNamed_133 ?_ | with_reducible refine kq_tellNamed_109 ?_ | with_reducible refine kq_tellNamed_90 ?_ | with_reducible refine kq_tellFunc_218 ?_ | with_reducible refine kq_tellFunc_74 ?_ | with_reducible refine kq_tellFunc_34 ?_ | with_reducible refine kq_tellStatements ?_ | with_reducible refine kq_tellStatement ?_ | with_reducible refine kq_endBlock ?_ | with_reducible refine kq_arguments_28 _ _ _ ?_ | with_reducible refine kq_tellDraw_77 _ _ _ _ ?_ | with_reducible refine kq_tellStatements_11 _ _ ?_ | with_reducible refine kq_tellFunc_102 _ _ _ _ ?_ | with_reducible refine kq_expression_12 _ _ _ ?_ | with_reducible refine kq_si (by decide) (by decide) ?_ | with_reducible refine kq_ri ?_ | with_reducible refine kq_if ?_ ?_ | with_reducible refine kq_ifp ?_ ?_) (fun p e3 _ d => ?_)
        · obtain ⟨L3, _, _⟩ := Q3
          have num : ∀ (a3 : Int32) (e4 : E5) (σ4 : rS) (a4 : Nat), a < a4 → LR5 T X Bk N Z V W a4 l e4 σ4 → sr5 (fun e' _ σ' => itP5 T X Bk N Z V W a l e' σ') (f5_Pa_varItem_52 (Int32.ofNat (a + 1)) a3 e4) (g5_tellVar_53 (g5_fresh 0 (e1.1 coVars) 10 (g5_go σ)).2 a3 σ4) := fun a3 e4 σ4 a4 h4 L4 => by
            unfold f5_Pa_varItem_52 g5_tellVar_53
            dsimp only [pb5, pm5]
            refine sr_xp5 (s := 2) H L4 (kd_o5 (lr_kd5 H L4)).2.2.1 (fun k5 q5 => ?_) (by repeat' first | with_reducible exact kq_rf | dsimp only | with_reducible refine kq_go ?_ | with_reducible refine kq_sign ?_ | with_reducible refine kq_open ?_ | with_reducible refine kq_close ?_ | with_reducible refine kq_flaw ?_ | with_reducible refine kq_look ?_ | with_reducible refine kq_due ?_ | with_reducible refine kq_fresh ?_ | with_reducible refine kq_expression ?_ | with_reducible refine kq_openBlock ?_ | with_reducible refine kq_newStatement ?_ | with_reducible refine kq_turn ?_ | with_reducible refine kq_tellVar_87 ?_ | with_reducible refine kq_tellVar_82 ?_ | with_reducible refine kq_tellVar_53 ?_ | with_reducible refine kq_tellArr_56 ?_ | with_reducible refine kq_arguments ?_ | with_reducible refine kq_arguments_77 ?_ | with_reducible refine kq_tellDraw ?_ | with_reducible refine kq_tellDraw_18 ?_ | with_reducible refine kq_tellDraw_55 ?_ | with_reducible refine kq_tellDraw_172 ?_ | with_reducible refine kq_tellNamed_295 ?_ | with_reducible refine kq_tellNamed_244 ?_ | with_reducible refine kq_tellNamed_175 ?_ | with_reducible refine kq_tellNamed_133 ?_ | with_reducible refine kq_tellNamed_109 ?_ | with_reducible refine kq_tellNamed_90 ?_ | with_reducible refine kq_tellFunc_218 ?_ | with_reducible refine kq_tellFunc_74 ?_ | with_reducible refine kq_tellFunc_34 ?_ | with_reducible refine kq_tellStatements ?_ | with_reducible refine kq_tellStatement ?_ | with_reducible refine kq_endBlock ?_ | with_reducible refine kq_arguments_28 _ _ _ ?_ | with_reducible refine kq_tellDraw_77 _ _ _ _ ?_ | with_reducible refine kq_tellStatements_11 _ _ ?_ | with_reducible refine kq_tellFunc_102 _ _ _ _ ?_ | with_reducible refine kq_expression_12 _ _ _ ?_ | with_reducible refine kq_si (by decide) (by decide) ?_ | with_reducible refine kq_ri ?_ | with_reducible refine kq_if ?_ ?_ | with_reducible refine kq_ifp ?_ ?_)
            · rw [q5]
              have fin : ∀ x y : Int32, sr5 (fun e' _ σ' => itP5 T X Bk N Z V W a l e' σ') (f5_Pa_varItem_89 (Int32.ofNat (a + 1)) x e4) (g5_tellVar_82 (g5_fresh 0 (e1.1 coVars) 10 (g5_go σ)).2 y σ4) := fun x y => by
                unfold f5_Pa_varItem_89 g5_tellVar_82
                dsimp only [pb5]
                refine sr_b5 (sr_take H L4 (by rw [k5]; decide)) (fun e6 _ n6 Q6 => ?_) (by repeat' first | with_reducible exact kq_rf | dsimp only | with_reducible refine kq_go ?_ | with_reducible refine kq_sign ?_ | with_reducible refine kq_open ?_ | with_reducible refine kq_close ?_ | with_reducible refine kq_flaw ?_ | with_reducible refine kq_look ?_ | with_reducible refine kq_due ?_ | with_reducible refine kq_fresh ?_ | with_reducible refine kq_expression ?_ | with_reducible refine kq_openBlock ?_ | with_reducible refine kq_newStatement ?_ | with_reducible refine kq_turn ?_ | with_reducible refine kq_tellVar_87 ?_ | with_reducible refine kq_tellVar_82 ?_ | with_reducible refine kq_tellVar_53 ?_ | with_reducible refine kq_tellArr_56 ?_ | with_reducible refine kq_arguments ?_ | with_reducible refine kq_arguments_77 ?_ | with_reducible refine kq_tellDraw ?_ | with_reducible refine kq_tellDraw_18 ?_ | with_reducible refine kq_tellDraw_55 ?_ | with_reducible refine kq_tellDraw_172 ?_ | with_reducible refine kq_tellNamed_295 ?_ | with_reducible refine kq_tellNamed_244 ?_ | with_reducible refine kq_tellNamed_175 ?_ | with_reducible refine kq_tellNamed_133 ?_ | with_reducible refine kq_tellNamed_109 ?_ | with_reducible refine kq_tellNamed_90 ?_ | with_reducible refine kq_tellFunc_218 ?_ | with_reducible refine kq_tellFunc_74 ?_ | with_reducible refine kq_tellFunc_34 ?_ | with_reducible refine kq_tellStatements ?_ | with_reducible refine kq_tellStatement ?_ | with_reducible refine kq_endBlock ?_ | with_reducible refine kq_arguments_28 _ _ _ ?_ | with_reducible refine kq_tellDraw_77 _ _ _ _ ?_ | with_reducible refine kq_tellStatements_11 _ _ ?_ | with_reducible refine kq_tellFunc_102 _ _ _ _ ?_ | with_reducible refine kq_expression_12 _ _ _ ?_ | with_reducible refine kq_si (by decide) (by decide) ?_ | with_reducible refine kq_ri ?_ | with_reducible refine kq_if ?_ ?_ | with_reducible refine kq_ifp ?_ ?_) (fun p e6 _ d => ?_)
                · exact sr_v94 H Q6.1 G ht kt htok p1 v10 (by omega)
                · unfold f5_Pa_varItem_94
                  repeat' first | with_reducible exact dq_i5 (by assumption) | with_reducible refine dq_t5 rfl ?_ | with_reducible refine dq_e5 ne105 ?_ | with_reducible exact dq_r5 (by assumption) | with_reducible exact dq_x5 (dx_pass (by assumption) (by decide)) | with_reducible exact dq_x5 (dx_open (by assumption) (by decide)) | with_reducible exact dq_x5 (dx_close (by assumption) (by decide)) | with_reducible exact dq_x5 (dx_expect (by assumption) (by decide)) | with_reducible exact dq_x5 (dx_newName (by assumption)) | with_reducible refine dq_n5 (by assumption) (by decide) ?_ | with_reducible refine dq_b5 (dq_expr (by assumption)) (fun _ _ _ => ?_) | dsimp only | with_reducible refine dq_f5 ?_ ?_ | with_reducible refine dq_b5 ?_ (fun _ _ _ => ?_) | with_reducible exact dq_sa5 (by assumption) (by decide) | with_reducible exact dq_sc5 (by assumption) | exact dq_i5 (by assumption)
              by_cases z : a3 = 0
              · rw [if_pos z, if_pos z]; exact fin _ _
              · rw [if_neg z, if_neg z]; exact fin _ _
          unfold f5_Pa_varItem_43
          rw [lr_at5 H L3 (by decide) (by decide)]
          by_cases c45 : e3.1 paKind = 45
          · rw [if_pos c45, if_neg ne105, if_pos c45, if_neg ne105]
            refine sr_b5 (sr_take H L3 (by rw [c45]; decide)) (fun e4 _ n4 Q4 => ?_) (by repeat' first | with_reducible exact kq_rf | dsimp only | with_reducible refine kq_go ?_ | with_reducible refine kq_sign ?_ | with_reducible refine kq_open ?_ | with_reducible refine kq_close ?_ | with_reducible refine kq_flaw ?_ | with_reducible refine kq_look ?_ | with_reducible refine kq_due ?_ | with_reducible refine kq_fresh ?_ | with_reducible refine kq_expression ?_ | with_reducible refine kq_openBlock ?_ | with_reducible refine kq_newStatement ?_ | with_reducible refine kq_turn ?_ | with_reducible refine kq_tellVar_87 ?_ | with_reducible refine kq_tellVar_82 ?_ | with_reducible refine kq_tellVar_53 ?_ | with_reducible refine kq_tellArr_56 ?_ | with_reducible refine kq_arguments ?_ | with_reducible refine kq_arguments_77 ?_ | with_reducible refine kq_tellDraw ?_ | with_reducible refine kq_tellDraw_18 ?_ | with_reducible refine kq_tellDraw_55 ?_ | with_reducible refine kq_tellDraw_172 ?_ | with_reducible refine kq_tellNamed_295 ?_ | with_reducible refine kq_tellNamed_244 ?_ | with_reducible refine kq_tellNamed_175 ?_ | with_reducible refine kq_tellNamed_133 ?_ | with_reducible refine kq_tellNamed_109 ?_ | with_reducible refine kq_tellNamed_90 ?_ | with_reducible refine kq_tellFunc_218 ?_ | with_reducible refine kq_tellFunc_74 ?_ | with_reducible refine kq_tellFunc_34 ?_ | with_reducible refine kq_tellStatements ?_ | with_reducible refine kq_tellStatement ?_ | with_reducible refine kq_endBlock ?_ | with_reducible refine kq_arguments_28 _ _ _ ?_ | with_reducible refine kq_tellDraw_77 _ _ _ _ ?_ | with_reducible refine kq_tellStatements_11 _ _ ?_ | with_reducible refine kq_tellFunc_102 _ _ _ _ ?_ | with_reducible refine kq_expression_12 _ _ _ ?_ | with_reducible refine kq_si (by decide) (by decide) ?_ | with_reducible refine kq_ri ?_ | with_reducible refine kq_if ?_ ?_ | with_reducible refine kq_ifp ?_ ?_) (fun p e4 _ d => ?_)
            · exact num 1 e4 _ _ (by omega) Q4.1
            · unfold f5_Pa_varItem_52
              repeat' first | with_reducible exact dq_i5 (by assumption) | with_reducible refine dq_t5 rfl ?_ | with_reducible refine dq_e5 ne105 ?_ | with_reducible exact dq_r5 (by assumption) | with_reducible exact dq_x5 (dx_pass (by assumption) (by decide)) | with_reducible exact dq_x5 (dx_open (by assumption) (by decide)) | with_reducible exact dq_x5 (dx_close (by assumption) (by decide)) | with_reducible exact dq_x5 (dx_expect (by assumption) (by decide)) | with_reducible exact dq_x5 (dx_newName (by assumption)) | with_reducible refine dq_n5 (by assumption) (by decide) ?_ | with_reducible refine dq_b5 (dq_expr (by assumption)) (fun _ _ _ => ?_) | dsimp only | with_reducible refine dq_f5 ?_ ?_ | with_reducible refine dq_b5 ?_ (fun _ _ _ => ?_) | with_reducible exact dq_sa5 (by assumption) (by decide) | with_reducible exact dq_sc5 (by assumption) | exact dq_i5 (by assumption)
          · rw [if_neg c45, if_pos rfl, if_neg c45, if_pos rfl]
            exact num 0 e3 _ _ (by omega) L3
        · unfold f5_Pa_varItem_43 f5_Pa_varItem_52
          repeat' first | with_reducible exact dq_i5 (by assumption) | with_reducible refine dq_t5 rfl ?_ | with_reducible refine dq_e5 ne105 ?_ | with_reducible exact dq_r5 (by assumption) | with_reducible exact dq_x5 (dx_pass (by assumption) (by decide)) | with_reducible exact dq_x5 (dx_open (by assumption) (by decide)) | with_reducible exact dq_x5 (dx_close (by assumption) (by decide)) | with_reducible exact dq_x5 (dx_expect (by assumption) (by decide)) | with_reducible exact dq_x5 (dx_newName (by assumption)) | with_reducible refine dq_n5 (by assumption) (by decide) ?_ | with_reducible refine dq_b5 (dq_expr (by assumption)) (fun _ _ _ => ?_) | dsimp only | with_reducible refine dq_f5 ?_ ?_ | with_reducible refine dq_b5 ?_ (fun _ _ _ => ?_) | with_reducible exact dq_sa5 (by assumption) (by decide) | with_reducible exact dq_sc5 (by assumption) | exact dq_i5 (by assumption)
      · rw [if_neg c61, if_neg c61, if_pos rfl]
        exact sr_v94 H L2 G ht kt htok p1 v10 (by omega)
    · unfold f5_Pa_varItem_94
      repeat' first | with_reducible exact dq_i5 (by assumption) | with_reducible refine dq_t5 rfl ?_ | with_reducible refine dq_e5 ne105 ?_ | with_reducible exact dq_r5 (by assumption) | with_reducible exact dq_x5 (dx_pass (by assumption) (by decide)) | with_reducible exact dq_x5 (dx_open (by assumption) (by decide)) | with_reducible exact dq_x5 (dx_close (by assumption) (by decide)) | with_reducible exact dq_x5 (dx_expect (by assumption) (by decide)) | with_reducible exact dq_x5 (dx_newName (by assumption)) | with_reducible refine dq_n5 (by assumption) (by decide) ?_ | with_reducible refine dq_b5 (dq_expr (by assumption)) (fun _ _ _ => ?_) | dsimp only | with_reducible refine dq_f5 ?_ ?_ | with_reducible refine dq_b5 ?_ (fun _ _ _ => ?_) | with_reducible exact dq_sa5 (by assumption) (by decide) | with_reducible exact dq_sc5 (by assumption) | exact dq_i5 (by assumption)
  · unfold f5_Pa_varItem
    repeat' first | with_reducible exact dq_i5 (by assumption) | with_reducible refine dq_t5 rfl ?_ | with_reducible refine dq_e5 ne105 ?_ | with_reducible exact dq_r5 (by assumption) | with_reducible exact dq_x5 (dx_pass (by assumption) (by decide)) | with_reducible exact dq_x5 (dx_open (by assumption) (by decide)) | with_reducible exact dq_x5 (dx_close (by assumption) (by decide)) | with_reducible exact dq_x5 (dx_expect (by assumption) (by decide)) | with_reducible exact dq_x5 (dx_newName (by assumption)) | with_reducible refine dq_n5 (by assumption) (by decide) ?_ | with_reducible refine dq_b5 (dq_expr (by assumption)) (fun _ _ _ => ?_) | dsimp only | with_reducible refine dq_f5 ?_ ?_ | with_reducible refine dq_b5 ?_ (fun _ _ _ => ?_) | with_reducible exact dq_sa5 (by assumption) (by decide) | with_reducible exact dq_sc5 (by assumption) | exact dq_i5 (by assumption)
end

end
section
set_option maxHeartbeats 1600000
/-! arrays and heads of functions, side by side -/
section
variable {T : T5} {X : X5} {Bk N : Nat} {Z : Int32} {V : V5} {W : W5} {a l : Nat} {e : E5} {σ : rS}
theorem sr_arr (H : TR5 T X Bk N Z) (L : LR5 T X Bk N Z V W a l e σ) (G : nG5 T Bk N V W) (hO : vow5 V = 0) (hk : e.1 paKind = 151) : sr5 (fun e' _ σ' => itP5 T X Bk N Z V W a l e' σ') (f5_Pa_item_35 151 e) (g5_tellArr σ) := by
  have h1 := H.1
  unfold f5_Pa_item_35 g5_tellArr
  dsimp only [pb5, pm5]
  refine sr_b5 (sr_take H L (by rw [hk]; decide)) (fun e1 _ n1 Q1 => ?_) (by repeat' first | with_reducible exact kq_rf | dsimp only | with_reducible refine kq_go ?_ | with_reducible refine kq_sign ?_ | with_reducible refine kq_open ?_ | with_reducible refine kq_close ?_ | with_reducible refine kq_flaw ?_ | with_reducible refine kq_look ?_ | with_reducible refine kq_due ?_ | with_reducible refine kq_fresh ?_ | with_reducible refine kq_expression ?_ | with_reducible refine kq_openBlock ?_ | with_reducible refine kq_newStatement ?_ | with_reducible refine kq_turn ?_ | with_reducible refine kq_tellVar_87 ?_ | with_reducible refine kq_tellVar_82 ?_ | with_reducible refine kq_tellVar_53 ?_ | with_reducible refine kq_tellArr_56 ?_ | with_reducible refine kq_arguments ?_ | with_reducible refine kq_arguments_77 ?_ | with_reducible refine kq_tellDraw ?_ | with_reducible refine kq_tellDraw_18 ?_ | with_reducible refine kq_tellDraw_55 ?_ | with_reducible refine kq_tellDraw_172 ?_ | with_reducible refine kq_tellNamed_295 ?_ | with_reducible refine kq_tellNamed_244 ?_ | with_reducible refine kq_tellNamed_175 ?_ | with_reducible refine kq_tellNamed_133 ?_ | with_reducible refine kq_tellNamed_109 ?_ | with_reducible refine kq_tellNamed_90 ?_ | with_reducible refine kq_tellFunc_218 ?_ | with_reducible refine kq_tellFunc_74 ?_ | with_reducible refine kq_tellFunc_34 ?_ | with_reducible refine kq_tellStatements ?_ | with_reducible refine kq_tellStatement ?_ | with_reducible refine kq_endBlock ?_ | with_reducible refine kq_arguments_28 _ _ _ ?_ | with_reducible refine kq_tellDraw_77 _ _ _ _ ?_ | with_reducible refine kq_tellStatements_11 _ _ ?_ | with_reducible refine kq_tellFunc_102 _ _ _ _ ?_ | with_reducible refine kq_expression_12 _ _ _ ?_ | with_reducible refine kq_si (by decide) (by decide) ?_ | with_reducible refine kq_ri ?_ | with_reducible refine kq_if ?_ ?_ | with_reducible refine kq_ifp ?_ ?_) (fun p e1 _ d => ?_)
  · obtain ⟨L1, _, _⟩ := Q1
    rw [if_neg (by decide), if_pos rfl, rb_u5]
    unfold f5_Pa_arrayItem
    obtain ⟨v, p1⟩ := G.2.1
    have mn : (g5_go σ).1 16 = e1.1 coArrays := by
      have z1 : e1.1 coArrays = V.2.2.1 := by rw [← L1.2.1.1]; rfl
      have z2 : (g5_go σ).1 16 = W.2.2.1 := by rw [← L1.2.1.2]; rfl
      rw [z1, z2, p1.2.1, p1.2.2.1]
    rw [mn]
    refine sr_b5 (sr_new H L1 G (Or.inl ⟨rfl, hO⟩)) (fun e2 r n2 Q2 => ?_) (by repeat' first | with_reducible exact kq_rf | dsimp only | with_reducible refine kq_go ?_ | with_reducible refine kq_sign ?_ | with_reducible refine kq_open ?_ | with_reducible refine kq_close ?_ | with_reducible refine kq_flaw ?_ | with_reducible refine kq_look ?_ | with_reducible refine kq_due ?_ | with_reducible refine kq_fresh ?_ | with_reducible refine kq_expression ?_ | with_reducible refine kq_openBlock ?_ | with_reducible refine kq_newStatement ?_ | with_reducible refine kq_turn ?_ | with_reducible refine kq_tellVar_87 ?_ | with_reducible refine kq_tellVar_82 ?_ | with_reducible refine kq_tellVar_53 ?_ | with_reducible refine kq_tellArr_56 ?_ | with_reducible refine kq_arguments ?_ | with_reducible refine kq_arguments_77 ?_ | with_reducible refine kq_tellDraw ?_ | with_reducible refine kq_tellDraw_18 ?_ | with_reducible refine kq_tellDraw_55 ?_ | with_reducible refine kq_tellDraw_172 ?_ | with_reducible refine kq_tellNamed_295 ?_ | with_reducible refine kq_tellNamed_244 ?_ | with_reducible refine kq_tellNamed_175 ?_ | with_reducible refine kq_tellNamed_133 ?_ | with_reducible refine kq_tellNamed_109 ?_ | with_reducible refine kq_tellNamed_90 ?_ | with_reducible refine kq_tellFunc_218 ?_ | with_reducible refine kq_tellFunc_74 ?_ | with_reducible refine kq_tellFunc_34 ?_ | with_reducible refine kq_tellStatements ?_ | with_reducible refine kq_tellStatement ?_ | with_reducible refine kq_endBlock ?_ | with_reducible refine kq_arguments_28 _ _ _ ?_ | with_reducible refine kq_tellDraw_77 _ _ _ _ ?_ | with_reducible refine kq_tellStatements_11 _ _ ?_ | with_reducible refine kq_tellFunc_102 _ _ _ _ ?_ | with_reducible refine kq_expression_12 _ _ _ ?_ | with_reducible refine kq_si (by decide) (by decide) ?_ | with_reducible refine kq_ri ?_ | with_reducible refine kq_if ?_ ?_ | with_reducible refine kq_ifp ?_ ?_) (fun p e1 _ d => ?_)
    · obtain ⟨L2, rfl, kt, htok, mm⟩ := Q2
      have ht := L1.2.2.1.1
      generalize (g5_fresh 0 (e1.1 coArrays) 3 (g5_go σ)).2 = tok at htok ⊢
      generalize (g5_fresh 0 (e1.1 coArrays) 3 (g5_go σ)).1 = σ2 at L2 ⊢
      have v3 : v < 3 := by
        have z1 : e1.1 coArrays = Int32.ofNat v := by rw [← p1.2.1, ← L1.2.1.1]; rfl
        exact lt_n5 (m := 3) z1 (by have := p1.1; omega) (by decide) mm
      refine sr_b5 (sr_open H L2 (by decide) (by decide)) (fun e3 _ n3 Q3 => ?_) (by repeat' first | with_reducible exact kq_rf | dsimp only | with_reducible refine kq_go ?_ | with_reducible refine kq_sign ?_ | with_reducible refine kq_open ?_ | with_reducible refine kq_close ?_ | with_reducible refine kq_flaw ?_ | with_reducible refine kq_look ?_ | with_reducible refine kq_due ?_ | with_reducible refine kq_fresh ?_ | with_reducible refine kq_expression ?_ | with_reducible refine kq_openBlock ?_ | with_reducible refine kq_newStatement ?_ | with_reducible refine kq_turn ?_ | with_reducible refine kq_tellVar_87 ?_ | with_reducible refine kq_tellVar_82 ?_ | with_reducible refine kq_tellVar_53 ?_ | with_reducible refine kq_tellArr_56 ?_ | with_reducible refine kq_arguments ?_ | with_reducible refine kq_arguments_77 ?_ | with_reducible refine kq_tellDraw ?_ | with_reducible refine kq_tellDraw_18 ?_ | with_reducible refine kq_tellDraw_55 ?_ | with_reducible refine kq_tellDraw_172 ?_ | with_reducible refine kq_tellNamed_295 ?_ | with_reducible refine kq_tellNamed_244 ?_ | with_reducible refine kq_tellNamed_175 ?_ | with_reducible refine kq_tellNamed_133 ?_ | with_reducible refine kq_tellNamed_109 ?_ | with_reducible refine kq_tellNamed_90 ?_ | with_reducible refine kq_tellFunc_218 ?_ | with_reducible refine kq_tellFunc_74 ?_ | with_reducible refine kq_tellFunc_34 ?_ | with_reducible refine kq_tellStatements ?_ | with_reducible refine kq_tellStatement ?_ | with_reducible refine kq_endBlock ?_ | with_reducible refine kq_arguments_28 _ _ _ ?_ | with_reducible refine kq_tellDraw_77 _ _ _ _ ?_ | with_reducible refine kq_tellStatements_11 _ _ ?_ | with_reducible refine kq_tellFunc_102 _ _ _ _ ?_ | with_reducible refine kq_expression_12 _ _ _ ?_ | with_reducible refine kq_si (by decide) (by decide) ?_ | with_reducible refine kq_ri ?_ | with_reducible refine kq_if ?_ ?_ | with_reducible refine kq_ifp ?_ ?_) (fun p e3 _ d => ?_)
      · obtain ⟨L3, _, _⟩ := Q3
        generalize g5_open 91 σ2 = σ3 at L3 ⊢
        refine sr_xp5 (s := 2) H L3 (kd_o5 (lr_kd5 H L3)).2.2.1 (fun k5 q5 => ?_) (by repeat' first | with_reducible exact kq_rf | dsimp only | with_reducible refine kq_go ?_ | with_reducible refine kq_sign ?_ | with_reducible refine kq_open ?_ | with_reducible refine kq_close ?_ | with_reducible refine kq_flaw ?_ | with_reducible refine kq_look ?_ | with_reducible refine kq_due ?_ | with_reducible refine kq_fresh ?_ | with_reducible refine kq_expression ?_ | with_reducible refine kq_openBlock ?_ | with_reducible refine kq_newStatement ?_ | with_reducible refine kq_turn ?_ | with_reducible refine kq_tellVar_87 ?_ | with_reducible refine kq_tellVar_82 ?_ | with_reducible refine kq_tellVar_53 ?_ | with_reducible refine kq_tellArr_56 ?_ | with_reducible refine kq_arguments ?_ | with_reducible refine kq_arguments_77 ?_ | with_reducible refine kq_tellDraw ?_ | with_reducible refine kq_tellDraw_18 ?_ | with_reducible refine kq_tellDraw_55 ?_ | with_reducible refine kq_tellDraw_172 ?_ | with_reducible refine kq_tellNamed_295 ?_ | with_reducible refine kq_tellNamed_244 ?_ | with_reducible refine kq_tellNamed_175 ?_ | with_reducible refine kq_tellNamed_133 ?_ | with_reducible refine kq_tellNamed_109 ?_ | with_reducible refine kq_tellNamed_90 ?_ | with_reducible refine kq_tellFunc_218 ?_ | with_reducible refine kq_tellFunc_74 ?_ | with_reducible refine kq_tellFunc_34 ?_ | with_reducible refine kq_tellStatements ?_ | with_reducible refine kq_tellStatement ?_ | with_reducible refine kq_endBlock ?_ | with_reducible refine kq_arguments_28 _ _ _ ?_ | with_reducible refine kq_tellDraw_77 _ _ _ _ ?_ | with_reducible refine kq_tellStatements_11 _ _ ?_ | with_reducible refine kq_tellFunc_102 _ _ _ _ ?_ | with_reducible refine kq_expression_12 _ _ _ ?_ | with_reducible refine kq_si (by decide) (by decide) ?_ | with_reducible refine kq_ri ?_ | with_reducible refine kq_if ?_ ?_ | with_reducible refine kq_ifp ?_ ?_)
        rw [q5]
        dsimp only [pb5]
        rw [lr_ir5 L3, if_neg ne105]
        have ha3 := L3.2.2.1.1
        have nu : (σ3).2.2.1 7 ((σ3).1 10).toNatClampNeg = f5_Ta_numberAt (tq5 e3) (e3.1 paAt) := by
          rw [(lr_so5 H L3).2.1, L3.1.1, L3.2.2.1.2.1]
          exact (H.2.2.2.2.1 (a + 1 + 1 + 1) ha3 (by rw [← L3.2.2.1.2.2.2.1]; exact k5)).symm
        generalize f5_Ta_numberAt (tq5 e3) (e3.1 paAt) = x at nu
        unfold g5_within
        rw [nu]
        have bad : sr5 (fun e' _ σ' => itP5 T X Bk N Z V W a l e' σ') (f5_Pa_arrayItem_49 (Int32.ofNat (a + 1)) x e3) (g5_tellArr_56 tok ((σ3).1 10) (g5_flaw 12 ((σ3).1 10) (σ3))) := by
          unfold f5_Pa_arrayItem_49
          rw [lr_rva5 H L3]
          exact sr_q5 (by decide) (lr_fl5 H L3).1 (lr_fl5 H L3).2 (kq_tellArr_56 kq_rf)
        by_cases c1 : x < 1
        · rw [if_pos c1, if_pos c1, if_pos rfl]
          exact bad
        · rw [if_neg c1, if_neg c1]
          by_cases c2 : x ≤ 8
          · have c3 : ¬ 8 < x := by rw [lei] at c2; rw [lti]; omega
            rw [if_pos c2, if_neg c3, if_neg ne105]
            unfold f5_Pa_arrayItem_59 g5_tellArr_56
            dsimp only [pb5]
            refine sr_b5 (sr_take H L3 (by rw [k5]; decide)) (fun e4 _ n4 Q4 => ?_) (by repeat' first | with_reducible exact kq_rf | dsimp only | with_reducible refine kq_go ?_ | with_reducible refine kq_sign ?_ | with_reducible refine kq_open ?_ | with_reducible refine kq_close ?_ | with_reducible refine kq_flaw ?_ | with_reducible refine kq_look ?_ | with_reducible refine kq_due ?_ | with_reducible refine kq_fresh ?_ | with_reducible refine kq_expression ?_ | with_reducible refine kq_openBlock ?_ | with_reducible refine kq_newStatement ?_ | with_reducible refine kq_turn ?_ | with_reducible refine kq_tellVar_87 ?_ | with_reducible refine kq_tellVar_82 ?_ | with_reducible refine kq_tellVar_53 ?_ | with_reducible refine kq_tellArr_56 ?_ | with_reducible refine kq_arguments ?_ | with_reducible refine kq_arguments_77 ?_ | with_reducible refine kq_tellDraw ?_ | with_reducible refine kq_tellDraw_18 ?_ | with_reducible refine kq_tellDraw_55 ?_ | with_reducible refine kq_tellDraw_172 ?_ | with_reducible refine kq_tellNamed_295 ?_ | with_reducible refine kq_tellNamed_244 ?_ | with_reducible refine kq_tellNamed_175 ?_ | with_reducible refine kq_tellNamed_133 ?_ | with_reducible refine kq_tellNamed_109 ?_ | with_reducible refine kq_tellNamed_90 ?_ | with_reducible refine kq_tellFunc_218 ?_ | with_reducible refine kq_tellFunc_74 ?_ | with_reducible refine kq_tellFunc_34 ?_ | with_reducible refine kq_tellStatements ?_ | with_reducible refine kq_tellStatement ?_ | with_reducible refine kq_endBlock ?_ | with_reducible refine kq_arguments_28 _ _ _ ?_ | with_reducible refine kq_tellDraw_77 _ _ _ _ ?_ | with_reducible refine kq_tellStatements_11 _ _ ?_ | with_reducible refine kq_tellFunc_102 _ _ _ _ ?_ | with_reducible refine kq_expression_12 _ _ _ ?_ | with_reducible refine kq_si (by decide) (by decide) ?_ | with_reducible refine kq_ri ?_ | with_reducible refine kq_if ?_ ?_ | with_reducible refine kq_ifp ?_ ?_) (fun p e4 _ d => ?_)
            · refine sr_b5 (sr_close H Q4.1 (by decide) (by decide)) (fun e5 _ n5 Q5 => ?_) (by repeat' first | with_reducible exact kq_rf | dsimp only | with_reducible refine kq_go ?_ | with_reducible refine kq_sign ?_ | with_reducible refine kq_open ?_ | with_reducible refine kq_close ?_ | with_reducible refine kq_flaw ?_ | with_reducible refine kq_look ?_ | with_reducible refine kq_due ?_ | with_reducible refine kq_fresh ?_ | with_reducible refine kq_expression ?_ | with_reducible refine kq_openBlock ?_ | with_reducible refine kq_newStatement ?_ | with_reducible refine kq_turn ?_ | with_reducible refine kq_tellVar_87 ?_ | with_reducible refine kq_tellVar_82 ?_ | with_reducible refine kq_tellVar_53 ?_ | with_reducible refine kq_tellArr_56 ?_ | with_reducible refine kq_arguments ?_ | with_reducible refine kq_arguments_77 ?_ | with_reducible refine kq_tellDraw ?_ | with_reducible refine kq_tellDraw_18 ?_ | with_reducible refine kq_tellDraw_55 ?_ | with_reducible refine kq_tellDraw_172 ?_ | with_reducible refine kq_tellNamed_295 ?_ | with_reducible refine kq_tellNamed_244 ?_ | with_reducible refine kq_tellNamed_175 ?_ | with_reducible refine kq_tellNamed_133 ?_ | with_reducible refine kq_tellNamed_109 ?_ | with_reducible refine kq_tellNamed_90 ?_ | with_reducible refine kq_tellFunc_218 ?_ | with_reducible refine kq_tellFunc_74 ?_ | with_reducible refine kq_tellFunc_34 ?_ | with_reducible refine kq_tellStatements ?_ | with_reducible refine kq_tellStatement ?_ | with_reducible refine kq_endBlock ?_ | with_reducible refine kq_arguments_28 _ _ _ ?_ | with_reducible refine kq_tellDraw_77 _ _ _ _ ?_ | with_reducible refine kq_tellStatements_11 _ _ ?_ | with_reducible refine kq_tellFunc_102 _ _ _ _ ?_ | with_reducible refine kq_expression_12 _ _ _ ?_ | with_reducible refine kq_si (by decide) (by decide) ?_ | with_reducible refine kq_ri ?_ | with_reducible refine kq_if ?_ ?_ | with_reducible refine kq_ifp ?_ ?_) (fun p e5 _ d => ?_)
              · refine sr_b5 (sr_pass H Q5.1 (by decide) (by decide)) (fun e6 _ n6 Q6 => ?_) (by repeat' first | with_reducible exact kq_rf | dsimp only | with_reducible refine kq_go ?_ | with_reducible refine kq_sign ?_ | with_reducible refine kq_open ?_ | with_reducible refine kq_close ?_ | with_reducible refine kq_flaw ?_ | with_reducible refine kq_look ?_ | with_reducible refine kq_due ?_ | with_reducible refine kq_fresh ?_ | with_reducible refine kq_expression ?_ | with_reducible refine kq_openBlock ?_ | with_reducible refine kq_newStatement ?_ | with_reducible refine kq_turn ?_ | with_reducible refine kq_tellVar_87 ?_ | with_reducible refine kq_tellVar_82 ?_ | with_reducible refine kq_tellVar_53 ?_ | with_reducible refine kq_tellArr_56 ?_ | with_reducible refine kq_arguments ?_ | with_reducible refine kq_arguments_77 ?_ | with_reducible refine kq_tellDraw ?_ | with_reducible refine kq_tellDraw_18 ?_ | with_reducible refine kq_tellDraw_55 ?_ | with_reducible refine kq_tellDraw_172 ?_ | with_reducible refine kq_tellNamed_295 ?_ | with_reducible refine kq_tellNamed_244 ?_ | with_reducible refine kq_tellNamed_175 ?_ | with_reducible refine kq_tellNamed_133 ?_ | with_reducible refine kq_tellNamed_109 ?_ | with_reducible refine kq_tellNamed_90 ?_ | with_reducible refine kq_tellFunc_218 ?_ | with_reducible refine kq_tellFunc_74 ?_ | with_reducible refine kq_tellFunc_34 ?_ | with_reducible refine kq_tellStatements ?_ | with_reducible refine kq_tellStatement ?_ | with_reducible refine kq_endBlock ?_ | with_reducible refine kq_arguments_28 _ _ _ ?_ | with_reducible refine kq_tellDraw_77 _ _ _ _ ?_ | with_reducible refine kq_tellStatements_11 _ _ ?_ | with_reducible refine kq_tellFunc_102 _ _ _ _ ?_ | with_reducible refine kq_expression_12 _ _ _ ?_ | with_reducible refine kq_si (by decide) (by decide) ?_ | with_reducible refine kq_ri ?_ | with_reducible refine kq_if ?_ ?_ | with_reducible refine kq_ifp ?_ ?_) (fun p e6 _ d => ?_)
                · obtain ⟨L6, _, _⟩ := Q6
                  generalize g5_sign 59 (g5_close 93 (g5_go (σ3))) = σ6 at L6 ⊢
                  have htok2 := htok
                  obtain ⟨hV, hW⟩ := L6.2.1
                  subst hV
                  subst hW
                  have e1v : e6.1 coArrays = Int32.ofNat v := p1.2.1
                  have s1v : σ6.1 16 = Int32.ofNat v := p1.2.2.1
                  have c1' : (e6.1 coArrays).toNatClampNeg = v := by rw [e1v, cl_5 (by omega)]
                  have c2' : (σ6.1 16).toNatClampNeg = v := by rw [s1v, cl_5 (by omega)]
                  rw [lr_ir5 L6, if_neg ne105, if_neg (show ¬ (3 : Int32) ≤ e6.1 coArrays from fun q => absurd ((lti_n5 (m := 3) e1v (by omega) (by decide)).mp q) (by omega))]
                  refine sr_i5 n6 ⟨a + 1 + 1 + 1 + 1 + 1 + 1, by omega, lr_V5 L6 rfl ⟨rfl, rfl, rfl⟩ rfl ⟨rfl, rfl, rfl, rfl, rfl, rfl⟩, ⟨G.1, ⟨v + 1, pN_a5 p1 v3 (by decide) ht kt rfl rfl (fun k => ?_) (fun k => ?_)⟩, G.2.2⟩, rfl, rfl⟩
                  · show (if 1007 = 1007 ∧ k = (e6.1 coArrays).toNatClampNeg then Int32.ofNat (a + 1) else e6.2.1 1007 k) = _
                    rw [c1']
                    by_cases c : k = v
                    · rw [if_pos ⟨rfl, c⟩, if_pos c]
                    · rw [if_neg (fun q => c q.2), if_neg c]; rfl
                  · show (riU σ6 22 (σ6.1 16).toNatClampNeg tok).2.2.1 22 k = _
                    rw [ri34, if_pos rfl, c2', htok2]
                    rfl
                · repeat' first | with_reducible exact dq_i5 (by assumption) | with_reducible refine dq_t5 rfl ?_ | with_reducible refine dq_e5 ne105 ?_ | with_reducible exact dq_r5 (by assumption) | with_reducible exact dq_x5 (dx_pass (by assumption) (by decide)) | with_reducible exact dq_x5 (dx_open (by assumption) (by decide)) | with_reducible exact dq_x5 (dx_close (by assumption) (by decide)) | with_reducible exact dq_x5 (dx_expect (by assumption) (by decide)) | with_reducible exact dq_x5 (dx_newName (by assumption)) | with_reducible refine dq_n5 (by assumption) (by decide) ?_ | with_reducible refine dq_b5 (dq_expr (by assumption)) (fun _ _ _ => ?_) | dsimp only | with_reducible refine dq_f5 ?_ ?_ | with_reducible refine dq_b5 ?_ (fun _ _ _ => ?_) | with_reducible exact dq_sa5 (by assumption) (by decide) | with_reducible exact dq_sc5 (by assumption) | exact dq_i5 (by assumption)
              · repeat' first | with_reducible exact dq_i5 (by assumption) | with_reducible refine dq_t5 rfl ?_ | with_reducible refine dq_e5 ne105 ?_ | with_reducible exact dq_r5 (by assumption) | with_reducible exact dq_x5 (dx_pass (by assumption) (by decide)) | with_reducible exact dq_x5 (dx_open (by assumption) (by decide)) | with_reducible exact dq_x5 (dx_close (by assumption) (by decide)) | with_reducible exact dq_x5 (dx_expect (by assumption) (by decide)) | with_reducible exact dq_x5 (dx_newName (by assumption)) | with_reducible refine dq_n5 (by assumption) (by decide) ?_ | with_reducible refine dq_b5 (dq_expr (by assumption)) (fun _ _ _ => ?_) | dsimp only | with_reducible refine dq_f5 ?_ ?_ | with_reducible refine dq_b5 ?_ (fun _ _ _ => ?_) | with_reducible exact dq_sa5 (by assumption) (by decide) | with_reducible exact dq_sc5 (by assumption) | exact dq_i5 (by assumption)
            · repeat' first | with_reducible exact dq_i5 (by assumption) | with_reducible refine dq_t5 rfl ?_ | with_reducible refine dq_e5 ne105 ?_ | with_reducible exact dq_r5 (by assumption) | with_reducible exact dq_x5 (dx_pass (by assumption) (by decide)) | with_reducible exact dq_x5 (dx_open (by assumption) (by decide)) | with_reducible exact dq_x5 (dx_close (by assumption) (by decide)) | with_reducible exact dq_x5 (dx_expect (by assumption) (by decide)) | with_reducible exact dq_x5 (dx_newName (by assumption)) | with_reducible refine dq_n5 (by assumption) (by decide) ?_ | with_reducible refine dq_b5 (dq_expr (by assumption)) (fun _ _ _ => ?_) | dsimp only | with_reducible refine dq_f5 ?_ ?_ | with_reducible refine dq_b5 ?_ (fun _ _ _ => ?_) | with_reducible exact dq_sa5 (by assumption) (by decide) | with_reducible exact dq_sc5 (by assumption) | exact dq_i5 (by assumption)
          · have c3 : 8 < x := by rw [lei] at c2; rw [lti]; omega
            rw [if_neg c2, if_pos c3, if_pos rfl]
            exact bad
      · repeat' first | with_reducible exact dq_i5 (by assumption) | with_reducible refine dq_t5 rfl ?_ | with_reducible refine dq_e5 ne105 ?_ | with_reducible exact dq_r5 (by assumption) | with_reducible exact dq_x5 (dx_pass (by assumption) (by decide)) | with_reducible exact dq_x5 (dx_open (by assumption) (by decide)) | with_reducible exact dq_x5 (dx_close (by assumption) (by decide)) | with_reducible exact dq_x5 (dx_expect (by assumption) (by decide)) | with_reducible exact dq_x5 (dx_newName (by assumption)) | with_reducible refine dq_n5 (by assumption) (by decide) ?_ | with_reducible refine dq_b5 (dq_expr (by assumption)) (fun _ _ _ => ?_) | dsimp only | with_reducible refine dq_f5 ?_ ?_ | with_reducible refine dq_b5 ?_ (fun _ _ _ => ?_) | with_reducible exact dq_sa5 (by assumption) (by decide) | with_reducible exact dq_sc5 (by assumption) | exact dq_i5 (by assumption)
    · repeat' first | with_reducible exact dq_i5 (by assumption) | with_reducible refine dq_t5 rfl ?_ | with_reducible refine dq_e5 ne105 ?_ | with_reducible exact dq_r5 (by assumption) | with_reducible exact dq_x5 (dx_pass (by assumption) (by decide)) | with_reducible exact dq_x5 (dx_open (by assumption) (by decide)) | with_reducible exact dq_x5 (dx_close (by assumption) (by decide)) | with_reducible exact dq_x5 (dx_expect (by assumption) (by decide)) | with_reducible exact dq_x5 (dx_newName (by assumption)) | with_reducible refine dq_n5 (by assumption) (by decide) ?_ | with_reducible refine dq_b5 (dq_expr (by assumption)) (fun _ _ _ => ?_) | dsimp only | with_reducible refine dq_f5 ?_ ?_ | with_reducible refine dq_b5 ?_ (fun _ _ _ => ?_) | with_reducible exact dq_sa5 (by assumption) (by decide) | with_reducible exact dq_sc5 (by assumption) | exact dq_i5 (by assumption)
  · rw [if_neg (by decide), if_pos rfl]
    unfold f5_Pa_arrayItem
    repeat' first | with_reducible exact dq_i5 (by assumption) | with_reducible refine dq_t5 rfl ?_ | with_reducible refine dq_e5 ne105 ?_ | with_reducible exact dq_r5 (by assumption) | with_reducible exact dq_x5 (dx_pass (by assumption) (by decide)) | with_reducible exact dq_x5 (dx_open (by assumption) (by decide)) | with_reducible exact dq_x5 (dx_close (by assumption) (by decide)) | with_reducible exact dq_x5 (dx_expect (by assumption) (by decide)) | with_reducible exact dq_x5 (dx_newName (by assumption)) | with_reducible refine dq_n5 (by assumption) (by decide) ?_ | with_reducible refine dq_b5 (dq_expr (by assumption)) (fun _ _ _ => ?_) | dsimp only | with_reducible refine dq_f5 ?_ ?_ | with_reducible refine dq_b5 ?_ (fun _ _ _ => ?_) | with_reducible exact dq_sa5 (by assumption) (by decide) | with_reducible exact dq_sc5 (by assumption) | exact dq_i5 (by assumption)
end

end
section
set_option maxHeartbeats 1600000
/-! heads of functions, side by side -/
abbrev vfn5 (V : V5) : Nat → Int32 := V.2.2.2.2.2.1
abbrev vnc5 (V : V5) : Nat → Int32 := V.2.2.2.2.2.2.1
abbrev vbl5 (V : V5) : Int32 := V.2.2.2.2.2.2.2.2.2.2.2.1
abbrev vrb5 (V : V5) : Nat → Int32 := V.2.2.2.2.2.2.2.2.2.2.2.2.1
abbrev vre5 (V : V5) : Nat → Int32 := V.2.2.2.2.2.2.2.2.2.2.2.2.2.1
abbrev vin5 (V : V5) : Int32 := V.2.2.2.2.2.2.2.2.2.2.2.2.2.2.1
abbrev w26_5 (W : W5) : Nat → Int32 := W.2.2.2.2.2.2.1
abbrev wst5 (W : W5) : Int32 := W.2.2.2.2.2.2.2.2.2.2.1
abbrev w30_5 (W : W5) : Nat → Int32 := W.2.2.2.2.2.2.2.2.2.2.2.1
abbrev w32_5 (W : W5) : Nat → Int32 := W.2.2.2.2.2.2.2.2.2.2.2.2.1
abbrev wbl5 (W : W5) : Int32 := W.2.2.2.2.2.2.2.2.2.2.2.2.2.1
abbrev w43_5 (W : W5) : Nat → Int32 := W.2.2.2.2.2.2.2.2.2.2.2.2.2.2.1
abbrev w45_5 (W : W5) : Nat → Int32 := W.2.2.2.2.2.2.2.2.2.2.2.2.2.2.2
/-- blocks that are open: b of them; whose they are (of s statements), and whether an else's -/
def bK5 (b s : Nat) (V : V5) (W : W5) : Prop := vbl5 V = Int32.ofNat b ∧ wbl5 W = Int32.ofNat b ∧ ∀ j, j < b → vrb5 V j = w43_5 W j ∧ vre5 V j = w45_5 W j ∧ (j = 0 → vrb5 V j = -1) ∧ (0 < j → ∃ o : Nat, o < s ∧ vrb5 V j = Int32.ofNat o)
/-- a function is told, number f, by token t -/
def fO5 (T : T5) (Bk N f w : Nat) (V : V5) (W : W5) : Prop := f < 10 ∧ wfn5 W = Int32.ofNat f ∧ V.2.2.2.2.1 = Int32.ofNat f ∧ pN5 T Bk N 8 (vow5 V) (von5 V) (w27_5 W f) (fun k => w28_5 W (8 * f + k)) w
theorem fO_n5 {T : T5} {Bk N f w : Nat} {V : V5} {W : W5} (h : fO5 T Bk N f w V W) : nO5 T Bk N V W := ⟨f, w, h⟩
def HI5 (T : T5) (Bk N f t b s : Nat) (V : V5) (W : W5) : Prop := nG5 T Bk N V W ∧ (∃ w, fO5 T Bk N f w V W) ∧ vnc5 V f = w26_5 W f ∧ (vfn5 V f = Int32.ofNat t ∧ t < N ∧ T.2.1 t = 140) ∧ vin5 V = 1 ∧ bK5 b s V W ∧ 0 < b
/-- statements told: of the first q what must be known later -/
def sS5 (T : T5) (X : X5) (Bk N : Nat) (R r30 r32 : Nat → Int32) (j : Nat) : Prop := (R (11 * j) = 5 ↔ r30 j = 5) ∧ (R (11 * j) = 6 ↔ r30 j = 6) ∧ (R (11 * j) = 5 → ∃ t, t < N ∧ T.2.1 t = 140 ∧ R (11 * j + 5) = Int32.ofNat t ∧ r32 j = Int32.ofNat (Bk + t) ∧ ∀ σ, sx5 σ = X → g5_countArguments (Int32.ofNat (Bk + t)) σ = R (11 * j + 4))
def SS5 (T : T5) (X : X5) (Bk N q s : Nat) (V : V5) (W : W5) : Prop := s ≤ 150 ∧ vst5 V = Int32.ofNat s ∧ wst5 W = Int32.ofNat s ∧ ∀ j, j < q → sS5 T X Bk N (vrs5 V) (w30_5 W) (w32_5 W) j
/-- what stands behind a function's head in the reference -/
def tlF5 (fs : Nat) (tok : Int32) (σ : rS) : rS := if g5_isRight (g5_close 125 (g5_tellStatements_11 fs σ)) = 0 then g5_close 125 (g5_tellStatements_11 fs σ) else siU (riU (g5_close 125 (g5_tellStatements_11 fs σ)) 25 ((g5_close 125 (g5_tellStatements_11 fs σ)).1 18).toNatClampNeg tok) 18 ((g5_close 125 (g5_tellStatements_11 fs σ)).1 18 + 1)
theorem kq_tlF {s σ : rS} {fs : Nat} {tok : Int32} (h : kq5 s σ) : kq5 s (tlF5 fs tok σ) := kq_if (kq_close (kq_tellStatements_11 _ _ h)) (kq_si (by decide) (by decide) (kq_ri (kq_close (kq_tellStatements_11 _ _ h))))
theorem tlF_5 {σ : rS} {tok : Int32} : g5_tellFunc_218 tok σ = tlF5 fu5 tok (g5_openBlock (-1) 0 (siU (g5_open 123 (g5_close 41 σ)) 42 0)) := by
  unfold g5_tellFunc_218 g5_tellStatements tlF5
  dsimp only [pb5]
  generalize g5_close 125 (g5_tellStatements_11 fu5 (g5_openBlock (-1) 0 (siU (g5_open 123 (g5_close 41 σ)) 42 0))) = τ
  rfl
/-- a block opened -/
def puB5 (x y : Int32) (b : Nat) (e : E5) : E5 := (fun g => if g = paBlocks then Int32.ofNat (b + 1) else e.1 g, fun g j => if g = 1013 ∧ j = b then vp_nar .boolean y else if g = 1012 ∧ j = b then -1 else if g = 1011 ∧ j = b then x else e.2.1 g j, e.2.2)
theorem puB_5 {x y : Int32} {b : Nat} {e : E5} (hl : e.2.2 paOwners = 41) (hb : e.1 paBlocks = Int32.ofNat b) (hb2 : b ≤ 40) : f5_Pa_pushBlock x y e = .inl (puB5 x y b e, ()) := by
  have c : (e.1 paBlocks).toNatClampNeg = b := by rw [hb, cl_5 (by omega)]
  unfold f5_Pa_pushBlock
  rw [hl, if_neg (fun q => absurd ((lti_n5 (m := 41) hb (by omega) (by decide)).mp q) (by omega))]
  show (.inl (((fun g => if g = paBlocks then e.1 paBlocks + 1 else e.1 g), (fun g j => if g = 1013 ∧ j = (e.1 paBlocks).toNatClampNeg then vp_nar .boolean y else if g = 1012 ∧ j = (e.1 paBlocks).toNatClampNeg then -1 else if g = 1011 ∧ j = (e.1 paBlocks).toNatClampNeg then x else e.2.1 g j), e.2.2), ()) : R5 Unit) = _
  rw [c, hb, on_15 (by omega)]
  rfl
theorem bK_p5 {x y : Int32} {b s : Nat} {e : E5} {σ : rS} (h : bK5 b s (gE5 e) (gS5 σ)) (hb : b ≤ 40) (h0 : b = 0 → x = -1) (h1 : 0 < b → ∃ o : Nat, o < s ∧ x = Int32.ofNat o) : bK5 (b + 1) s (gE5 (puB5 x y b e)) (gS5 (g5_openBlock x y σ)) := by
  obtain ⟨p1, p2, p3⟩ := h
  have s42 : σ.1 42 = Int32.ofNat b := p2
  have c : (σ.1 42).toNatClampNeg = b := by rw [s42, cl_5 (by omega)]
  have r43 : ∀ j, (g5_openBlock x y σ).2.2.1 43 j = if j = b then x else σ.2.2.1 43 j := fun j => by
    show (riU (riU (riU σ 43 (σ.1 42).toNatClampNeg x) 44 (σ.1 42).toNatClampNeg (-1)) 45 (σ.1 42).toNatClampNeg (vp_nar .boolean y)).2.2.1 43 j = _
    rw [ri34, if_neg (by decide), ri34, if_neg (by decide), ri34, if_pos rfl, c]
  have r45 : ∀ j, (g5_openBlock x y σ).2.2.1 45 j = if j = b then vp_nar .boolean y else σ.2.2.1 45 j := fun j => by
    show (riU (riU (riU σ 43 (σ.1 42).toNatClampNeg x) 44 (σ.1 42).toNatClampNeg (-1)) 45 (σ.1 42).toNatClampNeg (vp_nar .boolean y)).2.2.1 45 j = _
    rw [ri34, if_pos rfl, c]
    by_cases z : j = b
    · rw [if_pos z, if_pos z]
    · rw [if_neg z, if_neg z, ri34, if_neg (by decide), ri34, if_neg (by decide)]
  have q11 : ∀ j, (puB5 x y b e).2.1 1011 j = if j = b then x else e.2.1 1011 j := fun j => by
    show (if 1011 = 1011 ∧ j = b then x else e.2.1 1011 j) = _
    by_cases z : j = b
    · rw [if_pos ⟨rfl, z⟩, if_pos z]
    · rw [if_neg (fun w => z w.2), if_neg z]
  have q13 : ∀ j, (puB5 x y b e).2.1 1013 j = if j = b then vp_nar .boolean y else e.2.1 1013 j := fun j => by
    show (if 1013 = 1013 ∧ j = b then vp_nar .boolean y else e.2.1 1013 j) = _
    by_cases z : j = b
    · rw [if_pos ⟨rfl, z⟩, if_pos z]
    · rw [if_neg (fun w => z w.2), if_neg z]
  refine ⟨rfl, ?_, fun j hj => ?_⟩
  · show σ.1 42 + 1 = _
    rw [s42, on_15 (by omega)]
  · show (puB5 x y b e).2.1 1011 j = (g5_openBlock x y σ).2.2.1 43 j ∧ (puB5 x y b e).2.1 1013 j = (g5_openBlock x y σ).2.2.1 45 j ∧ (j = 0 → (puB5 x y b e).2.1 1011 j = -1) ∧ (0 < j → ∃ o : Nat, o < s ∧ (puB5 x y b e).2.1 1011 j = Int32.ofNat o)
    rw [q11, q13, r43, r45]
    by_cases z : j = b
    · rw [if_pos z, if_pos z, if_pos z, if_pos z]
      exact ⟨rfl, rfl, fun w => h0 (by omega), fun w => h1 (by omega)⟩
    · rw [if_neg z, if_neg z, if_neg z, if_neg z]
      exact p3 j (by omega)
theorem rdB_a5 {α β γ : Type} {m : R5 α} {k : E5 → α → R5 β} {k' : E5 → β → R5 γ} : rdB5 (rdB5 m k) k' = rdB5 m (fun e a => rdB5 (k e a) k') := by
  rcases m with ⟨e, a⟩ | x <;> rfl
theorem rdB_f5 {α β : Type} {c : Prop} [Decidable c] {A B : R5 α} {k : E5 → α → R5 β} : rdB5 (if c then A else B) k = if c then rdB5 A k else rdB5 B k := by
  by_cases h : c
  · rw [if_pos h, if_pos h]
  · rw [if_neg h, if_neg h]
theorem rdr_5 {α β : Type} {x : Int32 × Int32} {k : E5 → α → R5 β} : rdB5 (.inr x) k = .inr x := rfl
theorem puB_f5 {x y : Int32} {b : Nat} {e : E5} : ∃ (e' : E5) (r1 r2 : Nat → Int32), e' = puB5 x y b e ∧ gE5 e' = (e.1 509, e.2.1 1006, e.1 510, e.2.1 1007, e.1 512, e.2.1 1008, e.2.1 504, e.1 1010, e.2.1 1009, e.1 513, e.2.1 506, Int32.ofNat (b + 1), r1, r2, e.1 1005, e.2.2) ∧ tq5 e' = tq5 e ∧ (e'.1 paAt = e.1 paAt ∧ e'.1 paKind = e.1 paKind ∧ e'.1 paOpen = e.1 paOpen) := ⟨_, _, _, rfl, rfl, rfl, rfl, rfl, rfl⟩
theorem oB_f5 {x y : Int32} {σ : rS} : ∃ (σ' : rS) (b : Int32) (r1 r2 : Nat → Int32), σ' = g5_openBlock x y σ ∧ gS5 σ' = (σ.1 15, σ.2.2.1 20, σ.1 16, σ.2.2.1 22, σ.1 18, σ.2.2.1 25, σ.2.2.1 26, σ.2.2.1 27, σ.2.2.1 28, σ.1 41, σ.1 19, σ.2.2.1 30, σ.2.2.1 32, b, r1, r2) ∧ sx5 σ' = sx5 σ ∧ (σ'.1 2 = σ.1 2 ∧ σ'.1 10 = σ.1 10 ∧ σ'.1 11 = σ.1 11 ∧ σ'.1 46 = σ.1 46 ∧ σ'.1 47 = σ.1 47 ∧ σ'.1 13 = σ.1 13) := ⟨_, _, _, _, rfl, rfl, rfl, rfl, rfl, rfl, rfl, rfl, rfl⟩
theorem nG_k5 {T : T5} {Bk N : Nat} {V V' : V5} {W W' : W5} (h : nG5 T Bk N V W) (a1 : V'.1 = V.1) (a2 : V'.2.1 = V.2.1) (a3 : V'.2.2.1 = V.2.2.1) (a4 : V'.2.2.2.1 = V.2.2.2.1) (a5 : V'.2.2.2.2.1 = V.2.2.2.2.1) (a6 : ∀ v k : Nat, V.2.2.2.2.1 = Int32.ofNat v → v ≤ 10 → k < v → vfn5 V' k = vfn5 V k) (a7 : ∀ v k : Nat, V.2.2.2.2.1 = Int32.ofNat v → v ≤ 10 → k < v → vnc5 V' k = vnc5 V k) (a8 : vln5 V' = vln5 V) (b1 : W'.1 = W.1) (b2 : W'.2.1 = W.2.1) (b3 : W'.2.2.1 = W.2.2.1) (b4 : W'.2.2.2.1 = W.2.2.2.1) (b5 : W'.2.2.2.2.1 = W.2.2.2.2.1) (b6 : W'.2.2.2.2.2.1 = W.2.2.2.2.2.1) (b7 : ∀ v k : Nat, V.2.2.2.2.1 = Int32.ofNat v → v ≤ 10 → k < v → w26_5 W' k = w26_5 W k) : nG5 T Bk N V' W' := by
  obtain ⟨⟨v1, p1⟩, ⟨v2, p2⟩, ⟨v3, p3, p4⟩, p5⟩ := h
  refine ⟨⟨v1, ?_⟩, ⟨v2, ?_⟩, ⟨v3, ⟨p3.1, a5.trans p3.2.1, b5.trans p3.2.2.1, fun k hk => ?_⟩, fun k hk => ?_⟩, ?_⟩
  · rw [a1, a2, b1, b2]; exact p1
  · rw [a3, a4, b3, b4]; exact p2
  · obtain ⟨u, u1, u2, u3, u4⟩ := p3.2.2.2 k hk
    exact ⟨u, u1, u2, (a6 v3 k p3.2.1 p3.1 hk).trans u3, by rw [b6]; exact u4⟩
  · exact (a7 v3 k p3.2.1 p3.1 hk).trans ((p4 k hk).trans (b7 v3 k p3.2.1 p3.1 hk).symm)
  · rw [a8]; exact p5
theorem SS_k5 {T : T5} {X : X5} {Bk N q s : Nat} {V V' : V5} {W W' : W5} (h : SS5 T X Bk N q s V W) (a1 : vst5 V' = vst5 V) (a2 : vrs5 V' = vrs5 V) (b1 : wst5 W' = wst5 W) (b2 : w30_5 W' = w30_5 W) (b3 : w32_5 W' = w32_5 W) : SS5 T X Bk N q s V' W' := by
  unfold SS5 at h ⊢
  rw [a1, a2, b1, b2, b3]
  exact h
theorem fO_k5 {T : T5} {Bk N f w : Nat} {V V' : V5} {W W' : W5} (h : fO5 T Bk N f w V W) (a1 : V'.2.2.2.2.1 = V.2.2.2.2.1) (a2 : vow5 V' = vow5 V) (a3 : von5 V' = von5 V) (b1 : wfn5 W' = wfn5 W) (b2 : w27_5 W' = w27_5 W) (b3 : w28_5 W' = w28_5 W) : fO5 T Bk N f w V' W' := by
  unfold fO5 at h ⊢
  rw [a1, a2, a3, b1, b2, b3]
  exact h
section
variable {T : T5} {X : X5} {Bk N : Nat} {Z : Int32} {V : V5} {W : W5} {a l : Nat} {e : E5} {σ : rS}
/-- the end of a head -/
theorem sr_h88 {β : Type} {Q' : E5 → β → rS → Prop} {kc : E5 → Unit → R5 β} {t f w s : Nat} {tok : Int32} (H : TR5 T X Bk N Z) (L : LR5 T X Bk N Z V W a 1 e σ) (G : nG5 T Bk N V W) (O : fO5 T Bk N f w V W) (h26 : w26_5 W f = Int32.ofNat w) (hi : vin5 V = 0) (hb : vbl5 V = 0) (ht : t < N) (kt : T.2.1 t = 140) (hS : SS5 T X Bk N s s V W) (hd : ∀ p e, dk5 p e → dq5 p (kc e ())) (hK : ∀ e' σ' a', e'.1 paKind ≠ 143 → a < a' → LR5 T X Bk N Z (gE5 e') (gS5 σ') a' 1 e' σ' → HI5 T Bk N f t 1 s (gE5 e') (gS5 σ') → SS5 T X Bk N s s (gE5 e') (gS5 σ') → sr5 Q' (kc e' ()) (tlF5 fu5 tok σ')) : sr5 Q' (rdB5 (f5_Pa_functionHead_88 (Int32.ofNat t) e) kc) (g5_tellFunc_218 tok σ) := by
  rw [tlF_5]
  unfold f5_Pa_functionHead_88
  rw [rdB_a5]
  refine sr_b5 (sr_close H L (by decide) (by decide)) (fun e1 _ n1 Q1 => ?_) (kq_tlF (kq_openBlock (kq_si (by decide) (by decide) (kq_open kq_rf)))) (fun p e1 _ d => ?_)
  · obtain ⟨L1, _, _⟩ := Q1
    rw [rdB_a5]
    generalize g5_close 41 σ = σ1 at L1 ⊢
    refine sr_b5 (sr_open H L1 (by decide) (by decide)) (fun e2 _ n2 Q2 => ?_) (kq_tlF (kq_openBlock (kq_si (by decide) (by decide) kq_rf))) (fun p e2 _ d => ?_)
    · obtain ⟨L2, _, _⟩ := Q2
      generalize g5_open 123 σ1 = σ2 at L2 ⊢
      obtain ⟨hV, hW⟩ := L2.2.1
      subst hV
      subst hW
      obtain ⟨o1, o2, o3, o4⟩ := O
      have e2f : e2.1 coFunctions = Int32.ofNat f := o3
      have c1 : (e2.1 coFunctions).toNatClampNeg = f := by rw [e2f, cl_5 (by omega)]
      have hb2 : e2.1 paBlocks = 0 := hb
      have hln : e2.2.2 paOwners = 41 := G.2.2.2.2.2.2.2
      rw [if_neg (show ¬ (10 : Int32) ≤ e2.1 coFunctions from fun q => absurd ((lti_n5 (m := 10) e2f (by omega) (by decide)).mp q) (by omega))]
      have q8 : ∀ k, (if 1008 = 1008 ∧ k = (e2.1 coFunctions).toNatClampNeg then Int32.ofNat t else e2.2.1 1008 k) = if k = f then Int32.ofNat t else e2.2.1 1008 k := fun k => by
        rw [c1]
        by_cases z : k = f
        · rw [if_pos ⟨rfl, z⟩, if_pos z]
        · rw [if_neg (fun w => z w.2), if_neg z]
      have q4 : ∀ k, (if 504 = 504 ∧ k = (e2.1 coFunctions).toNatClampNeg then e2.1 paOwns else e2.2.1 504 k) = if k = f then e2.1 paOwns else e2.2.1 504 k := fun k => by
        rw [c1]
        by_cases z : k = f
        · rw [if_pos ⟨rfl, z⟩, if_pos z]
        · rw [if_neg (fun w => z w.2), if_neg z]
      obtain ⟨e3, x1, x2, x3, x4, x5, x6, x7⟩ : ∃ e3 : E5, (rdB5 (sa5 paFunctionNames (e2.1 coFunctions).toNatClampNeg (Int32.ofNat t) e2) (fun e9 _ => rdB5 (sa5 coNameCounts (e9.1 coFunctions).toNatClampNeg (e9.1 paOwns) e9) (fun e11 _ => f5_Pa_functionHead_144 e11)) = rdB5 (f5_Pa_pushBlock (-1) 0 e3) (fun e2 _ => .inl (e2, ()))) ∧ (tq5 e3 = tq5 e2 ∧ e3.1 paAt = e2.1 paAt ∧ e3.1 paKind = e2.1 paKind ∧ e3.1 paOpen = e2.1 paOpen ∧ e3.2.2 = e2.2.2) ∧ (e3.1 509 = e2.1 509 ∧ e3.2.1 1006 = e2.2.1 1006 ∧ e3.1 510 = e2.1 510 ∧ e3.2.1 1007 = e2.2.1 1007 ∧ e3.1 512 = e2.1 512) ∧ (∀ k, e3.2.1 1008 k = if k = f then Int32.ofNat t else e2.2.1 1008 k) ∧ (∀ k, e3.2.1 504 k = if k = f then e2.1 paOwns else e2.2.1 504 k) ∧ (e3.1 1010 = e2.1 1010 ∧ e3.2.1 1009 = e2.2.1 1009 ∧ e3.1 513 = e2.1 513 ∧ e3.2.1 506 = e2.2.1 506 ∧ e3.1 1014 = e2.1 1014) ∧ e3.1 1005 = 1 := ⟨((fun g => if g = paInside then 1 else e2.1 g), (fun g j => if g = coNameCounts ∧ j = (e2.1 coFunctions).toNatClampNeg then e2.1 paOwns else if g = paFunctionNames ∧ j = (e2.1 coFunctions).toNatClampNeg then Int32.ofNat t else e2.2.1 g j), e2.2.2), rfl, ⟨rfl, rfl, rfl, rfl, rfl⟩, ⟨rfl, rfl, rfl, rfl, rfl⟩, q8, q4, ⟨rfl, rfl, rfl, rfl, rfl⟩, rfl⟩
      rw [x1, puB_5 (b := 0) (by rw [x2.2.2.2.2]; exact hln) (by rw [x6.2.2.2.2]; exact hb2) (by decide), rdl_5, rdl_5]
      obtain ⟨σ3, y1, y2⟩ : ∃ σ3 : rS, σ3 = siU σ2 42 0 ∧ gS5 σ3 = (σ2.1 15, σ2.2.2.1 20, σ2.1 16, σ2.2.2.1 22, σ2.1 18, σ2.2.2.1 25, σ2.2.2.1 26, σ2.2.2.1 27, σ2.2.2.1 28, σ2.1 41, σ2.1 19, σ2.2.2.1 30, σ2.2.2.1 32, 0, σ2.2.2.1 43, σ2.2.2.1 45) := ⟨_, rfl, rfl⟩
      have L3 : LR5 T X Bk N Z (gE5 e3) (gS5 σ3) (a + 1 + 1) (0 + 1) e3 σ3 := lr_V5 L2 x2.1 ⟨x2.2.1, x2.2.2.1, x2.2.2.2.1⟩ (by rw [y1]; rfl) (by rw [y1]; exact ⟨rfl, rfl, rfl, rfl, rfl, rfl⟩)
      rw [← y1]
      have lf : ∀ v k : Nat, e2.1 512 = Int32.ofNat v → v ≤ 10 → k < v → k ≠ f := fun v k hv hv2 hk => by
        have y := congrArg Int32.toInt (hv.symm.trans e2f)
        rw [ofn_i (by omega), ofn_i (by omega)] at y
        omega
      have bK := bK_p5 (x := -1) (y := 0) (b := 0) (s := s) (e := e3) (σ := σ3) ⟨by show e3.1 1014 = _; rw [x6.2.2.2.2]; exact hb2, by rw [y1]; rfl, fun j hj => absurd hj (by omega)⟩ (by decide) (fun _ => rfl) (fun w => absurd w (by omega))
      obtain ⟨e4, r1, r2, z1, z2, z3, z4⟩ := puB_f5 (x := -1) (y := 0) (b := 0) (e := e3)
      obtain ⟨σ4, b4, r3, r4, u1, u2, u3, u4⟩ := oB_f5 (x := -1) (y := 0) (σ := σ3)
      rw [← z1, ← u1] at bK
      rw [← z1, ← u1]
      have y3 : σ3.1 15 = σ2.1 15 ∧ σ3.2.2.1 20 = σ2.2.2.1 20 ∧ σ3.1 16 = σ2.1 16 ∧ σ3.2.2.1 22 = σ2.2.2.1 22 ∧ σ3.1 18 = σ2.1 18 ∧ σ3.2.2.1 25 = σ2.2.2.1 25 ∧ σ3.2.2.1 26 = σ2.2.2.1 26 ∧ σ3.2.2.1 27 = σ2.2.2.1 27 ∧ σ3.2.2.1 28 = σ2.2.2.1 28 ∧ σ3.1 41 = σ2.1 41 ∧ σ3.1 19 = σ2.1 19 ∧ σ3.2.2.1 30 = σ2.2.2.1 30 ∧ σ3.2.2.1 32 = σ2.2.2.1 32 := by rw [y1]; exact ⟨rfl, rfl, rfl, rfl, rfl, rfl, rfl, rfl, rfl, rfl, rfl, rfl, rfl⟩
      have L4 : LR5 T X Bk N Z (gE5 e4) (gS5 σ4) (a + 1 + 1) 1 e4 σ4 := lr_V5 L3 z3 z4 u3 u4
      have n4 : e4.1 paKind ≠ 143 := by rw [z4.2.1, x2.2.2.1]; exact n2
      obtain ⟨i1, i2, i3, i4, i5, i6, i7, i8, i9, i10, i11, i12, i13⟩ := y3
      refine hK e4 σ4 (a + 1 + 1) n4 (by omega) L4 ⟨?_, ⟨w, ?_⟩, ?_, ⟨?_, ht, kt⟩, ?_, bK, by decide⟩ ?_
      · refine nG_k5 G (by rw [z2]; exact x3.1) (by rw [z2]; exact x3.2.1) (by rw [z2]; exact x3.2.2.1) (by rw [z2]; exact x3.2.2.2.1) (by rw [z2]; exact x3.2.2.2.2) (fun v k h1 h2 h3 => ?_) (fun v k h1 h2 h3 => ?_) (by rw [z2]; exact x2.2.2.2.2) (by rw [u2]; exact i1) (by rw [u2]; exact i2) (by rw [u2]; exact i3) (by rw [u2]; exact i4) (by rw [u2]; exact i5) (by rw [u2]; exact i6) (fun v k h1 h2 h3 => by rw [u2]; exact congrFun i7 k)
        · rw [z2]
          show e3.2.1 1008 k = e2.2.1 1008 k
          rw [x4, if_neg (lf v k h1 h2 h3)]
        · rw [z2]
          show e3.2.1 504 k = e2.2.1 504 k
          rw [x5, if_neg (lf v k h1 h2 h3)]
      · exact fO_k5 ⟨o1, o2, o3, o4⟩ (by rw [z2]; exact x3.2.2.2.2) (by rw [z2]; exact x6.1) (by rw [z2]; exact x6.2.1) (by rw [u2]; exact i10) (by rw [u2]; exact i8) (by rw [u2]; exact i9)
      · rw [z2, u2]
        show e3.2.1 504 f = σ3.2.2.1 26 f
        rw [x5, if_pos rfl, i7]
        have z1 : e2.1 paOwns = Int32.ofNat w := o4.2.1
        rw [z1]
        exact h26.symm
      · rw [z2]
        show e3.2.1 1008 f = _
        rw [x4, if_pos rfl]
      · rw [z2]; exact x7
      · exact SS_k5 hS (by rw [z2]; exact x6.2.2.1) (by rw [z2]; exact x6.2.2.2.1) (by rw [u2]; exact i11) (by rw [u2]; exact i12) (by rw [u2]; exact i13)
    · rw [rdB_f5]
      have d8 : ∀ e9 : E5, dk5 p e9 → dq5 p (rdB5 (f5_Pa_functionHead_144 e9) kc) := fun e9 d9 => by
        unfold f5_Pa_functionHead_144
        rw [rdB_a5]
        refine dq_b5 (dq_i5 (a := ()) d9) (fun e4 _ d4 => ?_)
        rw [rdB_a5]
        refine dq_b5 ?_ (fun e5 _ d5 => ?_)
        · unfold f5_Pa_pushBlock
          repeat' first | with_reducible exact dq_i5 (by assumption) | with_reducible refine dq_t5 rfl ?_ | with_reducible refine dq_e5 ne105 ?_ | with_reducible exact dq_r5 (by assumption) | with_reducible exact dq_x5 (dx_pass (by assumption) (by decide)) | with_reducible exact dq_x5 (dx_open (by assumption) (by decide)) | with_reducible exact dq_x5 (dx_close (by assumption) (by decide)) | with_reducible exact dq_x5 (dx_expect (by assumption) (by decide)) | with_reducible exact dq_x5 (dx_newName (by assumption)) | with_reducible refine dq_n5 (by assumption) (by decide) ?_ | with_reducible refine dq_b5 (dq_expr (by assumption)) (fun _ _ _ => ?_) | dsimp only | with_reducible refine dq_f5 ?_ ?_ | with_reducible refine dq_b5 ?_ (fun _ _ _ => ?_) | with_reducible exact dq_sa5 (by assumption) (by decide) | with_reducible exact dq_sc5 (by assumption) | exact dq_i5 (by assumption)
        · exact hd p e5 d5
      refine dq_f5 (d8 e2 d) ?_
      rw [rdB_a5]
      refine dq_b5 (dq_sa5 d (by decide)) (fun e4 _ d4 => ?_)
      rw [rdB_a5]
      exact dq_b5 (dq_sa5 d4 (by decide)) (fun e5 _ d5 => d8 e5 d5)
  · exact dq_x5 (dx_b5 (dx_open d (by decide)))
end

end
section
set_option maxHeartbeats 1600000
/-! a function's names, its head whole -/
theorem aO_f5 {x : Int32} {w : Nat} {e : E5} (hw : e.1 paOwns = Int32.ofNat w) (hw8 : w < 8) : ∃ (e' : E5) (r : Nat → Int32), f5_Pa_addOwn x e = .inl (e', ()) ∧ gE5 e' = (e.1 509, e.2.1 1006, e.1 510, e.2.1 1007, e.1 512, e.2.1 1008, e.2.1 504, Int32.ofNat (w + 1), r, e.1 513, e.2.1 506, e.1 1014, e.2.1 1011, e.2.1 1013, e.1 1005, e.2.2) ∧ (∀ k, r k = if k = w then x else e.2.1 1009 k) ∧ tq5 e' = tq5 e ∧ (e'.1 paAt = e.1 paAt ∧ e'.1 paKind = e.1 paKind ∧ e'.1 paOpen = e.1 paOpen) := by
  have c : (e.1 paOwns).toNatClampNeg = w := by rw [hw, cl_5 (by omega)]
  have f1 : f5_Pa_addOwn x e = .inl (((fun g => if g = paOwns then e.1 paOwns + 1 else e.1 g), (fun g j => if g = paOwnNames ∧ j = (e.1 paOwns).toNatClampNeg then x else e.2.1 g j), e.2.2), ()) := by
    unfold f5_Pa_addOwn
    rw [if_neg (show ¬ (8 : Int32) ≤ e.1 paOwns from fun q => absurd ((lti_n5 (m := 8) hw (by omega) (by decide)).mp q) (by omega))]
    rfl
  rw [c, hw, on_15 (by omega)] at f1
  refine ⟨_, _, f1, rfl, fun k => ?_, rfl, rfl, rfl, rfl⟩
  show (if 1009 = 1009 ∧ k = w then x else e.2.1 1009 k) = _
  by_cases z : k = w
  · rw [if_pos ⟨rfl, z⟩, if_pos z]
  · rw [if_neg (fun q => z q.2), if_neg z]
theorem rO_f5 {σ : rS} {i f : Nat} {x y z : Int32} : ∃ (σ' : rS) (r6 r7 r8 : Nat → Int32), σ' = riU (riU (riU σ 28 i x) 27 f y) 26 f z ∧ gS5 σ' = (σ.1 15, σ.2.2.1 20, σ.1 16, σ.2.2.1 22, σ.1 18, σ.2.2.1 25, r6, r7, r8, σ.1 41, σ.1 19, σ.2.2.1 30, σ.2.2.1 32, σ.1 42, σ.2.2.1 43, σ.2.2.1 45) ∧ (∀ k, r6 k = if k = f then z else σ.2.2.1 26 k) ∧ (∀ k, r7 k = if k = f then y else σ.2.2.1 27 k) ∧ (∀ k, r8 k = if k = i then x else σ.2.2.1 28 k) ∧ sx5 σ' = sx5 σ ∧ (σ'.1 2 = σ.1 2 ∧ σ'.1 10 = σ.1 10 ∧ σ'.1 11 = σ.1 11 ∧ σ'.1 46 = σ.1 46 ∧ σ'.1 47 = σ.1 47 ∧ σ'.1 13 = σ.1 13) := by
  refine ⟨_, _, _, _, rfl, rfl, fun k => ?_, fun k => ?_, fun k => ?_, rfl, rfl, rfl, rfl, rfl, rfl, rfl⟩
  · show (riU (riU (riU σ 28 i x) 27 f y) 26 f z).2.2.1 26 k = _
    have h1 : (riU (riU σ 28 i x) 27 f y).2.2.1 26 k = σ.2.2.1 26 k := by rw [ri34, if_neg (by decide), ri34, if_neg (by decide)]
    rw [ri34, if_pos rfl, h1]
  · show (riU (riU (riU σ 28 i x) 27 f y) 26 f z).2.2.1 27 k = _
    have h1 : (riU σ 28 i x).2.2.1 27 k = σ.2.2.1 27 k := by rw [ri34, if_neg (by decide)]
    rw [ri34, if_neg (by decide), ri34, if_pos rfl, h1]
  · show (riU (riU (riU σ 28 i x) 27 f y) 26 f z).2.2.1 28 k = _
    rw [ri34, if_neg (by decide), ri34, if_neg (by decide), ri34, if_pos rfl]
section
variable {T : T5} {X : X5} {Bk N : Nat} {Z : Int32} {a l : Nat}
/-- while a function's names are told -/
def hN5 (T : T5) (X : X5) (Bk N : Nat) (Z : Int32) (a f w s : Nat) (e : E5) (σ : rS) : Prop := LR5 T X Bk N Z (gE5 e) (gS5 σ) a 1 e σ ∧ nG5 T Bk N (gE5 e) (gS5 σ) ∧ fO5 T Bk N f w (gE5 e) (gS5 σ) ∧ σ.2.2.1 26 f = Int32.ofNat w ∧ e.1 paInside = 0 ∧ e.1 paBlocks = 0 ∧ SS5 T X Bk N s s (gE5 e) (gS5 σ)
/-- one name more -/
theorem hN_a5 {f w s t : Nat} {x : Int32} {e : E5} {σ : rS} (H : TR5 T X Bk N Z) (h : hN5 T X Bk N Z a f w s e σ) (hw : w < 8) (hx : x = Int32.ofNat (Bk + t)) (ht : t < N) (kt : T.2.1 t = 140) : ∃ (e' : E5) (σ' : rS), f5_Pa_addOwn (Int32.ofNat t) e = .inl (e', ()) ∧ e'.1 paKind = e.1 paKind ∧ riU (riU (riU σ 28 ((8 : Int32) * σ.1 41 + σ.2.2.1 27 (σ.1 41).toNatClampNeg).toNatClampNeg x) 27 (σ.1 41).toNatClampNeg (σ.2.2.1 27 (σ.1 41).toNatClampNeg + 1)) 26 (σ.1 41).toNatClampNeg (σ.2.2.1 26 (σ.1 41).toNatClampNeg + 1) = σ' ∧ hN5 T X Bk N Z a f (w + 1) s e' σ' := by
  obtain ⟨L, G, ⟨o1, o2, o3, o4⟩, h26, hi, hb, hS⟩ := h
  have ow : e.1 paOwns = Int32.ofNat w := o4.2.1
  have s41 : σ.1 41 = Int32.ofNat f := o2
  have s27 : σ.2.2.1 27 f = Int32.ofNat w := o4.2.2.1
  have c41 : (σ.1 41).toNatClampNeg = f := by rw [s41, cl_5 (by omega)]
  have i28 : ((8 : Int32) * σ.1 41 + Int32.ofNat w).toNatClampNeg = 8 * f + w := ix8_5 s41 (by omega) (by omega)
  obtain ⟨e', r, z1, z2, z3, z4, z5⟩ := aO_f5 (x := Int32.ofNat t) ow hw
  obtain ⟨σ', r6, r7, r8, u1, u2, u3, u4, u5, u6, u7⟩ := rO_f5 (σ := σ) (i := 8 * f + w) (f := f) (x := x) (y := Int32.ofNat w + 1) (z := Int32.ofNat w + 1)
  refine ⟨e', σ', z1, z5.2.1, by rw [c41, s27, h26, i28, u1], lr_V5 L z4 z5 u6 u7, ?_, ?_, ?_, ?_, ?_, ?_⟩
  · have lf : ∀ v k : Nat, e.1 512 = Int32.ofNat v → v ≤ 10 → k < v → k ≠ f := fun v k hv hv2 hk => by
      have y := congrArg Int32.toInt (hv.symm.trans o3)
      rw [ofn_i (by omega), ofn_i (by omega)] at y
      omega
    refine nG_k5 G (by rw [z2]; rfl) (by rw [z2]; rfl) (by rw [z2]; rfl) (by rw [z2]; rfl) (by rw [z2]; rfl) (fun v k _ _ _ => by rw [z2]; rfl) (fun v k _ _ _ => by rw [z2]; rfl) (by rw [z2]; rfl) (by rw [u2]; rfl) (by rw [u2]; rfl) (by rw [u2]; rfl) (by rw [u2]; rfl) (by rw [u2]; rfl) (by rw [u2]; rfl) (fun v k h1 h2 h3 => ?_)
    rw [u2]
    show r6 k = σ.2.2.1 26 k
    rw [u3, if_neg (lf v k h1 h2 h3)]
  · refine ⟨o1, by rw [u2]; exact o2, by rw [z2]; exact o3, ?_⟩
    rw [z2, u2]
    refine pN_a5 o4 hw (by decide) ht kt ?_ ?_ z3 (fun k => ?_)
    · show Int32.ofNat (w + 1) = e.1 1010 + 1
      rw [show e.1 1010 = Int32.ofNat w from ow, on_15 (by omega)]
    · show r7 f = σ.2.2.1 27 f + 1
      rw [u4, if_pos rfl, s27]
    · show r8 (8 * f + k) = if k = w then Int32.ofNat (Bk + t) else σ.2.2.1 28 (8 * f + k)
      rw [u5, hx]
      by_cases c : k = w
      · rw [if_pos c, if_pos (by omega)]
      · rw [if_neg c, if_neg (by omega)]
  · have z : σ'.2.2.1 26 = r6 := congrArg (fun W : W5 => w26_5 W) u2
    rw [z, u3, if_pos rfl, on_15 (by omega)]
  · have z : e'.1 1005 = e.1 1005 := congrArg (fun V : V5 => vin5 V) z2
    exact z.trans hi
  · have z : e'.1 1014 = e.1 1014 := congrArg (fun V : V5 => vbl5 V) z2
    exact z.trans hb
  · exact SS_k5 hS (by rw [z2]; rfl) (by rw [z2]; rfl) (by rw [u2]; rfl) (by rw [u2]; rfl) (by rw [u2]; rfl)
/-- hN5 goes with the tokens -/
theorem hN_t5 {a' f w s : Nat} {e e' : E5} {σ σ' : rS} (h : hN5 T X Bk N Z a f w s e σ) (L : LR5 T X Bk N Z (gE5 e) (gS5 σ) a' 1 e' σ') : hN5 T X Bk N Z a' f w s e' σ' := by
  obtain ⟨_, G, O, h26, hi, hb, hS⟩ := h
  have hV := L.2.1.1
  have hW := L.2.1.2
  refine ⟨by rw [hV, hW]; exact L, by rw [hV, hW]; exact G, by rw [hV, hW]; exact O, ?_, ?_, ?_, by rw [hV, hW]; exact hS⟩
  · have z : σ'.2.2.1 26 = σ.2.2.1 26 := congrArg (fun W : W5 => w26_5 W) hW
    rw [z]; exact h26
  · have z : e'.1 1005 = e.1 1005 := congrArg (fun V : V5 => vin5 V) hV
    exact z.trans hi
  · have z : e'.1 1014 = e.1 1014 := congrArg (fun V : V5 => vbl5 V) hV
    exact z.trans hb
theorem dq_addOwn {p x : Int32} {e : E5} (d : dk5 p e) : dq5 p (f5_Pa_addOwn x e) := by
  unfold f5_Pa_addOwn
  exact dq_f5 (dq_i5 d) (dq_b5 (dq_sa5 d (by decide)) (fun e1 _ d1 => dq_b5 (dq_i5 (a := ()) d1) (fun e2 _ d2 => dq_i5 d2)))
theorem dq_h88 {p x : Int32} {e : E5} (d : dk5 p e) : dq5 p (f5_Pa_functionHead_88 x e) := by
  unfold f5_Pa_functionHead_88
  exact dq_x5 (dx_close d (by decide))
theorem dq_h37 {p : Int32} : ∀ (m : Nat) (x y z : Int32) (e : E5), dk5 p e → dq5 p (f5_Pa_functionHead_37 m x y z e)
  | 0, _, _, _, _, _ => Or.inl rfl
  | m + 1, x, y, z, e, d => by
    rw [f5_Pa_functionHead_37]
    exact dq_f5 (dq_h88 d) (dq_f5 (dq_h88 d) (dq_x5 (dx_newName d)))
theorem sr_h37 {β : Type} {Q' : E5 → β → rS → Prop} {kc : E5 → Unit → R5 β} {t f s : Nat} {tok : Int32} (H : TR5 T X Bk N Z) (ht : t < N) (kt : T.2.1 t = 140) (hd : ∀ p e, dk5 p e → dq5 p (kc e ())) (hK : ∀ e' σ' a', e'.1 paKind ≠ 143 → a < a' → LR5 T X Bk N Z (gE5 e') (gS5 σ') a' 1 e' σ' → HI5 T Bk N f t 1 s (gE5 e') (gS5 σ') → SS5 T X Bk N s s (gE5 e') (gS5 σ') → sr5 Q' (kc e' ()) (tlF5 fu5 tok σ')) : ∀ (m mr w a1 : Nat) (mo : Int32) (e : E5) (σ : rS), hN5 T X Bk N Z a1 f w s e σ → a ≤ a1 → w ≤ 4 → 6 - w ≤ mr → (mo = 0 ∨ mo = 1) → sr5 Q' (rdB5 (f5_Pa_functionHead_37 m (Int32.ofNat t) mo (Int32.ofNat w) e) kc) (g5_tellFunc_102 mr tok mo σ)
  | 0, _, _, _, _, _, _, _, _, _, _, _ => Or.inl rfl
  | m + 1, mr, w, a1, mo, e, σ, h, ha, hw, hmr, hmo => by
    obtain ⟨mr, rfl⟩ : ∃ k, mr = k + 1 := ⟨mr - 1, by omega⟩
    obtain ⟨L, G, O, h26, hi, hb, hS⟩ := h
    have h0 : hN5 T X Bk N Z a1 f w s e σ := ⟨L, G, O, h26, hi, hb, hS⟩
    rw [f5_Pa_functionHead_37, g5_tellFunc_102]
    dsimp only [pb5, pm5]
    rw [lr_ir5 L, if_neg ne105]
    rcases hmo with rfl | rfl
    · rw [if_pos rfl, if_pos rfl]
      exact sr_h88 H L G O h26 hi hb ht kt hS hd (fun e' σ' a' q1 q2 q3 q4 q5 => hK e' σ' a' q1 (by omega) q3 q4 q5)
    · have lw := ofn_i (n := w) (by omega)
      rw [if_neg ne105, if_neg ne105, if_neg (by rw [lti, lw]; have : (4 : Int32).toInt = 4 := rfl; omega), rdB_a5]
      have ow : e.1 paOwns = Int32.ofNat w := O.2.2.2.2.1
      have s27 : σ.2.2.1 27 (σ.1 41).toNatClampNeg = Int32.ofNat w := by
        have s41 : σ.1 41 = Int32.ofNat f := O.2.1
        rw [s41, cl_5 (by have := O.1; omega)]
        exact O.2.2.2.2.2.1
      rw [ow, s27]
      refine sr_b5 (sr_new H L G (Or.inr ⟨rfl, fO_n5 O⟩)) (fun e1 r n1 Q1 => ?_) ?_ (fun p e1 r d => ?_)
      · obtain ⟨L1, rfl, k1, htok, mm⟩ := Q1
        have hw4 : w < 4 := lt_n5 (m := 4) rfl (by omega) (by decide) mm
        generalize (g5_fresh 1 (Int32.ofNat w) 4 σ).2 = tk at htok ⊢
        generalize (g5_fresh 1 (Int32.ofNat w) 4 σ).1 = σ1 at L1 ⊢
        have h1 := hN_t5 h0 L1
        obtain ⟨e2, σ2, z1, z2, z3, z4⟩ := hN_a5 H h1 (by omega) htok L.2.2.1.1 k1
        rw [rdB_a5, z1, rdl_5, lr_ir5 L1, if_neg ne105]
        show sr5 Q' _ (g5_tellFunc_185 (g5_tellFunc_102 mr) tok (riU (riU (riU σ1 28 ((8 : Int32) * σ1.1 41 + σ1.2.2.1 27 (σ1.1 41).toNatClampNeg).toNatClampNeg tk) 27 (σ1.1 41).toNatClampNeg (σ1.2.2.1 27 (σ1.1 41).toNatClampNeg + 1)) 26 (σ1.1 41).toNatClampNeg (σ1.2.2.1 26 (σ1.1 41).toNatClampNeg + 1)))
        rw [z3]
        have L2 := z4.1
        have n2 : e2.1 paKind ≠ 143 := by rw [z2]; exact n1
        unfold g5_tellFunc_185 g5_tellFunc_206 f5_Pa_functionHead_73
        dsimp only [pb5]
        rw [lr_ir5 L2, if_neg ne105, lr_at5 H L2 (by decide) (by decide), rdB_f5]
        by_cases c : e2.1 paKind = 44
        · rw [if_pos c, if_pos c, if_neg ne105, if_neg ne105, if_neg ne105, rdB_a5]
          refine sr_b5 (sr_take H L2 (by rw [c]; decide)) (fun e3 _ n3 Q3 => ?_) (kq_tellFunc_102 _ _ _ _ kq_rf) (fun p e3 _ d => ?_)
          · rw [on_15 (by omega)]
            exact sr_h37 H ht kt hd hK m mr (w + 1) (a1 + 1 + 1) 1 e3 _ (hN_t5 z4 Q3.1) (by omega) (by omega) (by omega) (Or.inr rfl)
          · exact dq_b5 (dq_h37 m _ _ _ e3 d) (fun e9 _ d9 => hd p e9 d9)
        · rw [if_neg c, if_neg c, if_pos rfl, if_pos rfl, if_pos rfl, on_15 (by omega)]
          exact sr_h37 H ht kt hd hK m mr (w + 1) (a1 + 1) 0 e2 _ z4 (by omega) (by omega) (by omega) (Or.inl rfl)
      · exact kq_if (kq_tellFunc_185 (fun x0 x1 σ9 h9 => kq_tellFunc_102 _ _ _ _ h9) kq_rf) (kq_tellFunc_185 (fun x0 x1 σ9 h9 => kq_tellFunc_102 _ _ _ _ h9) (kq_ri (kq_ri (kq_ri kq_rf))))
      · refine dq_b5 ?_ (fun e9 _ d9 => hd p e9 d9)
        refine dq_b5 (dq_addOwn d) (fun e9 _ d9 => ?_)
        unfold f5_Pa_functionHead_73
        rw [if_neg ne105, if_pos rfl]
        exact dq_n5 d9 (by decide) (dq_h37 m _ _ _ e9 d9)
end

end
section
set_option maxHeartbeats 1600000
/-! a function begins -/
theorem hf_f5 {σ : rS} {f : Nat} {x : Int32} : ∃ (σ' : rS) (r6 r7 : Nat → Int32), σ' = riU (riU (riU (siU σ 41 x) 27 f 0) 26 f 0) 29 f (-1) ∧ gS5 σ' = (σ.1 15, σ.2.2.1 20, σ.1 16, σ.2.2.1 22, σ.1 18, σ.2.2.1 25, r6, r7, σ.2.2.1 28, x, σ.1 19, σ.2.2.1 30, σ.2.2.1 32, σ.1 42, σ.2.2.1 43, σ.2.2.1 45) ∧ (∀ k, r6 k = if k = f then 0 else σ.2.2.1 26 k) ∧ (∀ k, r7 k = if k = f then 0 else σ.2.2.1 27 k) ∧ sx5 σ' = sx5 σ ∧ (σ'.1 2 = σ.1 2 ∧ σ'.1 10 = σ.1 10 ∧ σ'.1 11 = σ.1 11 ∧ σ'.1 46 = σ.1 46 ∧ σ'.1 47 = σ.1 47 ∧ σ'.1 13 = σ.1 13) := by
  refine ⟨_, _, _, rfl, rfl, fun k => ?_, fun k => ?_, rfl, rfl, rfl, rfl, rfl, rfl, rfl⟩
  · show (riU (riU (riU (siU σ 41 x) 27 f 0) 26 f 0) 29 f (-1)).2.2.1 26 k = _
    have h1 : (riU (siU σ 41 x) 27 f 0).2.2.1 26 k = σ.2.2.1 26 k := by rw [ri34, if_neg (by decide)]; rfl
    rw [ri34, if_neg (by decide), ri34, if_pos rfl, h1]
  · show (riU (riU (riU (siU σ 41 x) 27 f 0) 26 f 0) 29 f (-1)).2.2.1 27 k = _
    have h1 : (siU σ 41 x).2.2.1 27 k = σ.2.2.1 27 k := rfl
    rw [ri34, if_neg (by decide), ri34, if_neg (by decide), ri34, if_pos rfl, h1]
section
variable {T : T5} {X : X5} {Bk N : Nat} {Z : Int32} {a l : Nat} {e : E5} {σ : rS}
/-- between items -/
def oI5 (T : T5) (X : X5) (Bk N : Nat) (Z : Int32) (a s : Nat) (e : E5) (σ : rS) : Prop := LR5 T X Bk N Z (gE5 e) (gS5 σ) a 0 e σ ∧ nG5 T Bk N (gE5 e) (gS5 σ) ∧ e.1 paOwns = 0 ∧ e.1 paInside = 0 ∧ e.1 paBlocks = 0 ∧ SS5 T X Bk N s s (gE5 e) (gS5 σ)
theorem dq_head {p : Int32} {e : E5} (d : dk5 p e) : dq5 p (f5_Pa_functionHead e) := by
  unfold f5_Pa_functionHead
  exact dq_x5 (dx_newName d)
theorem sr_func {β : Type} {Q' : E5 → β → rS → Prop} {kc : E5 → Unit → R5 β} {s : Nat} (H : TR5 T X Bk N Z) (h : oI5 T X Bk N Z a s e σ) (hk : e.1 paKind = 152) (hd : ∀ p e, dk5 p e → dq5 p (kc e ())) (hK : ∀ e' σ' a' f t tok, e'.1 paKind ≠ 143 → a < a' → LR5 T X Bk N Z (gE5 e') (gS5 σ') a' 1 e' σ' → HI5 T Bk N f t 1 s (gE5 e') (gS5 σ') → SS5 T X Bk N s s (gE5 e') (gS5 σ') → tok = Int32.ofNat (Bk + t) → sr5 Q' (kc e' ()) (tlF5 fu5 tok σ')) : sr5 Q' (rdB5 (f5_Pa_item_35 152 e) kc) (g5_tellFunc σ) := by
  obtain ⟨L, G, hO, hi, hb, hS⟩ := h
  unfold f5_Pa_item_35 g5_tellFunc
  dsimp only [pb5, pm5]
  rw [rdB_a5]
  refine sr_b5 (sr_take H L (by rw [hk]; decide)) (fun e1 _ n1 Q1 => ?_) (by repeat' first | with_reducible exact kq_rf | dsimp only | with_reducible refine kq_go ?_ | with_reducible refine kq_sign ?_ | with_reducible refine kq_open ?_ | with_reducible refine kq_close ?_ | with_reducible refine kq_flaw ?_ | with_reducible refine kq_look ?_ | with_reducible refine kq_due ?_ | with_reducible refine kq_fresh ?_ | with_reducible refine kq_expression ?_ | with_reducible refine kq_openBlock ?_ | with_reducible refine kq_newStatement ?_ | with_reducible refine kq_turn ?_ | with_reducible refine kq_tellVar_87 ?_ | with_reducible refine kq_tellVar_82 ?_ | with_reducible refine kq_tellVar_53 ?_ | with_reducible refine kq_tellArr_56 ?_ | with_reducible refine kq_arguments ?_ | with_reducible refine kq_arguments_77 ?_ | with_reducible refine kq_tellDraw ?_ | with_reducible refine kq_tellDraw_18 ?_ | with_reducible refine kq_tellDraw_55 ?_ | with_reducible refine kq_tellDraw_172 ?_ | with_reducible refine kq_tellNamed_295 ?_ | with_reducible refine kq_tellNamed_244 ?_ | with_reducible refine kq_tellNamed_175 ?_ | with_reducible refine kq_tellNamed_133 ?_ | with_reducible refine kq_tellNamed_109 ?_ | with_reducible refine kq_tellNamed_90 ?_ | with_reducible refine kq_tellFunc_218 ?_ | with_reducible refine kq_tellFunc_74 ?_ | with_reducible refine kq_tellFunc_34 ?_ | with_reducible refine kq_tellStatements ?_ | with_reducible refine kq_tellStatement ?_ | with_reducible refine kq_endBlock ?_ | with_reducible refine kq_arguments_28 _ _ _ ?_ | with_reducible refine kq_tellDraw_77 _ _ _ _ ?_ | with_reducible refine kq_tellStatements_11 _ _ ?_ | with_reducible refine kq_tellFunc_102 _ _ _ _ ?_ | with_reducible refine kq_expression_12 _ _ _ ?_ | with_reducible refine kq_si (by decide) (by decide) ?_ | with_reducible refine kq_ri ?_ | with_reducible refine kq_if ?_ ?_ | with_reducible refine kq_ifp ?_ ?_) (fun p e1 _ d => ?_)
  · obtain ⟨L1, _, _⟩ := Q1
    rw [if_neg (by decide), if_neg (by decide), rb_u5]
    unfold f5_Pa_functionHead
    rw [rdB_a5]
    generalize g5_go σ = σ1 at L1 ⊢
    obtain ⟨v, p1, _⟩ := G.2.2.1
    have v10 := p1.1
    have z1 : e1.1 coFunctions = Int32.ofNat v := by
      have z : e1.1 512 = e.1 512 := congrArg (fun V : V5 => V.2.2.2.2.1) L1.2.1.1
      exact z.trans p1.2.1
    have z2 : σ1.1 18 = Int32.ofNat v := by
      have z : σ1.1 18 = σ.1 18 := congrArg (fun W : W5 => W.2.2.2.2.1) L1.2.1.2
      exact z.trans p1.2.2.1
    rw [z1, z2]
    refine sr_b5 (sr_new H L1 G (Or.inl ⟨rfl, hO⟩)) (fun e2 r n2 Q2 => ?_) (by repeat' first | with_reducible exact kq_rf | dsimp only | with_reducible refine kq_go ?_ | with_reducible refine kq_sign ?_ | with_reducible refine kq_open ?_ | with_reducible refine kq_close ?_ | with_reducible refine kq_flaw ?_ | with_reducible refine kq_look ?_ | with_reducible refine kq_due ?_ | with_reducible refine kq_fresh ?_ | with_reducible refine kq_expression ?_ | with_reducible refine kq_openBlock ?_ | with_reducible refine kq_newStatement ?_ | with_reducible refine kq_turn ?_ | with_reducible refine kq_tellVar_87 ?_ | with_reducible refine kq_tellVar_82 ?_ | with_reducible refine kq_tellVar_53 ?_ | with_reducible refine kq_tellArr_56 ?_ | with_reducible refine kq_arguments ?_ | with_reducible refine kq_arguments_77 ?_ | with_reducible refine kq_tellDraw ?_ | with_reducible refine kq_tellDraw_18 ?_ | with_reducible refine kq_tellDraw_55 ?_ | with_reducible refine kq_tellDraw_172 ?_ | with_reducible refine kq_tellNamed_295 ?_ | with_reducible refine kq_tellNamed_244 ?_ | with_reducible refine kq_tellNamed_175 ?_ | with_reducible refine kq_tellNamed_133 ?_ | with_reducible refine kq_tellNamed_109 ?_ | with_reducible refine kq_tellNamed_90 ?_ | with_reducible refine kq_tellFunc_218 ?_ | with_reducible refine kq_tellFunc_74 ?_ | with_reducible refine kq_tellFunc_34 ?_ | with_reducible refine kq_tellStatements ?_ | with_reducible refine kq_tellStatement ?_ | with_reducible refine kq_endBlock ?_ | with_reducible refine kq_arguments_28 _ _ _ ?_ | with_reducible refine kq_tellDraw_77 _ _ _ _ ?_ | with_reducible refine kq_tellStatements_11 _ _ ?_ | with_reducible refine kq_tellFunc_102 _ _ _ _ ?_ | with_reducible refine kq_expression_12 _ _ _ ?_ | with_reducible refine kq_si (by decide) (by decide) ?_ | with_reducible refine kq_ri ?_ | with_reducible refine kq_if ?_ ?_ | with_reducible refine kq_ifp ?_ ?_) (fun p e2 r d => ?_)
    · obtain ⟨L2, rfl, kt, htok, mm⟩ := Q2
      have ht := L1.2.2.1.1
      have hv10 : v < 10 := lt_n5 (m := 10) rfl (by omega) (by decide) mm
      generalize (g5_fresh 0 (Int32.ofNat v) 10 σ1).2 = tok at htok ⊢
      generalize (g5_fresh 0 (Int32.ofNat v) 10 σ1).1 = σ2 at L2 ⊢
      have z3 : σ2.1 18 = Int32.ofNat v := by
        have z : σ2.1 18 = σ.1 18 := congrArg (fun W : W5 => W.2.2.2.2.1) L2.2.1.2
        exact z.trans p1.2.2.1
      rw [rdB_a5, z3, if_neg (show ¬ (10 : Int32) ≤ Int32.ofNat v from fun q => absurd ((lti_n5 (m := 10) rfl (by omega) (by decide)).mp q) (by omega))]
      unfold g5_tellFunc_34
      dsimp only [pb5]
      have ir : g5_isRight (siU σ2 41 (Int32.ofNat v)) = 1 := if_pos (show (siU σ2 41 (Int32.ofNat v)).1 11 = 0 from L2.2.2.2.1.1)
      rw [ir, if_neg ne105]
      obtain ⟨σ3, r6, r7, u1, u2, u3, u4, u5, u6⟩ := hf_f5 (σ := σ2) (f := v) (x := Int32.ofNat v)
      have cv : ((siU σ2 41 (Int32.ofNat v)).1 41).toNatClampNeg = v := by
        show (Int32.ofNat v).toNatClampNeg = v
        exact cl_5 (by omega)
      show sr5 Q' _ (g5_tellFunc_74 tok (riU (riU (riU (siU σ2 41 (Int32.ofNat v)) 27 ((siU σ2 41 (Int32.ofNat v)).1 41).toNatClampNeg 0) 26 ((siU σ2 41 (Int32.ofNat v)).1 41).toNatClampNeg 0) 29 ((siU σ2 41 (Int32.ofNat v)).1 41).toNatClampNeg (-1)))
      rw [cv, ← u1]
      have hE : gE5 e2 = gE5 e := L2.2.1.1
      have hW : gS5 σ2 = gS5 σ := L2.2.1.2
      have L3 : LR5 T X Bk N Z (gE5 e2) (gS5 σ3) (a + 1 + 1) 0 e2 σ3 := lr_V5 L2 rfl ⟨rfl, rfl, rfl⟩ u5 u6
      rw [← hE, ← hW] at G
      rw [← hE, ← hW] at hS
      have lf : ∀ v' k : Nat, e2.1 512 = Int32.ofNat v' → v' ≤ 10 → k < v' → k ≠ v := fun v' k hv hv2 hk => by
        have z : e2.1 512 = e.1 512 := congrArg (fun V : V5 => V.2.2.2.2.1) hE
        have y := congrArg Int32.toInt (hv.symm.trans (z.trans p1.2.1))
        rw [ofn_i (by omega), ofn_i (by omega)] at y
        omega
      have G3 : nG5 T Bk N (gE5 e2) (gS5 σ3) := by
        refine nG_k5 G rfl rfl rfl rfl rfl (fun _ _ _ _ _ => rfl) (fun _ _ _ _ _ => rfl) rfl (by rw [u2]; rfl) (by rw [u2]; rfl) (by rw [u2]; rfl) (by rw [u2]; rfl) (by rw [u2]; rfl) (by rw [u2]; rfl) (fun v' k h1 h2 h3 => ?_)
        rw [u2]
        show r6 k = σ2.2.2.1 26 k
        rw [u3, if_neg (lf v' k h1 h2 h3)]
      have hS3 : SS5 T X Bk N s s (gE5 e2) (gS5 σ3) := SS_k5 hS rfl rfl (by rw [u2]; rfl) (by rw [u2]; rfl) (by rw [u2]; rfl)
      have O3 : fO5 T Bk N v 0 (gE5 e2) (gS5 σ3) := by
        refine ⟨hv10, by rw [u2], ?_, by decide, ?_, ?_, fun k hk => absurd hk (by omega)⟩
        · have z : e2.1 512 = e.1 512 := congrArg (fun V : V5 => V.2.2.2.2.1) hE
          exact z.trans p1.2.1
        · have z : e2.1 1010 = e.1 1010 := congrArg (fun V : V5 => vow5 V) hE
          exact z.trans hO
        · rw [u2]
          show r7 v = 0
          rw [u4, if_pos rfl]
      have i26 : σ3.2.2.1 26 v = Int32.ofNat 0 := by
        have z : σ3.2.2.1 26 = r6 := congrArg (fun W : W5 => w26_5 W) u2
        rw [z, u3, if_pos rfl]
        rfl
      unfold g5_tellFunc_74
      dsimp only [pb5]
      refine sr_b5 (sr_open H L3 (by decide) (by decide)) (fun e3 _ n3 Q3 => ?_) (by repeat' first | with_reducible exact kq_rf | dsimp only | with_reducible refine kq_go ?_ | with_reducible refine kq_sign ?_ | with_reducible refine kq_open ?_ | with_reducible refine kq_close ?_ | with_reducible refine kq_flaw ?_ | with_reducible refine kq_look ?_ | with_reducible refine kq_due ?_ | with_reducible refine kq_fresh ?_ | with_reducible refine kq_expression ?_ | with_reducible refine kq_openBlock ?_ | with_reducible refine kq_newStatement ?_ | with_reducible refine kq_turn ?_ | with_reducible refine kq_tellVar_87 ?_ | with_reducible refine kq_tellVar_82 ?_ | with_reducible refine kq_tellVar_53 ?_ | with_reducible refine kq_tellArr_56 ?_ | with_reducible refine kq_arguments ?_ | with_reducible refine kq_arguments_77 ?_ | with_reducible refine kq_tellDraw ?_ | with_reducible refine kq_tellDraw_18 ?_ | with_reducible refine kq_tellDraw_55 ?_ | with_reducible refine kq_tellDraw_172 ?_ | with_reducible refine kq_tellNamed_295 ?_ | with_reducible refine kq_tellNamed_244 ?_ | with_reducible refine kq_tellNamed_175 ?_ | with_reducible refine kq_tellNamed_133 ?_ | with_reducible refine kq_tellNamed_109 ?_ | with_reducible refine kq_tellNamed_90 ?_ | with_reducible refine kq_tellFunc_218 ?_ | with_reducible refine kq_tellFunc_74 ?_ | with_reducible refine kq_tellFunc_34 ?_ | with_reducible refine kq_tellStatements ?_ | with_reducible refine kq_tellStatement ?_ | with_reducible refine kq_endBlock ?_ | with_reducible refine kq_arguments_28 _ _ _ ?_ | with_reducible refine kq_tellDraw_77 _ _ _ _ ?_ | with_reducible refine kq_tellStatements_11 _ _ ?_ | with_reducible refine kq_tellFunc_102 _ _ _ _ ?_ | with_reducible refine kq_expression_12 _ _ _ ?_ | with_reducible refine kq_si (by decide) (by decide) ?_ | with_reducible refine kq_ri ?_ | with_reducible refine kq_if ?_ ?_ | with_reducible refine kq_ifp ?_ ?_) (fun p e3 _ d => ?_)
      · obtain ⟨L4, _, _⟩ := Q3
        generalize g5_open 40 σ3 = σ4 at L4 ⊢
        have hN : hN5 T X Bk N Z (a + 1 + 1 + 1) v 0 s e3 σ4 := by
          have hV4 := L4.2.1.1
          have hW4 := L4.2.1.2
          refine ⟨by rw [hV4, hW4]; exact L4, by rw [hV4, hW4]; exact G3, by rw [hV4, hW4]; exact O3, ?_, ?_, ?_, by rw [hV4, hW4]; exact hS3⟩
          · have z : σ4.2.2.1 26 = σ3.2.2.1 26 := congrArg (fun W : W5 => w26_5 W) hW4
            rw [z]; exact i26
          · have z : e3.1 1005 = e.1 1005 := congrArg (fun V : V5 => vin5 V) (hV4.trans hE)
            exact z.trans hi
          · have z : e3.1 1014 = e.1 1014 := congrArg (fun V : V5 => vbl5 V) (hV4.trans hE)
            exact z.trans hb
        rw [lr_ir5 L4, if_neg ne105, lr_at5 H L4 (by decide) (by decide)]
        unfold f5_Pa_functionHead_34
        have go : ∀ mo : Int32, mo = 0 ∨ mo = 1 → sr5 Q' (rdB5 (f5_Pa_functionHead_37 fu5 (Int32.ofNat (a + 1)) mo 0 e3) kc) (g5_tellFunc_102 fu5 tok mo σ4) := fun mo hmo =>
          sr_h37 (a := a) (f := v) (s := s) H ht kt hd (fun e' σ' a' q1 q2 q3 q4 q5 => hK e' σ' a' v (a + 1) tok q1 (by omega) q3 q4 q5 htok) fu5 fu5 0 (a + 1 + 1 + 1) mo e3 σ4 hN (by omega) (by omega) (by unfold fu5; omega) hmo
        by_cases c : e3.1 paKind = 41
        · rw [if_pos c, if_pos c, if_neg ne105]
          exact go 0 (Or.inl rfl)
        · rw [if_neg c, if_neg c, if_pos rfl]
          exact go 1 (Or.inr rfl)
      · unfold f5_Pa_functionHead_34
        exact dq_b5 (dq_n5 d (by decide) (dq_h37 _ _ _ _ _ d)) (fun e9 _ d9 => hd p e9 d9)
    · exact dq_b5 (dq_x5 (dx_open d (by decide))) (fun e9 _ d9 => hd p e9 d9)
  · rw [if_neg (by decide), if_neg (by decide), rb_u5]
    exact dq_b5 (dq_head d) (fun e9 _ d9 => hd p e9 d9)
end

end
section
set_option maxHeartbeats 1600000
/-! a statement begins -/
/-- nothing but columns from 6 on, firsts and lasts -/
def rK5 (e e' : E5) : Prop := e'.1 = e.1 ∧ e'.2.2 = e.2.2 ∧ (∀ g, g ≠ 506 → g ≠ 503 → g ≠ 1012 → e'.2.1 g = e.2.1 g) ∧ ∀ j c, (c = 0 ∨ c = 1 ∨ c = 4 ∨ c = 5) → e'.2.1 506 (11 * j + c) = e.2.1 506 (11 * j + c)
theorem rK_r5 {e : E5} : rK5 e e := ⟨rfl, rfl, fun _ _ _ _ => rfl, fun _ _ _ => rfl⟩
theorem rK_t5 {e f g : E5} (h : rK5 e f) (k : rK5 f g) : rK5 e g := ⟨k.1.trans h.1, k.2.1.trans h.2.1, fun j a b c => (k.2.2.1 j a b c).trans (h.2.2.1 j a b c), fun j c hc => (k.2.2.2 j c hc).trans (h.2.2.2 j c hc)⟩
theorem rK_sa5 {e : E5} {f i : Nat} {x : Int32} (hf : f = 503 ∨ f = 1012) : ∃ e', sa5 f i x e = .inl (e', ()) ∧ rK5 e e' := by
  refine ⟨_, rfl, rfl, rfl, fun g a b c => funext fun j => if_neg (fun q => ?_), fun j c hc => if_neg (fun q => ?_)⟩
  · rcases hf with h | h
    · exact b (q.1.trans h)
    · exact c (q.1.trans h)
  · rcases hf with h | h <;> rw [h] at q <;> exact absurd q.1 (by decide)
theorem ix11_5 {s : Int32} {n c : Nat} (h0 : 0 ≤ s.toInt) (h1 : s.toInt ≤ 1000) (hc : c ≤ 10) : (s * 11 + Int32.ofNat c).toNatClampNeg = 11 * s.toInt.toNat + c := by
  have l11 : (11 : Int32).toInt = 11 := rfl
  have lc := ofn_i (n := c) (by omega)
  have m1 : (s * 11).toInt = s.toInt * 11 := by rw [mul_i (by rw [l11]; omega) (by rw [l11]; omega), l11]
  rw [nc_5, add_i (by omega) (by omega), m1, lc]
  omega
theorem rK_st5 {e : E5} {s x : Int32} {c st : Nat} (hs : e.1 coStatements = Int32.ofNat st) (hst : st ≤ 1000) (hc : 6 ≤ c) (hc2 : c ≤ 10) : rK5 e (stc5 s (Int32.ofNat c) x e) := by
  obtain ⟨p1, p2, p3⟩ := stc_15 (s := s) (c := Int32.ofNat c) (x := x) (e := e)
  refine ⟨p1, p2, fun g a _ _ => p3 g a, fun j d hd => ?_⟩
  unfold stc5
  by_cases h : s < 0
  · rw [if_pos h]
  · rw [if_neg h]
    by_cases k : e.1 coStatements ≤ s
    · rw [if_pos k]
    · rw [if_neg k]
      rw [lti, t0i] at h
      rw [hs, lei, ofn_i (by omega)] at k
      refine if_neg (fun q => ?_)
      have z := q.2
      rw [ix11_5 (n := 0) (by omega) (by omega) hc2] at z
      omega
theorem rK_V5 {e e' : E5} (h : rK5 e e') : gE5 e' = vr5 (gE5 e) (e'.2.1 506) ∧ tq5 e' = tq5 e := by
  obtain ⟨h1, h2, h3, h4⟩ := h
  constructor
  · unfold gE5 vr5
    rw [h1, h2, h3 1006 (by decide) (by decide) (by decide), h3 1007 (by decide) (by decide) (by decide), h3 1008 (by decide) (by decide) (by decide), h3 504 (by decide) (by decide) (by decide), h3 1009 (by decide) (by decide) (by decide), h3 1011 (by decide) (by decide) (by decide), h3 1013 (by decide) (by decide) (by decide)]
  · unfold tq5
    rw [h1, h2, h3 taBytes (by decide) (by decide) (by decide), h3 taKinds (by decide) (by decide) (by decide), h3 taPlaces (by decide) (by decide) (by decide), h3 taLengths (by decide) (by decide) (by decide)]
/-- the class's rows of a new statement -/
theorem aS_107 {e : E5} {s1 s0 : Int32} {st : Nat} (hs : e.1 coStatements = Int32.ofNat st) (hst : st ≤ 1000) : ∃ e', f5_Pa_addStatement_107 s1 s0 e = .inl (e', s1) ∧ rK5 e e' := by
  have k205 : ∀ (e1 : E5) (y z : Int32), rK5 e e1 → ∃ e', f5_Pa_addStatement_205 s1 y z e1 = .inl (e', s1) ∧ rK5 e e' := fun e1 y z h => by
    unfold f5_Pa_addStatement_205
    obtain ⟨e2, a1, a2⟩ := rK_sa5 (e := e1) (f := 1012) (i := y.toNatClampNeg) (x := s1) (Or.inr rfl)
    have s2 : e2.1 coStatements = Int32.ofNat st := by rw [a2.1, h.1]; exact hs
    have b1 := rK_st5 (s := s1) (x := z) (c := 9) s2 hst (by decide) (by decide)
    have s3 : (stc5 s1 (Int32.ofNat 9) z e2).1 coStatements = Int32.ofNat st := by rw [b1.1]; exact s2
    have b2 := rK_st5 (s := s1) (x := (stc5 s1 (Int32.ofNat 9) z e2).1 coFunctions) (c := 10) s3 hst (by decide) (by decide)
    refine ⟨_, ?_, rK_t5 h (rK_t5 a2 (rK_t5 b1 b2))⟩
    show rdB5 (sa5 1012 _ s1 e1) _ = _
    rw [a1, rdl_5, stc_5, rdl_5, stc_5, rdl_5]
    rfl
  have k170 : ∀ (y z w c : Int32) (c' : Nat), c = Int32.ofNat c' → 6 ≤ c' → c' ≤ 10 → ∃ e', f5_Pa_addStatement_170 s1 y z w c e = .inl (e', s1) ∧ rK5 e e' := fun y z w c c' hc h6 h10 => by
    unfold f5_Pa_addStatement_170
    rw [stc_5, rdl_5, hc]
    exact k205 _ y z (rK_st5 hs hst h6 h10)
  unfold f5_Pa_addStatement_107
  dsimp only [pb5]
  by_cases c1 : e.2.1 paLasts s0.toNatClampNeg = -1
  · rw [if_pos c1]
    by_cases c2 : e.2.1 paOwners s0.toNatClampNeg = -1
    · rw [if_pos c2]
      by_cases c3 : (10 : Int32) ≤ e.1 coFunctions
      · rw [if_pos c3]; exact k205 e _ _ rK_r5
      · rw [if_neg c3]
        obtain ⟨e2, a1, a2⟩ := rK_sa5 (e := e) (f := 503) (i := (e.1 coFunctions).toNatClampNeg) (x := s1) (Or.inl rfl)
        show ∃ e', rdB5 (sa5 503 _ s1 e) _ = _ ∧ _
        rw [a1, rdl_5]
        exact k205 e2 _ _ a2
    · rw [if_neg c2]
      by_cases c3 : e.2.1 paElses s0.toNatClampNeg = 0
      · rw [if_pos c3]; exact k170 _ _ _ 6 6 rfl (by decide) (by decide)
      · rw [if_neg c3]; exact k170 _ _ _ 7 7 rfl (by decide) (by decide)
  · rw [if_neg c1, stc_5, rdl_5]
    exact k205 _ _ _ (rK_st5 (c := 8) hs hst (by decide) (by decide))
/-- the reference's -/
theorem nS_f5 {σ : rS} {k : Int32} {s : Nat} (h0 : σ.1 11 = 0) (hs : σ.1 19 = Int32.ofNat s) (hs2 : s < 150) : ∃ (σ' : rS) (r30 r32 : Nat → Int32), g5_newStatement_51 k (Int32.ofNat s) σ = (σ', Int32.ofNat s) ∧ gS5 σ' = (σ.1 15, σ.2.2.1 20, σ.1 16, σ.2.2.1 22, σ.1 18, σ.2.2.1 25, σ.2.2.1 26, σ.2.2.1 27, σ.2.2.1 28, σ.1 41, Int32.ofNat (s + 1), r30, r32, σ.1 42, σ.2.2.1 43, σ.2.2.1 45) ∧ (∀ j, r30 j = if j = s then k else σ.2.2.1 30 j) ∧ (∀ j, r32 j = if j = s then -1 else σ.2.2.1 32 j) ∧ sx5 σ' = sx5 σ ∧ (σ'.1 2 = σ.1 2 ∧ σ'.1 10 = σ.1 10 ∧ σ'.1 11 = σ.1 11 ∧ σ'.1 46 = σ.1 46 ∧ σ'.1 47 = σ.1 47 ∧ σ'.1 13 = σ.1 13) := by
  have cs : (Int32.ofNat s).toNatClampNeg = s := cl_5 (by omega)
  have a30 : ∀ j, (riU (siU σ 19 (Int32.ofNat (s + 1))) 30 s k).2.2.1 30 j = if j = s then k else σ.2.2.1 30 j := fun j => by rw [ri34, if_pos rfl]; rfl
  have a32 : ∀ (τ : rS) j, τ.2.2.1 32 = σ.2.2.1 32 → (riU τ 32 s (-1)).2.2.1 32 j = if j = s then -1 else σ.2.2.1 32 j := fun τ j h => by rw [ri34, if_pos rfl, h]
  have ir : g5_isRight σ = 1 := if_pos h0
  unfold g5_newStatement_51 g5_newStatement_221
  dsimp only [pb5]
  rw [ir, if_neg ne105, hs, on_15 (by omega), cs]
  generalize hA : riU (riU (riU (riU (siU σ 19 (Int32.ofNat (s + 1))) 30 s k) 38 s ((riU (siU σ 19 (Int32.ofNat (s + 1))) 30 s k).1 41)) 31 s ((riU (riU (siU σ 19 (Int32.ofNat (s + 1))) 30 s k) 38 s ((riU (siU σ 19 (Int32.ofNat (s + 1))) 30 s k).1 41)).1 10)) 32 s (-1) = τ
  have t1 : gS5 τ = (σ.1 15, σ.2.2.1 20, σ.1 16, σ.2.2.1 22, σ.1 18, σ.2.2.1 25, σ.2.2.1 26, σ.2.2.1 27, σ.2.2.1 28, σ.1 41, Int32.ofNat (s + 1), τ.2.2.1 30, τ.2.2.1 32, σ.1 42, σ.2.2.1 43, σ.2.2.1 45) := by rw [← hA]; rfl
  have t2 : ∀ j, τ.2.2.1 30 j = if j = s then k else σ.2.2.1 30 j := by rw [← hA]; exact a30
  have t3 : ∀ j, τ.2.2.1 32 j = if j = s then -1 else σ.2.2.1 32 j := by rw [← hA]; exact fun j => a32 _ j rfl
  have t4 : sx5 τ = sx5 σ := by rw [← hA]; rfl
  have t5 : τ.1 2 = σ.1 2 ∧ τ.1 10 = σ.1 10 ∧ τ.1 11 = σ.1 11 ∧ τ.1 46 = σ.1 46 ∧ τ.1 47 = σ.1 47 ∧ τ.1 13 = σ.1 13 := by rw [← hA]; exact ⟨rfl, rfl, rfl, rfl, rfl, rfl⟩
  have fin : ∀ τ' : rS, gS5 τ' = gS5 τ → sx5 τ' = sx5 τ → τ'.1 = τ.1 → ∃ (σ' : rS) (r30 r32 : Nat → Int32), ((τ', Int32.ofNat s) : rS × Int32) = (σ', Int32.ofNat s) ∧ gS5 σ' = (σ.1 15, σ.2.2.1 20, σ.1 16, σ.2.2.1 22, σ.1 18, σ.2.2.1 25, σ.2.2.1 26, σ.2.2.1 27, σ.2.2.1 28, σ.1 41, Int32.ofNat (s + 1), r30, r32, σ.1 42, σ.2.2.1 43, σ.2.2.1 45) ∧ (∀ j, r30 j = if j = s then k else σ.2.2.1 30 j) ∧ (∀ j, r32 j = if j = s then -1 else σ.2.2.1 32 j) ∧ sx5 σ' = sx5 σ ∧ (σ'.1 2 = σ.1 2 ∧ σ'.1 10 = σ.1 10 ∧ σ'.1 11 = σ.1 11 ∧ σ'.1 46 = σ.1 46 ∧ σ'.1 47 = σ.1 47 ∧ σ'.1 13 = σ.1 13) := fun τ' b1 b2 b3 => ⟨τ', τ.2.2.1 30, τ.2.2.1 32, rfl, b1.trans t1, t2, t3, b2.trans t4, by rw [b3]; exact t5⟩
  repeat' split
  all_goals exact fin _ rfl rfl rfl

end
section
set_option maxHeartbeats 1600000
/-! a statement begins, side by side -/
theorem bK_s5 {b s s' : Nat} {V : V5} {W : W5} (h : bK5 b s V W) (hs : s ≤ s') : bK5 b s' V W := by
  obtain ⟨h1, h2, h3⟩ := h
  refine ⟨h1, h2, fun j hj => ?_⟩
  obtain ⟨a1, a2, a3, a4⟩ := h3 j hj
  refine ⟨a1, a2, a3, fun w => ?_⟩
  obtain ⟨o, o1, o2⟩ := a4 w
  exact ⟨o, by omega, o2⟩
theorem HI_s5 {T : T5} {Bk N f t b s s' : Nat} {V : V5} {W : W5} (h : HI5 T Bk N f t b s V W) (hs : s ≤ s') : HI5 T Bk N f t b s' V W := ⟨h.1, h.2.1, h.2.2.1, h.2.2.2.1, h.2.2.2.2.1, bK_s5 h.2.2.2.2.2.1 hs, h.2.2.2.2.2.2⟩
theorem HI_O5 {T : T5} {Bk N f t b s : Nat} {V : V5} {W : W5} (h : HI5 T Bk N f t b s V W) : nO5 T Bk N V W := by
  obtain ⟨w, hw⟩ := h.2.1
  exact fO_n5 hw
def iS5 (T : T5) (X : X5) (Bk N : Nat) (Z : Int32) (a b f t q s : Nat) (e : E5) (σ : rS) : Prop := LR5 T X Bk N Z (gE5 e) (gS5 σ) a b e σ ∧ HI5 T Bk N f t b s (gE5 e) (gS5 σ) ∧ SS5 T X Bk N q s (gE5 e) (gS5 σ)
theorem sS_k5 {T : T5} {X : X5} {Bk N j : Nat} {R R' r30 r30' r32 r32' : Nat → Int32} (h : sS5 T X Bk N R r30 r32 j) (h0 : R' (11 * j) = R (11 * j)) (h4 : R' (11 * j + 4) = R (11 * j + 4)) (h5 : R' (11 * j + 5) = R (11 * j + 5)) (k0 : r30' j = r30 j) (k2 : r32' j = r32 j) : sS5 T X Bk N R' r30' r32' j := by
  unfold sS5 at h ⊢
  rw [h0, h4, h5, k0, k2]
  exact h
section
variable {T : T5} {X : X5} {Bk N : Nat} {Z : Int32} {a b f t s : Nat} {e : E5} {σ : rS}
theorem sr_addS {k : Int32} (H : TR5 T X Bk N Z) (h : iS5 T X Bk N Z a b f t s s e σ) (h142 : e.1 paKind ≠ 142) : sr5 (fun e' r σ' => r = Int32.ofNat s ∧ (g5_newStatement k σ).2 = Int32.ofNat s ∧ s < 150 ∧ iS5 T X Bk N Z a b f t s (s + 1) e' σ' ∧ (e'.2.1 506 (11 * s + 1) = 0 ∧ e'.2.1 506 (11 * s + 4) = 0) ∧ σ'.2.2.1 30 s = k ∧ e'.1 paKind = e.1 paKind) (f5_Pa_addStatement_59 e) (g5_newStatement k σ).1 := by
  obtain ⟨L, HI, s150, st, sw, sS⟩ := h
  have kd := kd_o5 (lr_kd5 H L)
  have e13 : e.1 coStatements = Int32.ofNat s := st
  have s19 : σ.1 19 = Int32.ofNat s := sw
  have ls := ofn_i (n := s) (by omega)
  have l150 : (150 : Int32).toInt = 150 := rfl
  unfold f5_Pa_addStatement_59 g5_newStatement
  dsimp only [pb5]
  rw [(lr_so5 H L).1, if_neg (fun q => h142 (kd.2.2.2.mp q)), e13, s19]
  by_cases c : s = 150
  · rw [if_neg (show ¬ Int32.ofNat s < 150 by rw [lti, ls, l150]; omega), if_pos (show Int32.ofNat s = 150 by rw [c]; rfl), lr_rva5 H L]
    exact sr_q5 (by decide) (lr_fl5 H L).1 (lr_fl5 H L).2 (kq_newStatement_33 kq_rf)
  · have n150 : ¬ Int32.ofNat s = 150 := fun q => by
      have y := congrArg Int32.toInt q
      rw [ls, l150] at y
      omega
    rw [if_pos (show Int32.ofNat s < 150 by rw [lti, ls, l150]; omega), if_neg n150]
    unfold g5_newStatement_33
    rw [s19, if_neg (show ¬ (150 : Int32) ≤ Int32.ofNat s by rw [lei, ls, l150]; omega)]
    obtain ⟨σ', r30, r32, u1, u2, u3, u4, u5, u6⟩ := nS_f5 (k := k) L.2.2.2.1.1 s19 (by omega)
    rw [u1]
    unfold f5_Pa_addStatement_82
    have hb : e.1 paBlocks = Int32.ofNat b := HI.2.2.2.2.2.1.1
    have b0 := HI.2.2.2.2.2.2
    have b40 : b ≤ 40 := by have := L.2.2.2.2.2; omega
    have lb := ofn_i (n := b) (by omega)
    have cs : (e.1 513).toNatClampNeg = s := by rw [show e.1 513 = Int32.ofNat s from e13, cl_5 (by omega)]
    obtain ⟨e1, v1, v2, v3, v4, v5, v6⟩ : ∃ e1 : E5, f5_Co_addStatement e = .inl (e1, e.1 513) ∧ (gE5 e1 = (e.1 509, e.2.1 1006, e.1 510, e.2.1 1007, e.1 512, e.2.1 1008, e.2.1 504, e.1 1010, e.2.1 1009, e.1 513 + 1, e1.2.1 506, e.1 1014, e.2.1 1011, e.2.1 1013, e.1 1005, e.2.2)) ∧ (∀ j, e1.2.1 506 j = if 506 = 506 ∧ 11 * s ≤ j ∧ j < 11 * s + 11 then nr5 (e.1 515) (j - 11 * s) else e.2.1 506 j) ∧ tq5 e1 = tq5 e ∧ (e1.1 paAt = e.1 paAt ∧ e1.1 paKind = e.1 paKind ∧ e1.1 paOpen = e.1 paOpen) ∧ e1.1 1014 = e.1 1014 := by
      refine ⟨_, rfl, rfl, fun j => ?_, rfl, ⟨rfl, rfl, rfl⟩, rfl⟩
      rw [← cs]
    have e1s : e1.1 coStatements = Int32.ofNat (s + 1) := by
      have z : e1.1 513 = e.1 513 + 1 := congrArg (fun V : V5 => vst5 V) v2
      show e1.1 513 = _
      rw [z, show e.1 513 = Int32.ofNat s from e13, on_15 (by omega)]
    rw [v1, rdl_5, if_neg (show ¬ e1.1 paBlocks ≤ 0 by
      show ¬ e1.1 1014 ≤ 0
      rw [v6, show e.1 1014 = Int32.ofNat b from hb, lei, lb, t0i]; omega), show e.1 513 = Int32.ofNat s from e13]
    obtain ⟨e2, w1, w2⟩ := aS_107 (s1 := Int32.ofNat s) (s0 := e1.1 paBlocks - 1) e1s (by omega)
    rw [w1]
    obtain ⟨x1, x2⟩ := rK_V5 w2
    have k2 : e2.1 paKind = e.1 paKind := by rw [w2.1]; exact v5.2.1
    have hV2 : gE5 e2 = (e.1 509, e.2.1 1006, e.1 510, e.2.1 1007, e.1 512, e.2.1 1008, e.2.1 504, e.1 1010, e.2.1 1009, Int32.ofNat (s + 1), e2.2.1 506, e.1 1014, e.2.1 1011, e.2.1 1013, e.1 1005, e.2.2) := by
      rw [x1, v2, show e.1 513 = Int32.ofNat s from e13, on_15 (by omega)]
      rfl
    have col : ∀ j c, (c = 0 ∨ c = 1 ∨ c = 4 ∨ c = 5) → j < s → e2.2.1 506 (11 * j + c) = e.2.1 506 (11 * j + c) := fun j c hc hj => by
      rw [w2.2.2.2 j c hc, v3, if_neg (fun q => by omega)]
    have col2 : ∀ c, (c = 0 ∨ c = 1 ∨ c = 4 ∨ c = 5) → e2.2.1 506 (11 * s + c) = nr5 (e.1 515) c := fun c hc => by
      rw [w2.2.2.2 s c hc, v3, if_pos ⟨rfl, by omega, by omega⟩, show 11 * s + c - 11 * s = c by omega]
    refine sr_i5 (by rw [k2]; exact lr_k5 L) ⟨rfl, rfl, by omega, ⟨lr_V5 L (x2.trans v4) (by rw [w2.1]; exact v5) u5 u6, ?_, by omega, by rw [hV2], by rw [u2], fun j hj => ?_⟩, ⟨by rw [col2 1 (by decide)]; rfl, by rw [col2 4 (by decide)]; rfl⟩, ?_, k2⟩
    · rw [hV2, u2]
      exact HI_s5 HI (by omega)
    · rw [hV2, u2]
      refine sS_k5 (sS j hj) ?_ (col j 4 (by decide) hj) (col j 5 (by decide) hj) ?_ ?_
      · exact col j 0 (by decide) hj
      · show r30 j = σ.2.2.1 30 j
        rw [u3, if_neg (by omega)]
      · show r32 j = σ.2.2.1 32 j
        rw [u4, if_neg (by omega)]
    · have z : σ'.2.2.1 30 = r30 := congrArg (fun W : W5 => w30_5 W) u2
      rw [z, u3, if_pos rfl]
end

end
