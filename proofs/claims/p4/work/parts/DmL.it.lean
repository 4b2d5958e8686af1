set_option maxHeartbeats 1600000
/-! items, side by side -/
theorem pN_a5 {T : T5} {Bk N m v t : Nat} {c c' d d' : Int32} {nr rr ns rs : Nat → Int32} (h : pN5 T Bk N m c nr c' rr v) (hv : v < m) (hm : m ≤ 1000) (ht : t < N) (kt : T.2.1 t = 140) (hd : d = c + 1) (hd' : d' = c' + 1) (hn : ∀ k, ns k = if k = v then Int32.ofNat t else nr k) (hr : ∀ k, rs k = if k = v then Int32.ofNat (Bk + t) else rr k) : pN5 T Bk N m d ns d' rs (v + 1) := by
  obtain ⟨h1, h2, h3, h4⟩ := h
  refine ⟨by omega, by rw [hd, h2, on_15 (by omega)], by rw [hd', h3, on_15 (by omega)], fun k hk => ?_⟩
  rw [hn, hr]
  by_cases c : k = v
  · rw [if_pos c, if_pos c]
    exact ⟨t, ht, kt, rfl, rfl⟩
  · rw [if_neg c, if_neg c]
    exact h4 k (by omega)
theorem lr_V5 {T : T5} {X : X5} {Bk N a l : Nat} {Z : Int32} {V : V5} {W : W5} {e e' : E5} {σ σ' : rS} (L : LR5 T X Bk N Z V W a l e σ) (h1 : tq5 e' = tq5 e) (h2 : e'.1 paAt = e.1 paAt ∧ e'.1 paKind = e.1 paKind ∧ e'.1 paOpen = e.1 paOpen) (k1 : sx5 σ' = sx5 σ) (k2 : σ'.1 2 = σ.1 2 ∧ σ'.1 10 = σ.1 10 ∧ σ'.1 11 = σ.1 11 ∧ σ'.1 46 = σ.1 46 ∧ σ'.1 47 = σ.1 47 ∧ σ'.1 13 = σ.1 13) : LR5 T X Bk N Z (gE5 e') (gS5 σ') a l e' σ' := by
  obtain ⟨l1, l2, l3, l4, l5⟩ := L
  obtain ⟨a1, a2, a3⟩ := h2
  obtain ⟨b1, b2, b3, b4, b5, b6⟩ := k2
  refine ⟨⟨h1.trans l1.1, k1.trans l1.2.1, b1.trans l1.2.2⟩, ⟨rfl, rfl⟩, ⟨l3.1, a1.trans l3.2.1, b2.trans l3.2.2.1, a2.trans l3.2.2.2.1, l3.2.2.2.2⟩, ⟨b3.trans l4.1, b4.trans l4.2.1, b5.trans l4.2.2⟩, ⟨?_, ?_⟩⟩
  · rw [b6, a3]; exact l5.1
  · rw [a3]; exact l5.2
theorem lti_n5 {x : Int32} {v m : Nat} (hx : x = Int32.ofNat v) (hv : v ≤ 1000) (hm : m ≤ 1000) : Int32.ofNat m ≤ x ↔ m ≤ v := by
  have l1 := ofn_i (n := v) (by omega)
  have l2 := ofn_i (n := m) (by omega)
  rw [hx, lei, l1, l2]
  omega
theorem lt_n5 {x : Int32} {v m : Nat} (hx : x = Int32.ofNat v) (hv : v ≤ 1000) (hm : m ≤ 1000) (h : x < Int32.ofNat m) : v < m := by
  have l1 := ofn_i (n := v) (by omega)
  have l2 := ofn_i (n := m) (by omega)
  rw [hx, lti, l1, l2] at h
  omega
theorem dq_t5 {α : Type} {p : Int32} {c : Prop} [Decidable c] {A B : R5 α} (h : c) (hA : dq5 p A) : dq5 p (if c then A else B) := by
  rw [if_pos h]; exact hA
theorem dq_e5 {α : Type} {p : Int32} {c : Prop} [Decidable c] {A B : R5 α} (h : ¬ c) (hB : dq5 p B) : dq5 p (if c then A else B) := by
  rw [if_neg h]; exact hB
theorem dk_st5 {p s c x : Int32} {e : E5} (d : dk5 p e) : dk5 p (stc5 s c x e) := by
  obtain ⟨p1, p2, p3⟩ := stc_15 (s := s) (c := c) (x := x) (e := e)
  unfold dk5 pl5 at d ⊢
  rw [p1, p3 taPlaces (by decide)]
  exact d
theorem dq_sc5 {p s c x : Int32} {e : E5} (d : dk5 p e) : dq5 p (f5_Co_setColumn s c x e) := by
  rw [stc_5]
  exact dq_i5 (dk_st5 d)
theorem dq_sa5 {p x : Int32} {f i : Nat} {e : E5} (d : dk5 p e) (h : f ≠ 1303) : dq5 p (sa5 f i x e) := by
  refine dq_i5 (e := (e.1, fun g j => if g = f ∧ j = i then x else e.2.1 g j, e.2.2)) ?_
  have z : (fun j => if taPlaces = f ∧ j = i then x else e.2.1 taPlaces j) = e.2.1 taPlaces := funext fun j => if_neg (fun q => h q.1.symm)
  unfold dk5 pl5 at d ⊢
  refine ⟨d.1, ?_⟩
  rw [← d.2]
  show (if _ then _ else if _ then _ else (fun j => if taPlaces = f ∧ j = i then x else e.2.1 taPlaces j) _) = _
  rw [z]
section
variable {T : T5} {X : X5} {Bk N : Nat} {Z : Int32} {V : V5} {W : W5} {a l : Nat} {e : E5} {σ : rS}
/-- what a var or an array leaves -/
def itP5 (T : T5) (X : X5) (Bk N : Nat) (Z : Int32) (V : V5) (W : W5) (a l : Nat) (e' : E5) (σ' : rS) : Prop := ∃ a', a < a' ∧ LR5 T X Bk N Z (gE5 e') (gS5 σ') a' l e' σ' ∧ nG5 T Bk N (gE5 e') (gS5 σ') ∧ (gE5 e').2.2.2.2 = V.2.2.2.2 ∧ (gS5 σ').2.2.2.2 = W.2.2.2.2
theorem sr_v94 {t v : Nat} {x y tok : Int32} {a9 : Nat} (H : TR5 T X Bk N Z) (L : LR5 T X Bk N Z V W a l e σ) (G : nG5 T Bk N V W) (ht : t < N) (kt : T.2.1 t = 140) (htok : tok = Int32.ofNat (Bk + t)) (p1 : pN5 T Bk N 10 V.1 V.2.1 W.1 W.2.1 v) (v10 : v < 10) (h9 : a9 < a) : sr5 (fun e' _ σ' => itP5 T X Bk N Z V W a9 l e' σ') (f5_Pa_varItem_94 (Int32.ofNat t) x e) (g5_tellVar_87 tok y σ) := by
  unfold f5_Pa_varItem_94 g5_tellVar_87
  dsimp only [pb5]
  refine sr_b5 (sr_pass H L (by decide) (by decide)) (fun e1 _ n1 Q1 => ?_) (by repeat' first | with_reducible exact kq_rf | dsimp only | with_reducible refine kq_go ?_ | with_reducible refine kq_sign ?_ | with_reducible refine kq_open ?_ | with_reducible refine kq_close ?_ | with_reducible refine kq_flaw ?_ | with_reducible refine kq_look ?_ | with_reducible refine kq_due ?_ | with_reducible refine kq_fresh ?_ | with_reducible refine kq_expression ?_ | with_reducible refine kq_openBlock ?_ | with_reducible refine kq_newStatement ?_ | with_reducible refine kq_turn ?_ | with_reducible refine kq_tellVar_87 ?_ | with_reducible refine kq_tellVar_82 ?_ | with_reducible refine kq_tellVar_53 ?_ | with_reducible refine kq_tellArr_56 ?_ | with_reducible refine kq_arguments ?_ | with_reducible refine kq_arguments_77 ?_ | with_reducible refine kq_tellDraw ?_ | with_reducible refine kq_tellDraw_18 ?_ | with_reducible refine kq_tellDraw_55 ?_ | with_reducible refine kq_tellDraw_172 ?_ | with_reducible refine kq_tellNamed_295 ?_ | with_reducible refine kq_tellNamed_244 ?_ | with_reducible refine kq_tellNamed_175 ?_ | with_reducible refine kq_tellNamed_133 ?_ | with_reducible refine kq_tellNamed_109 ?_ | with_reducible refine kq_tellNamed_90 ?_ | with_reducible refine kq_tellFunc_218 ?_ | with_reducible refine kq_tellFunc_74 ?_ | with_reducible refine kq_tellFunc_34 ?_ | with_reducible refine kq_tellStatements ?_ | with_reducible refine kq_tellStatement ?_ | with_reducible refine kq_endBlock ?_ | with_reducible refine kq_arguments_28 _ _ _ ?_ | with_reducible refine kq_tellDraw_77 _ _ _ _ ?_ | with_reducible refine kq_tellStatements_11 _ _ ?_ | with_reducible refine kq_tellFunc_102 _ _ _ _ ?_ | with_reducible refine kq_expression_12 _ _ _ ?_ | with_reducible refine kq_si (by decide) (by decide) ?_ | with_reducible refine kq_ri ?_ | with_reducible refine kq_if ?_ ?_ | with_reducible refine kq_ifp ?_ ?_) (fun p e1 _ d => ?_)
  · obtain ⟨L1, _, _⟩ := Q1
    obtain ⟨hV, hW⟩ := L1.2.1
    subst hV
    subst hW
    have e1v : e1.1 coVars = Int32.ofNat v := p1.2.1
    have s1v : (g5_sign 59 σ).1 15 = Int32.ofNat v := p1.2.2.1
    have c1 : (e1.1 coVars).toNatClampNeg = v := by rw [e1v, cl_5 (by omega)]
    have c2 : ((g5_sign 59 σ).1 15).toNatClampNeg = v := by rw [s1v, cl_5 (by omega)]
    rw [lr_ir5 L1, if_neg ne105, if_neg (show ¬ (10 : Int32) ≤ e1.1 coVars from fun q => absurd ((lti_n5 (m := 10) e1v (by omega) (by decide)).mp q) (by omega))]
    refine sr_i5 n1 ⟨a + 1, by omega, lr_V5 L1 rfl ⟨rfl, rfl, rfl⟩ rfl ⟨rfl, rfl, rfl, rfl, rfl, rfl⟩, ⟨⟨v + 1, pN_a5 p1 v10 (by decide) ht kt rfl rfl (fun k => ?_) (fun k => ?_)⟩, G.2⟩, rfl, rfl⟩
    · show (if 1006 = 1006 ∧ k = (e1.1 coVars).toNatClampNeg then Int32.ofNat t else e1.2.1 1006 k) = _
      rw [c1]
      by_cases c : k = v
      · rw [if_pos ⟨rfl, c⟩, if_pos c]
      · rw [if_neg (fun q => c q.2), if_neg c]; rfl
    · show (riU (riU (g5_sign 59 σ) 20 ((g5_sign 59 σ).1 15).toNatClampNeg tok) 21 ((riU (g5_sign 59 σ) 20 ((g5_sign 59 σ).1 15).toNatClampNeg tok).1 15).toNatClampNeg y).2.2.1 20 k = _
      rw [ri34, if_neg (by decide), ri34, if_pos rfl, c2, htok]
      rfl
  · repeat' first | with_reducible exact dq_i5 (by assumption) | with_reducible refine dq_t5 rfl ?_ | with_reducible refine dq_e5 ne105 ?_ | with_reducible exact dq_r5 (by assumption) | with_reducible exact dq_x5 (dx_pass (by assumption) (by decide)) | with_reducible exact dq_x5 (dx_open (by assumption) (by decide)) | with_reducible exact dq_x5 (dx_close (by assumption) (by decide)) | with_reducible exact dq_x5 (dx_expect (by assumption) (by decide)) | with_reducible exact dq_x5 (dx_newName (by assumption)) | with_reducible refine dq_n5 (by assumption) (by decide) ?_ | with_reducible refine dq_b5 (dq_expr (by assumption)) (fun _ _ _ => ?_) | dsimp only | with_reducible refine dq_f5 ?_ ?_ | with_reducible refine dq_b5 ?_ (fun _ _ _ => ?_) | with_reducible exact dq_sa5 (by assumption) (by decide) | with_reducible exact dq_sc5 (by assumption) | exact dq_i5 (by assumption)
theorem sr_xp5 {β : Type} {Q' : E5 → β → rS → Prop} {s c : Int32} {k : E5 → Unit → R5 β} {σ2 : rS} (H : TR5 T X Bk N Z) (L : LR5 T X Bk N Z V W a l e σ) (hs : X.1 (Bk + a) = s ↔ e.1 paKind = c) (hok : e.1 paKind = c → g5_due s σ = (σ, σ.1 10) → sr5 Q' (k e ()) σ2) (hq : kq5 (g5_due s σ).1 σ2) : sr5 Q' (rdB5 (f5_Pa_expect c e) k) σ2 := by
  unfold f5_Pa_expect
  by_cases q : e.1 paKind = c
  · rw [if_pos q]
    refine hok q ?_
    unfold g5_due
    rw [(lr_so5 H L).1, if_pos (hs.mpr q)]
  · rw [if_neg q, lr_rva5 H L]
    have hd : (g5_due s σ).1 = g5_flaw 2 (σ.1 10) σ := by
      unfold g5_due
      rw [(lr_so5 H L).1, if_neg (fun z => q (hs.mp z))]
      rfl
    rw [hd] at hq
    exact sr_q5 (by decide) (lr_fl5 H L).1 (lr_fl5 H L).2 hq
/-- var -/
theorem sr_var (H : TR5 T X Bk N Z) (L : LR5 T X Bk N Z V W a l e σ) (G : nG5 T Bk N V W) (hO : vow5 V = 0) (hk : e.1 paKind = 150) : sr5 (fun e' _ σ' => itP5 T X Bk N Z V W a l e' σ') (f5_Pa_item_35 150 e) (g5_tellVar σ) := by
  have h1 := H.1
  unfold f5_Pa_item_35 g5_tellVar
  dsimp only [pb5, pm5]
  refine sr_b5 (sr_take H L (by rw [hk]; decide)) (fun e1 _ n1 Q1 => ?_) (by repeat' first | with_reducible exact kq_rf | dsimp only | with_reducible refine kq_go ?_ | with_reducible refine kq_sign ?_ | with_reducible refine kq_open ?_ | with_reducible refine kq_close ?_ | with_reducible refine kq_flaw ?_ | with_reducible refine kq_look ?_ | with_reducible refine kq_due ?_ | with_reducible refine kq_fresh ?_ | with_reducible refine kq_expression ?_ | with_reducible refine kq_openBlock ?_ | with_reducible refine kq_newStatement ?_ | with_reducible refine kq_turn ?_ | with_reducible refine kq_tellVar_87 ?_ | with_reducible refine kq_tellVar_82 ?_ | with_reducible refine kq_tellVar_53 ?_ | with_reducible refine kq_tellArr_56 ?_ | with_reducible refine kq_arguments ?_ | with_reducible refine kq_arguments_77 ?_ | with_reducible refine kq_tellDraw ?_ | with_reducible refine kq_tellDraw_18 ?_ | with_reducible refine kq_tellDraw_55 ?_ | with_reducible refine kq_tellDraw_172 ?_ | with_reducible refine kq_tellNamed_295 ?_ | with_reducible refine kq_tellNamed_244 ?_ | with_reducible refine kq_tellNamed_175 ?_ | with_reducible refine kq_tellNamed_133 ?_ | with_reducible refine kq_tellNamed_109 ?_ | with_reducible refine kq_tellNamed_90 ?_ | with_reducible refine kq_tellFunc_218 ?_ | with_reducible refine kq_tellFunc_74 ?_ | with_reducible refine kq_tellFunc_34 ?_ | with_reducible refine kq_tellStatements ?_ | with_reducible refine kq_tellStatement ?_ | with_reducible refine kq_endBlock ?_ | with_reducible refine kq_arguments_28 _ _ _ ?_ | with_reducible refine kq_tellDraw_77 _ _ _ _ ?_ | with_reducible refine kq_tellStatements_11 _ _ ?_ | with_reducible refine kq_tellFunc_102 _ _ _ _ ?_ | with_reducible refine kq_expression_12 _ _ _ ?_ | with_reducible refine kq_si (by decide) (by decide) ?_ | with_reducible refine kq_ri ?_ | with_reducible refine kq_if ?_ ?_ | with_reducible refine kq_ifp ?_ ?_) (fun p e1 _ d => ?_)
  · obtain ⟨L1, _, _⟩ := Q1
    rw [if_pos rfl, rb_u5]
    unfold f5_Pa_varItem
    obtain ⟨v, p1⟩ := G.1
    have mn : (g5_go σ).1 15 = e1.1 coVars := by
      have z1 : e1.1 coVars = V.1 := by rw [← L1.2.1.1]; rfl
      have z2 : (g5_go σ).1 15 = W.1 := by rw [← L1.2.1.2]; rfl
      rw [z1, z2, p1.2.1, p1.2.2.1]
    rw [mn]
    refine sr_b5 (sr_new H L1 G (Or.inl ⟨rfl, hO⟩)) (fun e2 r n2 Q2 => ?_) (by repeat' first | with_reducible exact kq_rf | dsimp only | with_reducible refine kq_go ?_ | with_reducible refine kq_sign ?_ | with_reducible refine kq_open ?_ | with_reducible refine kq_close ?_ | with_reducible refine kq_flaw ?_ | with_reducible refine kq_look ?_ | with_reducible refine kq_due ?_ | with_reducible refine kq_fresh ?_ | with_reducible refine kq_expression ?_ | with_reducible refine kq_openBlock ?_ | with_reducible refine kq_newStatement ?_ | with_reducible refine kq_turn ?_ | with_reducible refine kq_tellVar_87 ?_ | with_reducible refine kq_tellVar_82 ?_ | with_reducible refine kq_tellVar_53 ?_ | with_reducible refine kq_tellArr_56 ?_ | with_reducible refine kq_arguments ?_ | with_reducible refine kq_arguments_77 ?_ | with_reducible refine kq_tellDraw ?_ | with_reducible refine kq_tellDraw_18 ?_ | with_reducible refine kq_tellDraw_55 ?_ | with_reducible refine kq_tellDraw_172 ?_ | with_reducible refine kq_tellNamed_295 ?_ | with_reducible refine kq_tellNamed_244 ?_ | with_reducible refine kq_tellNamed_175 ?_ | with_reducible refine kq_tellNamed_133 ?_ | with_reducible refine kq_tellNamed_109 ?_ | with_reducible refine kq_tellNamed_90 ?_ | with_reducible refine kq_tellFunc_218 ?_ | with_reducible refine kq_tellFunc_74 ?_ | with_reducible refine kq_tellFunc_34 ?_ | with_reducible refine kq_tellStatements ?_ | with_reducible refine kq_tellStatement ?_ | with_reducible refine kq_endBlock ?_ | with_reducible refine kq_arguments_28 _ _ _ ?_ | with_reducible refine kq_tellDraw_77 _ _ _ _ ?_ | with_reducible refine kq_tellStatements_11 _ _ ?_ | with_reducible refine kq_tellFunc_102 _ _ _ _ ?_ | with_reducible refine kq_expression_12 _ _ _ ?_ | with_reducible refine kq_si (by decide) (by decide) ?_ | with_reducible refine kq_ri ?_ | with_reducible refine kq_if ?_ ?_ | with_reducible refine kq_ifp ?_ ?_) (fun p e1 _ d => ?_)
    · obtain ⟨L2, rfl, kt, htok, mm⟩ := Q2
      have ht := L1.2.2.1.1
      have v10 : v < 10 := by
        have z1 : e1.1 coVars = Int32.ofNat v := by rw [← p1.2.1, ← L1.2.1.1]; rfl
        exact lt_n5 (m := 10) z1 (by have := p1.1; omega) (by decide) mm
      rw [lr_ir5 L2, if_neg ne105, lr_at5 H L2 (by decide) (by decide)]
      by_cases c61 : e2.1 paKind = 61
      · rw [if_pos c61, if_pos c61, if_neg ne105]
        refine sr_b5 (sr_take H L2 (by rw [c61]; decide)) (fun e3 _ n3 Q3 => ?_) (by repeat' first | with_reducible exact kq_rf | dsimp only | with_reducible refine kq_go ?_ | with_reducible refine kq_sign ?_ | with_reducible refine kq_open ?_ | with_reducible refine kq_close ?_ | with_reducible refine kq_flaw ?_ | with_reducible refine kq_look ?_ | with_reducible refine kq_due ?_ | with_reducible refine kq_fresh ?_ | with_reducible refine kq_expression ?_ | with_reducible refine kq_openBlock ?_ | with_reducible refine kq_newStatement ?_ | with_reducible refine kq_turn ?_ | with_reducible refine kq_tellVar_87 ?_ | with_reducible refine kq_tellVar_82 ?_ | with_reducible refine kq_tellVar_53 ?_ | with_reducible refine kq_tellArr_56 ?_ | with_reducible refine kq_arguments ?_ | with_reducible refine kq_arguments_77 ?_ | with_reducible refine kq_tellDraw ?_ | with_reducible refine kq_tellDraw_18 ?_ | with_reducible refine kq_tellDraw_55 ?_ | with_reducible refine kq_tellDraw_172 ?_ | with_reducible refine kq_tellNamed_295 ?_ | with_reducible refine kq_tellNamed_244 ?_ | with_reducible refine kq_tellNamed_175 ?_ | with_reducible refine kq_tellNamed_133 ?_ | with_reducible refine kq_tellNamed_109 ?_ | with_reducible refine kq_tellNamed_90 ?_ | with_reducible refine kq_tellFunc_218 ?_ | with_reducible refine kq_tellFunc_74 ?_ | with_reducible refine kq_tellFunc_34 ?_ | with_reducible refine kq_tellStatements ?_ | with_reducible refine kq_tellStatement ?_ | with_reducible refine kq_endBlock ?_ | with_reducible refine kq_arguments_28 _ _ _ ?_ | with_reducible refine kq_tellDraw_77 _ _ _ _ ?_ | with_reducible refine kq_tellStatements_11 _ _ ?_ | with_reducible refine kq_tellFunc_102 _ _ _ _ ?_ | with_reducible refine kq_expression_12 _ _ _ ?_ | with_reducible refine kq_si (by decide) (by decide) ?_ | with_reducible refine kq_ri ?_ | with_reducible refine kq_if ?_ ?_ | with_reducible refine kq_ifp ?_ ?_) (fun p e3 _ d => ?_)
        · obtain ⟨L3, _, _⟩ := Q3
          have num : ∀ (a3 : Int32) (e4 : E5) (σ4 : rS) (a4 : Nat), a < a4 → LR5 T X Bk N Z V W a4 l e4 σ4 → sr5 (fun e' _ σ' => itP5 T X Bk N Z V W a l e' σ') (f5_Pa_varItem_52 (Int32.ofNat (a + 1)) a3 e4) (g5_tellVar_53 (g5_fresh 0 (e1.1 coVars) 10 (g5_go σ)).2 a3 σ4) := fun a3 e4 σ4 a4 h4 L4 => by
            unfold f5_Pa_varItem_52 g5_tellVar_53
            dsimp only [pb5, pm5]
            refine sr_xp5 (s := 2) H L4 (kd_o5 (lr_kd5 H L4)).2.2.1 (fun k5 q5 => ?_) (by repeat' first | with_reducible exact kq_rf | dsimp only | with_reducible refine kq_go ?_ | with_reducible refine kq_sign ?_ | with_reducible refine kq_open ?_ | with_reducible refine kq_close ?_ | with_reducible refine kq_flaw ?_ | with_reducible refine kq_look ?_ | with_reducible refine kq_due ?_ | with_reducible refine kq_fresh ?_ | with_reducible refine kq_expression ?_ | with_reducible refine kq_openBlock ?_ | with_reducible refine kq_newStatement ?_ | with_reducible refine kq_turn ?_ | with_reducible refine kq_tellVar_87 ?_ | with_reducible refine kq_tellVar_82 ?_ | with_reducible refine kq_tellVar_53 ?_ | with_reducible refine kq_tellArr_56 ?_ | with_reducible refine kq_arguments ?_ | with_reducible refine kq_arguments_77 ?_ | with_reducible refine kq_tellDraw ?_ | with_reducible refine kq_tellDraw_18 ?_ | with_reducible refine kq_tellDraw_55 ?_ | with_reducible refine kq_tellDraw_172 ?_ | with_reducible refine kq_tellNamed_295 ?_ | with_reducible refine kq_tellNamed_244 ?_ | with_reducible refine kq_tellNamed_175 ?_ | with_reducible refine kq_tellNamed_133 ?_ | with_reducible refine kq_tellNamed_109 ?_ | with_reducible refine kq_tellNamed_90 ?_ | with_reducible refine kq_tellFunc_218 ?_ | with_reducible refine kq_tellFunc_74 ?_ | with_reducible refine kq_tellFunc_34 ?_ | with_reducible refine kq_tellStatements ?_ | with_reducible refine kq_tellStatement ?_ | with_reducible refine kq_endBlock ?_ | with_reducible refine kq_arguments_28 _ _ _ ?_ | with_reducible refine kq_tellDraw_77 _ _ _ _ ?_ | with_reducible refine kq_tellStatements_11 _ _ ?_ | with_reducible refine kq_tellFunc_102 _ _ _ _ ?_ | with_reducible refine kq_expression_12 _ _ _ ?_ | with_reducible refine kq_si (by decide) (by decide) ?_ | with_reducible refine kq_ri ?_ | with_reducible refine kq_if ?_ ?_ | with_reducible refine kq_ifp ?_ ?_)
            · rw [q5]
              have fin : ∀ x y : Int32, sr5 (fun e' _ σ' => itP5 T X Bk N Z V W a l e' σ') (f5_Pa_varItem_89 (Int32.ofNat (a + 1)) x e4) (g5_tellVar_82 (g5_fresh 0 (e1.1 coVars) 10 (g5_go σ)).2 y σ4) := fun x y => by
                unfold f5_Pa_varItem_89 g5_tellVar_82
                dsimp only [pb5]
                refine sr_b5 (sr_take H L4 (by rw [k5]; decide)) (fun e6 _ n6 Q6 => ?_) (by repeat' first | with_reducible exact kq_rf | dsimp only | with_reducible refine kq_go ?_ | with_reducible refine kq_sign ?_ | with_reducible refine kq_open ?_ | with_reducible refine kq_close ?_ | with_reducible refine kq_flaw ?_ | with_reducible refine kq_look ?_ | with_reducible refine kq_due ?_ | with_reducible refine kq_fresh ?_ | with_reducible refine kq_expression ?_ | with_reducible refine kq_openBlock ?_ | with_reducible refine kq_newStatement ?_ | with_reducible refine kq_turn ?_ | with_reducible refine kq_tellVar_87 ?_ | with_reducible refine kq_tellVar_82 ?_ | with_reducible refine kq_tellVar_53 ?_ | with_reducible refine kq_tellArr_56 ?_ | with_reducible refine kq_arguments ?_ | with_reducible refine kq_arguments_77 ?_ | with_reducible refine kq_tellDraw ?_ | with_reducible refine kq_tellDraw_18 ?_ | with_reducible refine kq_tellDraw_55 ?_ | with_reducible refine kq_tellDraw_172 ?_ | with_reducible refine kq_tellNamed_295 ?_ | with_reducible refine kq_tellNamed_244 ?_ | with_reducible refine kq_tellNamed_175 ?_ | with_reducible refine kq_tellNamed_133 ?_ | with_reducible refine kq_tellNamed_109 ?_ | with_reducible refine kq_tellNamed_90 ?_ | with_reducible refine kq_tellFunc_218 ?_ | with_reducible refine kq_tellFunc_74 ?_ | with_reducible refine kq_tellFunc_34 ?_ | with_reducible refine kq_tellStatements ?_ | with_reducible refine kq_tellStatement ?_ | with_reducible refine kq_endBlock ?_ | with_reducible refine kq_arguments_28 _ _ _ ?_ | with_reducible refine kq_tellDraw_77 _ _ _ _ ?_ | with_reducible refine kq_tellStatements_11 _ _ ?_ | with_reducible refine kq_tellFunc_102 _ _ _ _ ?_ | with_reducible refine kq_expression_12 _ _ _ ?_ | with_reducible refine kq_si (by decide) (by decide) ?_ | with_reducible refine kq_ri ?_ | with_reducible refine kq_if ?_ ?_ | with_reducible refine kq_ifp ?_ ?_) (fun p e6 _ d => ?_)
                · exact sr_v94 H Q6.1 G ht kt htok p1 v10 (by omega)
                · unfold f5_Pa_varItem_94
                  repeat' first | with_reducible exact dq_i5 (by assumption) | with_reducible refine dq_t5 rfl ?_ | with_reducible refine dq_e5 ne105 ?_ | with_reducible exact dq_r5 (by assumption) | with_reducible exact dq_x5 (dx_pass (by assumption) (by decide)) | with_reducible exact dq_x5 (dx_open (by assumption) (by decide)) | with_reducible exact dq_x5 (dx_close (by assumption) (by decide)) | with_reducible exact dq_x5 (dx_expect (by assumption) (by decide)) | with_reducible exact dq_x5 (dx_newName (by assumption)) | with_reducible refine dq_n5 (by assumption) (by decide) ?_ | with_reducible refine dq_b5 (dq_expr (by assumption)) (fun _ _ _ => ?_) | dsimp only | with_reducible refine dq_f5 ?_ ?_ | with_reducible refine dq_b5 ?_ (fun _ _ _ => ?_) | with_reducible exact dq_sa5 (by assumption) (by decide) | with_reducible exact dq_sc5 (by assumption) | exact dq_i5 (by assumption)
              by_cases z : a3 = 0
              · rw [if_pos z, if_pos z]; exact fin _ _
              · rw [if_neg z, if_neg z]; exact fin _ _
          unfold f5_Pa_varItem_43
          rw [lr_at5 H L3 (by decide) (by decide)]
          by_cases c45 : e3.1 paKind = 45
          · rw [if_pos c45, if_neg ne105, if_pos c45, if_neg ne105]
            refine sr_b5 (sr_take H L3 (by rw [c45]; decide)) (fun e4 _ n4 Q4 => ?_) (by repeat' first | with_reducible exact kq_rf | dsimp only | with_reducible refine kq_go ?_ | with_reducible refine kq_sign ?_ | with_reducible refine kq_open ?_ | with_reducible refine kq_close ?_ | with_reducible refine kq_flaw ?_ | with_reducible refine kq_look ?_ | with_reducible refine kq_due ?_ | with_reducible refine kq_fresh ?_ | with_reducible refine kq_expression ?_ | with_reducible refine kq_openBlock ?_ | with_reducible refine kq_newStatement ?_ | with_reducible refine kq_turn ?_ | with_reducible refine kq_tellVar_87 ?_ | with_reducible refine kq_tellVar_82 ?_ | with_reducible refine kq_tellVar_53 ?_ | with_reducible refine kq_tellArr_56 ?_ | with_reducible refine kq_arguments ?_ | with_reducible refine kq_arguments_77 ?_ | with_reducible refine kq_tellDraw ?_ | with_reducible refine kq_tellDraw_18 ?_ | with_reducible refine kq_tellDraw_55 ?_ | with_reducible refine kq_tellDraw_172 ?_ | with_reducible refine kq_tellNamed_295 ?_ | with_reducible refine kq_tellNamed_244 ?_ | with_reducible refine kq_tellNamed_175 ?_ | with_reducible refine kq_tellNamed_133 ?_ | with_reducible refine kq_tellNamed_109 ?_ | with_reducible refine kq_tellNamed_90 ?_ | with_reducible refine kq_tellFunc_218 ?_ | with_reducible refine kq_tellFunc_74 ?_ | with_reducible refine kq_tellFunc_34 ?_ | with_reducible refine kq_tellStatements ?_ | with_reducible refine kq_tellStatement ?_ | with_reducible refine kq_endBlock ?_ | with_reducible refine kq_arguments_28 _ _ _ ?_ | with_reducible refine kq_tellDraw_77 _ _ _ _ ?_ | with_reducible refine kq_tellStatements_11 _ _ ?_ | with_reducible refine kq_tellFunc_102 _ _ _ _ ?_ | with_reducible refine kq_expression_12 _ _ _ ?_ | with_reducible refine kq_si (by decide) (by decide) ?_ | with_reducible refine kq_ri ?_ | with_reducible refine kq_if ?_ ?_ | with_reducible refine kq_ifp ?_ ?_) (fun p e4 _ d => ?_)
            · exact num 1 e4 _ _ (by omega) Q4.1
            · unfold f5_Pa_varItem_52
              repeat' first | with_reducible exact dq_i5 (by assumption) | with_reducible refine dq_t5 rfl ?_ | with_reducible refine dq_e5 ne105 ?_ | with_reducible exact dq_r5 (by assumption) | with_reducible exact dq_x5 (dx_pass (by assumption) (by decide)) | with_reducible exact dq_x5 (dx_open (by assumption) (by decide)) | with_reducible exact dq_x5 (dx_close (by assumption) (by decide)) | with_reducible exact dq_x5 (dx_expect (by assumption) (by decide)) | with_reducible exact dq_x5 (dx_newName (by assumption)) | with_reducible refine dq_n5 (by assumption) (by decide) ?_ | with_reducible refine dq_b5 (dq_expr (by assumption)) (fun _ _ _ => ?_) | dsimp only | with_reducible refine dq_f5 ?_ ?_ | with_reducible refine dq_b5 ?_ (fun _ _ _ => ?_) | with_reducible exact dq_sa5 (by assumption) (by decide) | with_reducible exact dq_sc5 (by assumption) | exact dq_i5 (by assumption)
          · rw [if_neg c45, if_pos rfl, if_neg c45, if_pos rfl]
            exact num 0 e3 _ _ (by omega) L3
        · unfold f5_Pa_varItem_43 f5_Pa_varItem_52
          repeat' first | with_reducible exact dq_i5 (by assumption) | with_reducible refine dq_t5 rfl ?_ | with_reducible refine dq_e5 ne105 ?_ | with_reducible exact dq_r5 (by assumption) | with_reducible exact dq_x5 (dx_pass (by assumption) (by decide)) | with_reducible exact dq_x5 (dx_open (by assumption) (by decide)) | with_reducible exact dq_x5 (dx_close (by assumption) (by decide)) | with_reducible exact dq_x5 (dx_expect (by assumption) (by decide)) | with_reducible exact dq_x5 (dx_newName (by assumption)) | with_reducible refine dq_n5 (by assumption) (by decide) ?_ | with_reducible refine dq_b5 (dq_expr (by assumption)) (fun _ _ _ => ?_) | dsimp only | with_reducible refine dq_f5 ?_ ?_ | with_reducible refine dq_b5 ?_ (fun _ _ _ => ?_) | with_reducible exact dq_sa5 (by assumption) (by decide) | with_reducible exact dq_sc5 (by assumption) | exact dq_i5 (by assumption)
      · rw [if_neg c61, if_neg c61, if_pos rfl]
        exact sr_v94 H L2 G ht kt htok p1 v10 (by omega)
    · unfold f5_Pa_varItem_94
      repeat' first | with_reducible exact dq_i5 (by assumption) | with_reducible refine dq_t5 rfl ?_ | with_reducible refine dq_e5 ne105 ?_ | with_reducible exact dq_r5 (by assumption) | with_reducible exact dq_x5 (dx_pass (by assumption) (by decide)) | with_reducible exact dq_x5 (dx_open (by assumption) (by decide)) | with_reducible exact dq_x5 (dx_close (by assumption) (by decide)) | with_reducible exact dq_x5 (dx_expect (by assumption) (by decide)) | with_reducible exact dq_x5 (dx_newName (by assumption)) | with_reducible refine dq_n5 (by assumption) (by decide) ?_ | with_reducible refine dq_b5 (dq_expr (by assumption)) (fun _ _ _ => ?_) | dsimp only | with_reducible refine dq_f5 ?_ ?_ | with_reducible refine dq_b5 ?_ (fun _ _ _ => ?_) | with_reducible exact dq_sa5 (by assumption) (by decide) | with_reducible exact dq_sc5 (by assumption) | exact dq_i5 (by assumption)
  · unfold f5_Pa_varItem
    repeat' first | with_reducible exact dq_i5 (by assumption) | with_reducible refine dq_t5 rfl ?_ | with_reducible refine dq_e5 ne105 ?_ | with_reducible exact dq_r5 (by assumption) | with_reducible exact dq_x5 (dx_pass (by assumption) (by decide)) | with_reducible exact dq_x5 (dx_open (by assumption) (by decide)) | with_reducible exact dq_x5 (dx_close (by assumption) (by decide)) | with_reducible exact dq_x5 (dx_expect (by assumption) (by decide)) | with_reducible exact dq_x5 (dx_newName (by assumption)) | with_reducible refine dq_n5 (by assumption) (by decide) ?_ | with_reducible refine dq_b5 (dq_expr (by assumption)) (fun _ _ _ => ?_) | dsimp only | with_reducible refine dq_f5 ?_ ?_ | with_reducible refine dq_b5 ?_ (fun _ _ _ => ?_) | with_reducible exact dq_sa5 (by assumption) (by decide) | with_reducible exact dq_sc5 (by assumption) | exact dq_i5 (by assumption)
end
