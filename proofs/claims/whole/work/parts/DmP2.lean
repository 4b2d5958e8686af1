section
set_option maxHeartbeats 1600000
/-! a statement whole -/
theorem sr_c5 {α β : Type} {Q : E5 → α → rS → Prop} {Q' : E5 → β → rS → Prop} {m : R5 α} {k : E5 → α → R5 β} {σ1 σ2 : rS} (h : sr5 Q m σ1) (hk : ∀ e a, e.1 paKind ≠ 143 → Q e a σ1 → sr5 Q' (k e a) σ2) (hq : kq5 σ1 σ2) (hm : ∀ p e a, m = .inl (e, a) → dk5 p e → k e a = .inr (0, 0) ∨ k e a = .inr (1, p)) : sr5 Q' (rdB5 m k) σ2 := by
  rcases h with h | ⟨e, a, h, n, q⟩ | ⟨f, p, f0, s1, s2, h⟩
  · rw [h]; exact Or.inl rfl
  · rw [h]; exact hk e a n q
  · obtain ⟨y1, y2⟩ := hq (by rw [s1]; exact f0)
    rw [s1] at y1
    rw [s2] at y2
    rcases h with h | ⟨f1, e, a, h, n, q⟩
    · rw [h]; exact Or.inr (Or.inr ⟨f, p, f0, y1, y2, Or.inl rfl⟩)
    · rcases hm p e a h ⟨n, q⟩ with w | w
      · rw [h]; exact Or.inl w
      · rw [h]; exact Or.inr (Or.inr ⟨f, p, f0, y1, y2, Or.inl (by rw [f1]; exact w)⟩)
theorem ks_59 {e : E5} {s : Nat} (hs : e.1 coStatements = Int32.ofNat s) (hs2 : s ≤ 150) : ∀ e' r, f5_Pa_addStatement_59 e = .inl (e', r) → e'.1 paKind = e.1 paKind := by
  intro e' r h
  unfold f5_Pa_addStatement_59 at h
  by_cases c : e.1 coStatements < 150
  · rw [if_pos c] at h
    unfold f5_Pa_addStatement_82 at h
    obtain ⟨e1, v1, v2, v3⟩ : ∃ e1 : E5, f5_Co_addStatement e = .inl (e1, e.1 513) ∧ e1.1 paKind = e.1 paKind ∧ e1.1 coStatements = Int32.ofNat (s + 1) := ⟨_, rfl, rfl, by
      show e.1 513 + 1 = _
      rw [show e.1 513 = Int32.ofNat s from hs, on_15 (by omega)]⟩
    rw [v1, rdl_5] at h
    have q : ∀ x, (f5_Pa_addStatement_107 (e.1 513) x e1 = .inl (e', r)) → e'.1 paKind = e.1 paKind := fun x hx => by
      obtain ⟨e2, w1, w2⟩ := aS_107 (s1 := e.1 513) (s0 := x) v3 (by omega)
      rw [w1] at hx
      have y := (Prod.mk.inj (Sum.inl.inj hx)).1
      rw [← y, w2.1, v2]
    by_cases c2 : e1.1 paBlocks ≤ 0
    · rw [if_pos c2] at h; exact q _ h
    · rw [if_neg c2] at h; exact q _ h
  · rw [if_neg c] at h; cases h
theorem kq_tlL {s9 σ : rS} {x : Int32} (h : kq5 s9 σ) : kq5 s9 (tlL5 x σ) := by
  unfold tlL5
  refine kq_pb (kq_pm (kq_pb (kq_pb (kq_pm (kq_pb (kq_pb (kq_if ?_ (kq_pb (kq_pb (kq_pb ?_))))))))))
  · exact kq_sign (kq_expression (kq_ri (kq_sign (kq_fresh (kq_go h)))))
  · exact kq_ri (kq_ri (kq_ri (kq_sign (kq_expression (kq_ri (kq_sign (kq_fresh (kq_go h))))))))
section
variable {T : T5} {X : X5} {Bk N : Nat} {Z : Int32} {V : V5} {W : W5} {a b f t s : Nat} {e : E5} {σ : rS}
theorem t68_5 {k : Int32} : g5_tellStatement_68 k σ = g5_openBlock (g5_newStatement k σ).2 0 (g5_open 123 (g5_expression (riU (g5_go (g5_newStatement k σ).1) 32 (g5_newStatement k σ).2.toNatClampNeg ((g5_go (g5_newStatement k σ).1).1 10))).1) := by
  unfold g5_tellStatement_68
  rw [pm_e5, pb_e5, pb_e5, pm_e5, pb_e5, pb_e5]
theorem t164_5 {k : Int32} : g5_tellStatement_164 k σ = g5_sign 59 (g5_expression (riU (g5_go (g5_newStatement k σ).1) 32 (g5_newStatement k σ).2.toNatClampNeg ((g5_go (g5_newStatement k σ).1).1 10))).1 := by
  unfold g5_tellStatement_164
  rw [pm_e5, pb_e5, pb_e5, pm_e5, pb_e5]
theorem ws_154 {x : Int32} (h : e.1 paKind = 154) : f5_Pa_wordStatement x e = rdB5 (f5_Pa_take e) (fun e2 _ => rdB5 (f5_Pa_expression x (-1) e2) (fun e5 _ => f5_Pa_wordStatement_49 x x 0 6 e5)) := by
  unfold f5_Pa_wordStatement
  rw [pb_e5, h]
  rfl
theorem ws_156 {x : Int32} (h : e.1 paKind = 156) : f5_Pa_wordStatement x e = rdB5 (f5_Pa_take e) (fun e2 _ => rdB5 (f5_Pa_expression x (-1) e2) (fun e5 _ => f5_Pa_wordStatement_49 x x 0 7 e5)) := by
  unfold f5_Pa_wordStatement
  rw [pb_e5, h]
  rfl
theorem ws_157 {x : Int32} (h : e.1 paKind = 157) : f5_Pa_wordStatement x e = rdB5 (f5_Pa_take e) (fun e2 _ => rdB5 (f5_Pa_expression x (-1) e2) (fun e5 _ => f5_Pa_wordStatement_97 x 0 8 e5)) := by
  unfold f5_Pa_wordStatement
  rw [pb_e5, h]
  rfl
theorem ws_158 {x : Int32} (h : e.1 paKind = 158) : f5_Pa_wordStatement x e = rdB5 (f5_Pa_take e) (fun e2 _ => rdB5 (f5_Pa_expression x (-1) e2) (fun e5 _ => f5_Pa_wordStatement_97 x 0 9 e5)) := by
  unfold f5_Pa_wordStatement
  rw [pb_e5, h]
  rfl
theorem ws_159 {x : Int32} (h : e.1 paKind = 159) : f5_Pa_wordStatement x e = rdB5 (f5_Pa_take e) (fun e2 _ => rdB5 (f5_Pa_expression x (-1) e2) (fun e5 _ => f5_Pa_wordStatement_97 x 0 10 e5)) := by
  unfold f5_Pa_wordStatement
  rw [pb_e5, h]
  rfl
theorem st_w5 {x : Int32} (h3 : ¬ e.1 paKind = 153) (h0 : ¬ e.1 paKind = 140) : f5_Pa_statement x e = f5_Pa_wordStatement x e := by
  unfold f5_Pa_statement
  rw [if_neg h3, if_neg h0, rb_u5]
theorem as_59 (h : e.1 paKind = 140 ∨ e.1 paKind = 153 ∨ e.1 paKind = 154 ∨ e.1 paKind = 156 ∨ e.1 paKind = 157 ∨ e.1 paKind = 158 ∨ e.1 paKind = 159) : f5_Pa_addStatement e = f5_Pa_addStatement_59 e := by
  unfold f5_Pa_addStatement
  rcases h with h | h | h | h | h | h | h <;> rw [h] <;> rfl
theorem as_50 (h0 : ¬ e.1 paKind = 140) (h3 : ¬ e.1 paKind = 153) (h4 : ¬ e.1 paKind = 154) (h6 : ¬ e.1 paKind = 156) (h7 : ¬ e.1 paKind = 157) (h8 : ¬ e.1 paKind = 158) (h9 : ¬ e.1 paKind = 159) : f5_Pa_addStatement e = .inr (rv5 2 (e.1 paAt) e) := by
  unfold f5_Pa_addStatement f5_Pa_addStatement_50
  rw [if_neg h0, if_neg h3, if_neg h4]
  by_cases c : e.1 paKind < 156
  · rw [if_pos c]
  · rw [if_neg c]
    have q : ¬ e.1 paKind ≤ 159 := fun q => by
      rw [lei] at q
      rw [lti] at c
      have l1 : (156 : Int32).toInt = 156 := rfl
      have l2 : (157 : Int32).toInt = 157 := rfl
      have l3 : (158 : Int32).toInt = 158 := rfl
      have l4 : (159 : Int32).toInt = 159 := rfl
      have y : (e.1 paKind).toInt = 156 ∨ (e.1 paKind).toInt = 157 ∨ (e.1 paKind).toInt = 158 ∨ (e.1 paKind).toInt = 159 := by omega
      rcases y with y | y | y | y
      · exact h6 (Int32.toInt_inj.mp (y.trans l1.symm))
      · exact h7 (Int32.toInt_inj.mp (y.trans l2.symm))
      · exact h8 (Int32.toInt_inj.mp (y.trans l3.symm))
      · exact h9 (Int32.toInt_inj.mp (y.trans l4.symm))
    rw [if_neg q]
theorem sr_stm (H : TR5 T X Bk N Z) (h : iS5 T X Bk N Z a b f t s s e σ) : sr5 (fun e' _ σ' => eS5 T X Bk N Z a f t s e' σ') (rdB5 (f5_Pa_addStatement e) (fun e1 r2 => f5_Pa_statement r2 e1)) (g5_tellStatement σ) := by
  have L := h.1
  have s150 : s ≤ 150 := h.2.2.1
  have est : e.1 coStatements = Int32.ofNat s := h.2.2.2.1
  obtain ⟨so, _, _⟩ := lr_so5 H L
  have ko := (kd_o5 (lr_kd5 H L)).2.1
  have go : ∀ (k : Int32) (σ2 : rS), e.1 paKind ≠ 142 → kq5 (g5_newStatement k σ).1 σ2 → (∀ e1 : E5, e1.1 paKind = e.1 paKind → jS5 T X Bk N b f t s (gE5 e1) (gS5 (g5_newStatement k σ).1) → LR5 T X Bk N Z (gE5 e1) (gS5 (g5_newStatement k σ).1) a b e1 (g5_newStatement k σ).1 → vrs5 (gE5 e1) (11 * s + 1) = 0 → vrs5 (gE5 e1) (11 * s + 4) = 0 → w30_5 (gS5 (g5_newStatement k σ).1) s = k → (g5_newStatement k σ).2 = Int32.ofNat s → sr5 (fun e' _ σ' => eS5 T X Bk N Z a f t s e' σ') (f5_Pa_statement (Int32.ofNat s) e1) σ2) → sr5 (fun e' _ σ' => eS5 T X Bk N Z a f t s e' σ') (rdB5 (f5_Pa_addStatement_59 e) (fun e1 r2 => f5_Pa_statement r2 e1)) σ2 := fun k σ2 n142 hq hk => by
    refine sr_c5 (sr_addS (k := k) H h n142) (fun e1 r n1 Q => ?_) hq (fun p e1 r hm d => ?_)
    · obtain ⟨rfl, r2, s15, I, ⟨c1, c4⟩, k30, kk⟩ := Q
      exact hk e1 kk ⟨I.2.1, I.2.2, s15⟩ I.1 c1 c4 k30 r2
    · exact absurd ((ks_59 est s150 e1 r hm).symm.trans d.1) (lr_k5 L)
  have kA : ∀ k : Int32, kq5 (g5_newStatement k σ).1 (g5_tellStatement_68 k σ) := fun k => by
    rw [t68_5]; exact kq_openBlock (kq_open (kq_expression (kq_ri (kq_go kq_rf))))
  have kB : ∀ k : Int32, kq5 (g5_newStatement k σ).1 (g5_tellStatement_164 k σ) := fun k => by
    rw [t164_5]; exact kq_sign (kq_expression (kq_ri (kq_go kq_rf)))
  have cs : (Int32.ofNat s).toNatClampNeg = s := cl_5 (by omega)
  have w49 : ∀ (k : Int32), e.1 paKind ≠ 142 → ¬ e.1 paKind = 153 → ¬ e.1 paKind = 140 → k ≠ 5 → (∀ e1 : E5, e1.1 paKind = e.1 paKind → f5_Pa_wordStatement (Int32.ofNat s) e1 = rdB5 (f5_Pa_take e1) (fun e2 _ => rdB5 (f5_Pa_expression (Int32.ofNat s) (-1) e2) (fun e5 _ => f5_Pa_wordStatement_49 (Int32.ofNat s) (Int32.ofNat s) 0 k e5))) → sr5 (fun e' _ σ' => eS5 T X Bk N Z a f t s e' σ') (rdB5 (f5_Pa_addStatement_59 e) (fun e1 r2 => f5_Pa_statement r2 e1)) (g5_tellStatement_68 k σ) := fun k n142 n3 n0 k5 hw => by
    refine go k _ n142 (kA k) (fun e1 kk J L1 _ _ k30 r2 => ?_)
    rw [t68_5, r2, cs, st_w5 (by rw [kk]; exact n3) (by rw [kk]; exact n0), hw e1 kk]
    exact sr_w49 H J L1 (by rw [kk]; exact n142) k30 k5 k5 Iff.rfl
  have w97 : ∀ (k : Int32), e.1 paKind ≠ 142 → ¬ e.1 paKind = 153 → ¬ e.1 paKind = 140 → k ≠ 5 → k ≠ 6 → (∀ e1 : E5, e1.1 paKind = e.1 paKind → f5_Pa_wordStatement (Int32.ofNat s) e1 = rdB5 (f5_Pa_take e1) (fun e2 _ => rdB5 (f5_Pa_expression (Int32.ofNat s) (-1) e2) (fun e5 _ => f5_Pa_wordStatement_97 (Int32.ofNat s) 0 k e5))) → sr5 (fun e' _ σ' => eS5 T X Bk N Z a f t s e' σ') (rdB5 (f5_Pa_addStatement_59 e) (fun e1 r2 => f5_Pa_statement r2 e1)) (g5_tellStatement_164 k σ) := fun k n142 n3 n0 k5 k6 hw => by
    refine go k _ n142 (kB k) (fun e1 kk J L1 _ _ k30 r2 => ?_)
    rw [t164_5, r2, cs, st_w5 (by rw [kk]; exact n3) (by rw [kk]; exact n0), hw e1 kk]
    exact sr_w97 H J L1 (by rw [kk]; exact n142) k30 k5 k6 k5 k6
  have e52 : g5_tellStatement_52 σ = if e.1 paKind = 154 then g5_tellStatement_68 6 σ else g5_tellStatement_68 7 σ := by
    unfold g5_tellStatement_52
    rw [pb_e5, lr_wk5 H L (k := 154) (by decide) (by decide) rfl]
    by_cases c : e.1 paKind = 154
    · rw [if_pos c, if_pos c, if_neg ne105]
    · rw [if_neg c, if_neg c, if_pos rfl]
  have e133 : g5_tellStatement_133 σ = if e.1 paKind = 157 then g5_tellStatement_164 8 σ else if e.1 paKind = 158 then g5_tellStatement_164 9 σ else g5_tellStatement_164 10 σ := by
    unfold g5_tellStatement_133
    rw [pb_e5, lr_wk5 H L (k := 157) (by decide) (by decide) rfl, pb_e5, lr_wk5 H L (k := 158) (by decide) (by decide) rfl]
    by_cases c : e.1 paKind = 157
    · rw [if_pos c, if_pos c, if_neg ne105]
    · rw [if_neg c, if_neg c, if_pos rfl]
      by_cases c2 : e.1 paKind = 158
      · rw [if_pos c2, if_pos c2, if_neg ne105]
      · rw [if_neg c2, if_neg c2, if_pos rfl]
  unfold g5_tellStatement
  rw [so]
  by_cases k140 : e.1 paKind = 140
  · rw [if_pos (ko.mpr k140), pb_e5, tlM_5, as_59 (Or.inl k140)]
    refine go 2 _ (by rw [k140]; decide) (kq_tlM (kq_go kq_rf)) (fun e1 kk J L1 c1 c4 k30 r2 => ?_)
    rw [r2]
    exact sr_named H J L1 (kk.trans k140) k30 c4 c1
  rw [if_neg (fun q => k140 (ko.mp q)), pb_e5, lr_wk5 H L (k := 153) (by decide) (by decide) rfl]
  by_cases k153 : e.1 paKind = 153
  · rw [if_pos k153, if_neg ne105, pb_e5, tlL_5, as_59 (Or.inr (Or.inl k153))]
    refine go 1 _ (by rw [k153]; decide) (kq_tlL kq_rf) (fun e1 kk J L1 c1 c4 k30 r2 => ?_)
    rw [r2]
    unfold f5_Pa_statement
    rw [if_pos (kk.trans k153), rb_u5]
    exact sr_local H J L1 (by rw [kk, k153]; decide) k30
  rw [if_neg k153, if_pos rfl, pb_e5, lr_wk5 H L (k := 154) (by decide) (by decide) rfl]
  by_cases k154 : e.1 paKind = 154
  · rw [if_pos k154, if_neg ne105, e52, if_pos k154, as_59 (Or.inr (Or.inr (Or.inl k154)))]
    exact w49 6 (by rw [k154]; decide) k153 k140 (by decide) (fun e1 kk => ws_154 (kk.trans k154))
  rw [if_neg k154, if_pos rfl, pb_e5, lr_wk5 H L (k := 156) (by decide) (by decide) rfl]
  by_cases k156 : e.1 paKind = 156
  · rw [if_pos k156, if_neg ne105, e52, if_neg k154, as_59 (Or.inr (Or.inr (Or.inr (Or.inl k156))))]
    exact w49 7 (by rw [k156]; decide) k153 k140 (by decide) (fun e1 kk => ws_156 (kk.trans k156))
  rw [if_neg k156, if_pos rfl, pb_e5, lr_wk5 H L (k := 157) (by decide) (by decide) rfl]
  by_cases k157 : e.1 paKind = 157
  · rw [if_pos k157, if_neg ne105, e133, if_pos k157, as_59 (Or.inr (Or.inr (Or.inr (Or.inr (Or.inl k157)))))]
    exact w97 8 (by rw [k157]; decide) k153 k140 (by decide) (by decide) (fun e1 kk => ws_157 (kk.trans k157))
  rw [if_neg k157, if_pos rfl, pb_e5, lr_wk5 H L (k := 158) (by decide) (by decide) rfl]
  by_cases k158 : e.1 paKind = 158
  · rw [if_pos k158, if_neg ne105, e133, if_neg k157, if_pos k158, as_59 (Or.inr (Or.inr (Or.inr (Or.inr (Or.inr (Or.inl k158))))))]
    exact w97 9 (by rw [k158]; decide) k153 k140 (by decide) (by decide) (fun e1 kk => ws_158 (kk.trans k158))
  rw [if_neg k158, if_pos rfl, pb_e5, lr_wk5 H L (k := 159) (by decide) (by decide) rfl]
  by_cases k159 : e.1 paKind = 159
  · rw [if_pos k159, if_neg ne105, e133, if_neg k157, if_neg k158, as_59 (Or.inr (Or.inr (Or.inr (Or.inr (Or.inr (Or.inr k159))))))]
    exact w97 10 (by rw [k159]; decide) k153 k140 (by decide) (by decide) (fun e1 kk => ws_159 (kk.trans k159))
  rw [if_neg k159, if_pos rfl, pb_e5, as_50 k140 k153 k154 k156 k157 k158 k159, lr_rva5 H L, rdr_5]
  exact sr_r5 (by decide) (lr_fl5 H L).1 (lr_fl5 H L).2
end

end
section
set_option maxHeartbeats 1600000
/-! a function ends, side by side -/
theorem rF_f5 {σ : rS} {i : Nat} {x y : Int32} : ∃ (σ' : rS) (r25 : Nat → Int32), siU (riU σ 25 i x) 18 y = σ' ∧ gS5 σ' = (σ.1 15, σ.2.2.1 20, σ.1 16, σ.2.2.1 22, y, r25, σ.2.2.1 26, σ.2.2.1 27, σ.2.2.1 28, σ.1 41, σ.1 19, σ.2.2.1 30, σ.2.2.1 32, σ.1 42, σ.2.2.1 43, σ.2.2.1 45) ∧ (∀ k, r25 k = if k = i then x else σ.2.2.1 25 k) ∧ sx5 σ' = sx5 σ ∧ (σ'.1 2 = σ.1 2 ∧ σ'.1 10 = σ.1 10 ∧ σ'.1 11 = σ.1 11 ∧ σ'.1 46 = σ.1 46 ∧ σ'.1 47 = σ.1 47 ∧ σ'.1 13 = σ.1 13) := by
  refine ⟨_, _, rfl, rfl, fun k => ?_, rfl, rfl, rfl, rfl, rfl, rfl, rfl⟩
  show (riU σ 25 i x).2.2.1 25 k = _
  rw [ri34, if_pos rfl]
theorem dq_24 {p x : Int32} {e1 : E5} (d : dk5 p e1) : dq5 p (f5_Pa_closeBlock_24 x e1) := by
  have d86 : ∀ e9 : E5, dk5 p e9 → dq5 p (f5_Pa_closeBlock_86 e9) := fun e9 d9 => by
    unfold f5_Pa_closeBlock_86
    exact dq_b5 (dq_i5 (a := ()) d9) (fun e3 _ d3 => dq_b5 (dq_i5 (a := ()) d3) (fun e4 _ d4 => dq_i5 d4))
  unfold f5_Pa_closeBlock_24
  refine dq_b5 (dq_i5 (a := ()) d) (fun e2 _ d2 => ?_)
  rw [pb_e5]
  exact dq_f5 (dq_f5 (d86 e2 d2) (dq_b5 (dq_sa5 d2 (by decide)) (fun e3 _ d3 => dq_b5 (dq_i5 (a := ()) d3) (fun e4 _ d4 => d86 e4 d4)))) (dq_n5 d2 (by decide) (dq_i5 d2))
section
variable {T : T5} {X : X5} {Bk N : Nat} {Z : Int32} {a f t s : Nat} {e : E5} {σ : rS}
theorem sr_endF {fs : Nat} {tok : Int32} (H : TR5 T X Bk N Z) (h : iS5 T X Bk N Z a 1 f t s s e σ) (hk : e.1 paKind = 125) (htok : tok = Int32.ofNat (Bk + t)) : sr5 (fun e' _ σ' => ∃ a', a < a' ∧ oI5 T X Bk N Z a' s e' σ') (f5_Pa_closeBlock e) (tlF5 (fs + 2) tok σ) := by
  obtain ⟨L, ⟨G, ⟨w, O⟩, nc, fn, hi, bK, b0⟩, S⟩ := h
  obtain ⟨k1, k2, k3⟩ := bK
  have s42 : σ.1 42 = 1 := k2
  have e14 : e.1 paBlocks = 1 := k1
  have hA : g5_isAt 125 σ = 1 := by rw [lr_at5 H L (by decide) (by decide), if_pos hk]
  unfold tlF5
  rw [tS_5 (lr_ir5 L) s42 hA]
  obtain ⟨σ1, u1, u2, u3, u4⟩ := br_f5 (x := 0) (σ := σ)
  rw [u1]
  have L1 : LR5 T X Bk N Z (gE5 e) (gS5 σ1) a (0 + 1) e σ1 := lr_V5 L rfl ⟨rfl, rfl, rfl⟩ u3 u4
  unfold f5_Pa_closeBlock
  refine sr_b5 (sr_close H L1 (by decide) (by decide)) (fun e1 _ n1 Q1 => ?_) (kq_if kq_rf (kq_si (by decide) (by decide) (kq_ri kq_rf))) (fun p e1 _ d => dq_f5 (dq_24 d) (dq_24 d))
  obtain ⟨L2, tF, _⟩ := Q1
  generalize g5_close 125 σ1 = σ2 at L2 ⊢
  have hW := L2.2.1.2
  have e1b : e1.1 paBlocks = 1 := (tF.2 1014 (by decide) (by decide) (by decide)).trans e14
  have e11 : e1.2.1 1011 0 = -1 := by
    rw [tF.1]
    exact (k3 0 (by omega)).2.2.1 rfl
  have e1f : e1.1 coFunctions = Int32.ofNat f := (tF.2 512 (by decide) (by decide) (by decide)).trans O.2.2.1
  rw [if_neg (show ¬ e1.1 paBlocks ≤ 0 by rw [e1b]; decide), e1b, show (1 : Int32) - 1 = 0 from rfl, lr_ir5 L2, if_neg ne105]
  obtain ⟨e2, v1, v2, v3, v4⟩ := fe_f5 e1f O.1 e11
  rw [v1]
  obtain ⟨p1, p2, ⟨v, pF, pc⟩, pl⟩ := G
  have vf : v = f := by
    have y := congrArg Int32.toInt (pF.2.1.symm.trans O.2.2.1)
    have := pF.1
    have := O.1
    rw [ofn_i (by omega), ofn_i (by omega)] at y
    omega
  subst vf
  have s18 : σ2.1 18 = Int32.ofNat v := by
    have z : σ2.1 18 = σ1.1 18 := congrArg (fun W : W5 => W.2.2.2.2.1) hW
    have z2 : σ1.1 18 = σ.1 18 := congrArg (fun W : W5 => W.2.2.2.2.1) u2
    rw [z, z2]
    exact pF.2.2.1
  rw [s18, cl_5 (by have := O.1; omega), on_15 (by have := O.1; omega)]
  obtain ⟨σ3, r25, x1, x2, x3, x4, x5⟩ := rF_f5 (σ := σ2) (i := v) (x := tok) (y := Int32.ofNat (v + 1))
  rw [x1]
  have w2 : gE5 e2 = (e.1 509, e.2.1 1006, e.1 510, e.2.1 1007, Int32.ofNat (v + 1), e.2.1 1008, e.2.1 504, 0, e.2.1 1009, e.1 513, e.2.1 506, 0, e.2.1 1011, e.2.1 1013, 0, e.2.2) := by
    rw [v2, tF.1, tF.2 509 (by decide) (by decide) (by decide), tF.2 510 (by decide) (by decide) (by decide), tF.2 513 (by decide) (by decide) (by decide)]
  have hW2 : gS5 σ2 = (σ.1 15, σ.2.2.1 20, σ.1 16, σ.2.2.1 22, σ.1 18, σ.2.2.1 25, σ.2.2.1 26, σ.2.2.1 27, σ.2.2.1 28, σ.1 41, σ.1 19, σ.2.2.1 30, σ.2.2.1 32, 0, σ.2.2.1 43, σ.2.2.1 45) := hW.trans u2
  have y2 : gS5 σ3 = (σ.1 15, σ.2.2.1 20, σ.1 16, σ.2.2.1 22, Int32.ofNat (v + 1), r25, σ.2.2.1 26, σ.2.2.1 27, σ.2.2.1 28, σ.1 41, σ.1 19, σ.2.2.1 30, σ.2.2.1 32, 0, σ.2.2.1 43, σ.2.2.1 45) := by
    rw [x2]
    have q1 : σ2.1 15 = σ.1 15 := congrArg (fun W : W5 => W.1) hW2
    have q2 : σ2.2.2.1 20 = σ.2.2.1 20 := congrArg (fun W : W5 => W.2.1) hW2
    have q3 : σ2.1 16 = σ.1 16 := congrArg (fun W : W5 => W.2.2.1) hW2
    have q4 : σ2.2.2.1 22 = σ.2.2.1 22 := congrArg (fun W : W5 => W.2.2.2.1) hW2
    have q7 : σ2.2.2.1 26 = σ.2.2.1 26 := congrArg (fun W : W5 => w26_5 W) hW2
    have q8 : σ2.2.2.1 27 = σ.2.2.1 27 := congrArg (fun W : W5 => w27_5 W) hW2
    have q9 : σ2.2.2.1 28 = σ.2.2.1 28 := congrArg (fun W : W5 => w28_5 W) hW2
    have q10 : σ2.1 41 = σ.1 41 := congrArg (fun W : W5 => wfn5 W) hW2
    have q11 : σ2.1 19 = σ.1 19 := congrArg (fun W : W5 => wst5 W) hW2
    have q12 : σ2.2.2.1 30 = σ.2.2.1 30 := congrArg (fun W : W5 => w30_5 W) hW2
    have q13 : σ2.2.2.1 32 = σ.2.2.1 32 := congrArg (fun W : W5 => w32_5 W) hW2
    have q14 : σ2.1 42 = 0 := congrArg (fun W : W5 => wbl5 W) hW2
    have q15 : σ2.2.2.1 43 = σ.2.2.1 43 := congrArg (fun W : W5 => w43_5 W) hW2
    have q16 : σ2.2.2.1 45 = σ.2.2.1 45 := congrArg (fun W : W5 => w45_5 W) hW2
    rw [q1, q2, q3, q4, q7, q8, q9, q10, q11, q12, q13, q14, q15, q16]
  have r25s : ∀ k, r25 k = if k = v then Int32.ofNat (Bk + t) else σ.2.2.1 25 k := fun k => by
    have q6 : σ2.2.2.1 25 = σ.2.2.1 25 := congrArg (fun W : W5 => W.2.2.2.2.2.1) hW2
    rw [x3, htok, q6]
  have n2 : e2.1 paKind ≠ 143 := by rw [v4.2.1]; exact n1
  refine sr_i5 n2 ⟨a + 1, by omega, lr_V5 L2 v3 v4 x4 x5, ?_, congrArg (fun V : V5 => vow5 V) w2, congrArg (fun V : V5 => vin5 V) w2, congrArg (fun V : V5 => vbl5 V) w2, SS_k5 S (by rw [w2]; rfl) (by rw [w2]; rfl) (by rw [y2]; rfl) (by rw [y2]; rfl) (by rw [y2]; rfl)⟩
  rw [w2, y2]
  refine ⟨p1, p2, ⟨v + 1, ?_, fun k hk => ?_⟩, pl⟩
  · refine pN_a5 pF O.1 (by decide) fn.2.1 fn.2.2 ?_ ?_ (fun k => ?_) r25s
    · show Int32.ofNat (v + 1) = e.1 512 + 1
      rw [show e.1 512 = Int32.ofNat v from O.2.2.1, on_15 (by have := O.1; omega)]
    · show Int32.ofNat (v + 1) = σ.1 18 + 1
      rw [show σ.1 18 = Int32.ofNat v from pF.2.2.1, on_15 (by have := O.1; omega)]
    · show e.2.1 1008 k = _
      by_cases c : k = v
      · rw [if_pos c, c]; exact fn.1
      · rw [if_neg c]; rfl
  · show e.2.1 504 k = σ.2.2.1 26 k
    by_cases c : k = v
    · rw [c]; exact nc
    · exact pc k (by omega)
end

end
section
set_option maxHeartbeats 1600000
/-! calls looked at, side by side -/
/-- only the links (row 37) differ -/
def lk5 (σ σ' : rS) : Prop := σ'.1 = σ.1 ∧ (∀ k, k ≠ 37 → σ'.2.2.1 k = σ.2.2.1 k) ∧ σ'.2.2.2 = σ.2.2.2
theorem lk_rf {σ : rS} : lk5 σ σ := ⟨rfl, fun _ _ => rfl, rfl⟩
theorem lk_ri {σ0 σ : rS} {i : Nat} {x : Int32} (h : lk5 σ0 σ) : lk5 σ0 (riU σ 37 i x) := ⟨h.1, fun k hk => by rw [ri3 hk]; exact h.2.1 k hk, h.2.2⟩
theorem lk_if {σ0 A B : rS} {c : Prop} [Decidable c] (ha : lk5 σ0 A) (hb : lk5 σ0 B) : lk5 σ0 (if c then A else B) := by
  by_cases h : c
  · rw [if_pos h]; exact ha
  · rw [if_neg h]; exact hb
theorem lk_260 {σ0 σ : rS} {B : Int32 → rS → rS} {x y : Int32} (hB : ∀ x τ, lk5 σ0 τ → lk5 σ0 (B x τ)) (h : lk5 σ0 σ) : lk5 σ0 (g5_lookAtCalls_260 B x y σ) := by
  unfold g5_lookAtCalls_260 g5_lookAtCalls_290
  exact lk_if (hB _ _ (lk_ri h)) (hB _ _ (lk_ri h))
theorem lk_214 {σ0 : rS} {B : Int32 → rS → rS} (hB : ∀ x τ, lk5 σ0 τ → lk5 σ0 (B x τ)) : ∀ (m : Nat) (x y : Int32) (σ : rS), lk5 σ0 σ → lk5 σ0 (g5_lookAtCalls_214 B m x y σ)
  | 0, _, _, _, h => h
  | m + 1, x, y, σ, h => by
    rw [g5_lookAtCalls_214]
    exact lk_if (lk_if (lk_260 hB h) (lk_if (lk_214 hB m _ _ σ h) (lk_260 hB h))) (lk_260 hB h)
theorem lk_204 {σ0 : rS} : ∀ (m : Nat) (x : Int32) (σ : rS), lk5 σ0 σ → lk5 σ0 (g5_lookAtCalls_204 m x σ)
  | 0, _, _, h => h
  | m + 1, x, σ, h => by
    rw [g5_lookAtCalls_204]
    exact lk_if h (lk_214 (fun y τ ht => lk_204 m y τ ht) _ _ _ σ h)
theorem lk_s5 {σ σ' : rS} (h : lk5 σ σ') : fs5 σ σ' := by
  obtain ⟨h1, h2, h3⟩ := h
  refine ⟨?_, ?_, by rw [h1], by rw [h1], by rw [h1], by rw [h1], by rw [h1], by rw [h1]⟩
  · unfold sx5
    rw [h2 5 (by decide), h2 6 (by decide), h2 7 (by decide), h2 9 (by decide), h3]
  · unfold gS5
    rw [h1, h2 20 (by decide), h2 22 (by decide), h2 25 (by decide), h2 26 (by decide), h2 27 (by decide), h2 28 (by decide), h2 30 (by decide), h2 32 (by decide), h2 43 (by decide), h2 45 (by decide)]
theorem kq_lk {s σ σ' : rS} (h : lk5 σ σ') (k : kq5 s σ) : kq5 s σ' := fun z => by
  rw [h.1]
  exact k z
/-- a fault stays over the loops -/
theorem kq_l98 {s : rS} : ∀ (m : Nat) (x : Int32) (σ : rS), s.1 11 ≠ 0 → kq5 s σ → kq5 s (g5_lookAtCalls_98 m x σ)
  | 0, _, _, _, h => h
  | m + 1, x, σ, n, h => by
    have ir : g5_isRight σ = 0 := by
      unfold g5_isRight
      rw [if_neg (by rw [(h n).1]; exact n)]
    have k164 : ∀ y : Int32, kq5 s (g5_lookAtCalls_164 (g5_lookAtCalls_98 m) x y σ) := fun y => by
      unfold g5_lookAtCalls_164
      exact kq_l98 m _ _ n (kq_si (by decide) (by decide) h)
    rw [g5_lookAtCalls_98, pb_e5, ir, if_pos rfl]
    exact kq_if (kq_lk (lk_204 _ _ _ lk_rf) h) (kq_if (kq_if (kq_if (k164 _) (k164 _)) (k164 _)) (k164 _))
theorem kq_l2 {s : rS} : ∀ (m : Nat) (x : Int32) (σ : rS), s.1 11 ≠ 0 → kq5 s σ → kq5 s (g5_lookAtCalls_2 m x σ)
  | 0, _, _, _, h => h
  | m + 1, x, σ, n, h => by
    have ir : g5_isRight σ = 0 := by
      unfold g5_isRight
      rw [if_neg (by rw [(h n).1]; exact n)]
    rw [g5_lookAtCalls_2, pb_e5, pb_e5, ir, if_pos rfl]
    exact kq_if (kq_l98 _ _ _ n (kq_si (by decide) (by decide) h)) (kq_if (kq_l2 m _ _ n h) (kq_l2 m _ _ n h))
theorem fnd_u5 {v : Nat} {P : Nat → Prop} {r r' : Int32} (h : fnd5 v P r) (h' : fnd5 v P r') : r = r' := by
  rcases h with ⟨a, b⟩ | ⟨k, k1, k2, k3, k4⟩
  · rcases h' with ⟨a', b'⟩ | ⟨k', k1', k2', k3', k4'⟩
    · rw [a, a']
    · exact absurd k2' (b k' k1')
  · rcases h' with ⟨a', b'⟩ | ⟨k', k1', k2', k3', k4'⟩
    · exact absurd k2 (b' k k1)
    · have e : k = k' := by
        rcases Nat.lt_trichotomy k k' with q | q | q
        · exact absurd k2 (k3' k q)
        · exact q
        · exact absurd k2' (k3 k' q)
      rw [k4, k4', e]
section
variable {T : T5} {X : X5} {Bk N : Nat} {Z : Int32} {V : V5} {W : W5} {a s : Nat} {e : E5} {σ : rS}
/-- what is left at the end -/
def QE5 (T : T5) (X : X5) (Bk N : Nat) (Z : Int32) (e' : E5) (σ' : rS) : Prop := ∃ (s a : Nat) (V : V5) (W : W5), LR5 T X Bk N Z V W a 0 e' σ' ∧ nG5 T Bk N V W ∧ s ≤ 150 ∧ vst5 V = Int32.ofNat s ∧ wst5 W = Int32.ofNat s
theorem sr_107 {v : Nat} (H : TR5 T X Bk N Z) (G : nG5 T Bk N V W) (hF : V.2.2.2.2.1 = Int32.ofNat v) (hv10 : v ≤ 10) (h142 : T.2.1 a = 142) (s150 : s ≤ 150) (hs : vst5 V = Int32.ofNat s) (hs' : wst5 W = Int32.ofNat s) : ∀ (m mr i : Nat) (e : E5) (σ : rS), LR5 T X Bk N Z V W a 0 e σ → e.1 coMain = σ.1 40 → i ≤ v → v - i < mr → sr5 (fun e' _ σ' => QE5 T X Bk N Z e' σ') (f5_Pa_findCalled_107 m (Int32.ofNat i) e) (g5_lookAtCalls_98 mr (Int32.ofNat i) σ)
  | 0, _, _, _, _, _, _, _, _ => Or.inl rfl
  | m + 1, mr, i, e, σ, L, hm, hi, hmr => by
    have ih := sr_107 H G hF hv10 h142 s150 hs hs' m
    obtain ⟨mr, rfl⟩ : ∃ k, mr = k + 1 := ⟨mr - 1, by omega⟩
    obtain ⟨v', pF, pc⟩ := G.2.2.1
    have v10 := pF.1
    have vv : v' = v := by
      have y1 := congrArg Int32.toInt (pF.2.1.symm.trans hF)
      rw [ofn_i (by omega), ofn_i (by omega)] at y1
      omega
    subst vv
    have li := ofn_i (n := i) (by omega)
    have lv := ofn_i (n := v') (by omega)
    have ef : e.1 coFunctions = Int32.ofNat v' := (congrArg (fun V : V5 => V.2.2.2.2.1) L.2.1.1).trans hF
    have sf : σ.1 18 = Int32.ofNat v' := (congrArg (fun W : W5 => W.2.2.2.2.1) L.2.1.2).trans pF.2.2.1
    rw [f5_Pa_findCalled_107, g5_lookAtCalls_98, ef, sf]
    by_cases c : v' = i
    · have q : Int32.ofNat v' ≤ Int32.ofNat i := by rw [lei]; omega
      rw [if_pos q, if_pos q, pb_e5, lr_ir5 L, if_neg ne105]
      unfold f5_Pa_findCalled_166
      rw [hm]
      by_cases c1 : σ.1 40 = -1
      · rw [if_pos c1, if_pos c1, lr_rva5 H L, pb_e5, pb_e5]
        have aN : a = N - 1 := by
          have := (H.2.2.2.1 a L.2.2.1.1).mp (Or.inl h142)
          omega
        have pz : T.2.2.1 a = Z := by
          rw [aN]
          exact H.2.2.2.2.2.2.2.2 (by rw [← aN]; exact h142)
        have fz := lk_204 (σ0 := siU (siU σ 11 17) 12 ((siU σ 11 17).1 2)) fu5 0 _ lk_rf
        refine sr_r5 (by decide) ?_ ?_
        · rw [fz.1]; rfl
        · rw [fz.1, pz]
          exact L.1.2.2
      · rw [if_neg c1, if_neg c1]
        exact sr_i5 (lr_k5 L) ⟨s, a, V, W, lr_fe5 L fe_r5 (lk_s5 (lk_204 _ _ _ lk_rf)), G, s150, hs, hs'⟩
    · have q : ¬ Int32.ofNat v' ≤ Int32.ofNat i := by rw [lei]; omega
      have q10 : ¬ (10 : Int32) ≤ Int32.ofNat i := by
        have l10 : (10 : Int32).toInt = 10 := rfl
        rw [lei]; omega
      obtain ⟨t, ht, kt, en, rn⟩ := pF.2.2.2 i (by omega)
      have fn : e.2.1 1008 i = Int32.ofNat t := (congrArg (fun V : V5 => vfn5 V i) L.2.1.1).trans en
      have sn : σ.2.2.1 25 i = Int32.ofNat (Bk + t) := (congrArg (fun W : W5 => W.2.2.2.2.2.1 i) L.2.1.2).trans rn
      have hh := H.1
      have ci : (Int32.ofNat i).toNatClampNeg = i := cl_5 (by omega)
      have ct : (Int32.ofNat (Bk + t)).toNatClampNeg = Bk + t := cl_5 (by omega)
      have mW : g5_word 109 97 105 110 0 0 0 σ = mW5 := rfl
      have x8 : σ.2.2.2 8 (Bk + t) = X.2.2.2.2 (Bk + t) := by rw [← L.1.2.1]; rfl
      have x9 : σ.2.2.1 9 (Bk + t) = X.2.2.2.1 (Bk + t) := by rw [← L.1.2.1]; rfl
      have cc : e.2.1 504 i = σ.2.2.1 26 i := by
        have z1 : e.2.1 504 i = vnc5 V i := congrArg (fun V : V5 => vnc5 V i) L.2.1.1
        have z2 : σ.2.2.1 26 i = w26_5 W i := congrArg (fun W : W5 => w26_5 W i) L.2.1.2
        rw [z1, z2]
        exact pc i (by omega)
      have mn := H.2.2.2.2.2.2.2.1 t ht kt
      rw [if_neg q, if_neg q, if_neg q10, pb_e5, pb_e5, pb_e5, ci, show e.2.1 paFunctionNames i = Int32.ofNat t from fn, L.1.1, mn, sn, ct, mW, pb_e5 (x := mW5), x8, x9, show e.2.1 coNameCounts i = σ.2.2.1 26 i from cc, on_15 (by omega)]
      have nx : ∀ (σ1 : rS), LR5 T X Bk N Z V W a 0 e σ1 → e.1 coMain = σ1.1 40 → sr5 (fun e' _ σ' => QE5 T X Bk N Z e' σ') (f5_Pa_findCalled_107 m (Int32.ofNat (i + 1)) e) (g5_lookAtCalls_98 mr (Int32.ofNat (i + 1)) σ1) := fun σ1 L1 h1 => ih mr (i + 1) e σ1 L1 h1 (by omega) (by omega)
      have same : sr5 (fun e' _ σ' => QE5 T X Bk N Z e' σ') (f5_Pa_findCalled_107 m (Int32.ofNat (i + 1)) e) (g5_lookAtCalls_164 (g5_lookAtCalls_98 mr) (Int32.ofNat i) (σ.1 40) σ) := by
        unfold g5_lookAtCalls_164
        rw [pb_e5, pb_e5, on_15 (by omega)]
        exact nx _ (lr_fe5 L fe_r5 ⟨rfl, rfl, rfl, rfl, rfl, rfl, rfl, rfl⟩) hm
      by_cases cm : X.2.2.2.2 (Bk + t) = mW5 ∧ X.2.2.2.1 (Bk + t) = 0
      · rw [if_pos cm, if_neg ne105, if_pos ((lg_cmp_eq _ _).mpr cm.1), if_pos cm.2]
        by_cases c0 : σ.2.2.1 26 i = 0
        · rw [if_pos c0, if_pos c0]
          unfold stI5 g5_lookAtCalls_164
          rw [rdl_5, pb_e5, pb_e5, pb_e5, on_15 (by omega)]
          exact ih mr (i + 1) _ _ (lr_fe5 L ⟨rfl, rfl, rfl, rfl, rfl⟩ ⟨rfl, rfl, rfl, rfl, rfl, rfl, rfl, rfl⟩) rfl (by omega) (by omega)
        · rw [if_neg c0, if_neg c0]
          exact same
      · rw [if_neg cm, if_pos rfl]
        by_cases c8 : X.2.2.2.2 (Bk + t) = mW5
        · rw [if_pos ((lg_cmp_eq _ _).mpr c8), if_neg (fun h => cm ⟨c8, h⟩)]
          exact same
        · rw [if_neg (fun h => c8 ((lg_cmp_eq _ _).mp h))]
          exact same
end

end
section
set_option maxHeartbeats 1600000
/-! every call has its function and its count, side by side -/
section
variable {T : T5} {X : X5} {Bk N : Nat} {Z : Int32} {W : W5} {a s : Nat}
theorem sr_f2 {v : Nat} (H : TR5 T X Bk N Z) (hv10 : v ≤ 10) (h142 : T.2.1 a = 142) (s150 : s ≤ 150) (hs' : wst5 W = Int32.ofNat s) : ∀ (m mr i : Nat) (V : V5) (e : E5) (σ : rS), LR5 T X Bk N Z V W a 0 e σ → nG5 T Bk N V W → V.2.2.2.2.1 = Int32.ofNat v → vst5 V = Int32.ofNat s → (∀ j, i ≤ j → j < s → sS5 T X Bk N (vrs5 V) (w30_5 W) (w32_5 W) j) → e.1 coMain = -1 → i ≤ s → s - i < mr → sr5 (fun e' _ σ' => QE5 T X Bk N Z e' σ') (f5_Pa_findCalled_2 m (Int32.ofNat i) e) (g5_lookAtCalls_2 mr (Int32.ofNat i) σ)
  | 0, _, _, _, _, _, _, _, _, _, _, _, _, _ => Or.inl rfl
  | m + 1, mr, i, V, e, σ, L, G, hF, hs, hS, hm, hi, hmr => by
    have ih := sr_f2 H hv10 h142 s150 hs' m
    obtain ⟨mr, rfl⟩ : ∃ k, mr = k + 1 := ⟨mr - 1, by omega⟩
    have hh := H.1
    have li := ofn_i (n := i) (by omega)
    have ls := ofn_i (n := s) (by omega)
    have est : e.1 coStatements = Int32.ofNat s := (congrArg (fun V : V5 => vst5 V) L.2.1.1).trans hs
    have s19 : σ.1 19 = Int32.ofNat s := (congrArg (fun W : W5 => wst5 W) L.2.1.2).trans hs'
    have ci : (Int32.ofNat i).toNatClampNeg = i := cl_5 (by omega)
    rw [f5_Pa_findCalled_2, g5_lookAtCalls_2]
    dsimp only [pb5]
    rw [est, s19]
    by_cases c : s = i
    · have q : Int32.ofNat s ≤ Int32.ofNat i := by rw [lei]; omega
      rw [if_pos q, if_pos q]
      exact sr_107 H G hF hv10 h142 s150 hs hs' fu5 fu5 0 e (siU σ 40 (-1)) (lr_fe5 L fe_r5 ⟨rfl, rfl, rfl, rfl, rfl, rfl, rfl, rfl⟩) hm (by omega) (by unfold fu5; omega)
    have q : ¬ Int32.ofNat s ≤ Int32.ofNat i := by rw [lei]; omega
    have i1 : i + 1 ≤ s := by omega
    have i2 : s - (i + 1) < mr := by omega
    have er : e.2.1 506 = vrs5 V := congrArg (fun V : V5 => vrs5 V) L.2.1.1
    have c0 : cl5 (Int32.ofNat i) 0 e = vrs5 V (11 * i) := by
      have z := cl_55 (s := i) (c := 0) est (by omega) (by omega) (by decide)
      rw [er] at z
      exact z
    have c4 : cl5 (Int32.ofNat i) 4 e = vrs5 V (11 * i + 4) := by
      have z := cl_55 (s := i) (c := 4) est (by omega) (by omega) (by decide)
      rw [er] at z
      exact z
    have c5' : cl5 (Int32.ofNat i) 5 e = vrs5 V (11 * i + 5) := by
      have z := cl_55 (s := i) (c := 5) est (by omega) (by omega) (by decide)
      rw [er] at z
      exact z
    have w30 : σ.2.2.1 30 i = w30_5 W i := congrArg (fun W : W5 => w30_5 W i) L.2.1.2
    have w32 : σ.2.2.1 32 i = w32_5 W i := congrArg (fun W : W5 => w32_5 W i) L.2.1.2
    have sj := hS i (Nat.le_refl i) (by omega)
    rw [if_neg q, if_neg q, c0, ci, w30, on_15 (by omega)]
    by_cases k5 : vrs5 V (11 * i) = 5
    · obtain ⟨t, ht, kt, r5, r32, hc⟩ := sj.2.2 k5
      obtain ⟨v', pF, pc⟩ := G.2.2.1
      have v10 := pF.1
      have vv : v' = v := by
        have y1 := congrArg Int32.toInt (pF.2.1.symm.trans hF)
        rw [ofn_i (by omega), ofn_i (by omega)] at y1
        omega
      subst vv
      have sf : σ.1 18 = Int32.ofNat v' := (congrArg (fun W : W5 => W.2.2.2.2.1) L.2.1.2).trans pF.2.2.1
      have F := fN_5 H pF (l1 := vln5 V 1008) (by rw [G.2.2.2.2.2.1]; exact pF.1) (by rw [G.2.2.2.2.2.1]; decide) ht kt
      have q2 := fun k hk => pN_s5 H L.1.2.1 pF (k := k) hk (y := Int32.ofNat (Bk + t)) rfl ht kt
      have r25 : σ.2.2.1 25 = W.2.2.2.2.2.1 := congrArg (fun W : W5 => W.2.2.2.2.2.1) L.2.1.2
      rw [← r25] at q2
      have z := fu2_5 (σ := σ) (tok := Int32.ofNat (Bk + t)) (P := fun k => dn5 T (vfn5 V k).toInt.toNat t) (by omega) sf q2 fu5 0 (by omega) (by unfold fu5; omega) (fun j q => absurd q (by omega))
      have F' : fnd5 v' (fun k => dn5 T (vfn5 V k).toInt.toNat t) (g5_functionOf (Int32.ofNat (Bk + t)) σ) := by
        unfold g5_functionOf
        rcases z with ⟨j, j1, j2, j3, j4⟩ | ⟨j1, j2⟩
        · exact Or.inr ⟨j, j1, j2, j3, j4⟩
        · exact Or.inl ⟨j2, j1⟩
      have fu := fnd_u5 F' F
      have en : f5_Ta_findName (tq5 e) (e.2.1 paFunctionNames) (e.2.2 paFunctionNames) (e.1 coFunctions) (Int32.ofNat t) = f5_Ta_findName T (vfn5 V) (vln5 V 1008) V.2.2.2.2.1 (Int32.ofNat t) := by
        have z1 : e.2.1 1008 = vfn5 V := congrArg (fun V : V5 => vfn5 V) L.2.1.1
        have z2 : e.2.2 = vln5 V := congrArg (fun V : V5 => vln5 V) L.2.1.1
        have z3 : e.1 512 = V.2.2.2.2.1 := congrArg (fun V : V5 => V.2.2.2.2.1) L.2.1.1
        rw [L.1.1, show e.2.1 paFunctionNames = vfn5 V from z1, z2, show e.1 coFunctions = V.2.2.2.2.1 from z3]
      unfold g5_calledBy
      rw [if_pos k5, if_pos (sj.1.mp k5), lr_ir5 L, if_neg ne105, ci, w32, r32, c5', r5, en, fu]
      generalize f5_Ta_findName T (vfn5 V) (vln5 V 1008) V.2.2.2.2.1 (Int32.ofNat t) = r at F ⊢
      have ct : (Int32.ofNat (Bk + t)).toNatClampNeg = Bk + t := cl_5 (by omega)
      have flt : ∀ x : Int32, sr5 (fun e' _ σ' => QE5 T X Bk N Z e' σ') (f5_Pa_findCalled_82 (f5_Pa_findCalled_2 m) (Int32.ofNat i) (Int32.ofNat t) x e) (g5_lookAtCalls_58 (g5_lookAtCalls_2 mr) (Int32.ofNat i) (Int32.ofNat (Bk + t)) x σ) := fun x => by
        unfold f5_Pa_findCalled_82 g5_lookAtCalls_58 g5_lookAtCalls_74
        rw [lr_rv5 H L ht]
        dsimp only [pb5]
        have p6 : (siU σ 11 16).2.2.1 6 (Int32.ofNat (Bk + t)).toNatClampNeg = T.2.2.1 t := by
          show σ.2.2.1 6 (Int32.ofNat (Bk + t)).toNatClampNeg = _
          rw [ct, H.2.1 t ht, ← L.1.2.1]
          rfl
        rw [p6]
        exact sr_q5 (σ1 := siU (siU σ 11 16) 12 (T.2.2.1 t)) (by decide) rfl rfl (kq_l2 _ _ _ (by show ¬ (16 : Int32) = 0; decide) (kq_ri kq_rf))
      by_cases rm : r = -1
      · rw [if_pos rm, if_pos rm]
        exact flt r
      · rw [if_neg rm, if_neg rm]
        obtain ⟨k, k1, kr⟩ : ∃ k, k < v' ∧ r = Int32.ofNat k := by
          rcases F with ⟨q, _⟩ | ⟨k, k1, _, _, k2⟩
          · exact absurd q rm
          · exact ⟨k, k1, k2⟩
        have cr : r.toNatClampNeg = k := by rw [kr, cl_5 (by omega)]
        have z1 : e.2.1 504 k = vnc5 V k := congrArg (fun V : V5 => vnc5 V k) L.2.1.1
        have z2 : σ.2.2.1 26 k = w26_5 W k := congrArg (fun W : W5 => w26_5 W k) L.2.1.2
        have z3 : vnc5 V k = w26_5 W k := pc k k1
        rw [cr, c4, show e.2.1 coNameCounts k = vnc5 V k from z1, z2, hc σ L.1.2.1, ← z3]
        by_cases ce : vnc5 V k = vrs5 V (11 * i + 4)
        · rw [if_pos ce, if_pos ce]
          unfold f5_Pa_findCalled_89 g5_lookAtCalls_74
          rw [stc_5, rdl_5]
          dsimp only [pb5]
          rw [on_15 (by omega)]
          have L2 := lr_st5 (s := Int32.ofNat i) (c := 5) (x := r) (lr_395 (i := (Int32.ofNat (Bk + t)).toNatClampNeg) (x := 300 + r) L)
          have rr := rst_5 (s := i) (c := 5) (x := r) (V := V) hs (by omega) (by omega) (by decide)
          refine ih mr (i + 1) _ _ _ L2 (nG_v5 G) hF hs (fun j j1 j2 => ?_) (by rw [stc_15.1]; exact hm) i1 i2
          have rj : ∀ c, c ≤ 10 → rst5 (Int32.ofNat i) 5 r V (11 * j + c) = vrs5 V (11 * j + c) := fun c hc => by
            show rst5 (Int32.ofNat i) (Int32.ofNat 5) r V (11 * j + c) = _
            rw [rr]
            exact if_neg (by omega)
          exact sS_k5 (hS j (by omega) j2) (rj 0 (by decide)) (rj 4 (by decide)) (rj 5 (by decide)) rfl rfl
        · rw [if_neg ce, if_neg ce]
          exact flt r
    · rw [if_neg k5, if_neg (fun h => k5 (sj.1.mpr h))]
      exact ih mr (i + 1) V e σ L G hF hs (fun j j1 j2 => hS j (by omega) j2) hm i1 i2
end

end
