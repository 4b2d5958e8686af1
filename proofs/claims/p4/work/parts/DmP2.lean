set_option maxHeartbeats 1600000
/-! a statement whole -/
theorem sr_c5 {α β : Type} {Q : E5 → α → rS → Prop} {Q' : E5 → β → rS → Prop} {m : R5 α} {k : E5 → α → R5 β} {σ1 σ2 : rS} (h : sr5 Q m σ1) (hk : ∀ e a, e.1 paKind ≠ 143 → Q e a σ1 → sr5 Q' (k e a) σ2) (hq : kq5 σ1 σ2) (hm : ∀ p e a, m = .inl (e, a) → dk5 p e → k e a = .inr (0, 0) ∨ k e a = .inr (1, p)) : sr5 Q' (rdB5 m k) σ2 := by
  rcases h with h | ⟨e, a, h, n, q⟩ | ⟨f, p, f0, s1, s2, h⟩
  · rw [h]; exact Or.inl rfl
  · rw [h]; exact hk e a n q
  · obtain ⟨y1, y2⟩ := hq (by rw [s1]; exact f0)
    rw [s1] at y1
    rw [s2] at y2
    rcases h with h | ⟨f1, e, a, h, n, q⟩
    · rw [h]; exact Or.inr (Or.inr ⟨f, p, f0, y1, y2, Or.inl rfl⟩)
    · rcases hm p e a h ⟨n, q⟩ with w | w
      · rw [h]; exact Or.inl w
      · rw [h]; exact Or.inr (Or.inr ⟨f, p, f0, y1, y2, Or.inl (by rw [f1]; exact w)⟩)
theorem ks_59 {e : E5} {s : Nat} (hs : e.1 coStatements = Int32.ofNat s) (hs2 : s ≤ 150) : ∀ e' r, f5_Pa_addStatement_59 e = .inl (e', r) → e'.1 paKind = e.1 paKind := by
  intro e' r h
  unfold f5_Pa_addStatement_59 at h
  by_cases c : e.1 coStatements < 150
  · rw [if_pos c] at h
    unfold f5_Pa_addStatement_82 at h
    obtain ⟨e1, v1, v2, v3⟩ : ∃ e1 : E5, f5_Co_addStatement e = .inl (e1, e.1 513) ∧ e1.1 paKind = e.1 paKind ∧ e1.1 coStatements = Int32.ofNat (s + 1) := ⟨_, rfl, rfl, by
      show e.1 513 + 1 = _
      rw [show e.1 513 = Int32.ofNat s from hs, on_15 (by omega)]⟩
    rw [v1, rdl_5] at h
    have q : ∀ x, (f5_Pa_addStatement_107 (e.1 513) x e1 = .inl (e', r)) → e'.1 paKind = e.1 paKind := fun x hx => by
      obtain ⟨e2, w1, w2⟩ := aS_107 (s1 := e.1 513) (s0 := x) v3 (by omega)
      rw [w1] at hx
      have y := (Prod.mk.inj (Sum.inl.inj hx)).1
      rw [← y, w2.1, v2]
    by_cases c2 : e1.1 paBlocks ≤ 0
    · rw [if_pos c2] at h; exact q _ h
    · rw [if_neg c2] at h; exact q _ h
  · rw [if_neg c] at h; cases h
theorem kq_tlL {s9 σ : rS} {x : Int32} (h : kq5 s9 σ) : kq5 s9 (tlL5 x σ) := by
  unfold tlL5
  refine kq_pb (kq_pm (kq_pb (kq_pb (kq_pm (kq_pb (kq_pb (kq_if ?_ (kq_pb (kq_pb (kq_pb ?_))))))))))
  · exact kq_sign (kq_expression (kq_ri (kq_sign (kq_fresh (kq_go h)))))
  · exact kq_ri (kq_ri (kq_ri (kq_sign (kq_expression (kq_ri (kq_sign (kq_fresh (kq_go h))))))))
section
variable {T : T5} {X : X5} {Bk N : Nat} {Z : Int32} {V : V5} {W : W5} {a b f t s : Nat} {e : E5} {σ : rS}
theorem t68_5 {k : Int32} : g5_tellStatement_68 k σ = g5_openBlock (g5_newStatement k σ).2 0 (g5_open 123 (g5_expression (riU (g5_go (g5_newStatement k σ).1) 32 (g5_newStatement k σ).2.toNatClampNeg ((g5_go (g5_newStatement k σ).1).1 10))).1) := by
  unfold g5_tellStatement_68
  rw [pm_e5, pb_e5, pb_e5, pm_e5, pb_e5, pb_e5]
theorem t164_5 {k : Int32} : g5_tellStatement_164 k σ = g5_sign 59 (g5_expression (riU (g5_go (g5_newStatement k σ).1) 32 (g5_newStatement k σ).2.toNatClampNeg ((g5_go (g5_newStatement k σ).1).1 10))).1 := by
  unfold g5_tellStatement_164
  rw [pm_e5, pb_e5, pb_e5, pm_e5, pb_e5]
theorem ws_154 {x : Int32} (h : e.1 paKind = 154) : f5_Pa_wordStatement x e = rdB5 (f5_Pa_take e) (fun e2 _ => rdB5 (f5_Pa_expression x (-1) e2) (fun e5 _ => f5_Pa_wordStatement_49 x x 0 6 e5)) := by
  unfold f5_Pa_wordStatement
  rw [pb_e5, h]
  rfl
theorem ws_156 {x : Int32} (h : e.1 paKind = 156) : f5_Pa_wordStatement x e = rdB5 (f5_Pa_take e) (fun e2 _ => rdB5 (f5_Pa_expression x (-1) e2) (fun e5 _ => f5_Pa_wordStatement_49 x x 0 7 e5)) := by
  unfold f5_Pa_wordStatement
  rw [pb_e5, h]
  rfl
theorem ws_157 {x : Int32} (h : e.1 paKind = 157) : f5_Pa_wordStatement x e = rdB5 (f5_Pa_take e) (fun e2 _ => rdB5 (f5_Pa_expression x (-1) e2) (fun e5 _ => f5_Pa_wordStatement_97 x 0 8 e5)) := by
  unfold f5_Pa_wordStatement
  rw [pb_e5, h]
  rfl
theorem ws_158 {x : Int32} (h : e.1 paKind = 158) : f5_Pa_wordStatement x e = rdB5 (f5_Pa_take e) (fun e2 _ => rdB5 (f5_Pa_expression x (-1) e2) (fun e5 _ => f5_Pa_wordStatement_97 x 0 9 e5)) := by
  unfold f5_Pa_wordStatement
  rw [pb_e5, h]
  rfl
theorem ws_159 {x : Int32} (h : e.1 paKind = 159) : f5_Pa_wordStatement x e = rdB5 (f5_Pa_take e) (fun e2 _ => rdB5 (f5_Pa_expression x (-1) e2) (fun e5 _ => f5_Pa_wordStatement_97 x 0 10 e5)) := by
  unfold f5_Pa_wordStatement
  rw [pb_e5, h]
  rfl
theorem st_w5 {x : Int32} (h3 : ¬ e.1 paKind = 153) (h0 : ¬ e.1 paKind = 140) : f5_Pa_statement x e = f5_Pa_wordStatement x e := by
  unfold f5_Pa_statement
  rw [if_neg h3, if_neg h0, rb_u5]
theorem as_59 (h : e.1 paKind = 140 ∨ e.1 paKind = 153 ∨ e.1 paKind = 154 ∨ e.1 paKind = 156 ∨ e.1 paKind = 157 ∨ e.1 paKind = 158 ∨ e.1 paKind = 159) : f5_Pa_addStatement e = f5_Pa_addStatement_59 e := by
  unfold f5_Pa_addStatement
  rcases h with h | h | h | h | h | h | h <;> rw [h] <;> rfl
theorem as_50 (h0 : ¬ e.1 paKind = 140) (h3 : ¬ e.1 paKind = 153) (h4 : ¬ e.1 paKind = 154) (h6 : ¬ e.1 paKind = 156) (h7 : ¬ e.1 paKind = 157) (h8 : ¬ e.1 paKind = 158) (h9 : ¬ e.1 paKind = 159) : f5_Pa_addStatement e = .inr (rv5 2 (e.1 paAt) e) := by
  unfold f5_Pa_addStatement f5_Pa_addStatement_50
  rw [if_neg h0, if_neg h3, if_neg h4]
  by_cases c : e.1 paKind < 156
  · rw [if_pos c]
  · rw [if_neg c]
    have q : ¬ e.1 paKind ≤ 159 := fun q => by
      rw [lei] at q
      rw [lti] at c
      have l1 : (156 : Int32).toInt = 156 := rfl
      have l2 : (157 : Int32).toInt = 157 := rfl
      have l3 : (158 : Int32).toInt = 158 := rfl
      have l4 : (159 : Int32).toInt = 159 := rfl
      have y : (e.1 paKind).toInt = 156 ∨ (e.1 paKind).toInt = 157 ∨ (e.1 paKind).toInt = 158 ∨ (e.1 paKind).toInt = 159 := by omega
      rcases y with y | y | y | y
      · exact h6 (Int32.toInt_inj.mp (y.trans l1.symm))
      · exact h7 (Int32.toInt_inj.mp (y.trans l2.symm))
      · exact h8 (Int32.toInt_inj.mp (y.trans l3.symm))
      · exact h9 (Int32.toInt_inj.mp (y.trans l4.symm))
    rw [if_neg q]
theorem sr_stm (H : TR5 T X Bk N Z) (h : iS5 T X Bk N Z a b f t s s e σ) : sr5 (fun e' _ σ' => eS5 T X Bk N Z a f t s e' σ') (rdB5 (f5_Pa_addStatement e) (fun e1 r2 => f5_Pa_statement r2 e1)) (g5_tellStatement σ) := by
  have L := h.1
  have s150 : s ≤ 150 := h.2.2.1
  have est : e.1 coStatements = Int32.ofNat s := h.2.2.2.1
  obtain ⟨so, _, _⟩ := lr_so5 H L
  have ko := (kd_o5 (lr_kd5 H L)).2.1
  have go : ∀ (k : Int32) (σ2 : rS), e.1 paKind ≠ 142 → kq5 (g5_newStatement k σ).1 σ2 → (∀ e1 : E5, e1.1 paKind = e.1 paKind → jS5 T X Bk N b f t s (gE5 e1) (gS5 (g5_newStatement k σ).1) → LR5 T X Bk N Z (gE5 e1) (gS5 (g5_newStatement k σ).1) a b e1 (g5_newStatement k σ).1 → vrs5 (gE5 e1) (11 * s + 1) = 0 → vrs5 (gE5 e1) (11 * s + 4) = 0 → w30_5 (gS5 (g5_newStatement k σ).1) s = k → (g5_newStatement k σ).2 = Int32.ofNat s → sr5 (fun e' _ σ' => eS5 T X Bk N Z a f t s e' σ') (f5_Pa_statement (Int32.ofNat s) e1) σ2) → sr5 (fun e' _ σ' => eS5 T X Bk N Z a f t s e' σ') (rdB5 (f5_Pa_addStatement_59 e) (fun e1 r2 => f5_Pa_statement r2 e1)) σ2 := fun k σ2 n142 hq hk => by
    refine sr_c5 (sr_addS (k := k) H h n142) (fun e1 r n1 Q => ?_) hq (fun p e1 r hm d => ?_)
    · obtain ⟨rfl, r2, s15, I, ⟨c1, c4⟩, k30, kk⟩ := Q
      exact hk e1 kk ⟨I.2.1, I.2.2, s15⟩ I.1 c1 c4 k30 r2
    · exact absurd ((ks_59 est s150 e1 r hm).symm.trans d.1) (lr_k5 L)
  have kA : ∀ k : Int32, kq5 (g5_newStatement k σ).1 (g5_tellStatement_68 k σ) := fun k => by
    rw [t68_5]; exact kq_openBlock (kq_open (kq_expression (kq_ri (kq_go kq_rf))))
  have kB : ∀ k : Int32, kq5 (g5_newStatement k σ).1 (g5_tellStatement_164 k σ) := fun k => by
    rw [t164_5]; exact kq_sign (kq_expression (kq_ri (kq_go kq_rf)))
  have cs : (Int32.ofNat s).toNatClampNeg = s := cl_5 (by omega)
  have w49 : ∀ (k : Int32), e.1 paKind ≠ 142 → ¬ e.1 paKind = 153 → ¬ e.1 paKind = 140 → k ≠ 5 → (∀ e1 : E5, e1.1 paKind = e.1 paKind → f5_Pa_wordStatement (Int32.ofNat s) e1 = rdB5 (f5_Pa_take e1) (fun e2 _ => rdB5 (f5_Pa_expression (Int32.ofNat s) (-1) e2) (fun e5 _ => f5_Pa_wordStatement_49 (Int32.ofNat s) (Int32.ofNat s) 0 k e5))) → sr5 (fun e' _ σ' => eS5 T X Bk N Z a f t s e' σ') (rdB5 (f5_Pa_addStatement_59 e) (fun e1 r2 => f5_Pa_statement r2 e1)) (g5_tellStatement_68 k σ) := fun k n142 n3 n0 k5 hw => by
    refine go k _ n142 (kA k) (fun e1 kk J L1 _ _ k30 r2 => ?_)
    rw [t68_5, r2, cs, st_w5 (by rw [kk]; exact n3) (by rw [kk]; exact n0), hw e1 kk]
    exact sr_w49 H J L1 (by rw [kk]; exact n142) k30 k5 k5 Iff.rfl
  have w97 : ∀ (k : Int32), e.1 paKind ≠ 142 → ¬ e.1 paKind = 153 → ¬ e.1 paKind = 140 → k ≠ 5 → k ≠ 6 → (∀ e1 : E5, e1.1 paKind = e.1 paKind → f5_Pa_wordStatement (Int32.ofNat s) e1 = rdB5 (f5_Pa_take e1) (fun e2 _ => rdB5 (f5_Pa_expression (Int32.ofNat s) (-1) e2) (fun e5 _ => f5_Pa_wordStatement_97 (Int32.ofNat s) 0 k e5))) → sr5 (fun e' _ σ' => eS5 T X Bk N Z a f t s e' σ') (rdB5 (f5_Pa_addStatement_59 e) (fun e1 r2 => f5_Pa_statement r2 e1)) (g5_tellStatement_164 k σ) := fun k n142 n3 n0 k5 k6 hw => by
    refine go k _ n142 (kB k) (fun e1 kk J L1 _ _ k30 r2 => ?_)
    rw [t164_5, r2, cs, st_w5 (by rw [kk]; exact n3) (by rw [kk]; exact n0), hw e1 kk]
    exact sr_w97 H J L1 (by rw [kk]; exact n142) k30 k5 k6 k5 k6
  have e52 : g5_tellStatement_52 σ = if e.1 paKind = 154 then g5_tellStatement_68 6 σ else g5_tellStatement_68 7 σ := by
    unfold g5_tellStatement_52
    rw [pb_e5, lr_wk5 H L (k := 154) (by decide) (by decide) rfl]
    by_cases c : e.1 paKind = 154
    · rw [if_pos c, if_pos c, if_neg ne105]
    · rw [if_neg c, if_neg c, if_pos rfl]
  have e133 : g5_tellStatement_133 σ = if e.1 paKind = 157 then g5_tellStatement_164 8 σ else if e.1 paKind = 158 then g5_tellStatement_164 9 σ else g5_tellStatement_164 10 σ := by
    unfold g5_tellStatement_133
    rw [pb_e5, lr_wk5 H L (k := 157) (by decide) (by decide) rfl, pb_e5, lr_wk5 H L (k := 158) (by decide) (by decide) rfl]
    by_cases c : e.1 paKind = 157
    · rw [if_pos c, if_pos c, if_neg ne105]
    · rw [if_neg c, if_neg c, if_pos rfl]
      by_cases c2 : e.1 paKind = 158
      · rw [if_pos c2, if_pos c2, if_neg ne105]
      · rw [if_neg c2, if_neg c2, if_pos rfl]
  unfold g5_tellStatement
  rw [so]
  by_cases k140 : e.1 paKind = 140
  · rw [if_pos (ko.mpr k140), pb_e5, tlM_5, as_59 (Or.inl k140)]
    refine go 2 _ (by rw [k140]; decide) (kq_tlM (kq_go kq_rf)) (fun e1 kk J L1 c1 c4 k30 r2 => ?_)
    rw [r2]
    exact sr_named H J L1 (kk.trans k140) k30 c4 c1
  rw [if_neg (fun q => k140 (ko.mp q)), pb_e5, lr_wk5 H L (k := 153) (by decide) (by decide) rfl]
  by_cases k153 : e.1 paKind = 153
  · rw [if_pos k153, if_neg ne105, pb_e5, tlL_5, as_59 (Or.inr (Or.inl k153))]
    refine go 1 _ (by rw [k153]; decide) (kq_tlL kq_rf) (fun e1 kk J L1 c1 c4 k30 r2 => ?_)
    rw [r2]
    unfold f5_Pa_statement
    rw [if_pos (kk.trans k153), rb_u5]
    exact sr_local H J L1 (by rw [kk, k153]; decide) k30
  rw [if_neg k153, if_pos rfl, pb_e5, lr_wk5 H L (k := 154) (by decide) (by decide) rfl]
  by_cases k154 : e.1 paKind = 154
  · rw [if_pos k154, if_neg ne105, e52, if_pos k154, as_59 (Or.inr (Or.inr (Or.inl k154)))]
    exact w49 6 (by rw [k154]; decide) k153 k140 (by decide) (fun e1 kk => ws_154 (kk.trans k154))
  rw [if_neg k154, if_pos rfl, pb_e5, lr_wk5 H L (k := 156) (by decide) (by decide) rfl]
  by_cases k156 : e.1 paKind = 156
  · rw [if_pos k156, if_neg ne105, e52, if_neg k154, as_59 (Or.inr (Or.inr (Or.inr (Or.inl k156))))]
    exact w49 7 (by rw [k156]; decide) k153 k140 (by decide) (fun e1 kk => ws_156 (kk.trans k156))
  rw [if_neg k156, if_pos rfl, pb_e5, lr_wk5 H L (k := 157) (by decide) (by decide) rfl]
  by_cases k157 : e.1 paKind = 157
  · rw [if_pos k157, if_neg ne105, e133, if_pos k157, as_59 (Or.inr (Or.inr (Or.inr (Or.inr (Or.inl k157)))))]
    exact w97 8 (by rw [k157]; decide) k153 k140 (by decide) (by decide) (fun e1 kk => ws_157 (kk.trans k157))
  rw [if_neg k157, if_pos rfl, pb_e5, lr_wk5 H L (k := 158) (by decide) (by decide) rfl]
  by_cases k158 : e.1 paKind = 158
  · rw [if_pos k158, if_neg ne105, e133, if_neg k157, if_pos k158, as_59 (Or.inr (Or.inr (Or.inr (Or.inr (Or.inr (Or.inl k158))))))]
    exact w97 9 (by rw [k158]; decide) k153 k140 (by decide) (by decide) (fun e1 kk => ws_158 (kk.trans k158))
  rw [if_neg k158, if_pos rfl, pb_e5, lr_wk5 H L (k := 159) (by decide) (by decide) rfl]
  by_cases k159 : e.1 paKind = 159
  · rw [if_pos k159, if_neg ne105, e133, if_neg k157, if_neg k158, as_59 (Or.inr (Or.inr (Or.inr (Or.inr (Or.inr (Or.inr k159))))))]
    exact w97 10 (by rw [k159]; decide) k153 k140 (by decide) (by decide) (fun e1 kk => ws_159 (kk.trans k159))
  rw [if_neg k159, if_pos rfl, pb_e5, as_50 k140 k153 k154 k156 k157 k158 k159, lr_rva5 H L, rdr_5]
  exact sr_r5 (by decide) (lr_fl5 H L).1 (lr_fl5 H L).2
end
