set_option maxHeartbeats 1600000
/-! the whole reading, side by side -/
def sf5 {α : Type} (Q : E5 → α → rS → Prop) (r : R5 α) (σ : rS) : Prop := r = .inr (0, 0) ∨ (∃ e a, r = .inl (e, a) ∧ Q e a σ) ∨ (∃ f p, f ≠ 0 ∧ σ.1 11 = f ∧ σ.1 12 = p ∧ r = .inr (f, p))
theorem sf_o5 {α : Type} {Q : E5 → α → rS → Prop} {r : R5 α} {σ : rS} (h : sr5 Q r σ) (hn : ∀ e a, r = .inl (e, a) → e.1 paKind ≠ 143) : sf5 Q r σ := by
  rcases h with h | ⟨e, a, h, n, q⟩ | ⟨f, p, f0, s1, s2, h | ⟨_, e, a, h, n, _⟩⟩
  · exact Or.inl h
  · exact Or.inr (Or.inl ⟨e, a, h, q⟩)
  · exact Or.inr (Or.inr ⟨f, p, f0, s1, s2, h⟩)
  · exact absurd n (hn e a h)
theorem sf_b5 {α β : Type} {Q : E5 → α → rS → Prop} {Q' : E5 → β → rS → Prop} {m : R5 α} {k : E5 → α → R5 β} {σ1 σ2 : rS} (h : sr5 Q m σ1) (hk : ∀ e a, m = .inl (e, a) → e.1 paKind ≠ 143 → Q e a σ1 → sf5 Q' (k e a) σ2) (hq : kq5 σ1 σ2) (hm : ∀ p e a, m = .inl (e, a) → dk5 p e → k e a = .inr (0, 0) ∨ k e a = .inr (1, p)) : sf5 Q' (rdB5 m k) σ2 := by
  rcases h with h | ⟨e, a, h, n, q⟩ | ⟨f, p, f0, s1, s2, h⟩
  · rw [h]; exact Or.inl rfl
  · have z := hk e a h n q
    rw [h]; exact z
  · obtain ⟨y1, y2⟩ := hq (by rw [s1]; exact f0)
    rw [s1] at y1
    rw [s2] at y2
    rcases h with h | ⟨f1, e, a, h, n, q⟩
    · rw [h]; exact Or.inr (Or.inr ⟨f, p, f0, y1, y2, rfl⟩)
    · rcases hm p e a h ⟨n, q⟩ with w | w
      · rw [h]; exact Or.inl w
      · rw [h]; exact Or.inr (Or.inr ⟨f, p, f0, y1, y2, by rw [f1]; exact w⟩)
theorem kk_107 : ∀ (m : Nat) (i : Int32) (e e' : E5) (u : Unit), f5_Pa_findCalled_107 m i e = .inl (e', u) → e'.1 paKind = e.1 paKind
  | 0, _, _, _, _, h => by cases h
  | m + 1, i, e, e', u, h => by
    have k166 : f5_Pa_findCalled_166 e = .inl (e', u) → e'.1 paKind = e.1 paKind := fun h => by
      unfold f5_Pa_findCalled_166 at h
      by_cases c : e.1 coMain = -1
      · rw [if_pos c] at h; cases h
      · rw [if_neg c] at h
        rw [(Prod.mk.inj (Sum.inl.inj h)).1]
    have ih := kk_107 m
    rw [f5_Pa_findCalled_107] at h
    dsimp only [pb5] at h
    by_cases c1 : e.1 coFunctions ≤ i
    · rw [if_pos c1] at h; exact k166 h
    rw [if_neg c1] at h
    by_cases c2 : (10 : Int32) ≤ i
    · rw [if_pos c2] at h; exact k166 h
    rw [if_neg c2] at h
    by_cases c3 : f5_Ta_isMain (tq5 e) (e.2.1 paFunctionNames i.toNatClampNeg) = 0
    · rw [if_pos c3] at h; exact ih _ _ _ _ h
    rw [if_neg c3] at h
    by_cases c4 : e.2.1 coNameCounts i.toNatClampNeg = 0
    · rw [if_pos c4] at h
      unfold stI5 at h
      rw [rdl_5] at h
      have z := ih _ _ _ _ h
      exact z
    rw [if_neg c4] at h
    exact ih _ _ _ _ h
theorem kk_f2 : ∀ (m : Nat) (i : Int32) (e e' : E5) (u : Unit), f5_Pa_findCalled_2 m i e = .inl (e', u) → e'.1 paKind = e.1 paKind
  | 0, _, _, _, _, h => by cases h
  | m + 1, i, e, e', u, h => by
    have ih := kk_f2 m
    rw [f5_Pa_findCalled_2] at h
    dsimp only [pb5] at h
    unfold f5_Pa_findCalled_82 f5_Pa_findCalled_89 at h
    rw [stc_5, rdl_5] at h
    dsimp only [pb5] at h
    by_cases c1 : e.1 coStatements ≤ i
    · rw [if_pos c1] at h; exact kk_107 _ _ _ _ _ h
    rw [if_neg c1] at h
    by_cases c2 : cl5 i 0 e = 5
    · rw [if_pos c2] at h
      by_cases c3 : f5_Ta_findName (tq5 e) (e.2.1 paFunctionNames) (e.2.2 paFunctionNames) (e.1 coFunctions) (cl5 i 5 e) = -1
      · rw [if_pos c3] at h; cases h
      rw [if_neg c3] at h
      by_cases c4 : e.2.1 coNameCounts (f5_Ta_findName (tq5 e) (e.2.1 paFunctionNames) (e.2.2 paFunctionNames) (e.1 coFunctions) (cl5 i 5 e)).toNatClampNeg = cl5 i 4 e
      · rw [if_pos c4] at h
        have z := ih _ _ _ _ h
        rw [z, stc_15.1]
      · rw [if_neg c4] at h; cases h
    · rw [if_neg c2] at h; exact ih _ _ _ _ h
theorem kq_84 {s : rS} : ∀ (m : Nat) (σ : rS), kq5 s σ → kq5 s (g5_tellProgram_84 m σ)
  | 0, _, h => h
  | m + 1, σ, h => fun n => by
    have ir : g5_isRight σ = 0 := by
      unfold g5_isRight
      rw [if_neg (by rw [(h n).1]; exact n)]
    rw [g5_tellProgram_84, pb_e5, ir, if_pos rfl]
    unfold g5_tellProgram_161
    rw [pb_e5, ir, if_pos rfl]
    exact h n
theorem it_15 {e : E5} {k : Int32} (h : e.1 paKind = k) (hk : k = 150 ∨ k = 151 ∨ k = 152) : f5_Pa_item e = f5_Pa_item_35 k e := by
  unfold f5_Pa_item
  rw [pb_e5, h]
  rcases hk with rfl | rfl | rfl
  · rfl
  · rfl
  · rfl
theorem it_n5 {e : E5} (h0 : ¬ e.1 paKind = 150) (h1 : ¬ e.1 paKind = 151) (h2 : ¬ e.1 paKind = 152) : f5_Pa_item e = .inr (rv5 2 (e.1 paAt) e) := by
  unfold f5_Pa_item
  rw [pb_e5, if_neg h0, if_neg h1, if_neg h2]
/-- from a bad token the reading ends with its fault -/
theorem dk_R5 {p : Int32} {n N : Nat} {e : E5} : ∀ (m : Nat), dk5 p e → e.1 taTotal = Int32.ofNat N → n ≤ N → N ≤ 65537 → f5_Pa_read_50 m (Int32.ofNat n) e = .inr (0, 0) ∨ f5_Pa_read_50 m (Int32.ofNat n) e = .inr (1, p)
  | 0, _, _, _, _ => Or.inl rfl
  | m + 1, d, hT, hn, hN => by
    have ln := ofn_i (n := n) (by omega)
    have lN := ofn_i (n := N) (by omega)
    refine Or.inr ?_
    have k : ∀ c : Int32, ¬ (143 : Int32) = c → ¬ e.1 paKind = c := fun c hc q => hc (d.1.symm.trans q)
    have it : f5_Pa_item e = .inr (1, p) := by rw [it_n5 (k _ (by decide)) (k _ (by decide)) (k _ (by decide))]; exact dx_r5 d
    have as : f5_Pa_addStatement e = .inr (1, p) := by rw [as_50 (k _ (by decide)) (k _ (by decide)) (k _ (by decide)) (k _ (by decide)) (k _ (by decide)) (k _ (by decide)) (k _ (by decide))]; exact dx_r5 d
    rw [f5_Pa_read_50, hT, if_neg (show ¬ Int32.ofNat N < Int32.ofNat n by rw [lti]; omega), if_neg (k 142 (by decide))]
    unfold f5_Pa_read_78
    by_cases c : e.1 paInside = 0
    · rw [if_pos c, if_pos c, it, rdr_5]
    · rw [if_neg c, if_neg c, if_neg (k 125 (by decide)), as, rdr_5]
section
variable {T : T5} {X : X5} {Bk N : Nat} {Z : Int32} {a b f t s : Nat} {e : E5} {σ : rS}
theorem lr_T5 {V : V5} {W : W5} {l : Nat} (H : TR5 T X Bk N Z) (L : LR5 T X Bk N Z V W a l e σ) : e.1 taTotal = Int32.ofNat N := by
  rw [← H.1.1, ← L.1.1]
  rfl
theorem sr_fun5 (H : TR5 T X Bk N Z) (h : oI5 T X Bk N Z a s e σ) (hk : e.1 paKind = 152) : sr5 (fun e' _ τ => ∃ σ' a' f t tok, τ = tlF5 fu5 tok σ' ∧ a < a' ∧ iS5 T X Bk N Z a' 1 f t s s e' σ' ∧ tok = Int32.ofNat (Bk + t)) (f5_Pa_item_35 152 e) (g5_tellFunc σ) := by
  have z := sr_func (kc := fun e' _ => .inl (e', ())) (Q' := fun e' (_ : Unit) τ => ∃ σ' a' f t tok, τ = tlF5 fu5 tok σ' ∧ a < a' ∧ iS5 T X Bk N Z a' 1 f t s s e' σ' ∧ tok = Int32.ofNat (Bk + t)) H h hk (fun p e d => dq_i5 d) (fun e' σ' a' f t tok n ha L HI S ht => sr_i5 n ⟨σ', a', f, t, tok, rfl, ha, ⟨L, HI, S⟩, ht⟩)
  rw [rb_u5] at z
  exact z
theorem tlF_s5 {fs : Nat} {tok : Int32} (h0 : g5_isRight σ = 1) (h42 : ¬ σ.1 42 ≤ 0) (hA : g5_isAt 125 σ = 0) : tlF5 (fs + 1) tok σ = tlF5 fs tok (g5_tellStatement σ) := by
  have z : g5_tellStatements_11 (fs + 1) σ = g5_tellStatements_11 fs (g5_tellStatement σ) := by
    rw [g5_tellStatements_11, pb_e5, h0, if_neg ne105, if_neg h42, pb_e5, hA, if_pos rfl, pb_e5]
  unfold tlF5
  rw [z]
theorem tlF_e5 {fs : Nat} {tok : Int32} (h0 : g5_isRight σ = 1) (h42 : ¬ σ.1 42 ≤ 0) (hA : g5_isAt 125 σ = 1) (h1 : ¬ σ.1 42 = 1) : tlF5 (fs + 1) tok σ = tlF5 fs tok (g5_endBlock σ) := by
  have z : g5_tellStatements_11 (fs + 1) σ = g5_tellStatements_11 fs (g5_endBlock σ) := by
    rw [g5_tellStatements_11, pb_e5, h0, if_neg ne105, if_neg h42, pb_e5, hA, if_neg ne105, if_neg h1, pb_e5]
  unfold tlF5
  rw [z]
theorem rd_l5 (H : TR5 T X Bk N Z) : ∀ m : Nat,
    (∀ (mr n a s : Nat) (e : E5) (σ : rS), oI5 T X Bk N Z a s e σ → e.1 coMain = -1 → n ≤ a → N - a + 2 ≤ mr → sf5 (fun e' _ σ' => QE5 T X Bk N Z e' σ') (f5_Pa_read_50 m (Int32.ofNat n) e) (g5_tellProgram_84 mr σ)) ∧
    (∀ (mr fs n a b f t s : Nat) (tok : Int32) (e : E5) (σ : rS), iS5 T X Bk N Z a b f t s s e σ → e.1 coMain = -1 → tok = Int32.ofNat (Bk + t) → n ≤ a → N - a + 2 ≤ mr → N - a + 2 ≤ fs → sf5 (fun e' _ σ' => QE5 T X Bk N Z e' σ') (f5_Pa_read_50 m (Int32.ofNat n) e) (g5_tellProgram_84 mr (tlF5 fs tok σ)))
  | 0 => ⟨fun _ _ _ _ _ _ _ _ _ _ => Or.inl rfl, fun _ _ _ _ _ _ _ _ _ _ _ _ _ _ _ _ _ => Or.inl rfl⟩
  | m + 1 => by
    obtain ⟨ih1, ih2⟩ := rd_l5 H m
    have hh := H.1
    constructor
    · intro mr n a s e σ h hm hn hmr
      have L := h.1
      have aN := L.2.2.1.1
      obtain ⟨mr, rfl⟩ : ∃ k, mr = k + 1 := ⟨mr - 1, by omega⟩
      have ln := ofn_i (n := n) (by omega)
      have lN := ofn_i (n := N) (by omega)
      have eT := lr_T5 H L
      obtain ⟨so, _, _⟩ := lr_so5 H L
      have ko := kd_o5 (lr_kd5 H L)
      rw [f5_Pa_read_50, eT, if_neg (show ¬ Int32.ofNat N < Int32.ofNat n by rw [lti]; omega), if_pos h.2.2.2.1, g5_tellProgram_84, pb_e5, lr_ir5 L, if_neg ne105, so]
      by_cases k142 : e.1 paKind = 142
      · rw [if_pos k142, if_pos (ko.2.2.2.mpr k142)]
        unfold f5_Pa_read_122 f5_Pa_findCalled g5_tellProgram_161 g5_lookAtCalls
        rw [pb_e5, lr_ir5 L, if_neg ne105, pb_e5]
        obtain ⟨v, pF, pc⟩ := h.2.1.2.2.1
        have z := sr_f2 (v := v) H pF.1 ((lr_K5 L).trans k142) h.2.2.2.2.2.1 h.2.2.2.2.2.2.2.1 fu5 fu5 0 (gE5 e) e σ L h.2.1 pF.2.1 h.2.2.2.2.2.2.1 (fun j _ j2 => h.2.2.2.2.2.2.2.2 j j2) hm (by omega) (by have := h.2.2.2.2.2.1; unfold fu5; omega)
        exact sf_o5 z (fun e' u q => by rw [kk_f2 _ _ _ _ _ q, k142]; decide)
      rw [if_neg k142, if_neg (fun q => k142 (ko.2.2.2.mp q))]
      unfold f5_Pa_read_78
      rw [if_pos h.2.2.2.1]
      dsimp only [pb5]
      have bad : ∀ (k : Int32) (p : Int32) (e1 : E5) (u : Unit), f5_Pa_item e = .inl (e1, u) → dk5 p e1 → f5_Pa_read_50 m (Int32.ofNat n + 1) e1 = .inr (0, 0) ∨ f5_Pa_read_50 m (Int32.ofNat n + 1) e1 = .inr (1, p) := fun k p e1 u q d => by
        rw [on_15 (by omega)]
        exact dk_R5 m d (kt_Pa_item eT _ _ q) (by omega) (by omega)
      have km : ∀ (e1 : E5) (u : Unit), f5_Pa_item e = .inl (e1, u) → e1.1 coMain = -1 := fun e1 u q => km_Pa_item hm _ _ q
      have nxt : ∀ (e1 : E5) (σ1 : rS) (V : V5) (W : W5), V = gE5 e → W = gS5 σ → e1.1 coMain = -1 → itP5 T X Bk N Z V W a 0 e1 σ1 → sf5 (fun e' _ σ' => QE5 T X Bk N Z e' σ') (f5_Pa_read_50 m (Int32.ofNat n + 1) e1) (g5_tellProgram_84 mr σ1) := fun e1 σ1 V W hV hW hm1 I => by
        obtain ⟨a', ha, L1, G1, v1, w1⟩ := I
        rw [hV] at v1
        rw [hW] at w1
        rw [on_15 (by omega)]
        refine ih1 mr (n + 1) a' s e1 σ1 ⟨L1, G1, ?_, ?_, ?_, SS_k5 h.2.2.2.2.2 ?_ ?_ ?_ ?_ ?_⟩ hm1 (by omega) (by omega)
        · have q : e1.1 1010 = e.1 1010 := congrArg (fun x => x.2.2.2.1) v1
          exact q.trans h.2.2.1
        · have q : e1.1 1005 = e.1 1005 := congrArg (fun x => x.2.2.2.2.2.2.2.2.2.2.1) v1
          exact q.trans h.2.2.2.1
        · have q : e1.1 1014 = e.1 1014 := congrArg (fun x => x.2.2.2.2.2.2.2.1) v1
          exact q.trans h.2.2.2.2.1
        · exact congrArg (fun x => x.2.2.2.2.2.1) v1
        · exact congrArg (fun x => x.2.2.2.2.2.2.1) v1
        · exact congrArg (fun x => x.2.2.2.2.2.2.1) w1
        · exact congrArg (fun x => x.2.2.2.2.2.2.2.1) w1
        · exact congrArg (fun x => x.2.2.2.2.2.2.2.2.1) w1
      rw [lr_wk5 H L (k := 150) (by decide) (by decide) rfl, lr_wk5 H L (k := 151) (by decide) (by decide) rfl, lr_wk5 H L (k := 152) (by decide) (by decide) rfl]
      by_cases k150 : e.1 paKind = 150
      · rw [if_pos k150, if_neg ne105]
        refine sf_b5 (Q := fun e' _ σ' => itP5 T X Bk N Z (gE5 e) (gS5 σ) a 0 e' σ') ?_ (fun e1 u q n1 I => nxt e1 _ _ _ rfl rfl (km e1 u q) I) (kq_84 _ _ kq_rf) (bad 0)
        rw [it_15 k150 (Or.inl rfl)]
        exact sr_var H L h.2.1 h.2.2.1 k150
      rw [if_neg k150, if_pos rfl]
      by_cases k151 : e.1 paKind = 151
      · rw [if_pos k151, if_neg ne105]
        refine sf_b5 (Q := fun e' _ σ' => itP5 T X Bk N Z (gE5 e) (gS5 σ) a 0 e' σ') ?_ (fun e1 u q n1 I => nxt e1 _ _ _ rfl rfl (km e1 u q) I) (kq_84 _ _ kq_rf) (bad 0)
        rw [it_15 k151 (Or.inr (Or.inl rfl))]
        exact sr_arr H L h.2.1 h.2.2.1 k151
      rw [if_neg k151, if_pos rfl]
      by_cases k152 : e.1 paKind = 152
      · rw [if_pos k152, if_neg ne105]
        refine sf_b5 (Q := fun e' _ τ => ∃ σ' a' f t tok, τ = tlF5 fu5 tok σ' ∧ a < a' ∧ iS5 T X Bk N Z a' 1 f t s s e' σ' ∧ tok = Int32.ofNat (Bk + t)) ?_ (fun e1 u q n1 I => ?_) (kq_84 _ _ kq_rf) (bad 0)
        · rw [it_15 k152 (Or.inr (Or.inr rfl))]
          exact sr_fun5 H h k152
        · obtain ⟨σ', a', f, t, tok, hτ, ha, I, htok⟩ := I
          rw [hτ, on_15 (by omega)]
          exact ih2 mr fu5 (n + 1) a' 1 f t s tok e1 σ' I (km e1 u q) htok (by omega) (by omega) (by unfold fu5; omega)
      rw [if_neg k152, if_pos rfl, it_n5 k150 k151 k152, lr_rva5 H L, rdr_5]
      have z := kq_84 mr _ (kq_rf (s := g5_flaw 2 (σ.1 10) σ)) (by rw [(lr_fl5 H L).1]; decide)
      exact Or.inr (Or.inr ⟨2, T.2.2.1 a, by decide, z.1.trans (lr_fl5 H L).1, z.2.trans (lr_fl5 H L).2, rfl⟩)
    · intro mr fs n a b f t s tok e σ h hm htok hn hmr hfs
      have L := h.1
      have aN := L.2.2.1.1
      obtain ⟨fs, rfl⟩ : ∃ k, fs = k + 2 := ⟨fs - 2, by omega⟩
      have ln := ofn_i (n := n) (by omega)
      have lN := ofn_i (n := N) (by omega)
      have eT := lr_T5 H L
      have hin : ¬ e.1 paInside = 0 := by
        have z : e.1 1005 = 1 := h.2.1.2.2.2.2.1
        rw [show e.1 paInside = 1 from z]
        decide
      have hbk := h.2.1.2.2.2.2.2.1
      have b0 := h.2.1.2.2.2.2.2.2
      have b40 : b ≤ 40 := by have := L.2.2.2.2.2; omega
      have s42 : σ.1 42 = Int32.ofNat b := hbk.2.1
      have lb := ofn_i (n := b) (by omega)
      have h42 : ¬ σ.1 42 ≤ 0 := by rw [s42, lei, lb, t0i]; omega
      rw [f5_Pa_read_50, eT, if_neg (show ¬ Int32.ofNat N < Int32.ofNat n by rw [lti]; omega), if_neg hin]
      unfold f5_Pa_read_78
      rw [if_neg hin]
      dsimp only [pb5]
      by_cases k125 : e.1 paKind = 125
      · rw [if_pos k125]
        have bad : ∀ (p : Int32) (e1 : E5) (u : Unit), f5_Pa_closeBlock e = .inl (e1, u) → dk5 p e1 → f5_Pa_read_50 m (Int32.ofNat n + 1) e1 = .inr (0, 0) ∨ f5_Pa_read_50 m (Int32.ofNat n + 1) e1 = .inr (1, p) := fun p e1 u q d => by
          rw [on_15 (by omega)]
          exact dk_R5 m d (kt_Pa_closeBlock eT _ _ q) (by omega) (by omega)
        have hA : g5_isAt 125 σ = 1 := by rw [lr_at5 H L (by decide) (by decide), if_pos k125]
        by_cases b1 : b = 1
        · subst b1
          refine sf_b5 (sr_endF H h k125 htok) (fun e1 u q n1 I => ?_) (kq_84 _ _ kq_rf) bad
          obtain ⟨a', ha, I⟩ := I
          rw [on_15 (by omega)]
          exact ih1 mr (n + 1) a' s e1 _ I (km_Pa_closeBlock hm _ _ q) (by omega) (by omega)
        · obtain ⟨b', rfl⟩ : ∃ k, b = k + 1 := ⟨b - 1, by omega⟩
          have n1 : ¬ σ.1 42 = 1 := fun q => by
            have y := congrArg Int32.toInt (s42.symm.trans q)
            have l1 : (1 : Int32).toInt = 1 := rfl
            rw [lb, l1] at y
            omega
          rw [tlF_e5 (lr_ir5 L) h42 hA n1]
          refine sf_b5 (sr_endB H h (by omega)) (fun e1 u q n1 I => ?_) (kq_84 _ _ (kq_tlF kq_rf)) bad
          obtain ⟨a', b2, ha, I⟩ := I
          rw [on_15 (by omega)]
          exact ih2 mr (fs + 1) (n + 1) a' b2 f t s tok e1 _ I (km_Pa_closeBlock hm _ _ q) htok (by omega) (by omega) (by omega)
      · rw [if_neg k125, ← rdB_a5]
        have hA : g5_isAt 125 σ = 0 := by rw [lr_at5 H L (by decide) (by decide), if_neg k125]
        rw [tlF_s5 (lr_ir5 L) h42 hA]
        have kT : kt5 (Int32.ofNat N) (rdB5 (f5_Pa_addStatement e) (fun e1 r2 => f5_Pa_statement r2 e1)) := kt_b5 (kt_Pa_addStatement eT) (fun _ _ h1 => kt_Pa_statement h1)
        have kM : km5 (-1) (rdB5 (f5_Pa_addStatement e) (fun e1 r2 => f5_Pa_statement r2 e1)) := km_b5 (km_Pa_addStatement hm) (fun _ _ h1 => km_Pa_statement h1)
        refine sf_b5 (sr_stm H h) (fun e1 u q n1 I => ?_) (kq_84 _ _ (kq_tlF kq_rf)) (fun p e1 u q d => ?_)
        · obtain ⟨a', b2, ha, I⟩ := I
          rw [on_15 (by omega)]
          exact ih2 mr (fs + 1) (n + 1) a' b2 f t (s + 1) tok e1 _ I (kM _ _ q) htok (by omega) (by omega) (by omega)
        · rw [on_15 (by omega)]
          exact dk_R5 m d (kT _ _ q) (by omega) (by omega)
end
