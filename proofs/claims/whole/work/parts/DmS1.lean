section
set_option maxHeartbeats 1600000
/-! the whole reading, side by side -/
def sf5 {α : Type} (Q : E5 → α → rS → Prop) (r : R5 α) (σ : rS) : Prop := r = .inr (0, 0) ∨ (∃ e a, r = .inl (e, a) ∧ Q e a σ) ∨ (∃ f p, f ≠ 0 ∧ σ.1 11 = f ∧ σ.1 12 = p ∧ r = .inr (f, p))
theorem sf_o5 {α : Type} {Q : E5 → α → rS → Prop} {r : R5 α} {σ : rS} (h : sr5 Q r σ) (hn : ∀ e a, r = .inl (e, a) → e.1 paKind ≠ 143) : sf5 Q r σ := by
  rcases h with h | ⟨e, a, h, n, q⟩ | ⟨f, p, f0, s1, s2, h | ⟨_, e, a, h, n, _⟩⟩
  · exact Or.inl h
  · exact Or.inr (Or.inl ⟨e, a, h, q⟩)
  · exact Or.inr (Or.inr ⟨f, p, f0, s1, s2, h⟩)
  · exact absurd n (hn e a h)
theorem sf_b5 {α β : Type} {Q : E5 → α → rS → Prop} {Q' : E5 → β → rS → Prop} {m : R5 α} {k : E5 → α → R5 β} {σ1 σ2 : rS} (h : sr5 Q m σ1) (hk : ∀ e a, m = .inl (e, a) → e.1 paKind ≠ 143 → Q e a σ1 → sf5 Q' (k e a) σ2) (hq : kq5 σ1 σ2) (hm : ∀ p e a, m = .inl (e, a) → dk5 p e → k e a = .inr (0, 0) ∨ k e a = .inr (1, p)) : sf5 Q' (rdB5 m k) σ2 := by
  rcases h with h | ⟨e, a, h, n, q⟩ | ⟨f, p, f0, s1, s2, h⟩
  · rw [h]; exact Or.inl rfl
  · have z := hk e a h n q
    rw [h]; exact z
  · obtain ⟨y1, y2⟩ := hq (by rw [s1]; exact f0)
    rw [s1] at y1
    rw [s2] at y2
    rcases h with h | ⟨f1, e, a, h, n, q⟩
    · rw [h]; exact Or.inr (Or.inr ⟨f, p, f0, y1, y2, rfl⟩)
    · rcases hm p e a h ⟨n, q⟩ with w | w
      · rw [h]; exact Or.inl w
      · rw [h]; exact Or.inr (Or.inr ⟨f, p, f0, y1, y2, by rw [f1]; exact w⟩)
theorem kk_107 : ∀ (m : Nat) (i : Int32) (e e' : E5) (u : Unit), f5_Pa_findCalled_107 m i e = .inl (e', u) → e'.1 paKind = e.1 paKind
  | 0, _, _, _, _, h => by cases h
  | m + 1, i, e, e', u, h => by
    have k166 : f5_Pa_findCalled_166 e = .inl (e', u) → e'.1 paKind = e.1 paKind := fun h => by
      unfold f5_Pa_findCalled_166 at h
      by_cases c : e.1 coMain = -1
      · rw [if_pos c] at h; cases h
      · rw [if_neg c] at h
        rw [(Prod.mk.inj (Sum.inl.inj h)).1]
    have ih := kk_107 m
    rw [f5_Pa_findCalled_107] at h
    dsimp only [pb5] at h
    by_cases c1 : e.1 coFunctions ≤ i
    · rw [if_pos c1] at h; exact k166 h
    rw [if_neg c1] at h
    by_cases c2 : (10 : Int32) ≤ i
    · rw [if_pos c2] at h; exact k166 h
    rw [if_neg c2] at h
    by_cases c3 : f5_Ta_isMain (tq5 e) (e.2.1 paFunctionNames i.toNatClampNeg) = 0
    · rw [if_pos c3] at h; exact ih _ _ _ _ h
    rw [if_neg c3] at h
    by_cases c4 : e.2.1 coNameCounts i.toNatClampNeg = 0
    · rw [if_pos c4] at h
      unfold stI5 at h
      rw [rdl_5] at h
      have z := ih _ _ _ _ h
      exact z
    rw [if_neg c4] at h
    exact ih _ _ _ _ h
theorem kk_f2 : ∀ (m : Nat) (i : Int32) (e e' : E5) (u : Unit), f5_Pa_findCalled_2 m i e = .inl (e', u) → e'.1 paKind = e.1 paKind
  | 0, _, _, _, _, h => by cases h
  | m + 1, i, e, e', u, h => by
    have ih := kk_f2 m
    rw [f5_Pa_findCalled_2] at h
    dsimp only [pb5] at h
    unfold f5_Pa_findCalled_82 f5_Pa_findCalled_89 at h
    rw [stc_5, rdl_5] at h
    dsimp only [pb5] at h
    by_cases c1 : e.1 coStatements ≤ i
    · rw [if_pos c1] at h; exact kk_107 _ _ _ _ _ h
    rw [if_neg c1] at h
    by_cases c2 : cl5 i 0 e = 5
    · rw [if_pos c2] at h
      by_cases c3 : f5_Ta_findName (tq5 e) (e.2.1 paFunctionNames) (e.2.2 paFunctionNames) (e.1 coFunctions) (cl5 i 5 e) = -1
      · rw [if_pos c3] at h; cases h
      rw [if_neg c3] at h
      by_cases c4 : e.2.1 coNameCounts (f5_Ta_findName (tq5 e) (e.2.1 paFunctionNames) (e.2.2 paFunctionNames) (e.1 coFunctions) (cl5 i 5 e)).toNatClampNeg = cl5 i 4 e
      · rw [if_pos c4] at h
        have z := ih _ _ _ _ h
        rw [z, stc_15.1]
      · rw [if_neg c4] at h; cases h
    · rw [if_neg c2] at h; exact ih _ _ _ _ h
theorem kq_84 {s : rS} : ∀ (m : Nat) (σ : rS), kq5 s σ → kq5 s (g5_tellProgram_84 m σ)
  | 0, _, h => h
  | m + 1, σ, h => fun n => by
    have ir : g5_isRight σ = 0 := by
      unfold g5_isRight
      rw [if_neg (by rw [(h n).1]; exact n)]
    rw [g5_tellProgram_84, pb_e5, ir, if_pos rfl]
    unfold g5_tellProgram_161
    rw [pb_e5, ir, if_pos rfl]
    exact h n
theorem it_15 {e : E5} {k : Int32} (h : e.1 paKind = k) (hk : k = 150 ∨ k = 151 ∨ k = 152) : f5_Pa_item e = f5_Pa_item_35 k e := by
  unfold f5_Pa_item
  rw [pb_e5, h]
  rcases hk with rfl | rfl | rfl
  · rfl
  · rfl
  · rfl
theorem it_n5 {e : E5} (h0 : ¬ e.1 paKind = 150) (h1 : ¬ e.1 paKind = 151) (h2 : ¬ e.1 paKind = 152) : f5_Pa_item e = .inr (rv5 2 (e.1 paAt) e) := by
  unfold f5_Pa_item
  rw [pb_e5, if_neg h0, if_neg h1, if_neg h2]
/-- from a bad token the reading ends with its fault -/
theorem dk_R5 {p : Int32} {n N : Nat} {e : E5} : ∀ (m : Nat), dk5 p e → e.1 taTotal = Int32.ofNat N → n ≤ N → N ≤ 65537 → f5_Pa_read_50 m (Int32.ofNat n) e = .inr (0, 0) ∨ f5_Pa_read_50 m (Int32.ofNat n) e = .inr (1, p)
  | 0, _, _, _, _ => Or.inl rfl
  | m + 1, d, hT, hn, hN => by
    have ln := ofn_i (n := n) (by omega)
    have lN := ofn_i (n := N) (by omega)
    refine Or.inr ?_
    have k : ∀ c : Int32, ¬ (143 : Int32) = c → ¬ e.1 paKind = c := fun c hc q => hc (d.1.symm.trans q)
    have it : f5_Pa_item e = .inr (1, p) := by rw [it_n5 (k _ (by decide)) (k _ (by decide)) (k _ (by decide))]; exact dx_r5 d
    have as : f5_Pa_addStatement e = .inr (1, p) := by rw [as_50 (k _ (by decide)) (k _ (by decide)) (k _ (by decide)) (k _ (by decide)) (k _ (by decide)) (k _ (by decide)) (k _ (by decide))]; exact dx_r5 d
    rw [f5_Pa_read_50, hT, if_neg (show ¬ Int32.ofNat N < Int32.ofNat n by rw [lti]; omega), if_neg (k 142 (by decide))]
    unfold f5_Pa_read_78
    by_cases c : e.1 paInside = 0
    · rw [if_pos c, if_pos c, it, rdr_5]
    · rw [if_neg c, if_neg c, if_neg (k 125 (by decide)), as, rdr_5]
section
variable {T : T5} {X : X5} {Bk N : Nat} {Z : Int32} {a b f t s : Nat} {e : E5} {σ : rS}
theorem lr_T5 {V : V5} {W : W5} {l : Nat} (H : TR5 T X Bk N Z) (L : LR5 T X Bk N Z V W a l e σ) : e.1 taTotal = Int32.ofNat N := by
  rw [← H.1.1, ← L.1.1]
  rfl
theorem sr_fun5 (H : TR5 T X Bk N Z) (h : oI5 T X Bk N Z a s e σ) (hk : e.1 paKind = 152) : sr5 (fun e' _ τ => ∃ σ' a' f t tok, τ = tlF5 fu5 tok σ' ∧ a < a' ∧ iS5 T X Bk N Z a' 1 f t s s e' σ' ∧ tok = Int32.ofNat (Bk + t)) (f5_Pa_item_35 152 e) (g5_tellFunc σ) := by
  have z := sr_func (kc := fun e' _ => .inl (e', ())) (Q' := fun e' (_ : Unit) τ => ∃ σ' a' f t tok, τ = tlF5 fu5 tok σ' ∧ a < a' ∧ iS5 T X Bk N Z a' 1 f t s s e' σ' ∧ tok = Int32.ofNat (Bk + t)) H h hk (fun p e d => dq_i5 d) (fun e' σ' a' f t tok n ha L HI S ht => sr_i5 n ⟨σ', a', f, t, tok, rfl, ha, ⟨L, HI, S⟩, ht⟩)
  rw [rb_u5] at z
  exact z
theorem tlF_s5 {fs : Nat} {tok : Int32} (h0 : g5_isRight σ = 1) (h42 : ¬ σ.1 42 ≤ 0) (hA : g5_isAt 125 σ = 0) : tlF5 (fs + 1) tok σ = tlF5 fs tok (g5_tellStatement σ) := by
  have z : g5_tellStatements_11 (fs + 1) σ = g5_tellStatements_11 fs (g5_tellStatement σ) := by
    rw [g5_tellStatements_11, pb_e5, h0, if_neg ne105, if_neg h42, pb_e5, hA, if_pos rfl, pb_e5]
  unfold tlF5
  rw [z]
theorem tlF_e5 {fs : Nat} {tok : Int32} (h0 : g5_isRight σ = 1) (h42 : ¬ σ.1 42 ≤ 0) (hA : g5_isAt 125 σ = 1) (h1 : ¬ σ.1 42 = 1) : tlF5 (fs + 1) tok σ = tlF5 fs tok (g5_endBlock σ) := by
  have z : g5_tellStatements_11 (fs + 1) σ = g5_tellStatements_11 fs (g5_endBlock σ) := by
    rw [g5_tellStatements_11, pb_e5, h0, if_neg ne105, if_neg h42, pb_e5, hA, if_neg ne105, if_neg h1, pb_e5]
  unfold tlF5
  rw [z]
theorem rd_l5 (H : TR5 T X Bk N Z) : ∀ m : Nat,
    (∀ (mr n a s : Nat) (e : E5) (σ : rS), oI5 T X Bk N Z a s e σ → e.1 coMain = -1 → n ≤ a → N - a + 2 ≤ mr → sf5 (fun e' _ σ' => QE5 T X Bk N Z e' σ') (f5_Pa_read_50 m (Int32.ofNat n) e) (g5_tellProgram_84 mr σ)) ∧
    (∀ (mr fs n a b f t s : Nat) (tok : Int32) (e : E5) (σ : rS), iS5 T X Bk N Z a b f t s s e σ → e.1 coMain = -1 → tok = Int32.ofNat (Bk + t) → n ≤ a → N - a + 2 ≤ mr → N - a + 2 ≤ fs → sf5 (fun e' _ σ' => QE5 T X Bk N Z e' σ') (f5_Pa_read_50 m (Int32.ofNat n) e) (g5_tellProgram_84 mr (tlF5 fs tok σ)))
  | 0 => ⟨fun _ _ _ _ _ _ _ _ _ _ => Or.inl rfl, fun _ _ _ _ _ _ _ _ _ _ _ _ _ _ _ _ _ => Or.inl rfl⟩
  | m + 1 => by
    obtain ⟨ih1, ih2⟩ := rd_l5 H m
    have hh := H.1
    constructor
    · intro mr n a s e σ h hm hn hmr
      have L := h.1
      have aN := L.2.2.1.1
      obtain ⟨mr, rfl⟩ : ∃ k, mr = k + 1 := ⟨mr - 1, by omega⟩
      have ln := ofn_i (n := n) (by omega)
      have lN := ofn_i (n := N) (by omega)
      have eT := lr_T5 H L
      obtain ⟨so, _, _⟩ := lr_so5 H L
      have ko := kd_o5 (lr_kd5 H L)
      rw [f5_Pa_read_50, eT, if_neg (show ¬ Int32.ofNat N < Int32.ofNat n by rw [lti]; omega), if_pos h.2.2.2.1, g5_tellProgram_84, pb_e5, lr_ir5 L, if_neg ne105, so]
      by_cases k142 : e.1 paKind = 142
      · rw [if_pos k142, if_pos (ko.2.2.2.mpr k142)]
        unfold f5_Pa_read_122 f5_Pa_findCalled g5_tellProgram_161 g5_lookAtCalls
        rw [pb_e5, lr_ir5 L, if_neg ne105, pb_e5]
        obtain ⟨v, pF, pc⟩ := h.2.1.2.2.1
        have z := sr_f2 (v := v) H pF.1 ((lr_K5 L).trans k142) h.2.2.2.2.2.1 h.2.2.2.2.2.2.2.1 fu5 fu5 0 (gE5 e) e σ L h.2.1 pF.2.1 h.2.2.2.2.2.2.1 (fun j _ j2 => h.2.2.2.2.2.2.2.2 j j2) hm (by omega) (by have := h.2.2.2.2.2.1; unfold fu5; omega)
        exact sf_o5 z (fun e' u q => by rw [kk_f2 _ _ _ _ _ q, k142]; decide)
      rw [if_neg k142, if_neg (fun q => k142 (ko.2.2.2.mp q))]
      unfold f5_Pa_read_78
      rw [if_pos h.2.2.2.1]
      dsimp only [pb5]
      have bad : ∀ (k : Int32) (p : Int32) (e1 : E5) (u : Unit), f5_Pa_item e = .inl (e1, u) → dk5 p e1 → f5_Pa_read_50 m (Int32.ofNat n + 1) e1 = .inr (0, 0) ∨ f5_Pa_read_50 m (Int32.ofNat n + 1) e1 = .inr (1, p) := fun k p e1 u q d => by
        rw [on_15 (by omega)]
        exact dk_R5 m d (kt_Pa_item eT _ _ q) (by omega) (by omega)
      have km : ∀ (e1 : E5) (u : Unit), f5_Pa_item e = .inl (e1, u) → e1.1 coMain = -1 := fun e1 u q => km_Pa_item hm _ _ q
      have nxt : ∀ (e1 : E5) (σ1 : rS) (V : V5) (W : W5), V = gE5 e → W = gS5 σ → e1.1 coMain = -1 → itP5 T X Bk N Z V W a 0 e1 σ1 → sf5 (fun e' _ σ' => QE5 T X Bk N Z e' σ') (f5_Pa_read_50 m (Int32.ofNat n + 1) e1) (g5_tellProgram_84 mr σ1) := fun e1 σ1 V W hV hW hm1 I => by
        obtain ⟨a', ha, L1, G1, v1, w1⟩ := I
        rw [hV] at v1
        rw [hW] at w1
        rw [on_15 (by omega)]
        refine ih1 mr (n + 1) a' s e1 σ1 ⟨L1, G1, ?_, ?_, ?_, SS_k5 h.2.2.2.2.2 ?_ ?_ ?_ ?_ ?_⟩ hm1 (by omega) (by omega)
        · have q : e1.1 1010 = e.1 1010 := congrArg (fun x => x.2.2.2.1) v1
          exact q.trans h.2.2.1
        · have q : e1.1 1005 = e.1 1005 := congrArg (fun x => x.2.2.2.2.2.2.2.2.2.2.1) v1
          exact q.trans h.2.2.2.1
        · have q : e1.1 1014 = e.1 1014 := congrArg (fun x => x.2.2.2.2.2.2.2.1) v1
          exact q.trans h.2.2.2.2.1
        · exact congrArg (fun x => x.2.2.2.2.2.1) v1
        · exact congrArg (fun x => x.2.2.2.2.2.2.1) v1
        · exact congrArg (fun x => x.2.2.2.2.2.2.1) w1
        · exact congrArg (fun x => x.2.2.2.2.2.2.2.1) w1
        · exact congrArg (fun x => x.2.2.2.2.2.2.2.2.1) w1
      rw [lr_wk5 H L (k := 150) (by decide) (by decide) rfl, lr_wk5 H L (k := 151) (by decide) (by decide) rfl, lr_wk5 H L (k := 152) (by decide) (by decide) rfl]
      by_cases k150 : e.1 paKind = 150
      · rw [if_pos k150, if_neg ne105]
        refine sf_b5 (Q := fun e' _ σ' => itP5 T X Bk N Z (gE5 e) (gS5 σ) a 0 e' σ') ?_ (fun e1 u q n1 I => nxt e1 _ _ _ rfl rfl (km e1 u q) I) (kq_84 _ _ kq_rf) (bad 0)
        rw [it_15 k150 (Or.inl rfl)]
        exact sr_var H L h.2.1 h.2.2.1 k150
      rw [if_neg k150, if_pos rfl]
      by_cases k151 : e.1 paKind = 151
      · rw [if_pos k151, if_neg ne105]
        refine sf_b5 (Q := fun e' _ σ' => itP5 T X Bk N Z (gE5 e) (gS5 σ) a 0 e' σ') ?_ (fun e1 u q n1 I => nxt e1 _ _ _ rfl rfl (km e1 u q) I) (kq_84 _ _ kq_rf) (bad 0)
        rw [it_15 k151 (Or.inr (Or.inl rfl))]
        exact sr_arr H L h.2.1 h.2.2.1 k151
      rw [if_neg k151, if_pos rfl]
      by_cases k152 : e.1 paKind = 152
      · rw [if_pos k152, if_neg ne105]
        refine sf_b5 (Q := fun e' _ τ => ∃ σ' a' f t tok, τ = tlF5 fu5 tok σ' ∧ a < a' ∧ iS5 T X Bk N Z a' 1 f t s s e' σ' ∧ tok = Int32.ofNat (Bk + t)) ?_ (fun e1 u q n1 I => ?_) (kq_84 _ _ kq_rf) (bad 0)
        · rw [it_15 k152 (Or.inr (Or.inr rfl))]
          exact sr_fun5 H h k152
        · obtain ⟨σ', a', f, t, tok, hτ, ha, I, htok⟩ := I
          rw [hτ, on_15 (by omega)]
          exact ih2 mr fu5 (n + 1) a' 1 f t s tok e1 σ' I (km e1 u q) htok (by omega) (by omega) (by unfold fu5; omega)
      rw [if_neg k152, if_pos rfl, it_n5 k150 k151 k152, lr_rva5 H L, rdr_5]
      have z := kq_84 mr _ (kq_rf (s := g5_flaw 2 (σ.1 10) σ)) (by rw [(lr_fl5 H L).1]; decide)
      exact Or.inr (Or.inr ⟨2, T.2.2.1 a, by decide, z.1.trans (lr_fl5 H L).1, z.2.trans (lr_fl5 H L).2, rfl⟩)
    · intro mr fs n a b f t s tok e σ h hm htok hn hmr hfs
      have L := h.1
      have aN := L.2.2.1.1
      obtain ⟨fs, rfl⟩ : ∃ k, fs = k + 2 := ⟨fs - 2, by omega⟩
      have ln := ofn_i (n := n) (by omega)
      have lN := ofn_i (n := N) (by omega)
      have eT := lr_T5 H L
      have hin : ¬ e.1 paInside = 0 := by
        have z : e.1 1005 = 1 := h.2.1.2.2.2.2.1
        rw [show e.1 paInside = 1 from z]
        decide
      have hbk := h.2.1.2.2.2.2.2.1
      have b0 := h.2.1.2.2.2.2.2.2
      have b40 : b ≤ 40 := by have := L.2.2.2.2.2; omega
      have s42 : σ.1 42 = Int32.ofNat b := hbk.2.1
      have lb := ofn_i (n := b) (by omega)
      have h42 : ¬ σ.1 42 ≤ 0 := by rw [s42, lei, lb, t0i]; omega
      rw [f5_Pa_read_50, eT, if_neg (show ¬ Int32.ofNat N < Int32.ofNat n by rw [lti]; omega), if_neg hin]
      unfold f5_Pa_read_78
      rw [if_neg hin]
      dsimp only [pb5]
      by_cases k125 : e.1 paKind = 125
      · rw [if_pos k125]
        have bad : ∀ (p : Int32) (e1 : E5) (u : Unit), f5_Pa_closeBlock e = .inl (e1, u) → dk5 p e1 → f5_Pa_read_50 m (Int32.ofNat n + 1) e1 = .inr (0, 0) ∨ f5_Pa_read_50 m (Int32.ofNat n + 1) e1 = .inr (1, p) := fun p e1 u q d => by
          rw [on_15 (by omega)]
          exact dk_R5 m d (kt_Pa_closeBlock eT _ _ q) (by omega) (by omega)
        have hA : g5_isAt 125 σ = 1 := by rw [lr_at5 H L (by decide) (by decide), if_pos k125]
        by_cases b1 : b = 1
        · subst b1
          refine sf_b5 (sr_endF H h k125 htok) (fun e1 u q n1 I => ?_) (kq_84 _ _ kq_rf) bad
          obtain ⟨a', ha, I⟩ := I
          rw [on_15 (by omega)]
          exact ih1 mr (n + 1) a' s e1 _ I (km_Pa_closeBlock hm _ _ q) (by omega) (by omega)
        · obtain ⟨b', rfl⟩ : ∃ k, b = k + 1 := ⟨b - 1, by omega⟩
          have n1 : ¬ σ.1 42 = 1 := fun q => by
            have y := congrArg Int32.toInt (s42.symm.trans q)
            have l1 : (1 : Int32).toInt = 1 := rfl
            rw [lb, l1] at y
            omega
          rw [tlF_e5 (lr_ir5 L) h42 hA n1]
          refine sf_b5 (sr_endB H h (by omega)) (fun e1 u q n1 I => ?_) (kq_84 _ _ (kq_tlF kq_rf)) bad
          obtain ⟨a', b2, ha, I⟩ := I
          rw [on_15 (by omega)]
          exact ih2 mr (fs + 1) (n + 1) a' b2 f t s tok e1 _ I (km_Pa_closeBlock hm _ _ q) htok (by omega) (by omega) (by omega)
      · rw [if_neg k125, ← rdB_a5]
        have hA : g5_isAt 125 σ = 0 := by rw [lr_at5 H L (by decide) (by decide), if_neg k125]
        rw [tlF_s5 (lr_ir5 L) h42 hA]
        have kT : kt5 (Int32.ofNat N) (rdB5 (f5_Pa_addStatement e) (fun e1 r2 => f5_Pa_statement r2 e1)) := kt_b5 (kt_Pa_addStatement eT) (fun _ _ h1 => kt_Pa_statement h1)
        have kM : km5 (-1) (rdB5 (f5_Pa_addStatement e) (fun e1 r2 => f5_Pa_statement r2 e1)) := km_b5 (km_Pa_addStatement hm) (fun _ _ h1 => km_Pa_statement h1)
        refine sf_b5 (sr_stm H h) (fun e1 u q n1 I => ?_) (kq_84 _ _ (kq_tlF kq_rf)) (fun p e1 u q d => ?_)
        · obtain ⟨a', b2, ha, I⟩ := I
          rw [on_15 (by omega)]
          exact ih2 mr (fs + 1) (n + 1) a' b2 f t (s + 1) tok e1 _ I (kM _ _ q) htok (by omega) (by omega) (by omega)
        · rw [on_15 (by omega)]
          exact dk_R5 m d (kT _ _ q) (by omega) (by omega)
end

end
section
set_option maxHeartbeats 1600000
/-! only the bytes below the length count -/
section
variable {U U' : U5}
theorem by_U5 (h2 : U'.2 = U.2) (hb : ∀ j : Nat, (j : Int) < U.2.1.toInt → U'.1 j &&& 255 = U.1 j &&& 255) : f5_Ta_byteAt U' = f5_Ta_byteAt U := funext fun a => by
  unfold f5_Ta_byteAt
  rw [h2]
  by_cases c0 : a < 0
  · rw [if_pos c0, if_pos c0]
  rw [if_neg c0, if_neg c0]
  by_cases c1 : U.2.1 ≤ a
  · rw [if_pos c1, if_pos c1]
  rw [if_neg c1, if_neg c1]
  rw [lti, t0i] at c0
  rw [lei] at c1
  have z := cnk (x := a) (by omega)
  rw [hb a.toNatClampNeg (by omega)]
theorem sb4_5 (h2 : U'.2 = U.2) (E : f5_Ta_byteAt U' = f5_Ta_byteAt U) : ∀ (m : Nat) (x y : Int32), f5_Ta_skipBlanks_4 U' m x y = f5_Ta_skipBlanks_4 U m x y
  | 0, _, _ => rfl
  | m + 1, x, y => by
    have ih := sb4_5 h2 E m
    rw [f5_Ta_skipBlanks_4, f5_Ta_skipBlanks_4]
    simp only [E, h2, ih]
theorem sb_5 (h2 : U'.2 = U.2) (E : f5_Ta_byteAt U' = f5_Ta_byteAt U) : f5_Ta_skipBlanks U' = f5_Ta_skipBlanks U := funext fun x => sb4_5 h2 E _ _ _
theorem sa8_5 (h2 : U'.2 = U.2) (E : f5_Ta_byteAt U' = f5_Ta_byteAt U) : ∀ (m : Nat) (x y z : Int32), f5_Ta_sizeAt_81 U' m x y z = f5_Ta_sizeAt_81 U m x y z
  | 0, _, _, _ => rfl
  | m + 1, x, y, z => by
    have ih := sa8_5 h2 E m
    rw [f5_Ta_sizeAt_81, f5_Ta_sizeAt_81]
    simp only [E, h2, ih]
theorem sa_z5 (h2 : U'.2 = U.2) (E : f5_Ta_byteAt U' = f5_Ta_byteAt U) : f5_Ta_sizeAt U' = f5_Ta_sizeAt U := funext fun x => by
  unfold f5_Ta_sizeAt f5_Ta_sizeAt_51 f5_Ta_sizeAt_76
  simp only [E, sa8_5 h2 E]
theorem re3_5 (E : f5_Ta_byteAt U' = f5_Ta_byteAt U) {t3 : List Int32} : ∀ (m : Nat) (x y z w : Int32), f5_Ta_reads_3 U' t3 m x y z w = f5_Ta_reads_3 U t3 m x y z w
  | 0, _, _, _, _ => rfl
  | m + 1, x, y, z, w => by
    have ih := re3_5 E (t3 := t3) m
    rw [f5_Ta_reads_3, f5_Ta_reads_3]
    simp only [E, ih]
theorem wo1_5 (E : f5_Ta_byteAt U' = f5_Ta_byteAt U) : ∀ (m : Nat) (x y z w v : Int32), f5_Ta_wordOf_10 U' m x y z w v = f5_Ta_wordOf_10 U m x y z w v
  | 0, _, _, _, _, _ => rfl
  | m + 1, x, y, z, w, v => by
    have ih := wo1_5 E m
    have r : ∀ (a b c : Int32), f5_Ta_reads U' wt5 a b c = f5_Ta_reads U wt5 a b c := fun a b c => re3_5 E _ _ _ _ _
    rw [f5_Ta_wordOf_10, f5_Ta_wordOf_10]
    unfold f5_Ta_wordOf_62
    simp only [ih, r]
theorem kiU_5 (E : f5_Ta_byteAt U' = f5_Ta_byteAt U) : f5_Ta_kindOf U' = f5_Ta_kindOf U := funext fun x => funext fun y => by
  unfold f5_Ta_kindOf f5_Ta_wordOf
  simp only [E, wo1_5 E]
theorem sl9_5 (h2 : U'.2 = U.2) (E : f5_Ta_byteAt U' = f5_Ta_byteAt U) : ∀ (m : Nat) (x y : Int32) (z : Y5), f5_Ta_split_9 U' m x y z = f5_Ta_split_9 U m x y z
  | 0, _, _, _ => rfl
  | m + 1, x, y, z => by
    have ih := sl9_5 h2 E m
    rw [f5_Ta_split_9, f5_Ta_split_9]
    unfold kn5 sz5
    simp only [sb_5 h2 E, sa_z5 h2 E, kiU_5 E, h2, ih]
theorem sl_5 (h2 : U'.2 = U.2) (E : f5_Ta_byteAt U' = f5_Ta_byteAt U) : f5_Ta_split U' = f5_Ta_split U := sl9_5 h2 E _ _ _ _
end
theorem nv_b5 {B B' : Nat → Int32} {p : Nat} : ∀ s : Nat, (∀ i, i < s → B (p + i) = B' (p + i)) → nv5 B p s = nv5 B' p s
  | 0, _ => rfl
  | s + 1, h => by
    rw [nv5, nv5, nv_b5 s (fun i hi => h i (by omega)), h s (by omega)]
theorem nP_b5 {B B' : Nat → Int32} {p s : Nat} {F : Int64} {G : Int32} (hb : ∀ i, i < s → B (p + i) = B' (p + i)) (h : nmP5 B p s F G) : nmP5 B' p s F G := by
  refine ⟨fun i hi => ?_, fun i hi => ?_⟩
  · rw [h.1 i hi]
    by_cases c : i < s
    · rw [if_pos c, if_pos c, hb i c]
    · rw [if_neg c, if_neg c]
  · rw [h.2 i hi]
    by_cases c : 8 + i < s
    · have q := hb (8 + i) c
      rw [show p + (8 + i) = p + 8 + i by omega] at q
      rw [if_pos c, if_pos c, q]
    · rw [if_neg c, if_neg c]
theorem tA_b5 {y : Y5} {σ : rS} {B B' : Nat → Int32} {n Bk t : Nat} (hb : ∀ j, j < n → B j = B' j) (h : tkA5 y σ B n Bk t) : tkA5 y σ B' n Bk t := by
  obtain ⟨p, s, h1, h2, h3, h4, h5⟩ := h
  have q : ∀ i, i < s → B (p + i) = B' (p + i) := fun i hi => hb _ (by omega)
  refine ⟨p, s, h1, h2, h3, h4, ?_⟩
  rcases h5 with z | ⟨z1, z2, z3, z4, z5, z6⟩ | ⟨z1, z2, z3⟩ | z | z
  · exact Or.inl z
  · exact Or.inr (Or.inl ⟨z1, z2, z3, z4, nP_b5 q z5, fun i hi => by rw [← q i hi]; exact z6 i hi⟩)
  · exact Or.inr (Or.inr (Or.inl ⟨z1, z2, by rw [← nv_b5 s q]; exact z3⟩))
  · exact Or.inr (Or.inr (Or.inr (Or.inl z)))
  · exact Or.inr (Or.inr (Or.inr (Or.inr z)))
theorem TK_b5 {y : Y5} {σ : rS} {B B' : Nat → Int32} {n Bk N : Nat} (hb : ∀ j, j < n → B j = B' j) (h : TK5 y σ B n Bk N) : TK5 y σ B' n Bk N := by
  obtain ⟨h1, h2, h3, h4, h5⟩ := h
  refine ⟨h1, h2, h3, fun t ht => ⟨tA_b5 hb (h4 t ht).1, (h4 t ht).2⟩, ?_⟩
  rcases h5 with ⟨z, w⟩ | z
  · exact Or.inl ⟨tA_b5 hb z, w⟩
  · exact Or.inr z
/-! both readings from the bytes on -/
theorem rp_B5 {U : U5} {e0 : E5} {σ : rS} {n Bk : Nat} {s1 : Int32} (HU : okU5 U) (hr : ∀ j, -128 ≤ (U.1 j).toInt ∧ (U.1 j).toInt ≤ 127) (HS : okS5 σ) (hB : ∀ j, j < n → bU5 U j = bS5 σ j) (hn : nU5 U = n) (sn : nS5 σ = n) (I : ini5 U e0) (hBk : Bk ≤ 65537) (hs1 : s1 = Int32.ofNat Bk) (h11 : σ.1 11 = 0 ∧ σ.1 46 = 0 ∧ σ.1 47 = 0 ∧ σ.1 13 = 0) (h15 : σ.1 15 = 0 ∧ σ.1 16 = 0 ∧ σ.1 18 = 0 ∧ σ.1 19 = 0) : sf5 (fun e' _ σ' => ∃ T X Bk N Z, QE5 T X Bk N Z e' σ') (rd5 e0) (g5_tellProgram_65 s1 σ) := by
  have n6 : n ≤ 65536 := by
    have := HS.2
    unfold nS5 at sn
    omega
  have Z2 : σ.1 2 = Int32.ofNat n := of_e5 (by
    have := HS.1
    unfold nS5 at sn
    omega) (by omega)
  unfold g5_tellProgram_65
  dsimp only [pb5]
  have hU2 : ((σ.2.2.1 1, U.2) : U5).2 = U.2 := rfl
  have hE := by_U5 (U := U) (U' := (σ.2.2.1 1, U.2)) hU2 (fun j hj => (hB j (by
    have := HU.1
    unfold nU5 at hn
    omega)).symm)
  obtain ⟨N, hK, fT, fR⟩ := cut_5 (U := (σ.2.2.1 1, U.2)) (σ := siU σ 3 s1) (n := n) (Bk := Bk) HU HS rfl hn sn hBk hs1
  rw [sl_5 hU2 hE] at hK
  replace hK := TK_b5 (B' := bU5 U) (fun j hj => (hB j hj).symm) hK
  have c2 : (g5_cutTape (siU σ 3 s1)).1 2 = Int32.ofNat n := (fT 2 (by decide)).trans Z2
  have c3 : (g5_cutTape (siU σ 3 s1)).1 3 = Int32.ofNat Bk := (fT 3 (by decide)).trans hs1
  have c11 : (g5_cutTape (siU σ 3 s1)).1 11 = 0 := (fT 11 (by decide)).trans h11.1
  have c46 : (g5_cutTape (siU σ 3 s1)).1 46 = 0 := (fT 46 (by decide)).trans h11.2.1
  have c47 : (g5_cutTape (siU σ 3 s1)).1 47 = 0 := (fT 47 (by decide)).trans h11.2.2.1
  have c13 : (g5_cutTape (siU σ 3 s1)).1 13 = 0 := (fT 13 (by decide)).trans h11.2.2.2
  have c15 : (g5_cutTape (siU σ 3 s1)).1 15 = 0 := (fT 15 (by decide)).trans h15.1
  have c16 : (g5_cutTape (siU σ 3 s1)).1 16 = 0 := (fT 16 (by decide)).trans h15.2.1
  have c18 : (g5_cutTape (siU σ 3 s1)).1 18 = 0 := (fT 18 (by decide)).trans h15.2.2.1
  have c19 : (g5_cutTape (siU σ 3 s1)).1 19 = 0 := (fT 19 (by decide)).trans h15.2.2.2
  obtain ⟨I1, I2, I3, I4⟩ := I
  have H := TR_5 (e := e0) HU hr rfl hn n6 hBk I1.1 I1.2 hK rfl
  generalize g5_cutTape (siU σ 3 s1) = σc at hK H c2 c3 c11 c46 c47 c13 c15 c16 c18 c19 ⊢
  have hh := H.1
  have eT : e0.1 taTotal = Int32.ofNat N := hh.1
  have lN := ofn_i (n := N) (by omega)
  rw [c3]
  have tk : f5_Pa_take e0 = .inl ((fun g => if g = paKind then e0.2.1 taKinds 0 else if g = paAt then 0 else e0.1 g, e0.2), ()) := by
    unfold f5_Pa_take stI5
    rw [rdl_5, I3.1]
    show (if (0 : Int32) < 0 then _ else if e0.1 taTotal ≤ (0 : Int32) then _ else _) = _
    rw [if_neg (show ¬ (0 : Int32) < 0 by decide), if_neg (show ¬ e0.1 taTotal ≤ (0 : Int32) by rw [eT, lei, lN, t0i]; omega)]
    rfl
  unfold rd5
  rw [tk, rdl_5]
  obtain ⟨e1, q1, q2, q3, q4, q5⟩ : ∃ e1 : E5, ((fun g => if g = paKind then e0.2.1 taKinds 0 else if g = paAt then 0 else e0.1 g, e0.2) : E5) = e1 ∧ tq5 e1 = tq5 e0 ∧ (e1.1 paAt = 0 ∧ e1.1 paKind = (tq5 e0).2.1 0) ∧ (gE5 e1 = gE5 e0 ∧ e1.2 = e0.2) ∧ (e1.1 paOpen = e0.1 paOpen ∧ e1.1 coMain = e0.1 coMain ∧ e1.1 taTotal = e0.1 taTotal) := ⟨_, rfl, rfl, ⟨rfl, rfl⟩, ⟨rfl, rfl⟩, rfl, rfl, rfl⟩
  rw [q1]
  clear q1 tk
  obtain ⟨σd, y1, y2, y3, y4⟩ : ∃ σd : rS, siU σc 10 (Int32.ofNat Bk) = σd ∧ sx5 σd = sx5 σc ∧ gS5 σd = gS5 σc ∧ (σd.1 2 = σc.1 2 ∧ σd.1 10 = Int32.ofNat Bk ∧ σd.1 11 = σc.1 11 ∧ σd.1 46 = σc.1 46 ∧ σd.1 47 = σc.1 47 ∧ σd.1 13 = σc.1 13) := ⟨_, rfl, rfl, rfl, rfl, rfl, rfl, rfl, rfl, rfl⟩
  rw [y1]
  have so : σd.2.2.1 5 (σd.1 10).toNatClampNeg = (sx5 σc).1 (Bk + 0) := by
    rw [y4.2.1, cl_5 (by omega), ← y2]
    rfl
  have ko := (kd_o5 (H.2.2.1 0 (by omega))).1
  unfold g5_readNext
  rw [so]
  by_cases c : (tq5 e0).2.1 0 = 143
  · rw [if_pos (ko.mpr c)]
    dsimp only [pb5]
    have d : dk5 ((tq5 e0).2.2.1 0) e1 := by
      refine ⟨q3.2.trans c, ?_⟩
      unfold pl5
      rw [q3.1, if_neg (show ¬ (0 : Int32) < 0 by decide), q5.2.2, if_neg (show ¬ e0.1 taTotal ≤ (0 : Int32) by rw [eT, lei, lN, t0i]; omega), q4.2]
      rfl
    have fl : (g5_flaw 1 (σd.1 10) σd).1 11 = 1 ∧ (g5_flaw 1 (σd.1 10) σd).1 12 = (tq5 e0).2.2.1 0 := by
      unfold g5_flaw g5_flaw_23
      dsimp only [pb5]
      rw [if_pos (y4.2.2.1.trans c11), so, if_pos (ko.mpr c)]
      refine ⟨rfl, ?_⟩
      show σd.2.2.1 6 (σd.1 10).toNatClampNeg = _
      rw [y4.2.1, cl_5 (by omega), H.2.1 0 (by omega), ← y2]
      rfl
    have z := kq_84 fu5 _ (kq_rf (s := g5_flaw 1 (σd.1 10) σd)) (by rw [fl.1]; decide)
    rcases dk_R5 (n := 0) (N := N) fu5 d (q5.2.2.trans eT) (by omega) (by omega) with w | w
    · exact Or.inl w
    · exact Or.inr (Or.inr ⟨1, _, by decide, z.1.trans fl.1, z.2.trans fl.2, w⟩)
  · rw [if_neg (fun q => c (ko.mp q))]
    have pz : ∀ (m : Nat) (nr rr : Nat → Int32), pN5 (tq5 e0) Bk N m 0 nr 0 rr 0 := fun m nr rr => ⟨by omega, rfl, rfl, fun k hk => absurd hk (by omega)⟩
    have w15 : σd.1 15 = 0 := (congrArg (fun W : W5 => W.1) y3).trans c15
    have w16 : σd.1 16 = 0 := (congrArg (fun W : W5 => W.2.2.1) y3).trans c16
    have w18 : σd.1 18 = 0 := (congrArg (fun W : W5 => W.2.2.2.2.1) y3).trans c18
    have w19 : σd.1 19 = 0 := (congrArg (fun W : W5 => wst5 W) y3).trans c19
    have L : LR5 (tq5 e0) (sx5 σc) Bk N (Int32.ofNat n) (gE5 e1) (gS5 σd) 0 0 e1 σd := by
      refine ⟨⟨q2, y2, y4.1.trans c2⟩, ⟨rfl, rfl⟩, ⟨by omega, q3.1, y4.2.1, q3.2, c⟩, ⟨y4.2.2.1.trans c11, y4.2.2.2.1.trans c46, y4.2.2.2.2.1.trans c47⟩, ?_, ?_, ?_⟩
      · rw [y4.2.2.2.2.2, c13, q5.1, I3.2.1]
      · rw [q5.1, I3.2.1]; decide
      · rw [q5.1, I3.2.1]; decide
    have o : oI5 (tq5 e0) (sx5 σc) Bk N (Int32.ofNat n) 0 0 e1 σd := by
      refine ⟨L, ?_, ?_, ?_, ?_, ?_⟩
      · rw [q4.1]
        refine ⟨⟨0, ?_⟩, ⟨0, ?_⟩, ⟨0, ?_, fun k hk => absurd hk (by omega)⟩, I4⟩
        · show pN5 (tq5 e0) Bk N 10 (e0.1 coVars) _ (σd.1 15) _ 0
          rw [I2.1, w15]
          exact pz _ _ _
        · show pN5 (tq5 e0) Bk N 3 (e0.1 coArrays) _ (σd.1 16) _ 0
          rw [I2.2.1, w16]
          exact pz _ _ _
        · show pN5 (tq5 e0) Bk N 10 (e0.1 coFunctions) _ (σd.1 18) _ 0
          rw [I2.2.2.2.1, w18]
          exact pz _ _ _
      · have q : e1.1 1010 = e0.1 1010 := congrArg (fun V : V5 => vow5 V) q4.1
        exact q.trans I3.2.2.2.1
      · have q : e1.1 1005 = e0.1 1005 := congrArg (fun V : V5 => vin5 V) q4.1
        exact q.trans I3.2.2.1
      · have q : e1.1 1014 = e0.1 1014 := congrArg (fun V : V5 => vbl5 V) q4.1
        exact q.trans I3.2.2.2.2
      · refine ⟨by decide, ?_, w19, fun j hj => absurd hj (by omega)⟩
        have q : e1.1 513 = e0.1 513 := congrArg (fun V : V5 => vst5 V) q4.1
        exact q.trans I2.2.2.2.2.1
    have z := (rd_l5 H fu5).1 fu5 0 0 0 e1 σd o (q5.2.1.trans I2.2.2.2.2.2.2) (by omega) (by unfold fu5; omega)
    rcases z with z | ⟨e', u, z, q⟩ | z
    · exact Or.inl z
    · exact Or.inr (Or.inl ⟨e', u, z, _, _, _, _, _, q⟩)
    · exact Or.inr (Or.inr z)
theorem rp_5 {U : U5} {e0 : E5} {σ : rS} {n : Nat} (HU : okU5 U) (hr : ∀ j, -128 ≤ (U.1 j).toInt ∧ (U.1 j).toInt ≤ 127) (HS : okS5 σ) (hB : ∀ j, j < n → bU5 U j = bS5 σ j) (hn : nU5 U = n) (sn : nS5 σ = n) (I : ini5 U e0) : sf5 (fun e' _ σ' => ∃ T X Bk N Z, QE5 T X Bk N Z e' σ') (rd5 e0) (g5_tellProgram σ) := by
  unfold g5_tellProgram
  dsimp only [pb5]
  by_cases c : (siU (siU (siU (siU (siU (siU (siU (siU (siU (siU σ 46 0) 47 0) 11 0) 12 0) 13 0) 15 0) 16 0) 17 0) 18 0) 19 0).1 3 = 0
  · rw [if_pos c]
    exact rp_B5 (Bk := 65537) HU hr HS hB hn sn I (by decide) rfl ⟨rfl, rfl, rfl, rfl⟩ ⟨rfl, rfl, rfl, rfl⟩
  · rw [if_neg c]
    exact rp_B5 (Bk := 0) HU hr HS hB hn sn I (by decide) rfl ⟨rfl, rfl, rfl, rfl⟩ ⟨rfl, rfl, rfl, rfl⟩

end
section
set_option maxHeartbeats 1600000
/-! the code of expressions run on a pile (the latest first); the reference's signs of the class's operators; what an expression is, step by step -/
abbrev Mm6 : Type := (Int32 → Int32 → Int32) × (Int32 → Int32 → Option Int32)
abbrev Qq6 : Type := Int32 × Int32
def bo6 (o x y : Int32) : Int32 := if o = 7 then (if x = 0 then (if y = 0 then 0 else 1) else 1) else if o = 8 then (if x = 0 then 0 else if y = 0 then 0 else 1) else if o = 9 then (if x = y then 1 else 0) else if o = 10 then (if x = y then 0 else 1) else if o = 11 then (if y ≤ x then 0 else 1) else if o = 12 then (if y < x then 0 else 1) else if o = 13 then (if x ≤ y then 0 else 1) else if o = 14 then (if x < y then 0 else 1) else if o = 15 then x + y else if o = 16 then x - y else if o = 17 then x * y else if o = 18 then x / y else x - x / y * y
def un16 (c x : Int32) : Int32 := if c = 5 then -x else if x = 0 then 1 else 0
/-- one piece of code -/
def on6 (M : Mm6) (c : Qq6) (st : List Int32) : List Int32 ⊕ Int32 :=
  if c.1 ≤ 3 then .inl ((if c.1 = 1 then c.2 else M.1 c.1 c.2) :: st)
  else if c.1 = 4 then (match st with
    | [] => .inl []
    | i :: r => match M.2 c.2 i with
      | some v => .inl (v :: r)
      | none => .inr 1)
  else if c.1 ≤ 6 then (match st with
    | [] => .inl []
    | x :: r => .inl (un16 c.1 x :: r))
  else (match st with
    | [] => .inl []
    | [x] => .inl [x]
    | y :: x :: r => if 18 ≤ c.1 ∧ y = 0 then .inr 2 else .inl (bo6 c.1 x y :: r))
def ex6 (M : Mm6) : List Qq6 → List Int32 → List Int32 ⊕ Int32
  | [], st => .inl st
  | c :: r, st => match on6 M c st with
    | .inl s => ex6 M r s
    | .inr f => .inr f
theorem ex_a6 {M : Mm6} : ∀ {K L : List Qq6} {st : List Int32}, ex6 M (K ++ L) st = match ex6 M K st with
    | .inl s => ex6 M L s
    | .inr f => .inr f
  | [], _, _ => rfl
  | c :: K, L, st => by
    show (match on6 M c st with | .inl s => ex6 M (K ++ L) s | .inr f => .inr f) = match (match on6 M c st with | .inl s => ex6 M K s | .inr f => .inr f) with | .inl s => ex6 M L s | .inr f => .inr f
    cases on6 M c st with
    | inl s => exact ex_a6
    | inr f => rfl
theorem ex_c6 {M : Mm6} {c : Qq6} {K : List Qq6} {st s : List Int32} (h : on6 M c st = .inl s) : ex6 M (c :: K) st = ex6 M K s := by
  show (match on6 M c st with | .inl s => ex6 M K s | .inr f => .inr f) = _
  rw [h]
theorem ex_x6 {M : Mm6} {c : Qq6} {K : List Qq6} {st : List Int32} {f : Int32} (h : on6 M c st = .inr f) : ex6 M (c :: K) st = .inr f := by
  show (match on6 M c st with | .inl s => ex6 M K s | .inr f => .inr f) = _
  rw [h]
theorem ex_i6 {M : Mm6} {K L : List Qq6} {st s : List Int32} (h : ex6 M K st = .inl s) : ex6 M (K ++ L) st = ex6 M L s := by
  rw [ex_a6, h]
theorem ex_f6 {M : Mm6} {K L : List Qq6} {st : List Int32} {f : Int32} (h : ex6 M K st = .inr f) : ex6 M (K ++ L) st = .inr f := by
  rw [ex_a6, h]
def cd6 (l : List Int32) : List Qq6 := l.map (fun c => (c, 0))
/-- the reference's sign of an operator that waits -/
def sg6 (c : Int32) : Int32 := if c = 5 then 1001 else if c = 6 then 1000 else if c = 7 then 124 else if c = 8 then 38 else if c = 9 then 256 else if c = 10 then 257 else if c = 11 then 60 else if c = 12 then 258 else if c = 13 then 62 else if c = 14 then 259 else if c = 15 then 43 else if c = 16 then 45 else if c = 17 then 42 else if c = 18 then 47 else if c = 19 then 37 else if c = 100 then 40 else 91
abbrev bi16 (c : Int32) : Prop := c = 7 ∨ c = 8 ∨ c = 9 ∨ c = 10 ∨ c = 11 ∨ c = 12 ∨ c = 13 ∨ c = 14 ∨ c = 15 ∨ c = 16 ∨ c = 17 ∨ c = 18 ∨ c = 19
abbrev br16 (c : Int32) : Prop := c = 100 ∨ c = 101 ∨ c = 102 ∨ c = 103
abbrev us16 (c : Int32) : Prop := c = 5 ∨ c = 6
abbrev vo6 (c : Int32) : Prop := us16 c ∨ br16 c ∨ bi16 c
theorem us_f6 {c : Int32} (h : us16 c) : f5_Pa_rankOf c = 6 ∧ rk5 (sg6 c) = 0 ∧ (sg6 c = 1000 ∨ sg6 c = 1001) ∧ (sg6 c = 1000 ↔ c = 6) ∧ ¬ br16 c ∧ ¬ bi16 c := by
  rcases h with rfl | rfl <;> decide
theorem br_f6 {c : Int32} (h : br16 c) : f5_Pa_rankOf c = 0 ∧ rk5 (sg6 c) = 0 ∧ sg6 c ≠ 1000 ∧ sg6 c ≠ 1001 ∧ (sg6 c = 40 ↔ c = 100) ∧ ¬ us16 c ∧ ¬ bi16 c := by
  rcases h with rfl | rfl | rfl | rfl <;> decide
theorem bi_f6 {c : Int32} (h : bi16 c) : f5_Pa_rankOf c = rk5 (sg6 c) ∧ 1 ≤ (rk5 (sg6 c)).toInt ∧ (rk5 (sg6 c)).toInt ≤ 5 ∧ sg6 c ≠ 1000 ∧ sg6 c ≠ 1001 ∧ ¬ us16 c ∧ ¬ br16 c := by
  rcases h with rfl | rfl | rfl | rfl | rfl | rfl | rfl | rfl | rfl | rfl | rfl | rfl | rfl <;> decide
theorem by_16 : ∀ n, n < 128 → f5_Pa_binary (Int32.ofNat n) ≠ -1 → bi16 (f5_Pa_binary (Int32.ofNat n)) ∧ sg6 (f5_Pa_binary (Int32.ofNat n)) = Int32.ofNat n := by decide +kernel
theorem by_26 : ∀ n, n < 4 → bi16 (f5_Pa_binary (Int32.ofNat (128 + n))) ∧ sg6 (f5_Pa_binary (Int32.ofNat (128 + n))) = Int32.ofNat (256 + n) := by decide +kernel
/-- a token that is an operator: the reference's sign is that operator's -/
theorem by_6 {K so nu : Int32} (h : kd5 K so nu) (hb : f5_Pa_binary K ≠ -1) : so = 3 ∧ bi16 (f5_Pa_binary K) ∧ sg6 (f5_Pa_binary K) = nu := by
  rcases bi_5 h with ⟨q, _⟩ | ⟨_, w⟩
  · refine ⟨q, ?_⟩
    have z3 : ∀ x : Int32, x ≠ 3 → so = x → False := fun x a b => a (b.symm.trans q)
    rcases h with ⟨_, b⟩ | ⟨_, b⟩ | ⟨_, b⟩ | ⟨_, b⟩ | ⟨_, _, b, _⟩ | ⟨_, d⟩
    · exact (z3 4 (by decide) b).elim
    · exact (z3 1 (by decide) b).elim
    · exact (z3 2 (by decide) b).elim
    · exact (z3 5 (by decide) b).elim
    · exact (z3 6 (by decide) b).elim
    · rcases d with ⟨d1, d2, d3⟩ | ⟨d1, d2, d3⟩
      · have e : K = Int32.ofNat K.toInt.toNat := Int32.toInt_inj.mp (by rw [ofn_i (by omega)]; omega)
        have z := by_16 K.toInt.toNat (by omega)
        rw [← e] at z
        rw [d3]
        exact z hb
      · have e : K = Int32.ofNat (128 + (K.toInt.toNat - 128)) := Int32.toInt_inj.mp (by rw [ofn_i (by omega)]; omega)
        have z := by_26 (K.toInt.toNat - 128) (by omega)
        rw [← e] at z
        have t128 : (128 : Int32).toInt = 128 := rfl
        have e2 : Int32.ofNat (256 + (K.toInt.toNat - 128)) = nu := Int32.toInt_inj.mp (by rw [ofn_i (by omega), d3, add_i (by omega) (by omega), t128]; omega)
        rw [e2] at z
        exact z
  · exact absurd w hb
/-- lists of what waits (the class's operators, the latest first) -/
def vC6 : List Int32 → Prop
  | [] => True
  | c :: C => vo6 c ∧ vC6 C
def nu6 : List Int32 → Prop
  | [] => True
  | c :: _ => ¬ us16 c
def wf6 : List Int32 → Prop
  | [] => True
  | c :: C => (bi16 c → nu6 C) ∧ wf6 C
def bk6 : List Int32 → Nat
  | [] => 0
  | c :: C => (if br16 c then 1 else 0) + bk6 C
def bc6 : List Int32 → Nat
  | [] => 0
  | c :: C => (if bi16 c then 1 else 0) + bc6 C
def up6 : List Int32 → List Int32
  | [] => []
  | c :: C => if us16 c then c :: up6 C else []
def dn6 : List Int32 → List Int32
  | [] => []
  | c :: C => if us16 c then dn6 C else c :: C
def ua6 : List Int32 → Int32 → Int32
  | [], x => x
  | c :: U, x => ua6 U (un16 c x)
def tk6 (r : Int32) : List Int32 → List Int32
  | [] => []
  | c :: C => if f5_Pa_rankOf c < r then [] else c :: tk6 r C
def nt6 : List Int32 → Prop
  | [] => True
  | c :: _ => f5_Pa_rankOf c ≠ 3
theorem ud_6 : ∀ {C : List Int32}, C = up6 C ++ dn6 C
  | [] => rfl
  | c :: C => by
    unfold up6 dn6
    by_cases h : us16 c
    · rw [if_pos h, if_pos h, List.cons_append, ← ud_6]
    · rw [if_neg h, if_neg h]; rfl
theorem nu_d6 : ∀ {C : List Int32}, nu6 (dn6 C)
  | [] => trivial
  | c :: C => by
    unfold dn6
    by_cases h : us16 c
    · rw [if_pos h]; exact nu_d6
    · rw [if_neg h]; exact h
theorem vC_d6 : ∀ {C : List Int32}, vC6 C → vC6 (dn6 C)
  | [], _ => trivial
  | c :: C, h => by
    unfold dn6
    by_cases q : us16 c
    · rw [if_pos q]; exact vC_d6 h.2
    · rw [if_neg q]; exact h
theorem wf_d6 : ∀ {C : List Int32}, wf6 C → wf6 (dn6 C)
  | [], _ => trivial
  | c :: C, h => by
    unfold dn6
    by_cases q : us16 c
    · rw [if_pos q]; exact wf_d6 h.2
    · rw [if_neg q]; exact h
theorem bk_d6 : ∀ {C : List Int32}, bk6 (dn6 C) = bk6 C
  | [] => rfl
  | c :: C => by
    unfold dn6
    by_cases q : us16 c
    · rw [if_pos q, bk_d6]
      show _ = (if br16 c then 1 else 0) + bk6 C
      rw [if_neg (us_f6 q).2.2.2.2.1]; omega
    · rw [if_neg q]
theorem bc_d6 : ∀ {C : List Int32}, bc6 (dn6 C) = bc6 C
  | [] => rfl
  | c :: C => by
    unfold dn6
    by_cases q : us16 c
    · rw [if_pos q, bc_d6]
      show _ = (if bi16 c then 1 else 0) + bc6 C
      rw [if_neg (us_f6 q).2.2.2.2.2]; omega
    · rw [if_neg q]
theorem dn_l6 : ∀ {C : List Int32}, (dn6 C).length ≤ C.length
  | [] => Nat.le_refl _
  | c :: C => by
    unfold dn6
    by_cases q : us16 c
    · rw [if_pos q, List.length_cons]; have := dn_l6 (C := C); omega
    · rw [if_neg q]; exact Nat.le_refl _
theorem bc_l6 : ∀ {C : List Int32}, bc6 C ≤ C.length
  | [] => Nat.le_refl _
  | c :: C => by
    show (if bi16 c then 1 else 0) + bc6 C ≤ C.length + 1
    have := bc_l6 (C := C)
    by_cases h : bi16 c
    · rw [if_pos h]; omega
    · rw [if_neg h]; omega
theorem bk_l6 : ∀ {C : List Int32}, bk6 C ≤ C.length
  | [] => Nat.le_refl _
  | c :: C => by
    show (if br16 c then 1 else 0) + bk6 C ≤ C.length + 1
    have := bk_l6 (C := C)
    by_cases h : br16 c
    · rw [if_pos h]; omega
    · rw [if_neg h]; omega
/-- signs in front are settled first -/
theorem dC_u6 {r : Int32} (h5 : r.toInt ≤ 5) : ∀ {C : List Int32}, drC5 r C = drC5 r (dn6 C) ∧ tk6 r C = up6 C ++ tk6 r (dn6 C)
  | [] => ⟨rfl, rfl⟩
  | c :: C => by
    have k6 : (6 : Int32).toInt = 6 := rfl
    unfold dn6 up6
    by_cases q : us16 c
    · rw [if_pos q, if_pos q]
      have n : ¬ f5_Pa_rankOf c < r := by rw [(us_f6 q).1, lti, k6]; omega
      obtain ⟨z1, z2⟩ := dC_u6 h5 (C := C)
      refine ⟨?_, ?_⟩
      · rw [← z1]
        show (if _ then _ else _) = _
        rw [if_neg n]
      · rw [List.cons_append, ← z2]
        show (if _ then _ else _) = _
        rw [if_neg n]
    · rw [if_neg q, if_neg q]
      exact ⟨rfl, rfl⟩
/-- signs turned are their code run -/
theorem ex_u6 {M : Mm6} : ∀ {C : List Int32} {x : Int32} {P : List Int32}, ex6 M (cd6 (up6 C)) (x :: P) = .inl (ua6 (up6 C) x :: P)
  | [], _, _ => rfl
  | c :: C, x, P => by
    unfold up6
    by_cases q : us16 c
    · rw [if_pos q]
      have o : on6 M (c, 0) (x :: P) = .inl (un16 c x :: P) := by
        unfold on6
        rcases q with rfl | rfl
        · rfl
        · rfl
      show ex6 M ((c, 0) :: cd6 (up6 C)) (x :: P) = .inl (ua6 (up6 C) (un16 c x) :: P)
      rw [ex_c6 o]
      exact ex_u6
    · rw [if_neg q]; rfl
/-- an expression, step by step: rs the code of a variable's name, ra the array of a cell's -/
def Ch6 (T : T5) (qb : Nat) (rs : Nat → Qq6) (ra : Nat → Int32) : Nat → Bool → Nat → List Int32 → List Qq6 → Nat → Prop
  | 0, _, _, _, _, _ => False
  | m + 1, false, a, C, K, a' =>
    (T.2.1 a = 141 ∧ ∃ K', K = (1, f5_Ta_numberAt T (Int32.ofNat a)) :: K' ∧ Ch6 T qb rs ra m true (a + 1) C K' a') ∨
    (∃ o, (T.2.1 a = 33 ∧ o = 6 ∨ T.2.1 a = 45 ∧ o = 5) ∧ Ch6 T qb rs ra m false (a + 1) (o :: C) K a') ∨
    (T.2.1 a = 40 ∧ bk6 C < qb ∧ Ch6 T qb rs ra m false (a + 1) (100 :: C) K a') ∨
    (T.2.1 a = 140 ∧ T.2.1 (a + 1) ≠ 91 ∧ T.2.1 (a + 1) ≠ 40 ∧ (((rs a).1 = 2 ∨ (rs a).1 = 3) ∧ (rs a).2 ≠ -1) ∧ ∃ K', K = rs a :: K' ∧ Ch6 T qb rs ra m true (a + 1) C K' a') ∨
    (T.2.1 a = 140 ∧ T.2.1 (a + 1) = 91 ∧ bk6 C < qb ∧ (ra a = 0 ∨ ra a = 1 ∨ ra a = 2) ∧ Ch6 T qb rs ra m false (a + 2) ((101 + ra a) :: C) K a')
  | m + 1, true, a, C, K, a' =>
    (∃ o r K', f5_Pa_binary (T.2.1 a) = o ∧ o ≠ -1 ∧ r = (if f5_Pa_rankOf o = 3 then 4 else f5_Pa_rankOf o) ∧ (f5_Pa_rankOf o = 3 → nt6 (drC5 r C)) ∧ K = cd6 (tk6 r C) ++ K' ∧ Ch6 T qb rs ra m false (a + 1) (o :: drC5 r C) K' a') ∨
    (f5_Pa_binary (T.2.1 a) = -1 ∧ ∃ c C' K', drC5 1 C = c :: C' ∧ T.2.1 a = (if c = 100 then 41 else 93) ∧ K = cd6 (tk6 1 C) ++ ((if c = 100 then [] else [(4, c - 101)]) ++ K') ∧ Ch6 T qb rs ra m true (a + 1) C' K' a') ∨
    (f5_Pa_binary (T.2.1 a) = -1 ∧ drC5 1 C = [] ∧ K = cd6 (tk6 1 C) ∧ a' = a)

end
section
set_option maxHeartbeats 1600000
/-! the reference works an expression out (mode 1): what waits, the pile, one step after the other -/
/-- what an expression leaves as it was -/
def F6 (σ σ' : rS) : Prop := (∀ f, f ≠ 10 → f ≠ 13 → f ≠ 47 → f ≠ 48 → f ≠ 49 → σ'.1 f = σ.1 f) ∧ σ'.2.1 = σ.2.1 ∧ (∀ f, f ≠ 50 → f ≠ 51 → f ≠ 52 → σ'.2.2.1 f = σ.2.2.1 f) ∧ σ'.2.2.2 = σ.2.2.2
theorem F_r6 {σ : rS} : F6 σ σ := ⟨fun _ _ _ _ _ _ => rfl, rfl, fun _ _ _ _ => rfl, rfl⟩
theorem F_t6 {σ τ υ : rS} (h : F6 σ τ) (k : F6 τ υ) : F6 σ υ := ⟨fun f a b c d e => (k.1 f a b c d e).trans (h.1 f a b c d e), k.2.1.trans h.2.1, fun f a b c => (k.2.2.1 f a b c).trans (h.2.2.1 f a b c), k.2.2.2.trans h.2.2.2⟩
theorem F_si6 {σ : rS} {f : Nat} {x : Int32} (h : f = 10 ∨ f = 13 ∨ f = 47 ∨ f = 48 ∨ f = 49) : F6 σ (siU σ f x) := by
  refine ⟨fun g a b c d e => ?_, rfl, fun _ _ _ _ => rfl, rfl⟩
  rw [si1, if_neg]
  rintro rfl
  rcases h with h | h | h | h | h
  · exact a h
  · exact b h
  · exact c h
  · exact d h
  · exact e h
theorem F_ri6 {σ : rS} {f i : Nat} {x : Int32} (h : f = 50 ∨ f = 51 ∨ f = 52) : F6 σ (riU σ f i x) := by
  refine ⟨fun _ _ _ _ _ _ => rfl, rfl, fun g a b c => ?_, rfl⟩
  refine ri3 ?_
  rintro rfl
  rcases h with h | h | h
  · exact a h
  · exact b h
  · exact c h
theorem F_sx6 {σ σ' : rS} (h : F6 σ σ') : sx5 σ' = sx5 σ := by
  unfold sx5
  rw [h.2.2.1 5 (by decide) (by decide) (by decide), h.2.2.1 6 (by decide) (by decide) (by decide), h.2.2.1 7 (by decide) (by decide) (by decide), h.2.2.1 9 (by decide) (by decide) (by decide), h.2.2.2]
theorem F_va6 {σ σ' : rS} {r : Int32} (h : F6 σ σ') : g5_valueOf r σ' = g5_valueOf r σ := by
  unfold g5_valueOf
  rw [h.2.2.1 60 (by decide) (by decide) (by decide), h.2.2.1 57 (by decide) (by decide) (by decide), h.1 58 (by decide) (by decide) (by decide) (by decide) (by decide)]
theorem F_ce6 {σ σ' : rS} {r i : Int32} (h : F6 σ σ') : g5_cellOf r i σ' = g5_cellOf r i σ := by
  unfold g5_cellOf
  dsimp only [pb5]
  rw [h.2.2.1 23 (by decide) (by decide) (by decide), h.2.2.1 24 (by decide) (by decide) (by decide), h.1 15 (by decide) (by decide) (by decide) (by decide) (by decide)]
/-- what waits, and its arrays; the pile -/
def rq6 (row : Nat → Int32) : List Int32 → Prop
  | [] => True
  | c :: C => (br16 c → c ≠ 100 → row C.length = c + 99) ∧ rq6 row C
def wt6 (σ : rS) (C : List Int32) : Prop := σ.1 48 = Int32.ofNat C.length ∧ stk5 (σ.2.2.1 50) (C.map sg6) ∧ rq6 (σ.2.2.1 51) C
def pl6 (σ : rS) (P : List Int32) : Prop := σ.1 49 = Int32.ofNat P.length ∧ stk5 (σ.2.2.1 52) P
theorem rq_e6 {row row' : Nat → Int32} : ∀ {C : List Int32}, (∀ i, i < C.length → row' i = row i) → rq6 row C → rq6 row' C
  | [], _, _ => trivial
  | c :: C, h, s => ⟨fun a b => by rw [h C.length (by rw [List.length_cons]; omega)]; exact s.1 a b, rq_e6 (fun i hi => h i (by rw [List.length_cons]; omega)) s.2⟩
theorem wt_S6 {σ : rS} {C : List Int32} (w : wt6 σ C) : wS5 σ (C.map sg6) := ⟨by rw [List.length_map]; exact w.1, w.2.1⟩
theorem wt_e6 {σ σ' : rS} {C : List Int32} (w : wt6 σ C) (h1 : σ'.1 48 = σ.1 48) (h2 : σ'.2.2.1 50 = σ.2.2.1 50) (h3 : σ'.2.2.1 51 = σ.2.2.1 51) : wt6 σ' C := ⟨h1.trans w.1, by rw [h2]; exact w.2.1, by rw [h3]; exact w.2.2⟩
theorem pl_e6 {σ σ' : rS} {P : List Int32} (w : pl6 σ P) (h1 : σ'.1 49 = σ.1 49) (h2 : σ'.2.2.1 52 = σ.2.2.1 52) : pl6 σ' P := ⟨h1.trans w.1, by rw [h2]; exact w.2⟩
theorem tp_6 {σ : rS} {c : Int32} {C : List Int32} (w : wt6 σ (c :: C)) (hl : C.length ≤ 1000000) : g5_top σ = sg6 c ∧ (σ.1 48 - 1).toNatClampNeg = C.length ∧ σ.1 48 - 1 = Int32.ofNat C.length := by
  have z := tp_5 (s := sg6 c) (S := C.map sg6) (wt_S6 w) (by rw [List.length_map]; exact hl)
  rw [List.length_map] at z
  exact z
theorem tp_06 {σ : rS} (w : wt6 σ []) : g5_top σ = 0 := tp_05 (wt_S6 w)
theorem pl_16 {σ : rS} {x : Int32} {P : List Int32} (w : pl6 σ (x :: P)) (hl : P.length ≤ 1000000) : (σ.1 49 - 1).toNatClampNeg = P.length ∧ σ.1 49 - 1 = Int32.ofNat P.length ∧ σ.2.2.1 52 P.length = x := by
  have e0 : σ.1 49 = Int32.ofNat (P.length + 1) := w.1
  have l0 := ofn_i (n := P.length + 1) (by omega)
  have l1 := ofn_i (n := P.length) (by omega)
  have e1 : σ.1 49 - 1 = Int32.ofNat P.length := by
    apply Int32.toInt_inj.mp
    rw [e0, sub_i (by rw [t1i]; omega) (by rw [t1i]; omega), l0, l1, t1i]
    omega
  exact ⟨by rw [e1, cl_5 (by omega)], e1, w.2.1⟩
/-- popped from what waits -/
theorem wt_p6 {σ : rS} {c : Int32} {C : List Int32} (w : wt6 σ (c :: C)) (hl : C.length ≤ 1000000) : wt6 (siU σ 48 (σ.1 48 - 1)) C := ⟨(tp_6 w hl).2.2, w.2.1.2, w.2.2.2⟩
/-- a row's cell stored above a list -/
theorem st_u6 {row : Nat → Int32} {i : Nat} {x : Int32} {L : List Int32} (h : stk5 row L) (hi : L.length ≤ i) : stk5 (fun j => if j = i then x else row j) L := stk_e5 (fun j hj => if_neg (by omega)) h
/-- the top of the pile changed -/
theorem pl_u6 {σ : rS} {x y : Int32} {P : List Int32} (w : pl6 σ (x :: P)) : pl6 (riU σ 52 P.length y) (y :: P) := by
  refine ⟨w.1, ?_, ?_⟩
  · exact ri4.trans (if_pos rfl)
  · refine stk_e5 (fun j hj => ?_) w.2.2
    exact ri4.trans (if_neg (by omega))
theorem wt_u6 {σ : rS} {i : Nat} {x : Int32} {C : List Int32} (w : wt6 σ C) : wt6 (riU σ 52 i x) C := by
  refine wt_e6 w rfl ?_ ?_
  · funext j
    show (if 50 = 52 ∧ j = i then x else σ.2.2.1 50 j) = _
    exact if_neg (fun q => absurd q.1 (by decide))
  · funext j
    show (if 51 = 52 ∧ j = i then x else σ.2.2.1 51 j) = _
    exact if_neg (fun q => absurd q.1 (by decide))
theorem pl_s6 {σ : rS} {f : Nat} {x : Int32} {P : List Int32} (w : pl6 σ P) (h : f ≠ 49) : pl6 (siU σ f x) P := ⟨by rw [si1, if_neg (fun q => h q.symm)]; exact w.1, w.2⟩
theorem wt_s6 {σ : rS} {f : Nat} {x : Int32} {C : List Int32} (w : wt6 σ C) (h : f ≠ 48) : wt6 (siU σ f x) C := ⟨by rw [si1, if_neg (fun q => h q.symm)]; exact w.1, w.2.1, w.2.2⟩
/-- where the reference stands within an expression -/
def ok6 (σ : rS) : Prop := σ.1 11 = 0 ∧ σ.1 46 = 1 ∧ σ.1 47 = 0
theorem ok_go6 {σ : rS} (h : ok6 σ) : g5_goesOn σ = 1 ∧ g5_isRight σ = 1 := by
  have r : g5_isRight σ = 1 := if_pos h.1
  refine ⟨?_, r⟩
  unfold g5_goesOn
  dsimp only [pb5]
  rw [r, if_neg ne105, if_pos h.2.2]
theorem ok_F6 {σ σ' : rS} (h : ok6 σ) (k : F6 σ σ') (z : σ'.1 47 = 0) : ok6 σ' := ⟨(k.1 11 (by decide) (by decide) (by decide) (by decide) (by decide)).trans h.1, (k.1 46 (by decide) (by decide) (by decide) (by decide) (by decide)).trans h.2.1, z⟩
/-- signs turned -/
theorem tu_m6 : ∀ (m : Nat) (C P : List Int32) (x : Int32) (σ : rS), wt6 σ C → vC6 C → pl6 σ (x :: P) → C.length ≤ 1000000 → P.length ≤ 1000000 → C.length < m → wt6 (g5_turn_0 m σ) (dn6 C) ∧ pl6 (g5_turn_0 m σ) (ua6 (up6 C) x :: P) ∧ F6 σ (g5_turn_0 m σ) ∧ (g5_turn_0 m σ).1 10 = σ.1 10 ∧ (g5_turn_0 m σ).1 13 = σ.1 13 ∧ (g5_turn_0 m σ).1 47 = σ.1 47
  | 0, _, _, _, _, _, _, _, _, _, h => absurd h (by omega)
  | m + 1, [], P, x, σ, w, _, p, _, _, _ => by
    have e : g5_turn_0 (m + 1) σ = σ := by
      rw [g5_turn_0]
      dsimp only [pb5]
      rw [tp_06 w, if_neg (by decide), if_neg (by decide)]
    rw [e]
    exact ⟨w, p, F_r6, rfl, rfl, rfl⟩
  | m + 1, c :: C, P, x, σ, w, v, p, hl, hp, hm => by
    rw [List.length_cons] at hl hm
    obtain ⟨t1, t2, t3⟩ := tp_6 w (by omega)
    obtain ⟨p1, p2, p3⟩ := pl_16 p hp
    unfold up6 dn6
    by_cases q : us16 c
    · rw [if_pos q, if_pos q]
      have e : g5_turn_0 (m + 1) σ = g5_turn_0 m (siU (riU σ 52 P.length (un16 c x)) 48 ((riU σ 52 P.length (un16 c x)).1 48 - 1)) := by
        rw [g5_turn_0]
        dsimp only [pb5]
        rw [t1]
        unfold g5_turn_20 g5_turn_69
        dsimp only [pb5]
        rw [t1, p1, p3]
        rcases q with rfl | rfl
        · rw [if_neg (by decide), if_pos (by decide), if_neg (by decide)]
          rfl
        · rw [if_pos (by decide), if_pos (by decide)]
          by_cases z : x = 0
          · rw [if_pos z]
            have u : un16 6 x = g5_truth 1 σ := by
              unfold un16 g5_truth
              rw [if_neg (by decide), if_pos z, if_neg (by decide)]
            rw [u]
          · rw [if_neg z]
            have u : un16 6 x = g5_truth 0 σ := by
              unfold un16 g5_truth
              rw [if_neg (by decide), if_neg z, if_pos rfl]
            rw [u]
      rw [e]
      have w1 : wt6 (siU (riU σ 52 P.length (un16 c x)) 48 ((riU σ 52 P.length (un16 c x)).1 48 - 1)) C := wt_p6 (σ := riU σ 52 P.length (un16 c x)) (wt_u6 w) (by omega)
      have p4 : pl6 (siU (riU σ 52 P.length (un16 c x)) 48 ((riU σ 52 P.length (un16 c x)).1 48 - 1)) (un16 c x :: P) := pl_s6 (pl_u6 p) (by decide)
      obtain ⟨a1, a2, a3, a4, a5, a6⟩ := tu_m6 m C P (un16 c x) _ w1 v.2 p4 (by omega) hp (by omega)
      refine ⟨a1, a2, F_t6 (F_t6 (F_ri6 (Or.inr (Or.inr rfl))) (F_si6 (by decide))) a3, ?_, ?_, ?_⟩
      · rw [a4, si1, if_neg (by decide)]; rfl
      · rw [a5, si1, if_neg (by decide)]; rfl
      · rw [a6, si1, if_neg (by decide)]; rfl
    · rw [if_neg q, if_neg q]
      have n1 : sg6 c ≠ 1000 ∧ sg6 c ≠ 1001 := by
        rcases v.1 with h | h | h
        · exact absurd h q
        · exact ⟨(br_f6 h).2.2.1, (br_f6 h).2.2.2.1⟩
        · exact ⟨(bi_f6 h).2.2.2.1, (bi_f6 h).2.2.2.2.1⟩
      have e : g5_turn_0 (m + 1) σ = σ := by
        rw [g5_turn_0]
        dsimp only [pb5]
        rw [t1, if_neg n1.1, if_neg n1.2]
      rw [e]
      exact ⟨w, p, F_r6, rfl, rfl, rfl⟩
theorem tu_6 {C P : List Int32} {x : Int32} {σ : rS} (w : wt6 σ C) (v : vC6 C) (p : pl6 σ (x :: P)) (hl : C.length ≤ 1000000) (hp : P.length ≤ 1000000) : wt6 (g5_turn σ) (dn6 C) ∧ pl6 (g5_turn σ) (ua6 (up6 C) x :: P) ∧ F6 σ (g5_turn σ) ∧ (g5_turn σ).1 10 = σ.1 10 ∧ (g5_turn σ).1 13 = σ.1 13 ∧ (g5_turn σ).1 47 = σ.1 47 := tu_m6 fu5 C P x σ w v p hl hp (by unfold fu5; omega)
/-- a number pushed -/
theorem ps_6 {C P : List Int32} {x : Int32} {σ : rS} (w : wt6 σ C) (v : vC6 C) (p : pl6 σ P) (hl : C.length ≤ 1000000) (hp : P.length ≤ 1000000) : wt6 (g5_push x σ) (dn6 C) ∧ pl6 (g5_push x σ) (ua6 (up6 C) x :: P) ∧ F6 σ (g5_push x σ) ∧ (g5_push x σ).1 10 = σ.1 10 ∧ (g5_push x σ).1 13 = σ.1 13 ∧ (g5_push x σ).1 47 = σ.1 47 := by
  unfold g5_push
  dsimp only [pb5]
  have e0 : (σ.1 49).toNatClampNeg = P.length := by rw [p.1, cl_5 (by omega)]
  rw [e0]
  have w1 : wt6 (siU (riU σ 52 P.length x) 49 ((riU σ 52 P.length x).1 49 + 1)) C := wt_s6 (wt_u6 w) (by decide)
  have p1 : pl6 (siU (riU σ 52 P.length x) 49 ((riU σ 52 P.length x).1 49 + 1)) (x :: P) := by
    refine ⟨?_, ?_, ?_⟩
    · rw [si1, if_pos rfl]
      show σ.1 49 + 1 = Int32.ofNat (P.length + 1)
      rw [p.1, on_15 (by omega)]
    · show (riU σ 52 P.length x).2.2.1 52 P.length = x
      exact ri4.trans (if_pos rfl)
    · refine stk_e5 (fun j hj => ?_) p.2
      show (riU σ 52 P.length x).2.2.1 52 j = _
      exact ri4.trans (if_neg (by omega))
  obtain ⟨a1, a2, a3, a4, a5, a6⟩ := tu_6 w1 v p1 hl hp
  refine ⟨a1, a2, F_t6 (F_t6 (F_ri6 (Or.inr (Or.inr rfl))) (F_si6 (by decide))) a3, ?_, ?_, ?_⟩
  · rw [a4, si1, if_neg (by decide)]; rfl
  · rw [a5, si1, if_neg (by decide)]; rfl
  · rw [a6, si1, if_neg (by decide)]; rfl
/-- something held -/
theorem ho_6 {C : List Int32} {c y : Int32} {σ : rS} (w : wt6 σ C) (hl : C.length ≤ 1000000) (hy : br16 c → c ≠ 100 → y = c + 99) : wt6 (g5_hold (sg6 c) y σ) (c :: C) ∧ F6 σ (g5_hold (sg6 c) y σ) ∧ (g5_hold (sg6 c) y σ).1 10 = σ.1 10 ∧ (g5_hold (sg6 c) y σ).1 13 = σ.1 13 ∧ (g5_hold (sg6 c) y σ).1 47 = σ.1 47 ∧ (g5_hold (sg6 c) y σ).1 49 = σ.1 49 ∧ (g5_hold (sg6 c) y σ).2.2.1 52 = σ.2.2.1 52 := by
  unfold g5_hold
  dsimp only [pb5]
  have e0 : (σ.1 48).toNatClampNeg = C.length := by rw [w.1, cl_5 (by omega)]
  have e1 : ((riU σ 50 C.length (sg6 c)).1 48).toNatClampNeg = C.length := e0
  rw [e0, e1]
  refine ⟨⟨?_, ⟨?_, ?_⟩, ⟨fun a b => ?_, ?_⟩⟩, F_t6 (F_t6 (F_ri6 (Or.inl rfl)) (F_ri6 (Or.inr (Or.inl rfl)))) (F_si6 (by decide)), rfl, rfl, rfl, rfl, rfl⟩
  · rw [si1, if_pos rfl]
    show σ.1 48 + 1 = Int32.ofNat (C.length + 1)
    rw [w.1, on_15 (by omega)]
  · show (riU (riU σ 50 C.length (sg6 c)) 51 C.length y).2.2.1 50 (C.map sg6).length = sg6 c
    rw [ri3 (by decide), ri4, if_pos (List.length_map _)]
  · refine stk_e5 (fun j hj => ?_) w.2.1
    rw [List.length_map] at hj
    show (riU (riU σ 50 C.length (sg6 c)) 51 C.length y).2.2.1 50 j = _
    rw [ri3 (by decide), ri4, if_neg (by omega)]
  · show (riU (riU σ 50 C.length (sg6 c)) 51 C.length y).2.2.1 51 C.length = _
    rw [ri4, if_pos rfl]; exact hy a b
  · refine rq_e6 (fun j hj => ?_) w.2.2
    show (riU (riU σ 50 C.length (sg6 c)) 51 C.length y).2.2.1 51 j = _
    rw [ri4, if_neg (by omega), ri3 (by decide)]
/-- an operator done -/
theorem bo_6 {σ : rS} {c x y : Int32} (h : bi16 c) : (if sg6 c = 47 then g5_apply_74 (sg6 c) x y σ else if sg6 c = 37 then g5_apply_74 (sg6 c) x y σ else g5_apply_84 (sg6 c) x y σ) = if 18 ≤ c ∧ y = 0 then siU σ 47 2 else riU σ 52 (σ.1 49 - 1).toNatClampNeg (bo6 c x y) := by
  have hk : ∀ s : Int32, g5_rank s σ = rk5 s := fun _ => rfl
  rcases h with rfl | rfl | rfl | rfl | rfl | rfl | rfl | rfl | rfl | rfl | rfl | rfl | rfl
  all_goals
    unfold g5_apply_74 g5_apply_84 g5_apply_202 g5_compared g5_truth bo6
    dsimp only [pb5]
    simp only [hk]
    repeat' first
      | rw [if_pos (show sg6 _ = _ by decide)]
      | rw [if_neg (show ¬ sg6 _ = _ by decide)]
      | rw [if_pos (show rk5 _ = _ by decide)]
      | rw [if_neg (show ¬ rk5 _ = _ by decide)]
    simp (config := { decide := true }) only [if_true, if_false, ite_true, ite_false, true_and, false_and]
    repeat' split
    all_goals first
      | rfl
      | (exfalso; simp_all)
      | simp_all
theorem ap_6 {σ : rS} {c x y : Int32} {C P : List Int32} (o : ok6 σ) (w : wt6 σ (c :: C)) (hc : bi16 c) (p : pl6 σ (y :: x :: P)) (hl : C.length ≤ 1000000) (hp : P.length + 1 ≤ 1000000) : (18 ≤ c ∧ y = 0 → (g5_apply σ).1 47 = 2 ∧ F6 σ (g5_apply σ) ∧ (g5_apply σ).1 10 = σ.1 10) ∧ (¬ (18 ≤ c ∧ y = 0) → wt6 (g5_apply σ) C ∧ pl6 (g5_apply σ) (bo6 c x y :: P) ∧ F6 σ (g5_apply σ) ∧ (g5_apply σ).1 10 = σ.1 10 ∧ (g5_apply σ).1 13 = σ.1 13 ∧ (g5_apply σ).1 47 = σ.1 47) := by
  obtain ⟨t1, t2, t3⟩ := tp_6 w hl
  obtain ⟨p1, p2, p3⟩ := pl_16 p (by rw [List.length_cons]; exact hp)
  rw [List.length_cons] at p1 p2 p3
  have e5 : σ.2.2.1 50 C.length = sg6 c := by
    have z := w.2.1.1
    rw [List.length_map] at z
    exact z
  have w3 : wt6 (siU (siU σ 48 (σ.1 48 - 1)) 49 (σ.1 49 - 1)) C := wt_s6 (wt_p6 w hl) (by decide)
  have p4 : pl6 (siU (siU σ 48 (σ.1 48 - 1)) 49 (σ.1 49 - 1)) (x :: P) := ⟨by rw [si1, if_pos rfl, p2, List.length_cons], p.2.2⟩
  obtain ⟨q1, q2, q3⟩ := pl_16 p4 (by omega)
  have e : g5_apply σ = if 18 ≤ c ∧ y = 0 then siU (siU (siU σ 48 (σ.1 48 - 1)) 49 (σ.1 49 - 1)) 47 2 else riU (siU (siU σ 48 (σ.1 48 - 1)) 49 (σ.1 49 - 1)) 52 P.length (bo6 c x y) := by
    rw [← q1, ← bo_6 hc]
    unfold g5_apply
    dsimp only [pb5]
    have m1 : (siU (siU σ 48 (σ.1 48 - 1)) 49 ((siU σ 48 (σ.1 48 - 1)).1 49 - 1)).1 46 = 1 := o.2.1
    have a1 : (siU σ 48 (σ.1 48 - 1)).1 49 = σ.1 49 := rfl
    rw [m1, if_neg ne105, t2, e5, a1]
    have b1 : ((siU (siU σ 48 (σ.1 48 - 1)) 49 (σ.1 49 - 1)).1 49).toNatClampNeg = P.length + 1 := p1
    rw [q1, b1]
    have c1 : (siU (siU σ 48 (σ.1 48 - 1)) 49 (σ.1 49 - 1)).2.2.1 52 P.length = x := q3
    have c2 : (siU (siU σ 48 (σ.1 48 - 1)) 49 (σ.1 49 - 1)).2.2.1 52 (P.length + 1) = y := p3
    rw [c1, c2]
  have fr : F6 σ (siU (siU σ 48 (σ.1 48 - 1)) 49 (σ.1 49 - 1)) := F_t6 (F_si6 (by decide)) (F_si6 (by decide))
  refine ⟨fun z => ?_, fun z => ?_⟩
  · rw [e, if_pos z]
    exact ⟨by rw [si1, if_pos rfl], F_t6 fr (F_si6 (by decide)), rfl⟩
  · rw [e, if_neg z]
    exact ⟨wt_u6 w3, pl_u6 p4, F_t6 fr (F_ri6 (Or.inr (Or.inr rfl))), rfl, rfl, rfl⟩

end
section
set_option maxHeartbeats 1600000
/-! the reference settles operators in mode 1; tokens looked at; an expression run whole -/
theorem on_b6 {M : Mm6} {c x y : Int32} {P : List Int32} (h : bi16 c) : on6 M (c, 0) (y :: x :: P) = if 18 ≤ c ∧ y = 0 then .inr 2 else .inl (bo6 c x y :: P) := by
  unfold on6
  rcases h with rfl | rfl | rfl | rfl | rfl | rfl | rfl | rfl | rfl | rfl | rfl | rfl | rfl <;> rfl
/-- what an operator on top may be when there are signs no more -/
theorem tk_06 {r : Int32} (h1 : 1 ≤ r.toInt) {c : Int32} {C : List Int32} (h : br16 c) : tk6 r (c :: C) = [] ∧ drC5 r (c :: C) = c :: C := by
  have q : f5_Pa_rankOf c < r := by rw [(br_f6 h).1, lti, t0i]; omega
  exact ⟨if_pos q, if_pos q⟩
theorem se_m6 {M : Mm6} {r : Int32} (h1 : 1 ≤ r.toInt) : ∀ (m : Nat) (C P : List Int32) (y : Int32) (σ : rS), ok6 σ → wt6 σ C → vC6 C → nu6 C → wf6 C → pl6 σ (y :: P) → P.length = bc6 C → C.length ≤ 1000000 → C.length < m →
    (∃ y' P', ex6 M (cd6 (tk6 r C)) (y :: P) = .inl (y' :: P') ∧ P'.length = bc6 (drC5 r C) ∧ wt6 (g5_settle_0 m r σ) (drC5 r C) ∧ pl6 (g5_settle_0 m r σ) (y' :: P') ∧ F6 σ (g5_settle_0 m r σ) ∧ (g5_settle_0 m r σ).1 10 = σ.1 10 ∧ (g5_settle_0 m r σ).1 13 = σ.1 13 ∧ (g5_settle_0 m r σ).1 47 = 0) ∨
    (ex6 M (cd6 (tk6 r C)) (y :: P) = .inr 2 ∧ F6 σ (g5_settle_0 m r σ) ∧ (g5_settle_0 m r σ).1 47 = 2 ∧ (g5_settle_0 m r σ).1 10 = σ.1 10)
  | 0, _, _, _, _, _, _, _, _, _, _, _, _, h => absurd h (by omega)
  | m + 1, [], P, y, σ, o, w, _, _, _, p, hp, _, _ => by
    have k : rk5 0 = 0 := by decide
    have e : g5_settle_0 (m + 1) r σ = σ := by
      rw [g5_settle_0]
      dsimp only [pb5]
      rw [(ok_go6 o).1, if_neg ne105, tp_06 w, rk_5, k, if_pos (by rw [lti, t0i]; omega)]
    rw [e]
    exact Or.inl ⟨y, P, rfl, hp, w, p, F_r6, rfl, rfl, o.2.2⟩
  | m + 1, c :: C, P, y, σ, o, w, v, n, f, p, hp, hl, hm => by
    rw [List.length_cons] at hl hm
    obtain ⟨t1, t2, t3⟩ := tp_6 w (by omega)
    rcases v.1 with q | q | q
    · exact absurd q n
    · obtain ⟨z1, z2⟩ := tk_06 h1 q (C := C)
      have e : g5_settle_0 (m + 1) r σ = σ := by
        rw [g5_settle_0]
        dsimp only [pb5]
        rw [(ok_go6 o).1, if_neg ne105, t1, rk_5, (br_f6 q).2.1, if_pos (by rw [lti, t0i]; omega)]
      rw [e, z1, z2]
      exact Or.inl ⟨y, P, rfl, hp, w, p, F_r6, rfl, rfl, o.2.2⟩
    · have hb := bi_f6 q
      have hbc : bc6 (c :: C) = bc6 C + 1 := by
        show (if bi16 c then 1 else 0) + bc6 C = _
        rw [if_pos q]; omega
      rw [hbc] at hp
      by_cases z : f5_Pa_rankOf c < r
      · have z1 : tk6 r (c :: C) = [] := if_pos z
        have z2 : drC5 r (c :: C) = c :: C := if_pos z
        have e : g5_settle_0 (m + 1) r σ = σ := by
          rw [g5_settle_0]
          dsimp only [pb5]
          rw [(ok_go6 o).1, if_neg ne105, t1, rk_5, ← hb.1, if_pos z]
        rw [e, z1, z2, hbc]
        exact Or.inl ⟨y, P, rfl, hp, w, p, F_r6, rfl, rfl, o.2.2⟩
      · have z1 : tk6 r (c :: C) = c :: tk6 r C := if_neg z
        have z2 : drC5 r (c :: C) = drC5 r C := if_neg z
        have e : g5_settle_0 (m + 1) r σ = g5_settle_0 m r (g5_apply σ) := by
          rw [g5_settle_0]
          dsimp only [pb5]
          rw [(ok_go6 o).1, if_neg ne105, t1, rk_5, ← hb.1, if_neg z, if_neg (by rw [lei, t0i, hb.1]; omega)]
        rw [e, z1, z2]
        cases P with
        | nil => rw [List.length_nil] at hp; omega
        | cons x P =>
          rw [List.length_cons] at hp
          have lb := bc_l6 (C := C)
          obtain ⟨a1, a2⟩ := ap_6 o w q p (by omega) (by omega)
          have ec : cd6 (c :: tk6 r C) = (c, 0) :: cd6 (tk6 r C) := rfl
          rw [ec]
          by_cases d : 18 ≤ c ∧ y = 0
          · obtain ⟨b1, b2, b3⟩ := a1 d
            have ox : on6 M (c, 0) (y :: x :: P) = .inr 2 := by rw [on_b6 q, if_pos d]
            have e2 : g5_settle_0 m r (g5_apply σ) = g5_apply σ := by
              cases m with
              | zero => rfl
              | succ m =>
                rw [g5_settle_0]
                dsimp only [pb5]
                have g0 : g5_goesOn (g5_apply σ) = 0 := by
                  unfold g5_goesOn
                  dsimp only [pb5]
                  have ir : g5_isRight (g5_apply σ) = 1 := if_pos ((b2.1 11 (by decide) (by decide) (by decide) (by decide) (by decide)).trans o.1)
                  rw [ir, if_neg ne105, if_neg (by rw [b1]; decide)]
                rw [g0, if_pos rfl]
            rw [e2]
            exact Or.inr ⟨ex_x6 ox, b2, b1, b3⟩
          · obtain ⟨b1, b2, b3, b4, b5, b6⟩ := a2 d
            have ox : on6 M (c, 0) (y :: x :: P) = .inl (bo6 c x y :: P) := by rw [on_b6 q, if_neg d]
            rw [ex_c6 ox]
            have o2 : ok6 (g5_apply σ) := ok_F6 o b3 (b6.trans o.2.2)
            rcases se_m6 h1 m C P (bo6 c x y) (g5_apply σ) o2 b1 v.2 (f.1 q) f.2 b2 (by omega) (by omega) (by omega) with ⟨y', P', g1, g2, g3, g4, g5, g6, g7, g8⟩ | ⟨g1, g2, g3, g4⟩
            · exact Or.inl ⟨y', P', g1, g2, g3, g4, F_t6 b3 g5, g6.trans b4, g7.trans b5, g8⟩
            · exact Or.inr ⟨g1, F_t6 b3 g2, g3, g4.trans b4⟩
theorem se_6 {M : Mm6} {r : Int32} {C P : List Int32} {y : Int32} {σ : rS} (h1 : 1 ≤ r.toInt) (o : ok6 σ) (w : wt6 σ C) (v : vC6 C) (n : nu6 C) (f : wf6 C) (p : pl6 σ (y :: P)) (hp : P.length = bc6 C) (hl : C.length ≤ 1000000) :
    (∃ y' P', ex6 M (cd6 (tk6 r C)) (y :: P) = .inl (y' :: P') ∧ P'.length = bc6 (drC5 r C) ∧ wt6 (g5_settle r σ) (drC5 r C) ∧ pl6 (g5_settle r σ) (y' :: P') ∧ F6 σ (g5_settle r σ) ∧ (g5_settle r σ).1 10 = σ.1 10 ∧ (g5_settle r σ).1 13 = σ.1 13 ∧ (g5_settle r σ).1 47 = 0) ∨
    (ex6 M (cd6 (tk6 r C)) (y :: P) = .inr 2 ∧ F6 σ (g5_settle r σ) ∧ (g5_settle r σ).1 47 = 2 ∧ (g5_settle r σ).1 10 = σ.1 10) := se_m6 h1 fu5 C P y σ o w v n f p hp hl (by unfold fu5; omega)
/-- what is left when operators are settled -/
theorem dr_6 {r : Int32} (h1 : 1 ≤ r.toInt) : ∀ {C : List Int32}, vC6 C → wf6 C → nu6 C → vC6 (drC5 r C) ∧ wf6 (drC5 r C) ∧ nu6 (drC5 r C) ∧ (drC5 r C).length ≤ C.length ∧ bk6 (drC5 r C) = bk6 C
  | [], _, _, _ => ⟨trivial, trivial, trivial, Nat.le_refl _, rfl⟩
  | c :: C, v, f, n => by
    unfold drC5
    by_cases z : f5_Pa_rankOf c < r
    · rw [if_pos z]
      exact ⟨v, f, n, Nat.le_refl _, rfl⟩
    · rw [if_neg z]
      rcases v.1 with q | q | q
      · exact absurd q n
      · exact absurd (show f5_Pa_rankOf c < r by rw [(br_f6 q).1, lti, t0i]; omega) z
      · obtain ⟨a, b, d, e, g⟩ := dr_6 h1 v.2 f.2 (f.1 q)
        refine ⟨a, b, d, by rw [List.length_cons]; omega, ?_⟩
        rw [g]
        show _ = (if br16 c then 1 else 0) + bk6 C
        rw [if_neg (bi_f6 q).2.2.2.2.2.2]; omega
theorem dr_66 : ∀ {C : List Int32}, vC6 C → nu6 C → drC5 6 C = C ∧ tk6 6 C = []
  | [], _, _ => ⟨rfl, rfl⟩
  | c :: C, v, n => by
    have k6 : (6 : Int32).toInt = 6 := rfl
    have z : f5_Pa_rankOf c < 6 := by
      rcases v.1 with q | q | q
      · exact absurd q n
      · rw [(br_f6 q).1]; decide
      · have := bi_f6 q
        rw [this.1, lti, k6]; omega
    exact ⟨if_pos z, if_pos z⟩
/-- behind settling all stands a bracket -/
theorem dr_16 {C : List Int32} {c : Int32} {C' : List Int32} (v : vC6 (drC5 1 C)) (h : drC5 1 C = c :: C') : br16 c := by
  have z := dC_15 h
  rw [h] at v
  rcases v.1 with q | q | q
  · rw [(us_f6 q).1] at z; exact absurd z (by decide)
  · exact q
  · have := bi_f6 q
    rw [this.1] at z
    omega
theorem cd_a6 {A B : List Int32} : cd6 (A ++ B) = cd6 A ++ cd6 B := List.map_append
section
variable {T : T5} {X : X5} {Bk N : Nat} {Z : Int32} {a b : Nat} {σ : rS}
/-- tokens looked at -/
theorem so_6 (H : TR5 T X Bk N Z) (hX : sx5 σ = X) (ha : a < N) (hat : σ.1 10 = Int32.ofNat (Bk + a)) : σ.2.2.1 5 (σ.1 10).toNatClampNeg = X.1 (Bk + a) ∧ σ.2.2.1 7 (σ.1 10).toNatClampNeg = X.2.2.1 (Bk + a) ∧ (σ.1 10).toNatClampNeg = Bk + a := by
  have h1 := H.1
  have e1 : (σ.1 10).toNatClampNeg = Bk + a := by rw [hat, cl_5 (by omega)]
  rw [e1, ← hX]
  exact ⟨rfl, rfl, rfl⟩
theorem ata_6 {c : Int32} (H : TR5 T X Bk N Z) (hX : sx5 σ = X) (ha : a < N) (hat : σ.1 10 = Int32.ofNat (Bk + a)) (h0 : 0 < c.toInt) (h1 : c.toInt < 128) : g5_isAt c σ = if T.2.1 a = c then 1 else 0 := by
  obtain ⟨s1, s2, _⟩ := so_6 H hX ha hat
  have k := kd_s5 (H.2.2.1 a ha) h0 h1
  unfold g5_isAt
  rw [s1, s2]
  by_cases q : T.2.1 a = c
  · obtain ⟨q1, q2⟩ := k.mpr q
    rw [if_pos q, if_pos q1, if_pos q2]
  · rw [if_neg q]
    by_cases q1 : X.1 (Bk + a) = 3
    · rw [if_pos q1, if_neg (fun q2 => q (k.mp ⟨q1, q2⟩))]
    · rw [if_neg q1]
theorem nb_6 (H : TR5 T X Bk N Z) (hE : T.2.1 (N - 1) = 142) (ha : a < N) : T.2.1 a ≠ 143 := fun q => by
  have h1 := H.1
  have z := (H.2.2.2.1 a ha).mp (Or.inr q)
  have e : a = N - 1 := by omega
  rw [e, hE] at q
  exact absurd q (by decide)
theorem go_6 (H : TR5 T X Bk N Z) (hE : T.2.1 (N - 1) = 142) (hX : sx5 σ = X) (ha : a + 1 < N) (hat : σ.1 10 = Int32.ofNat (Bk + a)) (h0 : σ.1 11 = 0) : g5_go σ = siU σ 10 (Int32.ofNat (Bk + (a + 1))) := by
  have h1 := H.1
  have e1 : σ.1 10 + 1 = Int32.ofNat (Bk + (a + 1)) := by rw [hat, on_15 (by omega)]; rfl
  unfold g5_go g5_readNext
  dsimp only [pb5]
  rw [if_pos h0, e1]
  obtain ⟨s1, _, _⟩ := so_6 (σ := siU σ 10 (Int32.ofNat (Bk + (a + 1)))) H hX ha (by rw [si1, if_pos rfl])
  rw [s1, if_neg (fun q => nb_6 H hE ha ((kd_o5 (H.2.2.1 (a + 1) ha)).1.mp q))]
theorem op_6 {c : Int32} (H : TR5 T X Bk N Z) (hE : T.2.1 (N - 1) = 142) (hX : sx5 σ = X) (ha : a + 1 < N) (hat : σ.1 10 = Int32.ofNat (Bk + a)) (h0 : σ.1 11 = 0) (hc : T.2.1 a = c) (c0 : 0 < c.toInt) (c1 : c.toInt < 128) (ho : σ.1 13 = Int32.ofNat b) (hb : b < 40) : g5_open c σ = siU (siU σ 13 (Int32.ofNat (b + 1))) 10 (Int32.ofNat (Bk + (a + 1))) := by
  unfold g5_open g5_open_38 g5_open_55
  dsimp only [pb5]
  rw [ata_6 H hX (by omega) hat c0 c1, if_pos hc, if_neg ne105]
  have n40 : ¬ σ.1 13 = 40 := fun q => by
    have l := ofn_i (n := b) (by omega)
    rw [ho] at q
    rw [q] at l
    have l2 : (40 : Int32).toInt = 40 := rfl
    omega
  have r : g5_isRight σ = 1 := if_pos h0
  rw [if_neg n40, r, if_neg ne105]
  have e1 : σ.1 13 + 1 = Int32.ofNat (b + 1) := by rw [ho, on_15 (by omega)]
  rw [e1]
  exact go_6 (σ := siU σ 13 (Int32.ofNat (b + 1))) H hE hX ha hat h0
theorem cs_6 {c : Int32} (H : TR5 T X Bk N Z) (hE : T.2.1 (N - 1) = 142) (hX : sx5 σ = X) (ha : a + 1 < N) (hat : σ.1 10 = Int32.ofNat (Bk + a)) (h0 : σ.1 11 = 0) (hc : T.2.1 a = c) (c0 : 0 < c.toInt) (c1 : c.toInt < 128) (ho : σ.1 13 = Int32.ofNat (b + 1)) (hb : b < 1000000) : g5_close c σ = siU (siU σ 13 (Int32.ofNat b)) 10 (Int32.ofNat (Bk + (a + 1))) := by
  unfold g5_close g5_close_18 g5_sign
  dsimp only [pb5]
  rw [ata_6 H hX (by omega) hat c0 c1, if_pos hc, if_neg ne105]
  have e1 : σ.1 13 - 1 = Int32.ofNat b := by
    have l := ofn_i (n := b + 1) (by omega)
    have l2 := ofn_i (n := b) (by omega)
    apply Int32.toInt_inj.mp
    rw [ho, sub_i (by rw [t1i]; omega) (by rw [t1i]; omega), l, l2, t1i]; omega
  rw [e1]
  rw [ata_6 (σ := siU σ 13 (Int32.ofNat b)) H hX (by omega) hat c0 c1, if_pos hc, if_neg ne105]
  exact go_6 (σ := siU σ 13 (Int32.ofNat b)) H hE hX ha hat h0
end

end
section
set_option maxHeartbeats 1600000
/-! the reference runs an expression in mode 1: its answer is what the code comes to -/
def es6 (X : X5) (Bk a : Nat) (C : List Int32) (σ : rS) : Prop := ok6 σ ∧ sx5 σ = X ∧ σ.1 10 = Int32.ofNat (Bk + a) ∧ σ.1 13 = Int32.ofNat (bk6 C)
def rs6 (Bk a' : Nat) (r : List Int32 ⊕ Int32) (q : rS × Int32) (σ : rS) : Prop := (∃ v, r = .inl [v] ∧ q.2 = v ∧ q.1.1 10 = Int32.ofNat (Bk + a') ∧ q.1.1 47 = 0 ∧ q.1.1 13 = 0 ∧ F6 σ q.1) ∨ (∃ f, r = .inr f ∧ (f = 1 ∨ f = 2) ∧ q.1.1 47 = f ∧ F6 σ q.1)
theorem rs_F6 {Bk a' : Nat} {r : List Int32 ⊕ Int32} {q : rS × Int32} {σ τ : rS} (h : rs6 Bk a' r q τ) (k : F6 σ τ) : rs6 Bk a' r q σ := by
  rcases h with ⟨v, a, b, c, d, e, f⟩ | ⟨f, a, b, c, d⟩
  · exact Or.inl ⟨v, a, b, c, d, e, F_t6 k f⟩
  · exact Or.inr ⟨f, a, b, c, F_t6 k d⟩
/-- what variables and cells are, and what the reference has noted of the names -/
def ev6 (T : T5) (rs : Nat → Qq6) (ra : Nat → Int32) (M : Mm6) (Bk lo hi : Nat) (σ : rS) : Prop :=
  (∀ k i, (k = 0 ∨ k = 1 ∨ k = 2) → M.2 k i = if g5_cellOf (200 + k) i σ = -1 then none else some (σ.2.2.1 57 (g5_cellOf (200 + k) i σ).toNatClampNeg)) ∧
  ∀ t, lo ≤ t → t < hi → T.2.1 t = 140 → (T.2.1 (t + 1) = 91 → σ.2.2.1 39 (Bk + t) = 200 + ra t) ∧ (T.2.1 (t + 1) ≠ 91 → g5_valueOf (σ.2.2.1 39 (Bk + t)) σ = M.1 (rs t).1 (rs t).2)
theorem ev_F6 {T : T5} {rs : Nat → Qq6} {ra : Nat → Int32} {M : Mm6} {Bk lo lo' hi : Nat} {σ τ : rS} (h : ev6 T rs ra M Bk lo hi σ) (k : F6 σ τ) (hl : lo ≤ lo') : ev6 T rs ra M Bk lo' hi τ := by
  have e57 := k.2.2.1 57 (by decide) (by decide) (by decide)
  have e39 := k.2.2.1 39 (by decide) (by decide) (by decide)
  refine ⟨fun c i hc => ?_, fun t a b c => ?_⟩
  · rw [F_ce6 k, e57]; exact h.1 c i hc
  · rw [e39]
    refine ⟨fun q => (h.2 t (by omega) b c).1 q, fun q => ?_⟩
    rw [F_va6 k]; exact (h.2 t (by omega) b c).2 q
theorem es_F6 {X : X5} {Bk a b : Nat} {C D : List Int32} {σ τ : rS} (h : es6 X Bk a C σ) (k : F6 σ τ) (h47 : τ.1 47 = 0) (h10 : τ.1 10 = Int32.ofNat (Bk + b)) (h13 : τ.1 13 = Int32.ofNat (bk6 D)) : es6 X Bk b D τ := ⟨ok_F6 h.1 k h47, (F_sx6 k).trans h.2.1, h10, h13⟩
/-- the loop's steps -/
theorem ex_06 {mr : Nat} {σ : rS} (o : ok6 σ) : g5_expression_12 (mr + 1) 0 σ = if (g5_operand σ).2 = 0 then g5_expression_12 mr 0 (g5_operand σ).1 else g5_expression_12 mr 1 (g5_operand σ).1 := by
  rw [g5_expression_12]
  dsimp only [pb5, pm5]
  rw [(ok_go6 o).1, if_neg ne105, if_neg (by decide), if_pos rfl]
theorem ex_16 {mr : Nat} {σ : rS} (o : ok6 σ) : g5_expression_12 (mr + 1) 1 σ = g5_expression_12 mr (g5_behind σ).2 (g5_behind σ).1 := by
  rw [g5_expression_12]
  dsimp only [pb5, pm5]
  rw [(ok_go6 o).1, if_neg ne105, if_neg (by decide), if_neg (by decide)]
theorem ex_26 {mr : Nat} {σ : rS} : g5_expression_12 (mr + 1) 2 σ = (σ, σ.2.2.1 52 0) := by
  rw [g5_expression_12]
  dsimp only [pb5, pm5]
  have e : g5_expression_51 σ = (σ, σ.2.2.1 52 0) := rfl
  by_cases q : g5_goesOn σ = 0
  · rw [if_pos q, e]
  · rw [if_neg q, if_pos (by decide), e]
theorem ex_x66 {mr : Nat} {r : Int32} {σ : rS} (h11 : σ.1 11 = 0) (h47 : σ.1 47 = 1 ∨ σ.1 47 = 2) : (g5_expression_12 (mr + 1) r σ).1 = σ := by
  rw [g5_expression_12]
  dsimp only [pb5, pm5]
  have g0 : g5_goesOn σ = 0 := by
    unfold g5_goesOn
    dsimp only [pb5]
    have ir : g5_isRight σ = 1 := if_pos h11
    rw [ir, if_neg ne105, if_neg (by rcases h47 with q | q <;> rw [q] <;> decide)]
  rw [g0, if_pos rfl]
  rfl
theorem ch_le6 {T : T5} {qb : Nat} {rs : Nat → Qq6} {ra : Nat → Int32} : ∀ {m : Nat} {st : Bool} {a : Nat} {C : List Int32} {K : List Qq6} {a' : Nat}, Ch6 T qb rs ra m st a C K a' → a ≤ a' ∧ (st = false → a < a')
  | 0, _, _, _, _, _, h => h.elim
  | m + 1, false, a, C, K, a', h => by
    rcases h with ⟨_, K', _, h⟩ | ⟨o, _, h⟩ | ⟨_, _, h⟩ | ⟨_, _, _, _, K', _, h⟩ | ⟨_, _, _, _, h⟩
    · have := ch_le6 h; exact ⟨by omega, fun _ => by omega⟩
    · have := ch_le6 h; exact ⟨by omega, fun _ => by omega⟩
    · have := ch_le6 h; exact ⟨by omega, fun _ => by omega⟩
    · have := ch_le6 h; exact ⟨by omega, fun _ => by omega⟩
    · have := ch_le6 h; exact ⟨by omega, fun _ => by omega⟩
  | m + 1, true, a, C, K, a', h => by
    rcases h with ⟨o, r, K', _, _, _, _, _, h⟩ | ⟨_, c, C', K', _, _, _, h⟩ | ⟨_, _, _, h⟩
    · have := ch_le6 h; exact ⟨by omega, fun q => by cases q⟩
    · have := ch_le6 h; exact ⟨by omega, fun q => by cases q⟩
    · exact ⟨by omega, fun q => by cases q⟩
section
variable {T : T5} {X : X5} {Bk N : Nat} {Z : Int32} {a : Nat} {σ : rS} {rs : Nat → Qq6} {ra : Nat → Int32} {M : Mm6}
/-- an operand that is a name -/
theorem nm_6 (H : TR5 T X Bk N Z) (hE : T.2.1 (N - 1) = 142) (o : ok6 σ) (hX : sx5 σ = X) (ha : a + 1 < N) (hat : σ.1 10 = Int32.ofNat (Bk + a)) (k : T.2.1 a = 140) (n40 : T.2.1 (a + 1) ≠ 40) : g5_operand σ = g5_named_79 (Int32.ofNat (Bk + a)) (if T.2.1 (a + 1) = 91 then 1 else 0) (siU σ 10 (Int32.ofNat (Bk + (a + 1)))) := by
  have kd := kd_o5 (H.2.2.1 a (by omega))
  have g := go_6 H hE hX ha hat o.1
  have o2 : ok6 (siU σ 10 (Int32.ofNat (Bk + (a + 1)))) := ⟨o.1, o.2.1, o.2.2⟩
  have hat2 : (siU σ 10 (Int32.ofNat (Bk + (a + 1)))).1 10 = Int32.ofNat (Bk + (a + 1)) := by rw [si1, if_pos rfl]
  have hX2 : sx5 (siU σ 10 (Int32.ofNat (Bk + (a + 1)))) = X := hX
  unfold g5_operand
  dsimp only [pb5, pm5]
  rw [ata_6 (c := 33) H hX (by omega) hat (by decide) (by decide), if_neg (show ¬ T.2.1 a = 33 by rw [k]; decide), if_pos rfl, ata_6 (c := 45) H hX (by omega) hat (by decide) (by decide), if_neg (show ¬ T.2.1 a = 45 by rw [k]; decide), if_pos rfl, ata_6 (c := 40) H hX (by omega) hat (by decide) (by decide), if_neg (show ¬ T.2.1 a = 40 by rw [k]; decide), if_pos rfl, (so_6 H hX (by omega) hat).1, if_neg (fun q => by have z := kd.2.2.1.mp q; rw [k] at z; exact absurd z (by decide)), if_pos (kd.2.1.mpr k)]
  unfold g5_named
  dsimp only [pb5]
  rw [g, (ok_go6 o2).2, if_neg ne105, ata_6 (c := 40) H hX2 ha hat2 (by decide) (by decide), if_neg n40, if_pos rfl]
  unfold g5_named_34
  dsimp only [pb5]
  have m1 : (siU σ 10 (Int32.ofNat (Bk + (a + 1)))).1 46 = 1 := o.2.1
  rw [(ok_go6 o2).2, if_neg ne105, ata_6 (c := 91) H hX2 ha hat2 (by decide) (by decide), m1, if_neg ne105, hat]
end
theorem hoF_6 {s y : Int32} {σ : rS} : F6 σ (g5_hold s y σ) ∧ (g5_hold s y σ).1 10 = σ.1 10 ∧ (g5_hold s y σ).1 47 = σ.1 47 := by
  unfold g5_hold
  dsimp only [pb5]
  exact ⟨F_t6 (F_t6 (F_ri6 (Or.inl rfl)) (F_ri6 (Or.inr (Or.inl rfl)))) (F_si6 (by decide)), rfl, rfl⟩
theorem gn_6 {σ : rS} (h11 : σ.1 11 = 0) (h47 : σ.1 47 = 1 ∨ σ.1 47 = 2) : g5_goesOn σ = 0 := by
  unfold g5_goesOn
  dsimp only [pb5]
  have ir : g5_isRight σ = 1 := if_pos h11
  rw [ir, if_neg ne105, if_neg (by rcases h47 with q | q <;> rw [q] <;> decide)]
theorem st_06 {r : Int32} {σ : rS} (h : g5_goesOn σ = 0) : g5_settle r σ = σ := by
  show g5_settle_0 (4294967295 + 1) r σ = σ
  rw [g5_settle_0]
  dsimp only [pb5]
  rw [h, if_pos rfl]
section
variable {T : T5} {X : X5} {Bk N : Nat} {Z : Int32} {a : Nat} {σ : rS} {M : Mm6}
/-- behind an operand where no operator stands: all is settled -/
theorem bh_6 {C P : List Int32} {x : Int32} (H : TR5 T X Bk N Z) (o : ok6 σ) (hX : sx5 σ = X) (ha : a < N) (hat : σ.1 10 = Int32.ofNat (Bk + a)) (hb : f5_Pa_binary (T.2.1 a) = -1) (v : vC6 C) (f : wf6 C) (w : wt6 σ (dn6 C)) (p : pl6 σ (ua6 (up6 C) x :: P)) (hp : P.length = bc6 C) (hl : C.length ≤ 1000000) :
    (∃ y' P' σ2, ex6 M (cd6 (tk6 1 C)) (x :: P) = .inl (y' :: P') ∧ P'.length = bc6 (drC5 1 C) ∧ wt6 σ2 (drC5 1 C) ∧ pl6 σ2 (y' :: P') ∧ F6 σ σ2 ∧ σ2.1 10 = σ.1 10 ∧ σ2.1 13 = σ.1 13 ∧ σ2.1 47 = 0 ∧
      g5_behind σ = if σ2.1 48 = 0 then (σ2, 2) else if g5_top σ2 = 40 then (g5_turn (siU (g5_close 41 σ2) 48 ((g5_close 41 σ2).1 48 - 1)), 1) else (if g5_goesOn (siU (g5_close 93 σ2) 48 ((g5_close 93 σ2).1 48 - 1)) = 0 then g5_behind_245 (siU (g5_close 93 σ2) 48 ((g5_close 93 σ2).1 48 - 1)) else if (siU (g5_close 93 σ2) 48 ((g5_close 93 σ2).1 48 - 1)).1 46 = 1 then (if g5_cellOf ((g5_close 93 σ2).2.2.1 51 ((g5_close 93 σ2).1 48 - 1).toNatClampNeg) ((siU (g5_close 93 σ2) 48 ((g5_close 93 σ2).1 48 - 1)).2.2.1 52 ((siU (g5_close 93 σ2) 48 ((g5_close 93 σ2).1 48 - 1)).1 49 - 1).toNatClampNeg) (siU (g5_close 93 σ2) 48 ((g5_close 93 σ2).1 48 - 1)) = -1 then g5_behind_216 (g5_cellOf ((g5_close 93 σ2).2.2.1 51 ((g5_close 93 σ2).1 48 - 1).toNatClampNeg) ((siU (g5_close 93 σ2) 48 ((g5_close 93 σ2).1 48 - 1)).2.2.1 52 ((siU (g5_close 93 σ2) 48 ((g5_close 93 σ2).1 48 - 1)).1 49 - 1).toNatClampNeg) (siU (g5_close 93 σ2) 48 ((g5_close 93 σ2).1 48 - 1))) 1 (siU (g5_close 93 σ2) 48 ((g5_close 93 σ2).1 48 - 1)) else g5_behind_216 (g5_cellOf ((g5_close 93 σ2).2.2.1 51 ((g5_close 93 σ2).1 48 - 1).toNatClampNeg) ((siU (g5_close 93 σ2) 48 ((g5_close 93 σ2).1 48 - 1)).2.2.1 52 ((siU (g5_close 93 σ2) 48 ((g5_close 93 σ2).1 48 - 1)).1 49 - 1).toNatClampNeg) (siU (g5_close 93 σ2) 48 ((g5_close 93 σ2).1 48 - 1))) 0 (siU (g5_close 93 σ2) 48 ((g5_close 93 σ2).1 48 - 1))) else g5_behind_245 (siU (g5_close 93 σ2) 48 ((g5_close 93 σ2).1 48 - 1)))) ∨
    (ex6 M (cd6 (tk6 1 C)) (x :: P) = .inr 2 ∧ ∃ σ2, g5_behind σ = (σ2, 2) ∧ F6 σ σ2 ∧ σ2.1 47 = 2) := by
  have hdl := dn_l6 (C := C)
  have v1 := vC_d6 v
  have f1 := wf_d6 f
  have n1 := nu_d6 (C := C)
  have hp1 : P.length = bc6 (dn6 C) := by rw [bc_d6]; exact hp
  obtain ⟨dc1, dc2⟩ := dC_u6 (r := 1) (by decide) (C := C)
  have exU : ex6 M (cd6 (tk6 1 C)) (x :: P) = ex6 M (cd6 (tk6 1 (dn6 C))) (ua6 (up6 C) x :: P) := by
    rw [dc2, cd_a6, ex_i6 ex_u6]
  have hz : (if X.1 (Bk + a) = 3 then rk5 (X.2.2.1 (Bk + a)) else 0) = 0 := by
    rcases bi_5 (H.2.2.1 a ha) with ⟨q, w⟩ | ⟨q, _⟩
    · rcases w with w | w
      · rw [if_pos q]; exact w.2
      · exact absurd hb w.1
    · rw [if_neg q]
  have be : g5_behind σ = g5_behind_93 (g5_settle 6 σ) := by
    unfold g5_behind
    dsimp only [pb5]
    rw [(so_6 H hX ha hat).1, (so_6 H hX ha hat).2.1, rk_5]
    have e29 : (if X.1 (Bk + a) = 3 then g5_behind_29 (rk5 (X.2.2.1 (Bk + a))) σ else g5_behind_29 0 σ) = g5_behind_29 0 σ := by
      by_cases c : X.1 (Bk + a) = 3
      · rw [if_pos c] at hz
        rw [if_pos c, hz]
      · rw [if_neg c]
    rw [e29]
    unfold g5_behind_29
    rw [if_neg (by decide), if_pos (by decide)]
    unfold g5_behind_50
    dsimp only [pb5]
    rw [if_pos (by decide)]
  obtain ⟨k1, k2⟩ := dr_66 v1 n1
  rw [be]
  rcases se_6 (M := M) (r := 6) (by decide) o w v1 n1 f1 p hp1 (by omega) with ⟨y0, P0, g1, g2, g3, g4, g5, g6, g7, g8⟩ | ⟨g1, _⟩
  · rw [k2] at g1
    have g1' : (Sum.inl (ua6 (up6 C) x :: P) : List Int32 ⊕ Int32) = .inl (y0 :: P0) := g1
    have e0 := List.cons.inj (Sum.inl.inj g1')
    obtain ⟨e1, e2⟩ := e0
    subst e1
    subst e2
    rw [k1] at g3
    generalize g5_settle 6 σ = σ1 at g3 g4 g5 g6 g7 g8
    have o1 : ok6 σ1 := ok_F6 o g5 g8
    rcases se_6 (M := M) (r := 1) (by decide) o1 g3 v1 n1 f1 g4 hp1 (by omega) with ⟨y', P', j1, j2, j3, j4, j5, j6, j7, j8⟩ | ⟨j1, j2, j3, j4⟩
    · refine Or.inl ⟨y', P', g5_settle 1 σ1, exU.trans j1, ?_, ?_, j4, F_t6 g5 j5, j6.trans g6, j7.trans g7, j8, ?_⟩
      · rw [dc1]; exact j2
      · rw [dc1]; exact j3
      · unfold g5_behind_93
        dsimp only [pb5]
        rw [(ok_go6 (ok_F6 o1 j5 j8)).1, if_neg ne105]
    · refine Or.inr ⟨exU.trans j1, g5_settle 1 σ1, ?_, F_t6 g5 j2, j3⟩
      unfold g5_behind_93
      dsimp only [pb5]
      rw [gn_6 (((F_t6 g5 j2).1 11 (by decide) (by decide) (by decide) (by decide) (by decide)).trans o.1) (Or.inr j3), if_pos rfl]
  · rw [k2] at g1
    cases g1
end

end
section
set_option maxHeartbeats 1600000
theorem bk_s6 {c : Int32} {C : List Int32} (h : ¬ br16 c) : bk6 (c :: C) = bk6 C := by
  show (if br16 c then 1 else 0) + bk6 C = _
  rw [if_neg h]; omega
theorem bk_b6 {c : Int32} {C : List Int32} (h : br16 c) : bk6 (c :: C) = bk6 C + 1 := by
  show (if br16 c then 1 else 0) + bk6 C = _
  rw [if_pos h]; omega
theorem bc_s6 {c : Int32} {C : List Int32} (h : ¬ bi16 c) : bc6 (c :: C) = bc6 C := by
  show (if bi16 c then 1 else 0) + bc6 C = _
  rw [if_neg h]; omega
theorem bc_b6 {c : Int32} {C : List Int32} (h : bi16 c) : bc6 (c :: C) = bc6 C + 1 := by
  show (if bi16 c then 1 else 0) + bc6 C = _
  rw [if_pos h]; omega
theorem run_6 {T : T5} {X : X5} {Bk N : Nat} {Z : Int32} {rs : Nat → Qq6} {ra : Nat → Int32} {M : Mm6} {qb : Nat} (hq : qb ≤ 40) (H : TR5 T X Bk N Z) (hE : T.2.1 (N - 1) = 142) : ∀ (m : Nat),
    (∀ (a : Nat) (C : List Int32) (K : List Qq6) (a' : Nat), Ch6 T qb rs ra m false a C K a' → a' < N → C.length ≤ a → vC6 C → wf6 C → ∀ (mr : Nat) (σ : rS) (P : List Int32), a' - a + 2 ≤ mr → es6 X Bk a C σ → wt6 σ C → pl6 σ P → P.length = bc6 C → ev6 T rs ra M Bk a a' σ → rs6 Bk a' (ex6 M K P) (g5_expression_12 mr 0 σ) σ) ∧
    (∀ (a : Nat) (C : List Int32) (K : List Qq6) (a' : Nat), Ch6 T qb rs ra m true a C K a' → a' < N → C.length ≤ a → vC6 C → wf6 C → ∀ (mr : Nat) (σ : rS) (x : Int32) (P : List Int32), a' - a + 2 ≤ mr → es6 X Bk a C σ → wt6 σ (dn6 C) → pl6 σ (ua6 (up6 C) x :: P) → P.length = bc6 C → ev6 T rs ra M Bk a a' σ → rs6 Bk a' (ex6 M K (x :: P)) (g5_expression_12 mr 1 σ) σ)
  | 0 => ⟨fun _ _ _ _ h => h.elim, fun _ _ _ _ h => h.elim⟩
  | m + 1 => by
    obtain ⟨IA, IB⟩ := run_6 (rs := rs) (ra := ra) (M := M) hq H hE m
    have h1 := H.1
    refine ⟨fun a C K a' h hN hl v wf mr σ P hmr es w p hp ev => ?_, fun a C K a' h hN hl v wf mr σ x P hmr es w p hp ev => ?_⟩
    · obtain ⟨o, hX, hat, ho⟩ := es
      have hla := ch_le6 h
      have hlt := hla.2 rfl
      obtain ⟨mr, rfl⟩ : ∃ k, mr = k + 1 := ⟨mr - 1, by omega⟩
      have hbc := bc_l6 (C := C)
      have hbk := bk_l6 (C := C)
      rw [ex_06 o]
      rcases h with ⟨k, K', rfl, h⟩ | ⟨c, k, h⟩ | ⟨k, kb, h⟩ | ⟨k, n91, n40, kr, K', rfl, h⟩ | ⟨k, k91, kb, kr, h⟩
      · -- a number
        have hle := ch_le6 h
        have kd := kd_o5 (H.2.2.1 a (by omega))
        have eo : g5_operand σ = (g5_push (f5_Ta_numberAt T (Int32.ofNat a)) (siU σ 10 (Int32.ofNat (Bk + (a + 1)))), 1) := by
          unfold g5_operand
          dsimp only [pb5]
          rw [ata_6 (c := 33) H hX (by omega) hat (by decide) (by decide), if_neg (show ¬ T.2.1 a = 33 by rw [k]; decide), if_pos rfl, ata_6 (c := 45) H hX (by omega) hat (by decide) (by decide), if_neg (show ¬ T.2.1 a = 45 by rw [k]; decide), if_pos rfl, ata_6 (c := 40) H hX (by omega) hat (by decide) (by decide), if_neg (show ¬ T.2.1 a = 40 by rw [k]; decide), if_pos rfl, (so_6 H hX (by omega) hat).1, if_pos (kd.2.2.1.mpr k), (so_6 H hX (by omega) hat).2.1, go_6 H hE hX (by omega) hat o.1, H.2.2.2.2.1 a (by omega) k]
        rw [eo, if_neg ne105]
        generalize f5_Ta_numberAt T (Int32.ofNat a) = nv
        have w1 : wt6 (siU σ 10 (Int32.ofNat (Bk + (a + 1)))) C := wt_s6 w (by decide)
        have p1 : pl6 (siU σ 10 (Int32.ofNat (Bk + (a + 1)))) P := pl_s6 p (by decide)
        obtain ⟨z1, z2, z3, z4, z5, z6⟩ := ps_6 (x := nv) w1 v p1 (by omega) (by omega)
        have fr : F6 σ (g5_push nv (siU σ 10 (Int32.ofNat (Bk + (a + 1))))) := F_t6 (F_si6 (by decide)) z3
        have eK : ex6 M ((1, nv) :: K') P = ex6 M K' (nv :: P) := ex_c6 rfl
        rw [eK]
        refine rs_F6 (IB (a + 1) C K' a' h hN (by omega) v wf mr _ nv P (by omega) (es_F6 ⟨o, hX, hat, ho⟩ fr ?_ ?_ ?_) z1 z2 hp (ev_F6 ev fr (by omega))) fr
        · rw [z6, si1, if_neg (by decide)]; exact o.2.2
        · rw [z4, si1, if_pos rfl]
        · rw [z5, si1, if_neg (by decide)]; exact ho
      · -- a sign
        have hle := ch_le6 h
        have us : us16 c := by rcases k with ⟨_, q⟩ | ⟨_, q⟩ <;> rw [q] <;> decide
        have eo : g5_operand σ = (g5_go (g5_hold (sg6 c) 0 σ), 0) := by
          unfold g5_operand g5_operand_18 g5_operand_37
          dsimp only [pb5]
          rw [ata_6 (c := 33) H hX (by omega) hat (by decide) (by decide), ata_6 (c := 45) H hX (by omega) hat (by decide) (by decide)]
          rcases k with ⟨q1, q2⟩ | ⟨q1, q2⟩
          · rw [if_pos q1, if_neg ne105, if_neg ne105, q2]; rfl
          · rw [if_neg (show ¬ T.2.1 a = 33 by rw [q1]; decide), if_pos rfl, if_pos q1, if_neg ne105, if_pos rfl, q2]; rfl
        rw [eo, if_pos rfl]
        obtain ⟨z1, z2, z3, z4, z5, z6, z7⟩ := ho_6 (c := c) (y := 0) w (by omega) (fun q => absurd q (us_f6 us).2.2.2.2.1)
        have eg := go_6 (σ := g5_hold (sg6 c) 0 σ) H hE ((F_sx6 z2).trans hX) (by omega) (z3.trans hat) ((z2.1 11 (by decide) (by decide) (by decide) (by decide) (by decide)).trans o.1)
        show rs6 Bk a' (ex6 M K P) (g5_expression_12 mr 0 (g5_go (g5_hold (sg6 c) 0 σ))) σ
        rw [eg]
        have p1 : pl6 (g5_hold (sg6 c) 0 σ) P := pl_e6 p z6 z7
        generalize g5_hold (sg6 c) 0 σ = τ at z1 z2 z3 z4 z5 p1
        have fr : F6 σ (siU τ 10 (Int32.ofNat (Bk + (a + 1)))) := F_t6 z2 (F_si6 (by decide))
        refine rs_F6 (IA (a + 1) (c :: C) K a' h hN (by rw [List.length_cons]; omega) ⟨Or.inl us, v⟩ ⟨fun q => absurd q (us_f6 us).2.2.2.2.2, wf⟩ mr _ P (by omega) (es_F6 ⟨o, hX, hat, ho⟩ fr ?_ ?_ ?_) (wt_s6 z1 (by decide)) (pl_s6 p1 (by decide)) (by rw [bc_s6 (us_f6 us).2.2.2.2.2]; exact hp) (ev_F6 ev fr (by omega))) fr
        · rw [si1, if_neg (by decide), z5]; exact o.2.2
        · rw [si1, if_pos rfl]
        · rw [si1, if_neg (by decide), z4, bk_s6 (us_f6 us).2.2.2.2.1]; exact ho
      · -- a round bracket
        have hle := ch_le6 h
        have hle2 := hle.2 rfl
        have eo : g5_operand σ = (g5_hold 40 0 (g5_open 40 σ), 0) := by
          unfold g5_operand
          dsimp only [pb5]
          rw [ata_6 (c := 33) H hX (by omega) hat (by decide) (by decide), if_neg (show ¬ T.2.1 a = 33 by rw [k]; decide), if_pos rfl, ata_6 (c := 45) H hX (by omega) hat (by decide) (by decide), if_neg (show ¬ T.2.1 a = 45 by rw [k]; decide), if_pos rfl, ata_6 (c := 40) H hX (by omega) hat (by decide) (by decide), if_pos k, if_neg ne105]
        rw [eo, if_pos rfl, op_6 H hE hX (by omega) hat o.1 k (by decide) (by decide) ho (by omega)]
        have w1 : wt6 (siU (siU σ 13 (Int32.ofNat (bk6 C + 1))) 10 (Int32.ofNat (Bk + (a + 1)))) C := wt_s6 (wt_s6 w (by decide)) (by decide)
        have p1 : pl6 (siU (siU σ 13 (Int32.ofNat (bk6 C + 1))) 10 (Int32.ofNat (Bk + (a + 1)))) P := pl_s6 (pl_s6 p (by decide)) (by decide)
        have f1 : F6 σ (siU (siU σ 13 (Int32.ofNat (bk6 C + 1))) 10 (Int32.ofNat (Bk + (a + 1)))) := F_t6 (F_si6 (by decide)) (F_si6 (by decide))
        obtain ⟨z1, z2, z3, z4, z5, z6, z7⟩ := ho_6 (c := 100) (y := 0) w1 (by omega) (fun _ q => absurd rfl q)
        have e40 : sg6 100 = 40 := by decide
        rw [e40] at z1 z2 z3 z4 z5 z6 z7
        have a10 : (siU (siU σ 13 (Int32.ofNat (bk6 C + 1))) 10 (Int32.ofNat (Bk + (a + 1)))).1 10 = Int32.ofNat (Bk + (a + 1)) := by rw [si1, if_pos rfl]
        have a13 : (siU (siU σ 13 (Int32.ofNat (bk6 C + 1))) 10 (Int32.ofNat (Bk + (a + 1)))).1 13 = Int32.ofNat (bk6 C + 1) := by rw [si1, if_neg (by decide), si1, if_pos rfl]
        have a47 : (siU (siU σ 13 (Int32.ofNat (bk6 C + 1))) 10 (Int32.ofNat (Bk + (a + 1)))).1 47 = 0 := o.2.2
        have p2 := pl_e6 p1 z6 z7
        show rs6 Bk a' (ex6 M K P) (g5_expression_12 mr 0 (g5_hold 40 0 (siU (siU σ 13 (Int32.ofNat (bk6 C + 1))) 10 (Int32.ofNat (Bk + (a + 1)))))) σ
        generalize g5_hold 40 0 (siU (siU σ 13 (Int32.ofNat (bk6 C + 1))) 10 (Int32.ofNat (Bk + (a + 1)))) = τ at z1 z2 z3 z4 z5 p2
        have fr : F6 σ τ := F_t6 f1 z2
        have nb : ¬ bi16 (100 : Int32) := by decide
        exact rs_F6 (IA (a + 1) (100 :: C) K a' h hN (by rw [List.length_cons]; omega) ⟨Or.inr (Or.inl (Or.inl rfl)), v⟩ ⟨fun q => absurd q nb, wf⟩ mr _ P (by omega) (es_F6 ⟨o, hX, hat, ho⟩ fr (z5.trans a47) (z3.trans a10) (by rw [z4, a13, bk_b6 (Or.inl rfl)])) z1 p2 (by rw [bc_s6 nb]; exact hp) (ev_F6 ev fr (by omega))) fr
      · -- a variable
        have hle := ch_le6 h
        have eo := nm_6 H hE o hX (by omega) hat k n40
        rw [if_neg n91] at eo
        have o2 : ok6 (siU σ 10 (Int32.ofNat (Bk + (a + 1)))) := ⟨o.1, o.2.1, o.2.2⟩
        have m1 : (siU σ 10 (Int32.ofNat (Bk + (a + 1)))).1 46 = 1 := o.2.1
        have f0 : F6 σ (siU σ 10 (Int32.ofNat (Bk + (a + 1)))) := F_si6 (by decide)
        have e39 : (siU σ 10 (Int32.ofNat (Bk + (a + 1)))).2.2.1 39 (Int32.ofNat (Bk + a)).toNatClampNeg = σ.2.2.1 39 (Bk + a) := by rw [cl_5 (by omega)]; rfl
        have ev1 := (ev.2 a (Nat.le_refl _) hlt k).2 n91
        have eo2 : g5_operand σ = (g5_push (M.1 (rs a).1 (rs a).2) (siU σ 10 (Int32.ofNat (Bk + (a + 1)))), 1) := by
          rw [eo]
          unfold g5_named_79
          dsimp only [pb5]
          rw [(ok_go6 o2).2, if_neg ne105, if_pos rfl, m1, if_neg ne105, e39, F_va6 f0, ev1]
        rw [eo2, if_neg ne105]
        have eK : ex6 M (rs a :: K') P = ex6 M K' (M.1 (rs a).1 (rs a).2 :: P) := by
          refine ex_c6 ?_
          unfold on6
          rcases kr.1 with q | q
          · rw [q]; rfl
          · rw [q]; rfl
        rw [eK]
        generalize M.1 (rs a).1 (rs a).2 = nv
        have w1 : wt6 (siU σ 10 (Int32.ofNat (Bk + (a + 1)))) C := wt_s6 w (by decide)
        have p1 : pl6 (siU σ 10 (Int32.ofNat (Bk + (a + 1)))) P := pl_s6 p (by decide)
        obtain ⟨z1, z2, z3, z4, z5, z6⟩ := ps_6 (x := nv) w1 v p1 (by omega) (by omega)
        have fr : F6 σ (g5_push nv (siU σ 10 (Int32.ofNat (Bk + (a + 1))))) := F_t6 f0 z3
        refine rs_F6 (IB (a + 1) C K' a' h hN (by omega) v wf mr _ nv P (by omega) (es_F6 ⟨o, hX, hat, ho⟩ fr ?_ ?_ ?_) z1 z2 hp (ev_F6 ev fr (by omega))) fr
        · rw [z6, si1, if_neg (by decide)]; exact o.2.2
        · rw [z4, si1, if_pos rfl]
        · rw [z5, si1, if_neg (by decide)]; exact ho
      · -- a cell
        have hle := ch_le6 h
        have hle2 := hle.2 rfl
        have eo := nm_6 H hE o hX (by omega) hat k (by rw [k91]; decide)
        rw [if_pos k91] at eo
        have o2 : ok6 (siU σ 10 (Int32.ofNat (Bk + (a + 1)))) := ⟨o.1, o.2.1, o.2.2⟩
        have hat2 : (siU σ 10 (Int32.ofNat (Bk + (a + 1)))).1 10 = Int32.ofNat (Bk + (a + 1)) := by rw [si1, if_pos rfl]
        have ho2 : (siU σ 10 (Int32.ofNat (Bk + (a + 1)))).1 13 = Int32.ofNat (bk6 C) := by rw [si1, if_neg (by decide)]; exact ho
        have ev1 := (ev.2 a (Nat.le_refl _) hlt k).1 k91
        have eop := op_6 (c := 91) (σ := siU σ 10 (Int32.ofNat (Bk + (a + 1)))) H hE hX (by omega) hat2 o.1 k91 (by decide) (by decide) ho2 (by omega)
        have hsg : sg6 (101 + ra a) = 91 ∧ br16 (101 + ra a) ∧ 101 + ra a ≠ 100 ∧ 200 + ra a = 101 + ra a + 99 := by
          rcases kr with q | q | q <;> rw [q] <;> decide
        have eo2 : g5_operand σ = (g5_hold (sg6 (101 + ra a)) (200 + ra a) (siU (siU (siU σ 10 (Int32.ofNat (Bk + (a + 1)))) 13 (Int32.ofNat (bk6 C + 1))) 10 (Int32.ofNat (Bk + (a + 1 + 1)))), 0) := by
          rw [eo]
          unfold g5_named_79
          dsimp only [pb5]
          rw [(ok_go6 o2).2, if_neg ne105, if_neg ne105, eop, hsg.1]
          have e39 : (siU (siU (siU σ 10 (Int32.ofNat (Bk + (a + 1)))) 13 (Int32.ofNat (bk6 C + 1))) 10 (Int32.ofNat (Bk + (a + 1 + 1)))).2.2.1 39 (Int32.ofNat (Bk + a)).toNatClampNeg = 200 + ra a := by rw [cl_5 (by omega)]; exact ev1
          rw [e39]
        rw [eo2, if_pos rfl]
        have w1 : wt6 (siU (siU (siU σ 10 (Int32.ofNat (Bk + (a + 1)))) 13 (Int32.ofNat (bk6 C + 1))) 10 (Int32.ofNat (Bk + (a + 1 + 1)))) C := wt_s6 (wt_s6 (wt_s6 w (by decide)) (by decide)) (by decide)
        have p1 : pl6 (siU (siU (siU σ 10 (Int32.ofNat (Bk + (a + 1)))) 13 (Int32.ofNat (bk6 C + 1))) 10 (Int32.ofNat (Bk + (a + 1 + 1)))) P := pl_s6 (pl_s6 (pl_s6 p (by decide)) (by decide)) (by decide)
        have f1 : F6 σ (siU (siU (siU σ 10 (Int32.ofNat (Bk + (a + 1)))) 13 (Int32.ofNat (bk6 C + 1))) 10 (Int32.ofNat (Bk + (a + 1 + 1)))) := F_t6 (F_t6 (F_si6 (by decide)) (F_si6 (by decide))) (F_si6 (by decide))
        have a10 : (siU (siU (siU σ 10 (Int32.ofNat (Bk + (a + 1)))) 13 (Int32.ofNat (bk6 C + 1))) 10 (Int32.ofNat (Bk + (a + 1 + 1)))).1 10 = Int32.ofNat (Bk + (a + 2)) := by rw [si1, if_pos rfl]
        have a13 : (siU (siU (siU σ 10 (Int32.ofNat (Bk + (a + 1)))) 13 (Int32.ofNat (bk6 C + 1))) 10 (Int32.ofNat (Bk + (a + 1 + 1)))).1 13 = Int32.ofNat (bk6 C + 1) := by rw [si1, if_neg (by decide), si1, if_pos rfl]
        have a47 : (siU (siU (siU σ 10 (Int32.ofNat (Bk + (a + 1)))) 13 (Int32.ofNat (bk6 C + 1))) 10 (Int32.ofNat (Bk + (a + 1 + 1)))).1 47 = 0 := o.2.2
        show rs6 Bk a' (ex6 M K P) (g5_expression_12 mr 0 (g5_hold (sg6 (101 + ra a)) (200 + ra a) (siU (siU (siU σ 10 (Int32.ofNat (Bk + (a + 1)))) 13 (Int32.ofNat (bk6 C + 1))) 10 (Int32.ofNat (Bk + (a + 1 + 1)))))) σ
        generalize siU (siU (siU σ 10 (Int32.ofNat (Bk + (a + 1)))) 13 (Int32.ofNat (bk6 C + 1))) 10 (Int32.ofNat (Bk + (a + 1 + 1))) = σ1 at w1 p1 f1 a10 a13 a47
        obtain ⟨z1, z2, z3, z4, z5, z6, z7⟩ := ho_6 (c := 101 + ra a) (y := 200 + ra a) w1 (by omega) (fun _ _ => hsg.2.2.2)
        have p2 := pl_e6 p1 z6 z7
        generalize g5_hold (sg6 (101 + ra a)) (200 + ra a) σ1 = τ at z1 z2 z3 z4 z5 p2
        have fr : F6 σ τ := F_t6 f1 z2
        have nb : ¬ bi16 (101 + ra a) := (br_f6 hsg.2.1).2.2.2.2.2.2
        exact rs_F6 (IA (a + 2) ((101 + ra a) :: C) K a' h hN (by rw [List.length_cons]; omega) ⟨Or.inr (Or.inl hsg.2.1), v⟩ ⟨fun q => absurd q nb, wf⟩ mr _ P (by omega) (es_F6 ⟨o, hX, hat, ho⟩ fr (z5.trans a47) (z3.trans a10) (by rw [z4, a13, bk_b6 hsg.2.1])) z1 p2 (by rw [bc_s6 nb]; exact hp) (ev_F6 ev fr (by omega))) fr
    · obtain ⟨o, hX, hat, ho⟩ := es
      have hla := ch_le6 h
      obtain ⟨mr, rfl⟩ : ∃ k, mr = k + 1 := ⟨mr - 1, by omega⟩
      have hbc := bc_l6 (C := C)
      have hbk := bk_l6 (C := C)
      have hdl := dn_l6 (C := C)
      have v1 := vC_d6 v
      have f1 := wf_d6 wf
      have n1 := nu_d6 (C := C)
      have hp1 : P.length = bc6 (dn6 C) := by rw [bc_d6]; exact hp
      have exU : ∀ (r : Int32), r.toInt ≤ 5 → ex6 M (cd6 (tk6 r C)) (x :: P) = ex6 M (cd6 (tk6 r (dn6 C))) (ua6 (up6 C) x :: P) := fun r h5 => by
        rw [(dC_u6 h5 (C := C)).2, cd_a6, ex_i6 ex_u6]
      have beh : g5_behind σ = g5_behind_29 (if X.1 (Bk + a) = 3 then rk5 (X.2.2.1 (Bk + a)) else 0) σ := by
        unfold g5_behind
        dsimp only [pb5]
        rw [(so_6 H hX (by omega) hat).1, (so_6 H hX (by omega) hat).2.1, rk_5]
        by_cases c : X.1 (Bk + a) = 3
        · rw [if_pos c, if_pos c]
        · rw [if_neg c, if_neg c]
      rw [ex_16 o]
      rcases h with ⟨c, r, K', hb, hb1, hr, hnt, rfl, h⟩ | ⟨hb, c, C', K', hD, hk, rfl, h⟩ | ⟨hb, hD, rfl, rfl⟩
      · -- an operator
        have hle := ch_le6 h
        have hle2 := hle.2 rfl
        obtain ⟨x1, x2, x3⟩ := by_6 (H.2.2.1 a (by omega)) (by rw [hb]; exact hb1)
        rw [hb] at x2 x3
        have hk := bi_f6 x2
        rw [if_pos x1, ← x3, ← hk.1] at beh
        have r1 : 1 ≤ r.toInt ∧ r.toInt ≤ 5 := by
          rw [hr]
          by_cases q : f5_Pa_rankOf c = 3
          · rw [if_pos q]; decide
          · rw [if_neg q, hk.1]; omega
        have be2 : g5_behind σ = g5_behind_50 (f5_Pa_rankOf c) r σ := by
          rw [beh, hr]
          unfold g5_behind_29
          by_cases q : f5_Pa_rankOf c = 3
          · rw [if_pos q, if_pos q]
          · rw [if_neg q, if_neg q, if_neg (by rw [lei, t0i, hk.1]; omega)]
        obtain ⟨dc1, dc2⟩ := dC_u6 r1.2 (C := C)
        rw [dc1] at hnt h
        obtain ⟨d1, d2, d3, d4, d5⟩ := dr_6 (r := r) r1.1 v1 f1 n1
        rw [be2]
        unfold g5_behind_50
        dsimp only [pb5]
        rw [if_neg (by rw [lei, t0i, hk.1]; omega)]
        rcases se_6 (M := M) (r := r) r1.1 o w v1 n1 f1 p hp1 (by omega) with ⟨y', P', g1, g2, g3, g4, g5, g6, g7, g8⟩ | ⟨g1, g2, g3, g4⟩
        · have ek : ex6 M (cd6 (tk6 r C) ++ K') (x :: P) = ex6 M K' (y' :: P') := ex_i6 ((exU r r1.2).trans g1)
          rw [ek]
          generalize g5_settle r σ = σ1 at g3 g4 g5 g6 g7 g8
          have o1 : ok6 σ1 := ok_F6 o g5 g8
          have q73 : (if f5_Pa_rankOf c = 3 then (if g5_rank (g5_top σ1) σ1 = 3 then g5_behind_93 σ1 else g5_behind_73 σ1) else g5_behind_73 σ1) = g5_behind_73 σ1 := by
            by_cases q : f5_Pa_rankOf c = 3
            · rw [if_pos q]
              have hnt := hnt q
              refine if_neg ?_
              cases hD : drC5 r (dn6 C) with
              | nil =>
                rw [hD] at g3
                rw [tp_06 g3]
                show ¬ rk5 0 = 3
                decide
              | cons c2 D =>
                rw [hD] at g3 d1 d3 hnt d4
                rw [List.length_cons] at d4
                rw [(tp_6 g3 (by omega)).1]
                show ¬ rk5 (sg6 c2) = 3
                rcases d1.1 with q2 | q2 | q2
                · exact absurd q2 d3
                · rw [(br_f6 q2).2.1]; decide
                · rw [← (bi_f6 q2).1]; exact hnt
            · rw [if_neg q]
          rw [q73]
          unfold g5_behind_73
          dsimp only [pb5]
          rw [(so_6 H ((F_sx6 g5).trans hX) (by omega) (g6.trans hat)).2.1, ← x3]
          obtain ⟨z1, z2, z3, z4, z5, z6, z7⟩ := ho_6 (c := c) (y := 0) g3 (by omega) (fun q => absurd q hk.2.2.2.2.2.2)
          have p2 := pl_e6 g4 z6 z7
          generalize g5_hold (sg6 c) 0 σ1 = τ at z1 z2 z3 z4 z5 p2
          have f2 : F6 σ τ := F_t6 g5 z2
          rw [go_6 (σ := τ) H hE ((F_sx6 f2).trans hX) (by omega) (z3.trans (g6.trans hat)) ((f2.1 11 (by decide) (by decide) (by decide) (by decide) (by decide)).trans o.1)]
          have fr : F6 σ (siU τ 10 (Int32.ofNat (Bk + (a + 1)))) := F_t6 f2 (F_si6 (by decide))
          refine rs_F6 (IA (a + 1) (c :: drC5 r (dn6 C)) K' a' h hN (by rw [List.length_cons]; omega) ⟨Or.inr (Or.inr x2), d1⟩ ⟨fun _ => d3, d2⟩ mr _ (y' :: P') (by omega) (es_F6 ⟨o, hX, hat, ho⟩ fr ?_ ?_ ?_) (wt_s6 z1 (by decide)) (pl_s6 p2 (by decide)) (by rw [List.length_cons, g2, bc_b6 x2]) (ev_F6 ev fr (by omega))) fr
          · rw [si1, if_neg (by decide), z5]; exact g8
          · rw [si1, if_pos rfl]
          · rw [si1, if_neg (by decide), z4, g7, bk_s6 hk.2.2.2.2.2.2, d5, bk_d6]; exact ho
        · have ek : ex6 M (cd6 (tk6 r C) ++ K') (x :: P) = .inr 2 := ex_f6 ((exU r r1.2).trans g1)
          rw [ek]
          generalize g5_settle r σ = σ1 at g2 g3 g4
          have h11 : σ1.1 11 = 0 := (g2.1 11 (by decide) (by decide) (by decide) (by decide) (by decide)).trans o.1
          have g0 := gn_6 h11 (Or.inr g3)
          have b93 : g5_behind_93 σ1 = (σ1, 2) := by
            unfold g5_behind_93
            dsimp only [pb5]
            rw [st_06 g0, g0, if_pos rfl]
          have b73 : F6 σ1 (g5_behind_73 σ1).1 ∧ (g5_behind_73 σ1).1.1 47 = 2 := by
            unfold g5_behind_73
            dsimp only [pb5]
            obtain ⟨y1, y2, y3⟩ := hoF_6 (s := σ1.2.2.1 7 (σ1.1 10).toNatClampNeg) (y := 0) (σ := σ1)
            generalize g5_hold (σ1.2.2.1 7 (σ1.1 10).toNatClampNeg) 0 σ1 = τ at y1 y2 y3
            rw [go_6 (σ := τ) H hE ((F_sx6 (F_t6 g2 y1)).trans hX) (by omega) (y2.trans (g4.trans hat)) ((y1.1 11 (by decide) (by decide) (by decide) (by decide) (by decide)).trans h11)]
            exact ⟨F_t6 y1 (F_si6 (by decide)), by rw [si1, if_neg (by decide), y3]; exact g3⟩
          have bq : ∃ q : rS × Int32, (if f5_Pa_rankOf c = 3 then (if g5_rank (g5_top σ1) σ1 = 3 then g5_behind_93 σ1 else g5_behind_73 σ1) else g5_behind_73 σ1) = q ∧ F6 σ1 q.1 ∧ q.1.1 47 = 2 := by
            by_cases q : f5_Pa_rankOf c = 3
            · by_cases q2 : g5_rank (g5_top σ1) σ1 = 3
              · exact ⟨_, (if_pos q).trans ((if_pos q2).trans b93), F_r6, g3⟩
              · exact ⟨_, (if_pos q).trans (if_neg q2), b73⟩
            · exact ⟨_, if_neg q, b73⟩
          obtain ⟨q, e1, e2, e3⟩ := bq
          rw [e1]
          obtain ⟨mr, rfl⟩ : ∃ k, mr = k + 1 := ⟨mr - 1, by omega⟩
          have fq : F6 σ q.1 := F_t6 g2 e2
          have ex := ex_x66 (mr := mr) (r := q.2) ((e2.1 11 (by decide) (by decide) (by decide) (by decide) (by decide)).trans h11) (Or.inr e3)
          exact Or.inr ⟨2, rfl, Or.inr rfl, by rw [ex]; exact e3, by rw [ex]; exact fq⟩
      · -- a bracket closed
        have hle := ch_le6 h
        obtain ⟨dc1, dc2⟩ := dC_u6 (r := 1) (by decide) (C := C)
        obtain ⟨d1, d2, d3, d4, d5⟩ := dr_6 (r := 1) (by decide) v1 f1 n1
        rw [← dc1, hD] at d1 d2 d4 d5
        rw [List.length_cons] at d4
        have hbr : br16 c := by
          have z : vC6 (drC5 1 C) := by rw [hD]; exact d1
          exact dr_16 z hD
        have nbi : ¬ bi16 c := (br_f6 hbr).2.2.2.2.2.2
        have bkC : bk6 C = bk6 C' + 1 := by rw [← bk_d6, ← d5, bk_b6 hbr]
        rcases bh_6 (M := M) H o hX (by omega) hat hb v wf w p hp (by omega) with ⟨y', P', σ2, j1, j2, j3, j4, j5, j6, j7, j8, be⟩ | ⟨j1, σ2, be, j2, j3⟩
        · rw [hD] at j2 j3
          rw [bc_s6 nbi] at j2
          have o2 : ok6 σ2 := ok_F6 o j5 j8
          obtain ⟨t1, t2, t3⟩ := tp_6 j3 (by omega)
          have e48 : ¬ σ2.1 48 = 0 := fun q => by
            have z0 := j3.1
            rw [q, List.length_cons] at z0
            have y0 := congrArg Int32.toInt z0
            rw [ofn_i (by omega), t0i] at y0
            omega
          rw [if_neg e48, t1] at be
          have hat2 : σ2.1 10 = Int32.ofNat (Bk + a) := j6.trans hat
          have ho2 : σ2.1 13 = Int32.ofNat (bk6 C' + 1) := by rw [j7, ho, bkC]
          have hX2 : sx5 σ2 = X := (F_sx6 j5).trans hX
          have ek : ex6 M (cd6 (tk6 1 C) ++ ((if c = 100 then [] else [(4, c - 101)]) ++ K')) (x :: P) = ex6 M ((if c = 100 then [] else [(4, c - 101)]) ++ K') (y' :: P') := ex_i6 j1
          rw [ek, be]
          by_cases c100 : c = 100
          · rw [if_pos c100] at hk
            rw [if_pos ((br_f6 hbr).2.2.2.2.1.mpr c100), if_pos c100]
            have ec := cs_6 H hE hX2 (by omega) hat2 o2.1 hk (by decide) (by decide) ho2 (by omega)
            rw [ec]
            have w3 : wt6 (siU (siU (siU σ2 13 (Int32.ofNat (bk6 C'))) 10 (Int32.ofNat (Bk + (a + 1)))) 48 ((siU (siU σ2 13 (Int32.ofNat (bk6 C'))) 10 (Int32.ofNat (Bk + (a + 1)))).1 48 - 1)) C' := wt_p6 (wt_s6 (wt_s6 j3 (by decide)) (by decide)) (by omega)
            have p3 : pl6 (siU (siU (siU σ2 13 (Int32.ofNat (bk6 C'))) 10 (Int32.ofNat (Bk + (a + 1)))) 48 ((siU (siU σ2 13 (Int32.ofNat (bk6 C'))) 10 (Int32.ofNat (Bk + (a + 1)))).1 48 - 1)) (y' :: P') := pl_s6 (pl_s6 (pl_s6 j4 (by decide)) (by decide)) (by decide)
            have f3 : F6 σ (siU (siU (siU σ2 13 (Int32.ofNat (bk6 C'))) 10 (Int32.ofNat (Bk + (a + 1)))) 48 ((siU (siU σ2 13 (Int32.ofNat (bk6 C'))) 10 (Int32.ofNat (Bk + (a + 1)))).1 48 - 1)) := F_t6 j5 (F_t6 (F_t6 (F_si6 (by decide)) (F_si6 (by decide))) (F_si6 (by decide)))
            have a10 : (siU (siU (siU σ2 13 (Int32.ofNat (bk6 C'))) 10 (Int32.ofNat (Bk + (a + 1)))) 48 ((siU (siU σ2 13 (Int32.ofNat (bk6 C'))) 10 (Int32.ofNat (Bk + (a + 1)))).1 48 - 1)).1 10 = Int32.ofNat (Bk + (a + 1)) := by rw [si1, if_neg (by decide), si1, if_pos rfl]
            have a13 : (siU (siU (siU σ2 13 (Int32.ofNat (bk6 C'))) 10 (Int32.ofNat (Bk + (a + 1)))) 48 ((siU (siU σ2 13 (Int32.ofNat (bk6 C'))) 10 (Int32.ofNat (Bk + (a + 1)))).1 48 - 1)).1 13 = Int32.ofNat (bk6 C') := by rw [si1, if_neg (by decide), si1, if_neg (by decide), si1, if_pos rfl]
            have a47 : (siU (siU (siU σ2 13 (Int32.ofNat (bk6 C'))) 10 (Int32.ofNat (Bk + (a + 1)))) 48 ((siU (siU σ2 13 (Int32.ofNat (bk6 C'))) 10 (Int32.ofNat (Bk + (a + 1)))).1 48 - 1)).1 47 = 0 := j8
            generalize siU (siU (siU σ2 13 (Int32.ofNat (bk6 C'))) 10 (Int32.ofNat (Bk + (a + 1)))) 48 ((siU (siU σ2 13 (Int32.ofNat (bk6 C'))) 10 (Int32.ofNat (Bk + (a + 1)))).1 48 - 1) = σ3 at w3 p3 f3 a10 a13 a47
            have lb := bc_l6 (C := C')
            obtain ⟨u1, u2, u3, u4, u5, u6⟩ := tu_6 w3 d1.2 p3 (by omega) (by omega)
            have fr : F6 σ (g5_turn σ3) := F_t6 f3 u3
            exact rs_F6 (IB (a + 1) C' K' a' h hN (by omega) d1.2 d2.2 mr _ y' P' (by omega) (es_F6 ⟨o, hX, hat, ho⟩ fr (u6.trans a47) (u4.trans a10) (u5.trans a13)) u1 u2 j2 (ev_F6 ev fr (by omega))) fr
          · rw [if_neg c100] at hk
            rw [if_neg (fun q => c100 ((br_f6 hbr).2.2.2.2.1.mp q)), if_neg c100]
            have ec := cs_6 H hE hX2 (by omega) hat2 o2.1 hk (by decide) (by decide) ho2 (by omega)
            rw [ec]
            have w3 : wt6 (siU (siU (siU σ2 13 (Int32.ofNat (bk6 C'))) 10 (Int32.ofNat (Bk + (a + 1)))) 48 ((siU (siU σ2 13 (Int32.ofNat (bk6 C'))) 10 (Int32.ofNat (Bk + (a + 1)))).1 48 - 1)) C' := wt_p6 (wt_s6 (wt_s6 j3 (by decide)) (by decide)) (by omega)
            have p3 : pl6 (siU (siU (siU σ2 13 (Int32.ofNat (bk6 C'))) 10 (Int32.ofNat (Bk + (a + 1)))) 48 ((siU (siU σ2 13 (Int32.ofNat (bk6 C'))) 10 (Int32.ofNat (Bk + (a + 1)))).1 48 - 1)) (y' :: P') := pl_s6 (pl_s6 (pl_s6 j4 (by decide)) (by decide)) (by decide)
            have f3 : F6 σ (siU (siU (siU σ2 13 (Int32.ofNat (bk6 C'))) 10 (Int32.ofNat (Bk + (a + 1)))) 48 ((siU (siU σ2 13 (Int32.ofNat (bk6 C'))) 10 (Int32.ofNat (Bk + (a + 1)))).1 48 - 1)) := F_t6 j5 (F_t6 (F_t6 (F_si6 (by decide)) (F_si6 (by decide))) (F_si6 (by decide)))
            have a10 : (siU (siU (siU σ2 13 (Int32.ofNat (bk6 C'))) 10 (Int32.ofNat (Bk + (a + 1)))) 48 ((siU (siU σ2 13 (Int32.ofNat (bk6 C'))) 10 (Int32.ofNat (Bk + (a + 1)))).1 48 - 1)).1 10 = Int32.ofNat (Bk + (a + 1)) := by rw [si1, if_neg (by decide), si1, if_pos rfl]
            have a13 : (siU (siU (siU σ2 13 (Int32.ofNat (bk6 C'))) 10 (Int32.ofNat (Bk + (a + 1)))) 48 ((siU (siU σ2 13 (Int32.ofNat (bk6 C'))) 10 (Int32.ofNat (Bk + (a + 1)))).1 48 - 1)).1 13 = Int32.ofNat (bk6 C') := by rw [si1, if_neg (by decide), si1, if_neg (by decide), si1, if_pos rfl]
            have a47 : (siU (siU (siU σ2 13 (Int32.ofNat (bk6 C'))) 10 (Int32.ofNat (Bk + (a + 1)))) 48 ((siU (siU σ2 13 (Int32.ofNat (bk6 C'))) 10 (Int32.ofNat (Bk + (a + 1)))).1 48 - 1)).1 47 = 0 := j8
            have e51 : (siU (siU σ2 13 (Int32.ofNat (bk6 C'))) 10 (Int32.ofNat (Bk + (a + 1)))).2.2.1 51 ((siU (siU σ2 13 (Int32.ofNat (bk6 C'))) 10 (Int32.ofNat (Bk + (a + 1)))).1 48 - 1).toNatClampNeg = c + 99 := by
              have z : ((siU (siU σ2 13 (Int32.ofNat (bk6 C'))) 10 (Int32.ofNat (Bk + (a + 1)))).1 48 - 1).toNatClampNeg = C'.length := t2
              rw [z]
              exact j3.2.2.1 hbr c100
            rw [e51]
            generalize siU (siU (siU σ2 13 (Int32.ofNat (bk6 C'))) 10 (Int32.ofNat (Bk + (a + 1)))) 48 ((siU (siU σ2 13 (Int32.ofNat (bk6 C'))) 10 (Int32.ofNat (Bk + (a + 1)))).1 48 - 1) = σ3 at w3 p3 f3 a10 a13 a47
            have o3 : ok6 σ3 := ok_F6 o f3 a47
            have lb := bc_l6 (C := C')
            obtain ⟨s1, s2, s3⟩ := pl_16 p3 (by omega)
            rw [(ok_go6 o3).1, if_neg ne105, if_pos o3.2.1, s1, s3]
            -- the cell
            have hka : ∃ k, (k = 0 ∨ k = 1 ∨ k = 2) ∧ c - 101 = k ∧ c + 99 = 200 + k := by
              rcases hbr with q | q | q | q
              · exact absurd q c100
              · exact ⟨0, Or.inl rfl, by rw [q]; decide, by rw [q]; decide⟩
              · exact ⟨1, Or.inr (Or.inl rfl), by rw [q]; decide, by rw [q]; decide⟩
              · exact ⟨2, Or.inr (Or.inr rfl), by rw [q]; decide, by rw [q]; decide⟩
            obtain ⟨k, k1, k2, k3⟩ := hka
            rw [k2, k3]
            have evc := (ev_F6 ev f3 (Nat.le_refl a)).1 k y' k1
            have eK : ex6 M ([(4, k)] ++ K') (y' :: P') = match M.2 k y' with
                | some u => ex6 M K' (u :: P')
                | none => .inr 1 := by
              show (match on6 M (4, k) (y' :: P') with | .inl s => ex6 M K' s | .inr f => .inr f) = _
              have oo : on6 M (4, k) (y' :: P') = match M.2 k y' with
                  | some u => .inl (u :: P')
                  | none => .inr 1 := by
                unfold on6
                rfl
              rw [oo]
              cases M.2 k y' <;> rfl
            rw [eK, evc]
            by_cases cz : g5_cellOf (200 + k) y' σ3 = -1
            · rw [if_pos cz, if_pos cz]
              unfold g5_behind_216
              dsimp only [pb5]
              rw [if_pos cz]
              have h11 : (riU (siU σ3 47 1) 52 ((siU σ3 47 1).1 49 - 1).toNatClampNeg 0).1 11 = 0 := o3.1
              have h47 : (riU (siU σ3 47 1) 52 ((siU σ3 47 1).1 49 - 1).toNatClampNeg 0).1 47 = 1 := by
                show (siU σ3 47 1).1 47 = 1
                rw [si1, if_pos rfl]
              have fr : F6 σ (riU (siU σ3 47 1) 52 ((siU σ3 47 1).1 49 - 1).toNatClampNeg 0) := F_t6 f3 (F_t6 (F_si6 (by decide)) (F_ri6 (Or.inr (Or.inr rfl))))
              generalize riU (siU σ3 47 1) 52 ((siU σ3 47 1).1 49 - 1).toNatClampNeg 0 = σ4 at h11 h47 fr
              have e245 : g5_behind_245 σ4 = (σ4, 1) := by
                unfold g5_behind_245
                dsimp only [pb5]
                rw [gn_6 h11 (Or.inl h47), if_pos rfl]
              rw [e245]
              obtain ⟨mr, rfl⟩ : ∃ k, mr = k + 1 := ⟨mr - 1, by omega⟩
              have ex := ex_x66 (mr := mr) (r := 1) h11 (Or.inl h47)
              exact Or.inr ⟨1, rfl, Or.inl rfl, by show (g5_expression_12 (mr + 1) 1 σ4).1.1 47 = 1; rw [ex]; exact h47, by show F6 σ (g5_expression_12 (mr + 1) 1 σ4).1; rw [ex]; exact fr⟩
            · rw [if_neg cz, if_neg cz]
              unfold g5_behind_216
              dsimp only [pb5]
              rw [if_neg cz]
              have e47 : siU σ3 47 0 = σ3 := by
                refine Prod.ext (funext fun g => ?_) rfl
                rw [si1]
                by_cases q : g = 47
                · rw [if_pos q, q, a47]
                · rw [if_neg q]
              rw [e47, s1]
              generalize σ3.2.2.1 57 (g5_cellOf (200 + k) y' σ3).toNatClampNeg = u
              have w4 : wt6 (riU σ3 52 P'.length u) C' := wt_u6 w3
              have p4 : pl6 (riU σ3 52 P'.length u) (u :: P') := pl_u6 p3
              have f4 : F6 σ (riU σ3 52 P'.length u) := F_t6 f3 (F_ri6 (Or.inr (Or.inr rfl)))
              have b10 : (riU σ3 52 P'.length u).1 10 = Int32.ofNat (Bk + (a + 1)) := a10
              have b13 : (riU σ3 52 P'.length u).1 13 = Int32.ofNat (bk6 C') := a13
              have b47 : (riU σ3 52 P'.length u).1 47 = 0 := a47
              generalize riU σ3 52 P'.length u = σ4 at w4 p4 f4 b10 b13 b47
              have o4 : ok6 σ4 := ok_F6 o f4 b47
              have e245 : g5_behind_245 σ4 = (g5_turn σ4, 1) := by
                unfold g5_behind_245
                dsimp only [pb5]
                rw [(ok_go6 o4).1, if_neg ne105]
              rw [e245]
              obtain ⟨u1, u2, u3, u4, u5, u6⟩ := tu_6 w4 d1.2 p4 (by omega) (by omega)
              have fr : F6 σ (g5_turn σ4) := F_t6 f4 u3
              exact rs_F6 (IB (a + 1) C' K' a' h hN (by omega) d1.2 d2.2 mr _ u P' (by omega) (es_F6 ⟨o, hX, hat, ho⟩ fr (u6.trans b47) (u4.trans b10) (u5.trans b13)) u1 u2 j2 (ev_F6 ev fr (by omega))) fr
        · rw [ex_f6 j1, be]
          obtain ⟨mr, rfl⟩ : ∃ k, mr = k + 1 := ⟨mr - 1, by omega⟩
          have ex := ex_x66 (mr := mr) (r := 2) ((j2.1 11 (by decide) (by decide) (by decide) (by decide) (by decide)).trans o.1) (Or.inr j3)
          exact Or.inr ⟨2, rfl, Or.inr rfl, by show (g5_expression_12 (mr + 1) 2 σ2).1.1 47 = 2; rw [ex]; exact j3, by show F6 σ (g5_expression_12 (mr + 1) 2 σ2).1; rw [ex]; exact j2⟩
      · -- the end
        obtain ⟨mr, rfl⟩ : ∃ k, mr = k + 1 := ⟨mr - 1, by omega⟩
        rcases bh_6 (M := M) H o hX (by omega) hat hb v wf w p hp (by omega) with ⟨y', P', σ2, j1, j2, j3, j4, j5, j6, j7, j8, be⟩ | ⟨j1, σ2, be, j2, j3⟩
        · rw [hD] at j2 j3
          have e48 : σ2.1 48 = 0 := j3.1
          rw [if_pos e48] at be
          have P0 : P' = [] := List.eq_nil_of_length_eq_zero j2
          subst P0
          rw [be, j1]
          have e0 : bk6 C = 0 := by
            obtain ⟨dc1, dc2⟩ := dC_u6 (r := 1) (by decide) (C := C)
            obtain ⟨d1, d2, d3, d4, d5⟩ := dr_6 (r := 1) (by decide) v1 f1 n1
            rw [← dc1, hD] at d5
            rw [← bk_d6, ← d5]; rfl
          show rs6 Bk a' (Sum.inl [y']) (g5_expression_12 (mr + 1) 2 σ2) σ
          rw [ex_26]
          exact Or.inl ⟨y', rfl, j4.2.1, j6.trans hat, j8, by rw [j7, ho, e0]; rfl, j5⟩
        · rw [j1, be]
          have ex := ex_x66 (mr := mr) (r := 2) ((j2.1 11 (by decide) (by decide) (by decide) (by decide) (by decide)).trans o.1) (Or.inr j3)
          exact Or.inr ⟨2, rfl, Or.inr rfl, by show (g5_expression_12 (mr + 1) 2 σ2).1.1 47 = 2; rw [ex]; exact j3, by show F6 σ (g5_expression_12 (mr + 1) 2 σ2).1; rw [ex]; exact j2⟩

end
