set_option maxHeartbeats 1600000
/-! calls looked at, side by side -/
/-- only the links (row 37) differ -/
def lk5 (σ σ' : rS) : Prop := σ'.1 = σ.1 ∧ (∀ k, k ≠ 37 → σ'.2.2.1 k = σ.2.2.1 k) ∧ σ'.2.2.2 = σ.2.2.2
theorem lk_rf {σ : rS} : lk5 σ σ := ⟨rfl, fun _ _ => rfl, rfl⟩
theorem lk_ri {σ0 σ : rS} {i : Nat} {x : Int32} (h : lk5 σ0 σ) : lk5 σ0 (riU σ 37 i x) := ⟨h.1, fun k hk => by rw [ri3 hk]; exact h.2.1 k hk, h.2.2⟩
theorem lk_if {σ0 A B : rS} {c : Prop} [Decidable c] (ha : lk5 σ0 A) (hb : lk5 σ0 B) : lk5 σ0 (if c then A else B) := by
  by_cases h : c
  · rw [if_pos h]; exact ha
  · rw [if_neg h]; exact hb
theorem lk_260 {σ0 σ : rS} {B : Int32 → rS → rS} {x y : Int32} (hB : ∀ x τ, lk5 σ0 τ → lk5 σ0 (B x τ)) (h : lk5 σ0 σ) : lk5 σ0 (g5_lookAtCalls_260 B x y σ) := by
  unfold g5_lookAtCalls_260 g5_lookAtCalls_290
  exact lk_if (hB _ _ (lk_ri h)) (hB _ _ (lk_ri h))
theorem lk_214 {σ0 : rS} {B : Int32 → rS → rS} (hB : ∀ x τ, lk5 σ0 τ → lk5 σ0 (B x τ)) : ∀ (m : Nat) (x y : Int32) (σ : rS), lk5 σ0 σ → lk5 σ0 (g5_lookAtCalls_214 B m x y σ)
  | 0, _, _, _, h => h
  | m + 1, x, y, σ, h => by
    rw [g5_lookAtCalls_214]
    exact lk_if (lk_if (lk_260 hB h) (lk_if (lk_214 hB m _ _ σ h) (lk_260 hB h))) (lk_260 hB h)
theorem lk_204 {σ0 : rS} : ∀ (m : Nat) (x : Int32) (σ : rS), lk5 σ0 σ → lk5 σ0 (g5_lookAtCalls_204 m x σ)
  | 0, _, _, h => h
  | m + 1, x, σ, h => by
    rw [g5_lookAtCalls_204]
    exact lk_if h (lk_214 (fun y τ ht => lk_204 m y τ ht) _ _ _ σ h)
theorem lk_s5 {σ σ' : rS} (h : lk5 σ σ') : fs5 σ σ' := by
  obtain ⟨h1, h2, h3⟩ := h
  refine ⟨?_, ?_, by rw [h1], by rw [h1], by rw [h1], by rw [h1], by rw [h1], by rw [h1]⟩
  · unfold sx5
    rw [h2 5 (by decide), h2 6 (by decide), h2 7 (by decide), h2 9 (by decide), h3]
  · unfold gS5
    rw [h1, h2 20 (by decide), h2 22 (by decide), h2 25 (by decide), h2 26 (by decide), h2 27 (by decide), h2 28 (by decide), h2 30 (by decide), h2 32 (by decide), h2 43 (by decide), h2 45 (by decide)]
theorem kq_lk {s σ σ' : rS} (h : lk5 σ σ') (k : kq5 s σ) : kq5 s σ' := fun z => by
  rw [h.1]
  exact k z
/-- a fault stays over the loops -/
theorem kq_l98 {s : rS} : ∀ (m : Nat) (x : Int32) (σ : rS), s.1 11 ≠ 0 → kq5 s σ → kq5 s (g5_lookAtCalls_98 m x σ)
  | 0, _, _, _, h => h
  | m + 1, x, σ, n, h => by
    have ir : g5_isRight σ = 0 := by
      unfold g5_isRight
      rw [if_neg (by rw [(h n).1]; exact n)]
    have k164 : ∀ y : Int32, kq5 s (g5_lookAtCalls_164 (g5_lookAtCalls_98 m) x y σ) := fun y => by
      unfold g5_lookAtCalls_164
      exact kq_l98 m _ _ n (kq_si (by decide) (by decide) h)
    rw [g5_lookAtCalls_98, pb_e5, ir, if_pos rfl]
    exact kq_if (kq_lk (lk_204 _ _ _ lk_rf) h) (kq_if (kq_if (kq_if (k164 _) (k164 _)) (k164 _)) (k164 _))
theorem kq_l2 {s : rS} : ∀ (m : Nat) (x : Int32) (σ : rS), s.1 11 ≠ 0 → kq5 s σ → kq5 s (g5_lookAtCalls_2 m x σ)
  | 0, _, _, _, h => h
  | m + 1, x, σ, n, h => by
    have ir : g5_isRight σ = 0 := by
      unfold g5_isRight
      rw [if_neg (by rw [(h n).1]; exact n)]
    rw [g5_lookAtCalls_2, pb_e5, pb_e5, ir, if_pos rfl]
    exact kq_if (kq_l98 _ _ _ n (kq_si (by decide) (by decide) h)) (kq_if (kq_l2 m _ _ n h) (kq_l2 m _ _ n h))
theorem fnd_u5 {v : Nat} {P : Nat → Prop} {r r' : Int32} (h : fnd5 v P r) (h' : fnd5 v P r') : r = r' := by
  rcases h with ⟨a, b⟩ | ⟨k, k1, k2, k3, k4⟩
  · rcases h' with ⟨a', b'⟩ | ⟨k', k1', k2', k3', k4'⟩
    · rw [a, a']
    · exact absurd k2' (b k' k1')
  · rcases h' with ⟨a', b'⟩ | ⟨k', k1', k2', k3', k4'⟩
    · exact absurd k2 (b' k k1)
    · have e : k = k' := by
        rcases Nat.lt_trichotomy k k' with q | q | q
        · exact absurd k2 (k3' k q)
        · exact q
        · exact absurd k2' (k3 k' q)
      rw [k4, k4', e]
section
variable {T : T5} {X : X5} {Bk N : Nat} {Z : Int32} {V : V5} {W : W5} {a s : Nat} {e : E5} {σ : rS}
/-- what is left at the end -/
def QE5 (T : T5) (X : X5) (Bk N : Nat) (Z : Int32) (e' : E5) (σ' : rS) : Prop := ∃ (s a : Nat) (V : V5) (W : W5), LR5 T X Bk N Z V W a 0 e' σ' ∧ nG5 T Bk N V W ∧ s ≤ 150 ∧ vst5 V = Int32.ofNat s ∧ wst5 W = Int32.ofNat s
theorem sr_107 {v : Nat} (H : TR5 T X Bk N Z) (G : nG5 T Bk N V W) (hF : V.2.2.2.2.1 = Int32.ofNat v) (hv10 : v ≤ 10) (h142 : T.2.1 a = 142) (s150 : s ≤ 150) (hs : vst5 V = Int32.ofNat s) (hs' : wst5 W = Int32.ofNat s) : ∀ (m mr i : Nat) (e : E5) (σ : rS), LR5 T X Bk N Z V W a 0 e σ → e.1 coMain = σ.1 40 → i ≤ v → v - i < mr → sr5 (fun e' _ σ' => QE5 T X Bk N Z e' σ') (f5_Pa_findCalled_107 m (Int32.ofNat i) e) (g5_lookAtCalls_98 mr (Int32.ofNat i) σ)
  | 0, _, _, _, _, _, _, _, _ => Or.inl rfl
  | m + 1, mr, i, e, σ, L, hm, hi, hmr => by
    have ih := sr_107 H G hF hv10 h142 s150 hs hs' m
    obtain ⟨mr, rfl⟩ : ∃ k, mr = k + 1 := ⟨mr - 1, by omega⟩
    obtain ⟨v', pF, pc⟩ := G.2.2.1
    have v10 := pF.1
    have vv : v' = v := by
      have y1 := congrArg Int32.toInt (pF.2.1.symm.trans hF)
      rw [ofn_i (by omega), ofn_i (by omega)] at y1
      omega
    subst vv
    have li := ofn_i (n := i) (by omega)
    have lv := ofn_i (n := v') (by omega)
    have ef : e.1 coFunctions = Int32.ofNat v' := (congrArg (fun V : V5 => V.2.2.2.2.1) L.2.1.1).trans hF
    have sf : σ.1 18 = Int32.ofNat v' := (congrArg (fun W : W5 => W.2.2.2.2.1) L.2.1.2).trans pF.2.2.1
    rw [f5_Pa_findCalled_107, g5_lookAtCalls_98, ef, sf]
    by_cases c : v' = i
    · have q : Int32.ofNat v' ≤ Int32.ofNat i := by rw [lei]; omega
      rw [if_pos q, if_pos q, pb_e5, lr_ir5 L, if_neg ne105]
      unfold f5_Pa_findCalled_166
      rw [hm]
      by_cases c1 : σ.1 40 = -1
      · rw [if_pos c1, if_pos c1, lr_rva5 H L, pb_e5, pb_e5]
        have aN : a = N - 1 := by
          have := (H.2.2.2.1 a L.2.2.1.1).mp (Or.inl h142)
          omega
        have pz : T.2.2.1 a = Z := by
          rw [aN]
          exact H.2.2.2.2.2.2.2.2 (by rw [← aN]; exact h142)
        have fz := lk_204 (σ0 := siU (siU σ 11 17) 12 ((siU σ 11 17).1 2)) fu5 0 _ lk_rf
        refine sr_r5 (by decide) ?_ ?_
        · rw [fz.1]; rfl
        · rw [fz.1, pz]
          exact L.1.2.2
      · rw [if_neg c1, if_neg c1]
        exact sr_i5 (lr_k5 L) ⟨s, a, V, W, lr_fe5 L fe_r5 (lk_s5 (lk_204 _ _ _ lk_rf)), G, s150, hs, hs'⟩
    · have q : ¬ Int32.ofNat v' ≤ Int32.ofNat i := by rw [lei]; omega
      have q10 : ¬ (10 : Int32) ≤ Int32.ofNat i := by
        have l10 : (10 : Int32).toInt = 10 := rfl
        rw [lei]; omega
      obtain ⟨t, ht, kt, en, rn⟩ := pF.2.2.2 i (by omega)
      have fn : e.2.1 1008 i = Int32.ofNat t := (congrArg (fun V : V5 => vfn5 V i) L.2.1.1).trans en
      have sn : σ.2.2.1 25 i = Int32.ofNat (Bk + t) := (congrArg (fun W : W5 => W.2.2.2.2.2.1 i) L.2.1.2).trans rn
      have hh := H.1
      have ci : (Int32.ofNat i).toNatClampNeg = i := cl_5 (by omega)
      have ct : (Int32.ofNat (Bk + t)).toNatClampNeg = Bk + t := cl_5 (by omega)
      have mW : g5_word 109 97 105 110 0 0 0 σ = mW5 := rfl
      have x8 : σ.2.2.2 8 (Bk + t) = X.2.2.2.2 (Bk + t) := by rw [← L.1.2.1]; rfl
      have x9 : σ.2.2.1 9 (Bk + t) = X.2.2.2.1 (Bk + t) := by rw [← L.1.2.1]; rfl
      have cc : e.2.1 504 i = σ.2.2.1 26 i := by
        have z1 : e.2.1 504 i = vnc5 V i := congrArg (fun V : V5 => vnc5 V i) L.2.1.1
        have z2 : σ.2.2.1 26 i = w26_5 W i := congrArg (fun W : W5 => w26_5 W i) L.2.1.2
        rw [z1, z2]
        exact pc i (by omega)
      have mn := H.2.2.2.2.2.2.2.1 t ht kt
      rw [if_neg q, if_neg q, if_neg q10, pb_e5, pb_e5, pb_e5, ci, show e.2.1 paFunctionNames i = Int32.ofNat t from fn, L.1.1, mn, sn, ct, mW, pb_e5 (x := mW5), x8, x9, show e.2.1 coNameCounts i = σ.2.2.1 26 i from cc, on_15 (by omega)]
      have nx : ∀ (σ1 : rS), LR5 T X Bk N Z V W a 0 e σ1 → e.1 coMain = σ1.1 40 → sr5 (fun e' _ σ' => QE5 T X Bk N Z e' σ') (f5_Pa_findCalled_107 m (Int32.ofNat (i + 1)) e) (g5_lookAtCalls_98 mr (Int32.ofNat (i + 1)) σ1) := fun σ1 L1 h1 => ih mr (i + 1) e σ1 L1 h1 (by omega) (by omega)
      have same : sr5 (fun e' _ σ' => QE5 T X Bk N Z e' σ') (f5_Pa_findCalled_107 m (Int32.ofNat (i + 1)) e) (g5_lookAtCalls_164 (g5_lookAtCalls_98 mr) (Int32.ofNat i) (σ.1 40) σ) := by
        unfold g5_lookAtCalls_164
        rw [pb_e5, pb_e5, on_15 (by omega)]
        exact nx _ (lr_fe5 L fe_r5 ⟨rfl, rfl, rfl, rfl, rfl, rfl, rfl, rfl⟩) hm
      by_cases cm : X.2.2.2.2 (Bk + t) = mW5 ∧ X.2.2.2.1 (Bk + t) = 0
      · rw [if_pos cm, if_neg ne105, if_pos ((lg_cmp_eq _ _).mpr cm.1), if_pos cm.2]
        by_cases c0 : σ.2.2.1 26 i = 0
        · rw [if_pos c0, if_pos c0]
          unfold stI5 g5_lookAtCalls_164
          rw [rdl_5, pb_e5, pb_e5, pb_e5, on_15 (by omega)]
          exact ih mr (i + 1) _ _ (lr_fe5 L ⟨rfl, rfl, rfl, rfl, rfl⟩ ⟨rfl, rfl, rfl, rfl, rfl, rfl, rfl, rfl⟩) rfl (by omega) (by omega)
        · rw [if_neg c0, if_neg c0]
          exact same
      · rw [if_neg cm, if_pos rfl]
        by_cases c8 : X.2.2.2.2 (Bk + t) = mW5
        · rw [if_pos ((lg_cmp_eq _ _).mpr c8), if_neg (fun h => cm ⟨c8, h⟩)]
          exact same
        · rw [if_neg (fun h => c8 ((lg_cmp_eq _ _).mp h))]
          exact same
end
