section
set_option maxHeartbeats 1600000
/-! behind a statement's place: draws, choices, calls, settings -/
def tl6 (T : T5) (Bk nv na : Nat) (e : E5) (r30 r32 r : Nat → Int32) (s q pc z : Nat) : Prop := ∃ x, r32 s = Int32.ofNat (Bk + x) ∧ q < x ∧ x < z ∧
  ((r30 s = 2 ∧ e.2.1 506 (11 * s) = 0 ∧ e.2.1 506 (11 * s + 4) = 1 ∧ ∃ p' a', xe6 T Bk nv na e r pc x p' a' ∧ a' ≤ z) ∨
   (r30 s = 3 ∧ e.2.1 506 (11 * s) = 1 ∧ e.2.1 506 (11 * s + 4) = 1 ∧ T.2.1 x = 160 ∧ ∃ p' a', xe6 T Bk nv na e r pc (x + 2) p' a' ∧ a' ≤ z) ∨
   (r30 s = 3 ∧ e.2.1 506 (11 * s) = 2 ∧ e.2.1 506 (11 * s + 4) = 2 ∧ T.2.1 x = 161 ∧ ∃ p2 a2 p' a', xe6 T Bk nv na e r pc (x + 2) p2 a2 ∧ xe6 T Bk nv na e r p2 (a2 + 1) p' a' ∧ a' ≤ z) ∨
   (r30 s = 3 ∧ e.2.1 506 (11 * s) = 3 ∧ T.2.1 x = 123 ∧ ∃ n p' a', n ≤ 8 ∧ e.2.1 506 (11 * s + 4) = Int32.ofNat (2 * n) ∧ sp6 T Bk nv na e r n pc (x + 1) p' a' ∧ a' ≤ z) ∨
   (r30 s = 4 ∧ e.2.1 506 (11 * s) = 4 ∧ e.2.1 506 (11 * s + 4) = 1 ∧ ∃ p' a', xe6 T Bk nv na e r pc (x + 2) p' a' ∧ a' ≤ z) ∨
   (r30 s = 5 ∧ e.2.1 506 (11 * s) = 5 ∧ T.2.1 x = 140 ∧ T.2.1 (x + 1) = 40 ∧ T.2.1 q = 61 ∧ e.2.1 506 (11 * s + 1) ≠ 3 ∧ ∃ n : Nat, n ≤ 65537 ∧ e.2.1 506 (11 * s + 4) = Int32.ofNat n ∧ (n = 0 ∨ ∃ p' a', xs6 T Bk nv na e r n pc (x + 2) p' a' ∧ a' ≤ z)))
theorem t295_6 {σ : rS} : g5_tellNamed_295 σ = g5_sign 59 (g5_expression σ).1 := by
  unfold g5_tellNamed_295
  rw [pm_e5, pb_e5]
/-- what stays of the statement's columns -/
def fc6 (s : Nat) (e e' : E5) : Prop := ∀ i, i ≠ 11 * s → i ≠ 11 * s + 4 → i ≠ 11 * s + 5 → e'.2.1 506 i = e.2.1 506 i
section
variable {T : T5} {X : X5} {Bk N : Nat} {Z : Int32} {a o s nv na : Nat} {R : List Qq6} {e e' : E5} {σ : rS}
theorem cs_e6 {c : Nat} {ci x : Int32} (S : SR6 T X Bk N Z a o R e σ) (J : JS6 T Bk N nv na s e σ) (hc : c ≤ 10) (hci : ci = Int32.ofNat c) : ∃ e2, f5_Co_setColumn (Int32.ofNat s) ci x e = .inl (e2, ()) ∧ SR6 T X Bk N Z a o R e2 σ ∧ JS6 T Bk N nv na s e2 σ ∧ fs6 Bk s a a e e2 σ σ ∧ (∀ i, e2.2.1 506 i = if i = 11 * s + c then x else e.2.1 506 i) ∧ e2.1 = e.1 := by
  subst hci
  obtain ⟨F, w⟩ := co_6 (x := x) J hc a
  exact ⟨_, stc_5, SR_c6 S, JS_m6 J F.1 F.2.1, F, w, stc_15.1⟩
theorem ce_c6 {c : Nat} {ci : Int32} (J : JS6 T Bk N nv na s e σ) (hc : c ≤ 10) (hci : ci = Int32.ofNat c) : cl5 (Int32.ofNat s) ci e = e.2.1 506 (11 * s + c) := by
  subst hci
  have j2 := J.2.1
  exact cl_s6 J.1 (Nat.lt_succ_self s) (by omega) hc
theorem swd_6 {w k : Int32} (H : TR5 T X Bk N Z) (hE : T.2.1 (N - 1) = 142) (S : SR6 T X Bk N Z a o R e σ) (h0 : 1 ≤ w.toInt) (h1 : w.toInt ≤ 13) (hk : 149 + w = k) : g5_isWord w σ = if T.2.1 a = k then 1 else 0 := by
  have z := lr_wk5 H (SR_L6 H hE S) h0 h1 hk
  have k4 : e.1 paKind = T.2.1 a := S.2.1.2.2.1
  rw [k4] at z
  exact z
/-- behind: no name was taken -/
theorem s191_6 (S : SR6 T X Bk N Z a o R e σ) (J : JS6 T Bk N nv na s e σ) : ∃ e2, f5_Pa_statement_191 (Int32.ofNat s) 0 (-1) e = f5_Pa_statement_233 (Int32.ofNat s) e2 ∧ SR6 T X Bk N Z a o R e2 σ ∧ JS6 T Bk N nv na s e2 σ ∧ fs6 Bk s a a e e2 σ σ ∧ (∀ i, e2.2.1 506 i = if i = 11 * s + 5 then -1 else e.2.1 506 i) ∧ e2.1 = e.1 := by
  obtain ⟨e2, z, r⟩ := cs_e6 (c := 5) (ci := 5) (x := -1) S J (by omega) rfl
  refine ⟨e2, ?_, r⟩
  unfold f5_Pa_statement_191
  rw [z, rdl_5, if_pos rfl, if_pos rfl]
theorem b3_6 (J : JS6 T Bk N nv na s e σ) (h : e.2.1 506 (11 * s) = 3) : f5_Pa_statement_233 (Int32.ofNat s) e = rdB5 (f5_Pa_spread (Int32.ofNat s) e) (fun e8 _ => f5_Pa_statement_268 e8) := by
  have z := ce_c6 (c := 0) (ci := 0) J (by omega) rfl
  have h : e.2.1 506 (11 * s + 0) = 3 := h
  unfold f5_Pa_statement_233
  rw [pb_e5, z, if_pos h]
theorem bk_6 {k : Int32} (J : JS6 T Bk N nv na s e σ) (h : e.2.1 506 (11 * s) = k) (k3 : k ≠ 3) : f5_Pa_statement_233 (Int32.ofNat s) e = rdB5 (f5_Pa_finish (Int32.ofNat s) k e) (fun e8 _ => f5_Pa_statement_268 e8) := by
  have z := ce_c6 (c := 0) (ci := 0) J (by omega) rfl
  have h : e.2.1 506 (11 * s + 0) = k := h
  unfold f5_Pa_statement_233
  rw [pb_e5, z, if_neg (by rw [h]; exact k3), pb_e5, h]
theorem b0_6 (J : JS6 T Bk N nv na s e σ) (h : e.2.1 506 (11 * s) = 0) : f5_Pa_statement_233 (Int32.ofNat s) e = rdB5 (f5_Pa_expression (Int32.ofNat s) (e.2.1 506 (11 * s + 5)) e) (fun e8 _ => f5_Pa_statement_268 e8) := by
  have z := ce_c6 (c := 5) (ci := 5) J (by omega) rfl
  rw [bk_6 J h (by decide)]
  unfold f5_Pa_finish
  rw [if_pos rfl, pb_e5, z, rb_u5]
/-- a draw -/
theorem dw_6 {v : Int32} (H : TR5 T X Bk N Z) (hE : T.2.1 (N - 1) = 142) (S : SR6 T X Bk N Z a o R e σ) (J : JS6 T Bk N nv na s e σ) (c4 : e.2.1 506 (11 * s + 4) = 0) (hk : T.2.1 a = 126) (h : f5_Pa_statement_177 (Int32.ofNat s) v 0 e = .inl (e', ())) : ∃ a' R' σ', g5_tellDraw (riU (riU (g5_go σ) 30 s 3) 32 s ((riU (g5_go σ) 30 s 3).1 10)) = σ' ∧ SR6 T X Bk N Z a' o R' e' σ' ∧ a < a' ∧ fs6 Bk s a a' e e' σ σ' ∧ tl6 T Bk nv na e' (σ'.2.2.1 30) (σ'.2.2.1 32) (σ'.2.2.1 39) s a R.length a' ∧ fc6 s e e' := by
  have k4 : e.1 paKind = 126 := S.2.1.2.2.1.trans hk
  unfold f5_Pa_statement_177 at h
  rw [if_pos rfl] at h
  unfold f5_Pa_behindPlace at h
  rw [if_pos k4] at h
  unfold f5_Pa_behindPlace_14 at h
  rw [if_neg ne105] at h
  unfold f5_Pa_behindPlace_25 at h
  rw [rdA6] at h
  obtain ⟨e1, _, t1, h⟩ := rb_s6 h
  obtain ⟨S1, f1⟩ := sk_6 H hE S (by rw [hk]; decide) t1
  have F1 : fs6 Bk s a (a + 1) e e1 σ (g5_go σ) := fs_s6 f1
  generalize g5_go σ = σ1 at S1 f1 F1 ⊢
  have e10 : (riU σ1 30 s 3).1 10 = Int32.ofNat (Bk + (a + 1)) := S1.2.1.2.2.2
  rw [e10]
  have F2 : fs6 Bk s (a + 1) (a + 1) e1 e1 σ1 (riU (riU σ1 30 s 3) 32 s (Int32.ofNat (Bk + (a + 1)))) := fs_t6 (Nat.le_refl _) (Nat.le_refl _) (fs_u6 (Or.inl rfl)) (fs_u6 (Or.inr rfl))
  have S2 := SR_u6 (f := 32) (i := s) (x := Int32.ofNat (Bk + (a + 1))) (by decide) (SR_u6 (f := 30) (i := s) (x := 3) (by decide) S1)
  have F12 := fs_t6 (by omega) (by omega) F1 F2
  have J2 := JS_m6 J F12.1 F12.2.1
  have v30 : (riU (riU σ1 30 s 3) 32 s (Int32.ofNat (Bk + (a + 1)))).2.2.1 30 s = 3 := by rw [ri_o6 (by decide), ri_s6, if_pos rfl]
  have v32 : (riU (riU σ1 30 s 3) 32 s (Int32.ofNat (Bk + (a + 1)))).2.2.1 32 s = Int32.ofNat (Bk + (a + 1)) := by rw [ri_s6, if_pos rfl]
  generalize riU (riU σ1 30 s 3) 32 s (Int32.ofNat (Bk + (a + 1))) = σ2 at F2 S2 F12 J2 v30 v32 ⊢
  have w1 : ∀ i, e1.2.1 506 i = e.2.1 506 i := fun i => by rw [f1.2.1]
  have k1 : e1.1 paKind = T.2.1 (a + 1) := S1.2.1.2.2.1
  rw [if_neg ne105, k1] at h
  rw [td_5, swd_6 H hE S2 (k := 160) (by decide) (by decide) rfl, swd_6 H hE S2 (k := 161) (by decide) (by decide) rfl]
  by_cases c3 : T.2.1 (a + 1) = 123
  · rw [if_pos c3] at h
    rw [if_neg (show ¬ T.2.1 (a + 1) = 160 by rw [c3]; decide), if_pos rfl, if_neg (show ¬ T.2.1 (a + 1) = 161 by rw [c3]; decide), if_pos rfl]
    obtain ⟨e2, z2, S3, J3, F3, w3, _⟩ := cs_e6 (c := 0) (ci := 0) (x := 3) S2 J2 (by omega) rfl
    unfold f5_Pa_behindPlace_63 at h
    rw [if_neg (by decide)] at h
    unfold f5_Pa_behindPlace_91 at h
    rw [z2, rdl_5, if_neg (by decide)] at h
    unfold f5_Pa_behindPlace_133 at h
    rw [if_pos rfl, if_neg (by decide), if_neg (by decide), if_neg (by decide)] at h
    unfold f5_Pa_behindPlace_159 at h
    rw [if_pos rfl, rdl_5] at h
    obtain ⟨e3, z3, S4, J4, F4, w4, _⟩ := s191_6 S3 J3
    have h0 : e3.2.1 506 (11 * s) = 3 := by rw [w4, if_neg (by omega), w3, if_pos (by omega)]
    rw [z3, b3_6 J4 h0] at h
    have c44 : e3.2.1 506 (11 * s + 4) = 0 := by rw [w4, if_neg (by omega), w3, if_neg (by omega), w1]; exact c4
    obtain ⟨a', R', k, p', z, y1, y2, y3, y4, y5, y6, y7, y8, y9⟩ := sd_6 H hE S4 J4 c44 h
    have F14 := fs_t6 (by omega) (by omega) (fs_t6 (by omega) (by omega) F12 F3) F4
    refine ⟨a', R', _, rfl, y2, by omega, fs_t6 (by omega) (by omega) F14 y4, ⟨a + 1, by rw [y9.2.2]; exact v32, by omega, by omega, Or.inr (Or.inr (Or.inr (Or.inl ⟨by rw [y9.2.1]; exact v30, by rw [y9.1 _ (by omega)]; exact h0, c3, k, p', z, y7, y8, y5, y6⟩)))⟩, fun i q1 q2 q3 => ?_⟩
    rw [y9.1 i q2, w4, if_neg q3, w3, if_neg (by omega), w1]
  · rw [if_neg c3] at h
    by_cases c0 : T.2.1 (a + 1) = 160
    · rw [if_pos c0] at h
      rw [if_pos c0, if_neg ne105]
      obtain ⟨e2, z2, S3, J3, F3, w3, _⟩ := cs_e6 (c := 0) (ci := 0) (x := 1) S2 J2 (by omega) rfl
      unfold f5_Pa_behindPlace_63 at h
      rw [if_neg (by decide)] at h
      unfold f5_Pa_behindPlace_91 at h
      rw [z2, rdl_5, if_neg (by decide)] at h
      unfold f5_Pa_behindPlace_133 at h
      rw [if_pos rfl, if_pos rfl, rdA6] at h
      obtain ⟨e5, _, t5, h⟩ := rb_s6 h
      rw [td18_5, swd_6 H hE S2 (k := 161) (by decide) (by decide) rfl, if_neg (show ¬ T.2.1 (a + 1) = 161 by rw [c0]; decide), if_pos rfl]
      obtain ⟨S5, f5⟩ := sk_6 H hE S3 (by rw [c0]; decide) t5
      have F5 : fs6 Bk s (a + 1) (a + 2) e2 e5 σ2 (g5_go σ2) := fs_s6 f5
      have J5 := JS_m6 J3 F5.1 F5.2.1
      have g5r : (g5_go σ2).2.2.1 30 = σ2.2.2.1 30 ∧ (g5_go σ2).2.2.1 32 = σ2.2.2.1 32 := by rw [f5.2.2.2.1]; exact ⟨rfl, rfl⟩
      generalize g5_go σ2 = σ5 at S5 f5 F5 J5 g5r ⊢
      unfold f5_Pa_behindPlace_159 at h
      rw [if_pos rfl, rdl_5] at h
      obtain ⟨e6, z6, S6, J6, F6, w6, _⟩ := s191_6 S5 J5
      have h0 : e6.2.1 506 (11 * s) = 1 := by rw [w6, if_neg (by omega), f5.2.1, w3, if_pos (by omega)]
      rw [z6, bk_6 J6 h0 (by decide)] at h
      obtain ⟨a', R', p', z, y1, y2, y3, y4, y5, y6, y8, y9⟩ := f1_6 H hE S6 J6 (by decide) (by decide) (by decide) h
      have F16 := fs_t6 (by omega) (by omega) (fs_t6 (by omega) (by omega) (fs_t6 (by omega) (by omega) F12 F3) F5) F6
      refine ⟨a', R', _, rfl, y2, by omega, fs_t6 (by omega) (by omega) F16 y4, ⟨a + 1, by rw [y9.2.2, g5r.2]; exact v32, by omega, by omega, Or.inr (Or.inl ⟨by rw [y9.2.1, g5r.1]; exact v30, by rw [y9.1 _ (by omega)]; exact h0, ?_, c0, p', z, y5, y6⟩)⟩, fun i q1 q2 q3 => ?_⟩
      · rw [y8, w6, if_neg (by omega), f5.2.1, w3, if_neg (by omega), w1, c4]; rfl
      · rw [y9.1 i q2, w6, if_neg q3, f5.2.1, w3, if_neg (by omega), w1]
    · rw [if_neg c0] at h
      rw [if_neg c0, if_pos rfl]
      unfold f5_Pa_behindPlace_63 at h
      rw [if_pos rfl] at h
      have k1' : e1.1 paKind = T.2.1 (a + 1) := k1
      by_cases c1 : T.2.1 (a + 1) = 161
      · rw [if_pos c1, if_neg ne105]
        have hx : f5_Pa_expect 161 e1 = .inl (e1, ()) := by
          unfold f5_Pa_expect
          rw [if_pos (k1.trans c1)]
        rw [hx, rdl_5] at h
        obtain ⟨e2, z2, S3, J3, F3, w3, _⟩ := cs_e6 (c := 0) (ci := 0) (x := 2) S2 J2 (by omega) rfl
        unfold f5_Pa_behindPlace_91 at h
        rw [z2, rdl_5, if_neg (by decide)] at h
        unfold f5_Pa_behindPlace_133 at h
        rw [if_pos rfl, if_neg (by decide), if_pos rfl, rdA6] at h
        obtain ⟨e5, _, t5, h⟩ := rb_s6 h
        rw [td18_5, swd_6 H hE S2 (k := 161) (by decide) (by decide) rfl, if_pos c1, if_neg ne105]
        obtain ⟨S5, f5⟩ := sk_6 H hE S3 (by rw [c1]; decide) t5
        have F5 : fs6 Bk s (a + 1) (a + 2) e2 e5 σ2 (g5_go σ2) := fs_s6 f5
        have J5 := JS_m6 J3 F5.1 F5.2.1
        have g5r : (g5_go σ2).2.2.1 30 = σ2.2.2.1 30 ∧ (g5_go σ2).2.2.1 32 = σ2.2.2.1 32 := by rw [f5.2.2.2.1]; exact ⟨rfl, rfl⟩
        generalize g5_go σ2 = σ5 at S5 f5 F5 J5 g5r ⊢
        unfold f5_Pa_behindPlace_159 at h
        rw [if_pos rfl, rdl_5] at h
        obtain ⟨e6, z6, S6, J6, F6, w6, _⟩ := s191_6 S5 J5
        have h0 : e6.2.1 506 (11 * s) = 2 := by rw [w6, if_neg (by omega), f5.2.1, w3, if_pos (by omega)]
        rw [z6, bk_6 J6 h0 (by decide)] at h
        obtain ⟨a', R', p2, a2, p', z, y1, y2, y3, y4, y5, y5b, y6, y8, y9⟩ := f2_6 H hE S6 J6 h
        have F16 := fs_t6 (by omega) (by omega) (fs_t6 (by omega) (by omega) (fs_t6 (by omega) (by omega) F12 F3) F5) F6
        refine ⟨a', R', _, rfl, y2, by omega, fs_t6 (by omega) (by omega) F16 y4, ⟨a + 1, by rw [y9.2.2, g5r.2]; exact v32, by omega, by omega, Or.inr (Or.inr (Or.inl ⟨by rw [y9.2.1, g5r.1]; exact v30, by rw [y9.1 _ (by omega)]; exact h0, ?_, c1, p2, a2, p', z, y5, y5b, y6⟩))⟩, fun i q1 q2 q3 => ?_⟩
        · rw [y8, w6, if_neg (by omega), f5.2.1, w3, if_neg (by omega), w1, c4]; rfl
        · rw [y9.1 i q2, w6, if_neg q3, f5.2.1, w3, if_neg (by omega), w1]
      · unfold f5_Pa_expect at h
        rw [if_neg (fun q => c1 (k1.symm.trans q))] at h
        cases h
/-- what is set: an expression, or a call -/
theorem ax_6 {a3 : Int32} (H : TR5 T X Bk N Z) (hE : T.2.1 (N - 1) = 142) (S : SR6 T X Bk N Z a o R e σ) (J : JS6 T Bk N nv na s e σ) (c4 : e.2.1 506 (11 * s + 4) = 0) (h3 : a3 ≠ 0 ↔ e.2.1 506 (11 * s + 1) = 3) (r30 : σ.2.2.1 30 s = 2) (r32 : σ.2.2.1 32 s = Int32.ofNat (Bk + a)) {q : Nat} (hq : q + 1 = a) (k61 : T.2.1 q = 61) (h : rdB5 (f5_Pa_behindPlace_91 (Int32.ofNat s) 0 e) (fun e1 r2 => f5_Pa_statement_191 (Int32.ofNat s) 0 r2 e1) = .inl (e', ())) : ∃ a' R' σ', g5_tellNamed_244 (Int32.ofNat s) a3 σ = σ' ∧ SR6 T X Bk N Z a' o R' e' σ' ∧ a < a' ∧ fs6 Bk s a a' e e' σ σ' ∧ tl6 T Bk nv na e' (σ'.2.2.1 30) (σ'.2.2.1 32) (σ'.2.2.1 39) s q R.length a' ∧ fc6 s e e' := by
  have h1 := H.1
  have hN := S.2.1.1
  have j2 := J.2.1
  have k4 : e.1 paKind = T.2.1 a := S.2.1.2.2.1
  have kd := kd_o5 (H.2.2.1 a hN)
  have so := (so_6 H S.1.2.1 hN S.2.1.2.2.2).1
  obtain ⟨e2, z2, S2, J2, F2, w2, e21⟩ := cs_e6 (c := 0) (ci := 0) (x := 0) S J (by omega) rfl
  have k2 : e2.1 paKind = T.2.1 a := S2.2.1.2.2.1
  have c1 := ce_c6 (c := 1) (ci := 1) J2 (by omega) rfl
  rw [w2, if_neg (by omega)] at c1
  unfold f5_Pa_behindPlace_91 at h
  rw [z2, rdl_5, if_pos rfl, k2] at h
  -- an expression with no name taken
  have plain : g5_tellNamed_244 (Int32.ofNat s) a3 σ = g5_tellNamed_295 σ → rdB5 (f5_Pa_behindPlace_133 0 0 e2) (fun e1 r2 => f5_Pa_statement_191 (Int32.ofNat s) 0 r2 e1) = .inl (e', ()) → ∃ a' R' σ', g5_tellNamed_244 (Int32.ofNat s) a3 σ = σ' ∧ SR6 T X Bk N Z a' o R' e' σ' ∧ a < a' ∧ fs6 Bk s a a' e e' σ σ' ∧ tl6 T Bk nv na e' (σ'.2.2.1 30) (σ'.2.2.1 32) (σ'.2.2.1 39) s q R.length a' ∧ fc6 s e e' := fun er h => by
    unfold f5_Pa_behindPlace_133 at h
    rw [if_pos rfl, if_neg (by decide), if_neg (by decide), if_neg (by decide)] at h
    unfold f5_Pa_behindPlace_159 at h
    rw [if_pos rfl, rdl_5] at h
    obtain ⟨e3, z3, S3, J3, F3, w3, _⟩ := s191_6 S2 J2
    have h0 : e3.2.1 506 (11 * s) = 0 := by rw [w3, if_neg (by omega), w2, if_pos (by omega)]
    have h5 : e3.2.1 506 (11 * s + 5) = -1 := by rw [w3, if_pos rfl]
    rw [z3, b0_6 J3 h0, h5] at h
    obtain ⟨e4, _, t4, h⟩ := rb_s6 h
    unfold f5_Pa_statement_268 at h
    rw [rb_u5] at h
    obtain ⟨a2, K, l2, S4, F4, x4, w4, n4⟩ := xJ_6 H hE S3 J3 t4
    have er2 := t295_6 (σ := σ)
    rw [er, er2]
    have g1 := n4.2.2.1 30 (by decide) (by decide) (by decide) (by decide)
    have g2 := n4.2.2.1 32 (by decide) (by decide) (by decide) (by decide)
    generalize (g5_expression σ).1 = σ4 at S4 F4 x4 n4 g1 g2 ⊢
    obtain ⟨k59, S5, f5⟩ := sp_6 H hE S4 (by decide) (by decide) h
    have F5 : fs6 Bk s a2 (a2 + 1) e4 e' σ4 (g5_sign 59 σ4) := fs_s6 f5
    refine ⟨a2 + 1, _, _, rfl, S5, by omega, fs_t6 (by omega) (by omega) (fs_t6 (by omega) (by omega) (fs_t6 (Nat.le_refl _) (Nat.le_refl _) F2 F3) F4) F5, ⟨a, by rw [f5.2.2.2.1, g2]; exact r32, by omega, by omega, Or.inl ⟨by rw [f5.2.2.2.1, g1]; exact r30, ?_, ?_, _, a2, xe_m6 x4 F5.2.2.1 (Nat.le_refl _) (Nat.le_refl _) (fun t u1 u2 _ _ => by rw [f5.2.2.2.1]), by omega⟩⟩, fun i q1 q2 q3 => ?_⟩
    · rw [f5.2.1, w4, if_neg (by omega)]; exact h0
    · rw [f5.2.1, w4, if_pos rfl, w3, if_neg (by omega), w2, if_neg (by omega), c4]; rfl
    · rw [f5.2.1, w4, if_neg q2, w3, if_neg q3, w2, if_neg (by omega)]
  by_cases k140 : T.2.1 a = 140
  · rw [if_pos k140, pb_e5, c1] at h
    by_cases c3 : e.2.1 506 (11 * s + 1) = 3
    · rw [if_pos c3] at h
      refine plain ?_ h
      unfold g5_tellNamed_244
      rw [pb_e5, (ok_goz6 S.2.2.1).2, if_neg ne105, if_neg (h3.mpr c3)]
    · rw [if_neg c3] at h
      have a30 : a3 = 0 := Classical.byContradiction (fun y => c3 (h3.mp y))
      unfold f5_Pa_behindPlace_133 at h
      rw [if_neg ne105, rdA6] at h
      obtain ⟨e3, _, t3, h⟩ := rb_s6 h
      obtain ⟨S3, f3⟩ := sk_6 H hE S2 (by rw [k140]; decide) t3
      have F3 : fs6 Bk s a (a + 1) e2 e3 σ (g5_go σ) := fs_s6 f3
      have hN3 := S3.2.1.1
      unfold f5_Pa_behindPlace_159 at h
      have ea : e3.1 paAt - 1 = Int32.ofNat a := by
        have z : e3.1 paAt = Int32.ofNat (a + 1) := S3.2.1.2.1
        rw [z]
        exact ofU_5 rfl (by omega)
      rw [if_neg ne105, rdl_5, ea] at h
      unfold f5_Pa_statement_191 at h
      have J3' : JS6 T Bk N nv na s e3 σ := JS_m6 J2 F3.1 NS_r6
      obtain ⟨e4, z4, S4, J4, F4, w4, e41⟩ := cs_e6 (c := 5) (ci := 5) (x := Int32.ofNat a) S3 (JS_m6 J2 F3.1 F3.2.1) (by omega) rfl
      rw [z4, rdl_5, if_pos rfl, if_neg (no_m6 (by omega))] at h
      have k44 : e4.1 paKind = T.2.1 (a + 1) := S4.2.1.2.2.1
      rw [k44] at h
      have er : g5_tellNamed_244 (Int32.ofNat s) a3 σ = if T.2.1 (a + 1) = 40 then g5_arguments (g5_go (riU σ 30 s 5)) else g5_tellNamed_295 σ := by
        unfold g5_tellNamed_244
        rw [pb_e5, (ok_goz6 S.2.2.1).2, if_neg ne105, if_pos a30, so, if_pos (kd.2.1.mpr k140), pb_e5, lr_nx5 H (SR_L6 H hE S) (by decide) (by decide) hN3, cl_5 (by omega)]
        by_cases y : T.2.1 (a + 1) = 40
        · rw [if_pos y, if_neg ne105, if_pos y]; rfl
        · rw [if_neg y, if_pos rfl, if_neg y]
      rw [er]
      by_cases k40 : T.2.1 (a + 1) = 40
      · rw [if_pos k40] at h ⊢
        unfold f5_Pa_statement_223 at h
        have F5 : fs6 Bk s a a e e σ (riU σ 30 s 5) := fs_u6 (Or.inl rfl)
        have S5 := SR_u6 (f := 30) (i := s) (x := 5) (by decide) S2
        have J5 := JS_m6 J2 GS_r6 F5.2.1
        have v30 : (riU σ 30 s 5).2.2.1 30 s = 5 := by rw [ri_s6, if_pos rfl]
        have v32 : (riU σ 30 s 5).2.2.1 32 s = Int32.ofNat (Bk + a) := by rw [ri_o6 (by decide)]; exact r32
        generalize riU σ 30 s 5 = σ5 at F5 S5 J5 v30 v32 ⊢
        obtain ⟨S6, f6⟩ := sk_6 H hE S5 (by rw [k140]; decide) t3
        have F6 : fs6 Bk s a (a + 1) e2 e3 σ5 (g5_go σ5) := fs_s6 f6
        have J6 := JS_m6 J5 F6.1 F6.2.1
        have g6 : (g5_go σ5).2.2.1 30 s = 5 ∧ (g5_go σ5).2.2.1 32 s = Int32.ofNat (Bk + a) := by rw [f6.2.2.2.1]; exact ⟨v30, v32⟩
        generalize g5_go σ5 = σ6 at S6 f6 F6 J6 g6 ⊢
        obtain ⟨e4', z4', S7, J7, F7, w7, _⟩ := cs_e6 (c := 5) (ci := 5) (x := Int32.ofNat a) S6 J6 (by omega) rfl
        have ee : e4' = e4 := congrArg Prod.fst (Sum.inl.inj (z4'.symm.trans z4))
        subst ee
        obtain ⟨e8, z8, S8, J8, F8, w8, _⟩ := cs_e6 (c := 0) (ci := 0) (x := 5) S7 J7 (by omega) rfl
        rw [z8, rdl_5] at h
        have h0 : e8.2.1 506 (11 * s) = 5 := by rw [w8, if_pos (by omega)]
        rw [bk_6 J8 h0 (by decide)] at h
        have c84 : e8.2.1 506 (11 * s + 4) = 0 := by rw [w8, if_neg (by omega), w7, if_neg (by omega), f6.2.1, w2, if_neg (by omega)]; exact c4
        obtain ⟨a', R', n, y1, y2, y3, y4, y5, y6, y7, y8⟩ := ag_6 H hE S8 J8 c84 h
        have FF := fs_t6 (by omega) (by omega) (fs_t6 (by omega) (by omega) (fs_t6 (by omega) (by omega) (fs_t6 (by omega) (by omega) (fs_t6 (Nat.le_refl _) (Nat.le_refl _) F5 (show fs6 Bk s a a e e2 σ5 σ5 from ⟨F2.1, NS_r6, F2.2.2.1, fun _ _ => rfl⟩)) F6) F7) F8) y4
        refine ⟨a', R', _, rfl, y2, by omega, FF, ⟨a, by rw [y8.2.2]; exact g6.2, by omega, by omega, Or.inr (Or.inr (Or.inr (Or.inr (Or.inr ⟨by rw [y8.2.1]; exact g6.1, by rw [y8.1 _ (by omega)]; exact h0, k140, k40, k61, ?_, n, y6, y7, ?_⟩))))⟩, fun i q1 q2 q3 => ?_⟩
        · rw [y8.1 _ (by omega), w8, if_neg (by omega), w7, if_neg (by omega), f6.2.1, w2, if_neg (by omega)]; exact c3
        · rcases y5 with y5 | ⟨p', z, y5, y5b⟩
          · exact Or.inl y5
          · exact Or.inr ⟨p', z, y5, y5b⟩
        · rw [y8.1 i q2, w8, if_neg (by omega), w7, if_neg q3, f6.2.1, w2, if_neg (by omega)]
      · rw [if_neg k40] at h ⊢
        have h0 : e4.2.1 506 (11 * s) = 0 := by rw [w4, if_neg (by omega), f3.2.1, w2, if_pos (by omega)]
        have h5 : e4.2.1 506 (11 * s + 5) = Int32.ofNat a := by rw [w4, if_pos rfl]
        rw [b0_6 J4 h0, h5] at h
        obtain ⟨e5, _, t5, h⟩ := rb_s6 h
        unfold f5_Pa_statement_268 at h
        rw [rb_u5] at h
        have J4' : JS6 T Bk N nv na s e4 σ := JS_m6 J3' F4.1 NS_r6
        obtain ⟨a2, K, l2, S5, F5, x5, w5, n5⟩ := xJt_6 H hE S2 k140 S4 J4' t5
        have er2 := t295_6 (σ := σ)
        rw [er2]
        have g1 := n5.2.2.1 30 (by decide) (by decide) (by decide) (by decide)
        have g2 := n5.2.2.1 32 (by decide) (by decide) (by decide) (by decide)
        generalize (g5_expression σ).1 = σ5 at S5 F5 x5 n5 g1 g2 ⊢
        obtain ⟨k59, S6, f6⟩ := sp_6 H hE S5 (by decide) (by decide) h
        have F6 : fs6 Bk s a2 (a2 + 1) e5 e' σ5 (g5_sign 59 σ5) := fs_s6 f6
        have G3 : fs6 Bk s a a e e4 σ σ := ⟨GS_t6 (GS_t6 F2.1 F3.1) F4.1, NS_r6, cm_t6 (cm_t6 F2.2.2.1 F3.2.2.1) F4.2.2.1, fun _ _ => rfl⟩
        refine ⟨a2 + 1, _, _, rfl, S6, by omega, fs_t6 (by omega) (by omega) (fs_t6 (Nat.le_refl _) (by omega) G3 F5) F6, ⟨a, by rw [f6.2.2.2.1, g2]; exact r32, by omega, by omega, Or.inl ⟨by rw [f6.2.2.2.1, g1]; exact r30, ?_, ?_, _, a2, xe_m6 x5 F6.2.2.1 (Nat.le_refl _) (Nat.le_refl _) (fun t u1 u2 _ _ => by rw [f6.2.2.2.1]), by omega⟩⟩, fun i q1 q2 q3 => ?_⟩
        · rw [f6.2.1, w5, if_neg (by omega)]; exact h0
        · rw [f6.2.1, w5, if_pos rfl, w4, if_neg (by omega), f3.2.1, w2, if_neg (by omega), c4]; rfl
        · rw [f6.2.1, w5, if_neg q2, w4, if_neg q3, f3.2.1, w2, if_neg (by omega)]
  · rw [if_neg k140] at h
    refine plain ?_ h
    unfold g5_tellNamed_244
    rw [pb_e5, (ok_goz6 S.2.2.1).2, if_neg ne105]
    by_cases y : a3 = 0
    · rw [if_pos y, so, if_neg (fun q => k140 (kd.2.1.mp q))]
    · rw [if_neg y]
end

end
section
set_option maxHeartbeats 1600000
/-! a statement that begins with a name, whole -/
section
variable {T : T5} {X : X5} {Bk N : Nat} {Z : Int32} {a o s nv na : Nat} {R : List Qq6} {e e' : E5} {σ : rS}
theorem as_6 {a3 : Int32} (H : TR5 T X Bk N Z) (hE : T.2.1 (N - 1) = 142) (S : SR6 T X Bk N Z a o R e σ) (J : JS6 T Bk N nv na s e σ) (c4 : e.2.1 506 (11 * s + 4) = 0) (h3 : a3 ≠ 0 ↔ e.2.1 506 (11 * s + 1) = 3) (r30 : σ.2.2.1 30 s = 2) (h : rdB5 (f5_Pa_behindPlace_14 (Int32.ofNat s) 0 e) (fun e1 r2 => f5_Pa_statement_191 (Int32.ofNat s) 0 r2 e1) = .inl (e', ())) : ∃ a' R' σ', g5_tellNamed_175 (Int32.ofNat s) a3 σ = σ' ∧ SR6 T X Bk N Z a' o R' e' σ' ∧ a < a' ∧ fs6 Bk s a a' e e' σ σ' ∧ tl6 T Bk nv na e' (σ'.2.2.1 30) (σ'.2.2.1 32) (σ'.2.2.1 39) s a R.length a' ∧ fc6 s e e' := by
  have j2 := J.2.1
  have cs : (Int32.ofNat s).toNatClampNeg = s := cl_5 (by omega)
  rw [t175_5]
  unfold f5_Pa_behindPlace_14 at h
  rw [if_pos rfl] at h
  unfold f5_Pa_behindPlace_25 at h
  rw [ep_5, rdA6] at h
  obtain ⟨e1, _, t1, h⟩ := rb_s6 h
  obtain ⟨k61, S1, f1⟩ := sp_6 H hE S (by decide) (by decide) t1
  have F1 : fs6 Bk s a (a + 1) e e1 σ (g5_sign 61 σ) := fs_s6 f1
  have r301 : (g5_sign 61 σ).2.2.1 30 s = 2 := by rw [f1.2.2.2.1]; exact r30
  generalize g5_sign 61 σ = σ1 at S1 f1 F1 r301 ⊢
  unfold q175_5
  have e10 : σ1.1 10 = Int32.ofNat (Bk + (a + 1)) := S1.2.1.2.2.2
  rw [pb_e5, cs, e10]
  have F2 : fs6 Bk s (a + 1) (a + 1) e1 e1 σ1 (riU σ1 32 s (Int32.ofNat (Bk + (a + 1)))) := fs_u6 (Or.inr rfl)
  have S2 := SR_u6 (f := 32) (i := s) (x := Int32.ofNat (Bk + (a + 1))) (by decide) S1
  have F12 := fs_t6 (by omega) (by omega) F1 F2
  have J2 := JS_m6 J F12.1 F12.2.1
  have v30 : (riU σ1 32 s (Int32.ofNat (Bk + (a + 1)))).2.2.1 30 s = 2 := by rw [ri_o6 (by decide)]; exact r301
  have v32 : (riU σ1 32 s (Int32.ofNat (Bk + (a + 1)))).2.2.1 32 s = Int32.ofNat (Bk + (a + 1)) := by rw [ri_s6, if_pos rfl]
  generalize riU σ1 32 s (Int32.ofNat (Bk + (a + 1))) = σ2 at F2 S2 F12 J2 v30 v32 ⊢
  have w1 : ∀ i, e1.2.1 506 i = e.2.1 506 i := fun i => by rw [f1.2.1]
  have k1 : e1.1 paKind = T.2.1 (a + 1) := S1.2.1.2.2.1
  rw [pb_e5, (ok_goz6 S2.2.2.1).2, if_neg ne105, pb_e5, swd_6 H hE S2 (k := 162) (by decide) (by decide) rfl]
  rw [if_pos rfl, k1] at h
  by_cases c : T.2.1 (a + 1) = 162
  · rw [if_pos c] at h
    rw [if_pos c, if_neg ne105, pb_e5, pb_e5, pb_e5, pm_e5, pb_e5, pb_e5]
    have F3 : fs6 Bk s (a + 1) (a + 1) e1 e1 σ2 (riU σ2 30 s 4) := fs_u6 (Or.inl rfl)
    have S3 := SR_u6 (f := 30) (i := s) (x := 4) (by decide) S2
    have J3 := JS_m6 J2 F3.1 F3.2.1
    have u30 : (riU σ2 30 s 4).2.2.1 30 s = 4 := by rw [ri_s6, if_pos rfl]
    have u32 : (riU σ2 30 s 4).2.2.1 32 s = Int32.ofNat (Bk + (a + 1)) := by rw [ri_o6 (by decide)]; exact v32
    generalize riU σ2 30 s 4 = σ3 at F3 S3 J3 u30 u32 ⊢
    obtain ⟨e2, z2, S4, J4, F4, w4, _⟩ := cs_e6 (c := 0) (ci := 0) (x := 4) S3 J3 (by omega) rfl
    unfold f5_Pa_behindPlace_91 at h
    rw [z2, rdl_5, if_neg (by decide)] at h
    unfold f5_Pa_behindPlace_133 at h
    rw [if_pos rfl, if_neg (by decide), if_neg (by decide), if_pos rfl, rdA6] at h
    obtain ⟨e5, _, t5, h⟩ := rb_s6 h
    obtain ⟨S5, f5⟩ := sk_6 H hE S4 (by rw [c]; decide) t5
    have F5 : fs6 Bk s (a + 1) (a + 2) e2 e5 σ3 (g5_go σ3) := fs_s6 f5
    have J5 := JS_m6 J4 F5.1 F5.2.1
    have g5r : (g5_go σ3).2.2.1 30 = σ3.2.2.1 30 ∧ (g5_go σ3).2.2.1 32 = σ3.2.2.1 32 := by rw [f5.2.2.2.1]; exact ⟨rfl, rfl⟩
    generalize g5_go σ3 = σ5 at S5 f5 F5 J5 g5r ⊢
    unfold f5_Pa_behindPlace_159 at h
    rw [if_pos rfl, rdl_5] at h
    obtain ⟨e6, z6, S6, J6, F6, w6, _⟩ := s191_6 S5 J5
    have h0 : e6.2.1 506 (11 * s) = 4 := by rw [w6, if_neg (by omega), f5.2.1, w4, if_pos (by omega)]
    rw [z6, bk_6 J6 h0 (by decide)] at h
    obtain ⟨a', R', p', z, y1, y2, y3, y4, y5, y6, y8, y9⟩ := f1_6 H hE S6 J6 (by decide) (by decide) (by decide) h
    have F16 := fs_t6 (by omega) (by omega) (fs_t6 (by omega) (by omega) (fs_t6 (by omega) (by omega) (fs_t6 (by omega) (by omega) F12 F3) F4) F5) F6
    refine ⟨a', R', _, rfl, y2, by omega, fs_t6 (by omega) (by omega) F16 y4, ⟨a + 1, by rw [y9.2.2, g5r.2]; exact u32, by omega, by omega, Or.inr (Or.inr (Or.inr (Or.inr (Or.inl ⟨by rw [y9.2.1, g5r.1]; exact u30, by rw [y9.1 _ (by omega)]; exact h0, ?_, p', z, y5, y6⟩))))⟩, fun i q1 q2 q3 => ?_⟩
    · rw [y8, w6, if_neg (by omega), f5.2.1, w4, if_neg (by omega), w1, c4]; rfl
    · rw [y9.1 i q2, w6, if_neg q3, f5.2.1, w4, if_neg (by omega), w1]
  · rw [if_neg c] at h
    rw [if_neg c, if_pos rfl]
    obtain ⟨a', R', σ', y1, y2, y3, y4, y5, y6⟩ := ax_6 (a3 := a3) H hE S2 J2 (by rw [w1]; exact c4) (by rw [w1]; exact h3) v30 v32 rfl k61 h
    refine ⟨a', R', σ', y1, y2, by omega, fs_t6 (by omega) (by omega) F12 y4, y5, fun i q1 q2 q3 => ?_⟩
    rw [y6 i q1 q2 q3, w1]
/-- behind the place -/
theorem bp_6 {v a3 : Int32} (H : TR5 T X Bk N Z) (hE : T.2.1 (N - 1) = 142) (S : SR6 T X Bk N Z a o R e σ) (J : JS6 T Bk N nv na s e σ) (c4 : e.2.1 506 (11 * s + 4) = 0) (h3 : a3 ≠ 0 ↔ e.2.1 506 (11 * s + 1) = 3) (h1 : e.2.1 506 (11 * s + 1) ≠ 0) (r30 : σ.2.2.1 30 s = 2) (h : f5_Pa_statement_151 (Int32.ofNat s) v e = .inl (e', ())) : ∃ a' R' σ', g5_tellNamed_133 (Int32.ofNat s) a3 σ = σ' ∧ SR6 T X Bk N Z a' o R' e' σ' ∧ a < a' ∧ fs6 Bk s a a' e e' σ σ' ∧ tl6 T Bk nv na e' (σ'.2.2.1 30) (σ'.2.2.1 32) (σ'.2.2.1 39) s a R.length a' ∧ fc6 s e e' := by
  have j2 := J.2.1
  have cs : (Int32.ofNat s).toNatClampNeg = s := cl_5 (by omega)
  have c1 := ce_c6 (c := 1) (ci := 1) J (by omega) rfl
  have h : f5_Pa_statement_177 (Int32.ofNat s) v 0 e = .inl (e', ()) := by
    unfold f5_Pa_statement_151 at h
    rw [pb_e5, c1, if_neg h1] at h
    by_cases q : e.1 paKind = 40
    · rw [if_pos q] at h; exact h
    · rw [if_neg q] at h; exact h
  unfold g5_tellNamed_133
  rw [pb_e5, (ok_goz6 S.2.2.1).2, if_neg ne105, pb_e5, sn_6 H S (by decide) (by decide)]
  by_cases q : T.2.1 a = 126
  · rw [if_pos q, if_neg ne105, pb_e5, pb_e5, pb_e5, pb_e5, cs]
    exact dw_6 H hE S J c4 q h
  · rw [if_neg q, if_pos rfl]
    have k4 : e.1 paKind = T.2.1 a := S.2.1.2.2.1
    unfold f5_Pa_statement_177 f5_Pa_behindPlace at h
    rw [if_pos rfl, if_neg (fun y => q (k4.symm.trans y))] at h
    exact as_6 H hE S J c4 h3 r30 h
/-- the statement from its place and its rest -/
theorem st_v6 {r30 r31 r32 r : Nat → Int32} {b z p1 q : Nat} (hb : r31 s = Int32.ofNat (Bk + b)) (hpc : e.2.1 506 (11 * s + 3) = Int32.ofNat R.length) (hR : R.length ≤ 2 * b) (kb : T.2.1 b = 140) (hq : b ≤ q) (hp : pq6 T Bk nv na e r (e.2.1 506 (11 * s + 1)) (e.2.1 506 (11 * s + 2)) b R.length p1 z) (hc : e.2.1 506 (11 * s + 1) ≠ 3 → q = b + 1) (h : tl6 T Bk nv na e r30 r32 r s q p1 z) : stm6 T Bk nv na e r30 r31 r32 r s z := by
  obtain ⟨x, x1, x2, x3, h⟩ := h
  refine ⟨b, x, R.length, hb, x1, hpc, by omega, x3, hR, ?_⟩
  rcases h with h | h | h | h | h | ⟨q1, q2, q3, q4, q5, q6, n, q7, q8, q9⟩
  · exact Or.inr (Or.inl ⟨kb, p1, hp, Or.inl h⟩)
  · exact Or.inr (Or.inl ⟨kb, p1, hp, Or.inr (Or.inl h)⟩)
  · exact Or.inr (Or.inl ⟨kb, p1, hp, Or.inr (Or.inr (Or.inl h))⟩)
  · exact Or.inr (Or.inl ⟨kb, p1, hp, Or.inr (Or.inr (Or.inr (Or.inl h)))⟩)
  · exact Or.inr (Or.inl ⟨kb, p1, hp, Or.inr (Or.inr (Or.inr (Or.inr h)))⟩)
  · rcases hp with ⟨hp, e1, e2, e3⟩ | ⟨hp, _⟩
    · subst e1
      rw [hc q6] at q5
      exact Or.inr (Or.inr (Or.inl ⟨q1, q2, q3, q4, Or.inr ⟨by omega, kb, q5, hp⟩, n, q7, q8, q9⟩))
    · exact absurd hp q6
/-- the reference's note of a place -/
theorem lk_6 {t : Nat} {x : Int32} (hx : x ≠ -1) (ht : Bk + t ≤ 2000000) : g5_look (Int32.ofNat (Bk + t)) x σ = riU σ 39 (Bk + t) x := by
  unfold g5_look g5_look_28
  dsimp only [pb5]
  rw [if_neg hx, cl_5 (by omega)]
theorem fs_396 {t b b' : Nat} {x : Int32} (h1 : b ≤ t) (h2 : t < b') : fs6 Bk s b b' e e σ (riU σ 39 (Bk + t) x) := ⟨GS_r6, NS_N6 Nz_396, cm_r6, fun j hj => by rw [ri_s6, if_neg (fun q => hj ⟨by omega, by omega⟩)]⟩
theorem fs_j6 {c d : Nat} {f g : E5} {τ υ : rS} (h : fs6 Bk s c d e f σ τ) (k : fs6 Bk s c d f g τ υ) : fs6 Bk s c d e g σ υ := ⟨GS_t6 h.1 k.1, NS_t6 h.2.1 k.2.1, cm_t6 h.2.2.1 k.2.2.1, fun j hj => (k.2.2.2 j hj).trans (h.2.2.2 j hj)⟩
/-- behind a statement's first name -/
def nb6 (T : T5) (X : X5) (Bk N : Nat) (Z : Int32) (nv na s a o : Nat) (e e' : E5) (σ σ' : rS) : Prop := ∃ a' R', SR6 T X Bk N Z a' o R' e' σ' ∧ a < a' ∧ fs6 Bk s a a' e e' σ σ' ∧ stm6 T Bk nv na e' (σ'.2.2.1 30) (σ'.2.2.1 31) (σ'.2.2.1 32) (σ'.2.2.1 39) s a' ∧ ∀ c, 6 ≤ c → c ≤ 10 → e'.2.1 506 (11 * s + c) = e.2.1 506 (11 * s + c)
/-- its place is a cell -/
theorem np_c6 (H : TR5 T X Bk N Z) (hE : T.2.1 (N - 1) = 142) (S : SR6 T X Bk N Z (a + 1) o R e σ) (J : JS6 T Bk N nv na s e σ) (hR : R.length ≤ 2 * a) (B : beg6 Bk s a R e σ) (hk : T.2.1 a = 140) (c91 : T.2.1 (a + 1) = 91) (r30 : σ.2.2.1 30 s = 2) (h : rdB5 (f5_Pa_findArray (Int32.ofNat a) e) (fun e6 r7 => rdB5 (f5_Pa_setPlace (Int32.ofNat s) 3 r7 e6) (fun e9 _ => rdB5 (f5_Pa_openSign 91 e9) (fun e13 _ => rdB5 (f5_Pa_expression (-1) (-1) e13) (fun e17 _ => rdB5 (f5_Pa_closeSign 93 e17) (fun e21 _ => f5_Pa_statement_151 (Int32.ofNat s) (Int32.ofNat a) e21))))) = .inl (e', ())) : nb6 T X Bk N Z nv na s a o e e' σ (g5_tellNamed_90 (Int32.ofNat s) (Int32.ofNat (Bk + a)) 1 σ) := by
  obtain ⟨b1, b3, b4, b31⟩ := B
  have h1 := H.1
  have j2 := J.2.1
  have hN := S.2.1.1
  obtain ⟨e6, r7, t3, h⟩ := rb_s6 h
  obtain ⟨n1, n2⟩ := na_6 (e := e) (σ := σ) H J.2.2.2.2.1 S.1.1 rfl S.1.2.1 rfl (show a < N by omega) hk
  have fa : e6 = e ∧ r7 = raE6 e a ∧ raE6 e a ≠ -1 := by
    unfold f5_Pa_findArray at t3
    dsimp only [pb5] at t3
    have er : f5_Ta_findName (tq5 e) (e.2.1 paArrayNames) (e.2.2 paArrayNames) (e.1 coArrays) (Int32.ofNat a) = raE6 e a := rfl
    rw [er] at t3
    by_cases q : raE6 e a = -1
    · rw [if_pos q] at t3; cases t3
    · rw [if_neg q] at t3
      have z := Prod.mk.inj (Sum.inl.inj t3)
      exact ⟨z.1.symm, z.2.symm, q⟩
  obtain ⟨g1, g2, g3⟩ := fa
  subst g1
  obtain ⟨k, kk, k3, ek⟩ : ∃ k : Nat, k < na ∧ k < 3 ∧ raE6 e6 a = Int32.ofNat k := by
    rcases n1 with q | ⟨k, y1, y2, y3⟩
    · exact absurd q g3
    · have z := J.2.2.2.1.1
      rw [z, ofn_i (by have := J.2.2.2.1.2; omega)] at y1
      exact ⟨k, by omega, y2, y3⟩
  rw [ek] at g2
  subst g2
  have eA : rAE6 e6 a = Int32.ofNat (200 + k) := by
    unfold rAE6
    rw [if_neg g3, ek, show (200 : Int32) = Int32.ofNat 200 from rfl, ad_n6 (by omega)]
  unfold g5_tellNamed_90
  rw [if_neg ne105, pb_e5, n2, eA]
  unfold g5_tellNamed_109
  rw [pb_e5, if_neg ne105, pb_e5, pm_e5, pb_e5, lk_6 (no_m6 (by omega)) (by omega)]
  have F3 : fs6 Bk s a (a + 1) e6 e6 σ (riU σ 39 (Bk + a) (Int32.ofNat (200 + k))) := fs_396 (Nat.le_refl _) (by omega)
  have S3 := SR_u6 (f := 39) (i := Bk + a) (x := Int32.ofNat (200 + k)) (by decide) S
  have J3 := JS_m6 J F3.1 F3.2.1
  have v39 : (riU σ 39 (Bk + a) (Int32.ofNat (200 + k))).2.2.1 39 (Bk + a) = Int32.ofNat (200 + k) := by rw [ri_s6, if_pos rfl]
  have v30 : (riU σ 39 (Bk + a) (Int32.ofNat (200 + k))).2.2.1 30 s = 2 := by rw [ri_o6 (by decide)]; exact r30
  generalize riU σ 39 (Bk + a) (Int32.ofNat (200 + k)) = σ3 at F3 S3 J3 v39 v30 ⊢
  unfold f5_Pa_setPlace at h
  obtain ⟨e4, z4, S4, J4, F4, w4, _⟩ := cs_e6 (c := 1) (ci := 1) (x := 3) S3 J3 (by omega) rfl
  obtain ⟨e5, z5, S5, J5, F5, w5, _⟩ := cs_e6 (c := 2) (ci := 2) (x := Int32.ofNat k) S4 J4 (by omega) rfl
  rw [z4, rdl_5, z5, rdl_5, rdl_5] at h
  obtain ⟨e7, _, t7, h⟩ := rb_s6 h
  obtain ⟨e8, _, t8, h⟩ := rb_s6 h
  obtain ⟨e9, _, t9, h⟩ := rb_s6 h
  obtain ⟨_, o40, S7, f7⟩ := sop_6 H hE S5 (by decide) (by decide) t7
  have F7 : fs6 Bk s (a + 1) (a + 2) e5 e7 σ3 (g5_open 91 σ3) := fs_s6 f7
  have J7 := JS_m6 J5 F7.1 F7.2.1
  have u7 : (g5_open 91 σ3).2 = σ3.2 := f7.2.2.2.1
  generalize g5_open 91 σ3 = σ7 at S7 f7 F7 J7 u7 ⊢
  obtain ⟨a8, K, l8, S8, F8, x8, w8, n8⟩ := xJ_06 H hE S7 J7 t8
  have J8 := JS_m6 J7 F8.1 F8.2.1
  generalize (g5_expression σ7).1 = σ8 at S8 F8 x8 n8 J8 ⊢
  obtain ⟨_, S9, f9⟩ := scl_6 H hE S8 (by decide) (by decide) t9
  have F9 : fs6 Bk s a8 (a8 + 1) e8 e9 σ8 (g5_close 93 σ8) := fs_s6 f9
  have J9 := JS_m6 J8 F9.1 F9.2.1
  have u9 : (g5_close 93 σ8).2 = σ8.2 := f9.2.2.2.1
  generalize g5_close 93 σ8 = σ9 at S9 f9 F9 J9 u9 ⊢
  have wv : ∀ i, e9.2.1 506 i = if i = 11 * s + 2 then Int32.ofNat k else if i = 11 * s + 1 then 3 else e6.2.1 506 i := fun i => by rw [f9.2.1, w8, f7.2.1, w5, w4]
  have r309 : σ9.2.2.1 30 s = 2 := by rw [u9, n8.2.2.1 30 (by decide) (by decide) (by decide) (by decide), u7]; exact v30
  obtain ⟨a', R', σ', y1, y2, y3, y4, y5, y6⟩ := bp_6 (a3 := 1) H hE S9 J9 (by rw [wv, if_neg (by omega), if_neg (by omega)]; exact b4) (by rw [wv, if_neg (by omega), if_pos rfl]; exact ⟨fun _ => rfl, fun _ => ne105⟩) (by rw [wv, if_neg (by omega), if_pos rfl]; decide) r309 h
  rw [y1]
  have el : ((0, 0) :: (K.reverse ++ R) : List Qq6).length = R.length + K.length + 1 := by rw [List.length_cons, List.length_append, List.length_reverse]; omega
  rw [el] at y5
  have FF : fs6 Bk s a a' e6 e' σ σ' := fs_j6 (fs_w6 F3 (by omega) (by omega)) (fs_j6 (fs_w6 F4 (by omega) (by omega)) (fs_j6 (fs_w6 F5 (by omega) (by omega)) (fs_j6 (fs_w6 F7 (by omega) (by omega)) (fs_j6 (fs_w6 F8 (by omega) (by omega)) (fs_j6 (fs_w6 F9 (by omega) (by omega)) (fs_w6 y4 (by omega) (by omega)))))))
  have wz : ∀ i, i ≠ 11 * s → i ≠ 11 * s + 4 → i ≠ 11 * s + 5 → e'.2.1 506 i = if i = 11 * s + 2 then Int32.ofNat k else if i = 11 * s + 1 then 3 else e6.2.1 506 i := fun i q1 q2 q3 => by rw [y6 i q1 q2 q3, wv]
  have c1 : e'.2.1 506 (11 * s + 1) = 3 := by rw [wz _ (by omega) (by omega) (by omega), if_neg (by omega), if_pos rfl]
  have c2 : e'.2.1 506 (11 * s + 2) = Int32.ofNat k := by rw [wz _ (by omega) (by omega) (by omega), if_pos rfl]
  refine ⟨a', R', y2, by omega, FF, st_v6 (b := a) (q := a8 + 1) ?_ ?_ hR hk (by omega) (Or.inr ⟨c1, ⟨k, kk, c2, ?_⟩, c91, a8, xe_m6 x8 (cm_t6 F9.2.2.1 y4.2.2.1) (Nat.le_refl _) (Nat.le_refl _) (fun t u1 u2 _ _ => ?_), by omega⟩) (fun q => absurd c1 q) y5, fun c q1 q2 => ?_⟩
  · rw [FF.2.1.2.2.1 31 (by decide) (by decide) (by decide) (by decide) (by decide) (by decide)]; exact b31
  · rw [wz _ (by omega) (by omega) (by omega), if_neg (by omega), if_neg (by omega)]; exact b3
  · rw [y4.2.2.2 (Bk + a) (by omega), u9, F8.2.2.2 (Bk + a) (by omega), u7]; exact v39
  · rw [y4.2.2.2 (Bk + t) (by omega), u9]
  · rw [wz _ (by omega) (by omega) (by omega), if_neg (by omega), if_neg (by omega)]
/-- its place is a variable -/
theorem np_v6 (H : TR5 T X Bk N Z) (hE : T.2.1 (N - 1) = 142) (S : SR6 T X Bk N Z (a + 1) o R e σ) (J : JS6 T Bk N nv na s e σ) (hR : R.length ≤ 2 * a) (B : beg6 Bk s a R e σ) (hk : T.2.1 a = 140) (n91 : T.2.1 (a + 1) ≠ 91) (n40 : T.2.1 (a + 1) ≠ 40) (r30 : σ.2.2.1 30 s = 2) (h : f5_Pa_statement_104 (Int32.ofNat s) (Int32.ofNat a) e = .inl (e', ())) : nb6 T X Bk N Z nv na s a o e e' σ (g5_tellNamed_90 (Int32.ofNat s) (Int32.ofNat (Bk + a)) 0 σ) := by
  obtain ⟨b1, b3, b4, b31⟩ := B
  have h1 := H.1
  have j2 := J.2.1
  have hN := S.2.1.1
  unfold f5_Pa_statement_104 at h
  obtain ⟨e1, r2, t1, h⟩ := rb_s6 h
  obtain ⟨n1, n2, n3⟩ := nv_6 (e := e) (σ := σ) H J.2.2.2.2.1 J.2.2.2.2.2 S.1.1 rfl S.1.2.1 rfl (show a < N by omega) hk
  have fv : e1 = e ∧ r2 = owE6 e a ∧ (owE6 e a = -1 → vaE6 e a ≠ -1) := by
    unfold f5_Pa_findVariable at t1
    dsimp only [pb5] at t1
    have er : f5_Ta_findName (tq5 e) (e.2.1 paOwnNames) (e.2.2 paOwnNames) (e.1 paOwns) (Int32.ofNat a) = owE6 e a := rfl
    have ev : f5_Ta_findName (tq5 e) (e.2.1 paVarNames) (e.2.2 paVarNames) (e.1 coVars) (Int32.ofNat a) = vaE6 e a := rfl
    rw [er, ev] at t1
    by_cases q : owE6 e a = -1
    · rw [if_pos q] at t1
      by_cases q2 : vaE6 e a = -1
      · rw [if_pos q2] at t1; cases t1
      · rw [if_neg q2] at t1
        have z := Prod.mk.inj (Sum.inl.inj t1)
        exact ⟨z.1.symm, z.2.symm, fun _ => q2⟩
    · rw [if_neg q] at t1
      have z := Prod.mk.inj (Sum.inl.inj t1)
      exact ⟨z.1.symm, z.2.symm, fun y => absurd y q⟩
  obtain ⟨g1, g2, g3⟩ := fv
  subst g1
  subst g2
  -- what the place is
  obtain ⟨so, ix, rx, hso, hpk, hrx, h⟩ : ∃ (so ix rx : Int32), (so = 1 ∨ so = 2) ∧ ((so = 2 ∧ ∃ k, k < 8 ∧ ix = Int32.ofNat k ∧ rx = Int32.ofNat (100 + k)) ∨ (so = 1 ∧ ∃ k, k < nv ∧ ix = Int32.ofNat k ∧ rx = Int32.ofNat k)) ∧ (rvE6 e1 a = rx ∧ rx ≠ -1) ∧ rdB5 (f5_Pa_setPlace (Int32.ofNat s) so ix e1) (fun e4 _ => f5_Pa_statement_151 (Int32.ofNat s) (Int32.ofNat a) e4) = .inl (e', ()) := by
    unfold f5_Pa_statement_121 at h
    rcases n1 with q | ⟨k, k1, q⟩
    · rw [q, if_pos (by decide), if_pos (by decide), pb_e5] at h
      have g4 := g3 q
      rcases n2 with y | ⟨k, y1, y2, y3⟩
      · exact absurd y g4
      · have z := J.2.2.1.1
        rw [z, ofn_i (by have := J.2.2.1.2; omega)] at y1
        refine ⟨1, vaE6 e1 a, vaE6 e1 a, Or.inl rfl, Or.inr ⟨rfl, k, by omega, y3, y3⟩, ⟨?_, g4⟩, h⟩
        unfold rvE6
        rw [if_pos q]
    · rw [q, if_neg (no_n6 (by omega)), if_neg (no_n6 (by omega))] at h
      refine ⟨2, Int32.ofNat k, Int32.ofNat (100 + k), Or.inr rfl, Or.inl ⟨rfl, k, k1, rfl, rfl⟩, ⟨?_, no_m6 (by omega)⟩, h⟩
      unfold rvE6
      rw [if_neg (by rw [q]; exact no_m6 (by omega)), q, show (100 : Int32) = Int32.ofNat 100 from rfl, ad_n6 (by omega)]
  unfold g5_tellNamed_90
  rw [if_pos (show (0 : Int32) = 0 from rfl), pb_e5, n3, hrx.1]
  unfold g5_tellNamed_109
  rw [pb_e5, if_pos (show (0 : Int32) = 0 from rfl), lk_6 hrx.2 (by omega)]
  have F3 : fs6 Bk s a (a + 1) e1 e1 σ (riU σ 39 (Bk + a) rx) := fs_396 (Nat.le_refl _) (by omega)
  have S3 := SR_u6 (f := 39) (i := Bk + a) (x := rx) (by decide) S
  have J3 := JS_m6 J F3.1 F3.2.1
  have v39 : (riU σ 39 (Bk + a) rx).2.2.1 39 (Bk + a) = rx := by rw [ri_s6, if_pos rfl]
  have v30 : (riU σ 39 (Bk + a) rx).2.2.1 30 s = 2 := by rw [ri_o6 (by decide)]; exact r30
  generalize riU σ 39 (Bk + a) rx = σ3 at F3 S3 J3 v39 v30 ⊢
  unfold f5_Pa_setPlace at h
  obtain ⟨e4, z4, S4, J4, F4, w4, _⟩ := cs_e6 (c := 1) (ci := 1) (x := so) S3 J3 (by omega) rfl
  obtain ⟨e5, z5, S5, J5, F5, w5, _⟩ := cs_e6 (c := 2) (ci := 2) (x := ix) S4 J4 (by omega) rfl
  rw [z4, rdl_5, z5, rdl_5, rdl_5] at h
  have wv : ∀ i, e5.2.1 506 i = if i = 11 * s + 2 then ix else if i = 11 * s + 1 then so else e1.2.1 506 i := fun i => by rw [w5, w4]
  have nso : so ≠ 3 ∧ so ≠ 0 := by rcases hso with q | q <;> rw [q] <;> decide
  obtain ⟨a', R', σ', y1, y2, y3, y4, y5, y6⟩ := bp_6 (a3 := 0) H hE S5 J5 (by rw [wv, if_neg (by omega), if_neg (by omega)]; exact b4) (by rw [wv, if_neg (by omega), if_pos rfl]; exact ⟨fun q => absurd rfl q, fun q => absurd q nso.1⟩) (by rw [wv, if_neg (by omega), if_pos rfl]; exact nso.2) v30 h
  rw [y1]
  have FF : fs6 Bk s a a' e1 e' σ σ' := fs_j6 (fs_w6 F3 (by omega) (by omega)) (fs_j6 (fs_w6 F4 (by omega) (by omega)) (fs_j6 (fs_w6 F5 (by omega) (by omega)) (fs_w6 y4 (by omega) (by omega))))
  have wz : ∀ i, i ≠ 11 * s → i ≠ 11 * s + 4 → i ≠ 11 * s + 5 → e'.2.1 506 i = if i = 11 * s + 2 then ix else if i = 11 * s + 1 then so else e1.2.1 506 i := fun i q1 q2 q3 => by rw [y6 i q1 q2 q3, wv]
  have c1 : e'.2.1 506 (11 * s + 1) = so := by rw [wz _ (by omega) (by omega) (by omega), if_neg (by omega), if_pos rfl]
  have c2 : e'.2.1 506 (11 * s + 2) = ix := by rw [wz _ (by omega) (by omega) (by omega), if_pos rfl]
  have r39 : σ'.2.2.1 39 (Bk + a) = rx := by rw [y4.2.2.2 (Bk + a) (by omega)]; exact v39
  refine ⟨a', R', y2, by omega, FF, st_v6 (b := a) (q := a + 1) ?_ ?_ hR hk (by omega) (Or.inl ⟨?_, rfl, n40, n91⟩) (fun _ => rfl) y5, fun c q1 q2 => ?_⟩
  · rw [FF.2.1.2.2.1 31 (by decide) (by decide) (by decide) (by decide) (by decide) (by decide)]; exact b31
  · rw [wz _ (by omega) (by omega) (by omega), if_neg (by omega), if_neg (by omega)]; exact b3
  · rw [c1, c2]
    rcases hpk with ⟨q1, k, k1, k2, k3⟩ | ⟨q1, k, k1, k2, k3⟩
    · exact Or.inl ⟨q1, k, k1, k2, r39.trans k3⟩
    · exact Or.inr ⟨q1, k, k1, k2, r39.trans k3⟩
  · rw [wz _ (by omega) (by omega) (by omega), if_neg (by omega), if_neg (by omega)]
/-- a call alone -/
theorem np_k6 (H : TR5 T X Bk N Z) (hE : T.2.1 (N - 1) = 142) (S : SR6 T X Bk N Z (a + 1) o R e σ) (J : JS6 T Bk N nv na s e σ) (hR : R.length ≤ 2 * a) (B : beg6 Bk s a R e σ) (hk : T.2.1 a = 140) (c40 : T.2.1 (a + 1) = 40) (h : f5_Pa_statement_151 (Int32.ofNat s) (Int32.ofNat a) e = .inl (e', ())) : nb6 T X Bk N Z nv na s a o e e' σ (g5_arguments (riU (riU σ 30 s 5) 32 s (Int32.ofNat (Bk + a)))) := by
  obtain ⟨b1, b3, b4, b31⟩ := B
  have h1 := H.1
  have j2 := J.2.1
  have hN := S.2.1.1
  have k4 : e.1 paKind = T.2.1 (a + 1) := S.2.1.2.2.1
  have c1 := ce_c6 (c := 1) (ci := 1) J (by omega) rfl
  rw [b1] at c1
  unfold f5_Pa_statement_151 at h
  rw [if_pos (k4.trans c40), pb_e5, c1, if_pos rfl] at h
  unfold f5_Pa_statement_177 at h
  rw [if_neg ne105] at h
  unfold f5_Pa_statement_191 f5_Pa_statement_223 at h
  have F2 : fs6 Bk s (a + 1) (a + 1) e e σ (riU (riU σ 30 s 5) 32 s (Int32.ofNat (Bk + a))) := fs_t6 (Nat.le_refl _) (Nat.le_refl _) (fs_u6 (Or.inl rfl)) (fs_u6 (Or.inr rfl))
  have S2 := SR_u6 (f := 32) (i := s) (x := Int32.ofNat (Bk + a)) (by decide) (SR_u6 (f := 30) (i := s) (x := 5) (by decide) S)
  have J2 := JS_m6 J F2.1 F2.2.1
  have v30 : (riU (riU σ 30 s 5) 32 s (Int32.ofNat (Bk + a))).2.2.1 30 s = 5 := by rw [ri_o6 (by decide), ri_s6, if_pos rfl]
  have v32 : (riU (riU σ 30 s 5) 32 s (Int32.ofNat (Bk + a))).2.2.1 32 s = Int32.ofNat (Bk + a) := by rw [ri_s6, if_pos rfl]
  generalize riU (riU σ 30 s 5) 32 s (Int32.ofNat (Bk + a)) = σ2 at F2 S2 J2 v30 v32 ⊢
  obtain ⟨e3, z3, S3, J3, F3, w3, _⟩ := cs_e6 (c := 5) (ci := 5) (x := Int32.ofNat a) S2 J2 (by omega) rfl
  rw [z3, rdl_5, if_neg ne105] at h
  obtain ⟨e4, z4, S4, J4, F4, w4, _⟩ := cs_e6 (c := 0) (ci := 0) (x := 5) S3 J3 (by omega) rfl
  rw [z4, rdl_5] at h
  have h0 : e4.2.1 506 (11 * s) = 5 := by rw [w4, if_pos (by omega)]
  rw [bk_6 J4 h0 (by decide)] at h
  obtain ⟨a', R', n, y1, y2, y3, y4, y5, y6, y7, y8⟩ := ag_6 H hE S4 J4 (by rw [w4, if_neg (by omega), w3, if_neg (by omega)]; exact b4) h
  have FF : fs6 Bk s a a' e e' σ (g5_arguments σ2) := fs_w6 (fs_t6 (by omega) (by omega) (fs_t6 (by omega) (by omega) (fs_t6 (by omega) (by omega) F2 F3) F4) y4) (by omega) (Nat.le_refl _)
  have wz : ∀ i, i ≠ 11 * s → i ≠ 11 * s + 4 → i ≠ 11 * s + 5 → e'.2.1 506 i = e.2.1 506 i := fun i q1 q2 q3 => by rw [y8.1 i q2, w4, if_neg (by omega), w3, if_neg q3]
  refine ⟨a', R', y2, by omega, FF, ⟨a, a, R.length, ?_, ?_, ?_, Nat.le_refl _, by omega, hR, Or.inr (Or.inr (Or.inl ⟨?_, ?_, hk, c40, Or.inl ⟨rfl, ?_⟩, n, y6, y7, ?_⟩))⟩, fun c q1 q2 => wz _ (by omega) (by omega) (by omega)⟩
  · rw [FF.2.1.2.2.1 31 (by decide) (by decide) (by decide) (by decide) (by decide) (by decide)]; exact b31
  · rw [y8.2.2]; exact v32
  · rw [wz _ (by omega) (by omega) (by omega)]; exact b3
  · rw [y8.2.1]; exact v30
  · rw [y8.1 _ (by omega)]; exact h0
  · rw [wz _ (by omega) (by omega) (by omega)]; exact b1
  · rcases y5 with y5 | ⟨p', z, y5, y5b⟩
    · exact Or.inl y5
    · exact Or.inr ⟨p', z, y5, y5b⟩
/-- a statement that begins with a name -/
theorem nd_6 (H : TR5 T X Bk N Z) (hE : T.2.1 (N - 1) = 142) (S : SR6 T X Bk N Z a o R e σ) (J : JS6 T Bk N nv na s e σ) (B : beg6 Bk s a R e σ) (hk : T.2.1 a = 140) (r30 : σ.2.2.1 30 s = 2) (h : f5_Pa_statement (Int32.ofNat s) e = .inl (e', ())) : ∃ a', fin6 T X Bk N Z nv na s a a' o e e' σ (tlM5 (Int32.ofNat s) (σ.1 10) (g5_go σ)) := by
  have B0 := B
  obtain ⟨b1, b3, b4, b31⟩ := B
  have h1 := H.1
  have j2 := J.2.1
  have hR := S.2.2.2.2.2
  have hN := S.2.1.1
  have cs : (Int32.ofNat s).toNatClampNeg = s := cl_5 (by omega)
  have k4 : e.1 paKind = T.2.1 a := S.2.1.2.2.1
  have ea : e.1 paAt = Int32.ofNat a := S.2.1.2.1
  have et : σ.1 10 = Int32.ofNat (Bk + a) := S.2.1.2.2.2
  unfold f5_Pa_statement at h
  rw [if_neg (by rw [k4, hk]; decide), if_pos (k4.trans hk), pb_e5, ea] at h
  obtain ⟨e2, _, t2, h⟩ := rb_s6 h
  obtain ⟨S2, f2⟩ := sk_6 H hE S (by rw [hk]; decide) t2
  have F2 : fs6 Bk s a (a + 1) e e2 σ (g5_go σ) := fs_s6 f2
  have J2 := JS_m6 J F2.1 F2.2.1
  have r302 : (g5_go σ).2.2.1 30 s = 2 := by rw [f2.2.2.2.1]; exact r30
  have B2 : beg6 Bk s a R e2 (g5_go σ) := by
    unfold beg6
    rw [f2.2.1, f2.2.2.2.1]
    exact B0
  rw [et]
  generalize g5_go σ = σ2 at S2 f2 F2 J2 r302 B2 ⊢
  have k2 : e2.1 paKind = T.2.1 (a + 1) := S2.2.1.2.2.1
  have fin : ∀ σ', nb6 T X Bk N Z nv na s a o e2 e' σ2 σ' → ∃ a', fin6 T X Bk N Z nv na s a a' o e e' σ σ' := fun σ' q => by
    obtain ⟨a', R', y1, y2, y3, y4, y5⟩ := q
    refine ⟨a', ⟨R', y1⟩, y2, fw_s6 (fs_j6 (fs_w6 F2 (Nat.le_refl _) (by omega)) y3), y4, fun c q1 q2 => ?_⟩
    rw [y5 c q1 q2, f2.2.1]
  rw [k2] at h
  unfold tlM5
  rw [pb_e5, (ok_goz6 S2.2.2.1).2, if_neg ne105, pb_e5, sn_6 H S2 (by decide) (by decide), pb_e5, sn_6 H S2 (by decide) (by decide), pb_e5, sn_6 H S2 (by decide) (by decide), pb_e5, sn_6 H S2 (by decide) (by decide)]
  by_cases c91 : T.2.1 (a + 1) = 91
  · rw [if_pos c91] at h
    rw [if_neg (show ¬ T.2.1 (a + 1) = 40 by rw [c91]; decide), if_pos rfl, if_pos c91, if_neg ne105]
    exact fin _ (np_c6 H hE S2 J2 hR B2 hk c91 r302 h)
  · rw [if_neg c91] at h
    by_cases c40 : T.2.1 (a + 1) = 40
    · rw [if_neg (by rw [c40]; decide), if_neg (by rw [c40]; decide)] at h
      rw [if_pos c40, if_neg ne105, pb_e5, pb_e5, pb_e5, cs]
      exact fin _ (np_k6 H hE S2 J2 hR B2 hk c40 h)
    · rw [if_neg c40, if_pos rfl, if_neg c91, if_pos rfl]
      by_cases c61 : T.2.1 (a + 1) = 61
      · rw [if_pos c61] at h
        rw [if_pos c61, if_neg ne105]
        exact fin _ (np_v6 H hE S2 J2 hR B2 hk c91 c40 r302 h)
      · rw [if_neg c61] at h
        rw [if_neg c61, if_pos rfl]
        by_cases c126 : T.2.1 (a + 1) = 126
        · rw [if_pos c126] at h
          rw [if_pos c126, if_neg ne105]
          exact fin _ (np_v6 H hE S2 J2 hR B2 hk c91 c40 r302 h)
        · rw [if_neg c126] at h
          unfold f5_Pa_statement_151 at h
          rw [if_neg (fun q => c40 (k2.symm.trans q))] at h
          unfold f5_Pa_statement_177 f5_Pa_behindPlace f5_Pa_behindPlace_14 f5_Pa_expect at h
          rw [if_pos rfl, if_neg (fun q => c126 (k2.symm.trans q)), if_pos rfl, if_neg (fun q => c61 (k2.symm.trans q))] at h
          cases h
end

end
section
set_option maxHeartbeats 1600000
/-! a statement added on both sides: all that changes -/
theorem cln_6 {x : Int32} {n : Nat} (h : x = Int32.ofNat n) (hn : n ≤ 1000000) : x.toNatClampNeg = n := by rw [h, cl_5 (by omega)]
/-- where the class notes the new statement -/
def tgC6 (la ow el : Int32) (i : Nat) : Prop := (la ≠ -1 ∧ i = 11 * la.toNatClampNeg + 8) ∨ (la = -1 ∧ ow ≠ -1 ∧ i = 11 * ow.toNatClampNeg + (if el = 0 then 6 else 7))
theorem asC_6 {s b f : Nat} {la ow r : Int32} {e e1 : E5} (h13 : e.1 513 = Int32.ofNat s) (s150 : s < 150) (h14 : e.1 1014 = Int32.ofNat (b + 1)) (b40 : b ≤ 1000) (h12 : e.1 512 = Int32.ofNat f) (f10 : f < 10) (hl : e.2.1 1012 b = la) (ho : e.2.1 1011 b = ow) (kl : la = -1 ∨ ∃ n, n < s ∧ la = Int32.ofNat n) (ko : ow = -1 ∨ ∃ n, n < s ∧ ow = Int32.ofNat n) (h : f5_Pa_addStatement_59 e = .inl (e1, r)) :
    r = Int32.ofNat s ∧ (∀ g, e1.1 g = if g = 513 then Int32.ofNat (s + 1) else e.1 g) ∧ e1.2.2 = e.2.2 ∧ (∀ g, g ≠ 506 → g ≠ 503 → g ≠ 1012 → e1.2.1 g = e.2.1 g) ∧ (∀ i, e1.2.1 1012 i = if i = b then Int32.ofNat s else e.2.1 1012 i) ∧ (∀ i, e1.2.1 503 i = if la = -1 ∧ ow = -1 ∧ i = f then Int32.ofNat s else e.2.1 503 i) ∧ (∀ i, i ≠ 11 * s + 10 → i ≠ 11 * s + 9 → tgC6 la ow (e.2.1 1013 b) i → e1.2.1 506 i = Int32.ofNat s) ∧ (∀ i, i ≠ 11 * s + 10 → i ≠ 11 * s + 9 → ¬ tgC6 la ow (e.2.1 1013 b) i → e1.2.1 506 i = if 11 * s ≤ i ∧ i < 11 * s + 11 then nr5 (e.1 515) (i - 11 * s) else e.2.1 506 i) ∧ e1.2.1 506 (11 * s + 10) = Int32.ofNat f ∧ e1.2.1 506 (11 * s + 9) = ow := by
  have l150 : (150 : Int32).toInt = 150 := rfl
  have l10 : (10 : Int32).toInt = 10 := rfl
  unfold f5_Pa_addStatement_59 at h
  have z13 : e.1 coStatements = Int32.ofNat s := h13
  rw [z13, if_pos (by rw [lti, l150, ofn_i (by omega)]; omega)] at h
  unfold f5_Pa_addStatement_82 at h
  -- the record with its new row
  obtain ⟨e0, he0⟩ : ∃ e0 : E5, e0 = (fun g => if g = 513 then e.1 513 + 1 else e.1 g, fun g j => if g = 506 ∧ 11 * (e.1 513).toNatClampNeg ≤ j ∧ j < 11 * (e.1 513).toNatClampNeg + 11 then nr5 (e.1 515) (j - 11 * (e.1 513).toNatClampNeg) else e.2.1 g j, e.2.2) := ⟨_, rfl⟩
  have h : (if e0.1 paBlocks ≤ 0 then f5_Pa_addStatement_107 (e.1 513) 0 e0 else f5_Pa_addStatement_107 (e.1 513) (e0.1 paBlocks - 1) e0) = .inl (e1, r) := by rw [he0]; exact h
  have cs : (e.1 513).toNatClampNeg = s := cln_6 h13 (by omega)
  have p1 : ∀ g, e0.1 g = if g = 513 then Int32.ofNat (s + 1) else e.1 g := fun g => by
    rw [he0]
    show (if g = 513 then e.1 513 + 1 else e.1 g) = _
    by_cases q : g = 513
    · rw [if_pos q, if_pos q, h13, on_15 (by omega)]
    · rw [if_neg q, if_neg q]
  have p2 : ∀ g, g ≠ 506 → e0.2.1 g = e.2.1 g := fun g q => by
    rw [he0]
    funext j
    exact if_neg (fun y => q y.1)
  have p3 : e0.2.2 = e.2.2 := by rw [he0]
  have p4 : ∀ i, e0.2.1 506 i = if 11 * s ≤ i ∧ i < 11 * s + 11 then nr5 (e.1 515) (i - 11 * s) else e.2.1 506 i := fun i => by
    rw [he0]
    show (if 506 = 506 ∧ 11 * (e.1 513).toNatClampNeg ≤ i ∧ i < 11 * (e.1 513).toNatClampNeg + 11 then nr5 (e.1 515) (i - 11 * (e.1 513).toNatClampNeg) else e.2.1 506 i) = _
    rw [cs]
    by_cases q : 11 * s ≤ i ∧ i < 11 * s + 11
    · rw [if_pos ⟨rfl, q⟩, if_pos q]
    · rw [if_neg (fun y => q y.2), if_neg q]
  clear he0
  have q14 : e0.1 paBlocks = Int32.ofNat (b + 1) := by
    have z := p1 1014
    rw [if_neg (by decide)] at z
    exact z.trans h14
  have q12 : e0.1 coFunctions = Int32.ofNat f := by
    have z := p1 512
    rw [if_neg (by decide)] at z
    exact z.trans h12
  have q13 : e0.1 513 = Int32.ofNat (s + 1) := by
    have z := p1 513
    rw [if_pos rfl] at z
    exact z
  rw [q14, if_neg (by rw [lei, t0i, ofn_i (by omega)]; omega), ofU_5 rfl (by omega), h13] at h
  unfold f5_Pa_addStatement_107 at h
  have ro : e0.2.1 paOwners (Int32.ofNat b).toNatClampNeg = ow := by rw [cl_5 (by omega)]; exact (congrFun (p2 1011 (by decide)) b).trans ho
  have rl : e0.2.1 paLasts (Int32.ofNat b).toNatClampNeg = la := by rw [cl_5 (by omega)]; exact (congrFun (p2 1012 (by decide)) b).trans hl
  have re : e0.2.1 paElses (Int32.ofNat b).toNatClampNeg = e.2.1 1013 b := by rw [cl_5 (by omega)]; exact congrFun (p2 1013 (by decide)) b
  rw [pb_e5, ro, rl, re, q12] at h
  -- the last three stores
  have fin : ∀ (e2 : E5), e2.1 = e0.1 → e2.2.2 = e0.2.2 → f5_Pa_addStatement_205 (Int32.ofNat s) (Int32.ofNat b) ow e2 = .inl (e1, r) → r = Int32.ofNat s ∧ e1.1 = e0.1 ∧ e1.2.2 = e.2.2 ∧ (∀ g, g ≠ 506 → g ≠ 1012 → e1.2.1 g = e2.2.1 g) ∧ (∀ i, e1.2.1 1012 i = if i = b then Int32.ofNat s else e2.2.1 1012 i) ∧ (∀ i, e1.2.1 506 i = if i = 11 * s + 10 then Int32.ofNat f else if i = 11 * s + 9 then ow else e2.2.1 506 i) := fun e2 g1 g2 h => by
    unfold f5_Pa_addStatement_205 at h
    obtain ⟨e3, he3⟩ : ∃ e3 : E5, e3 = (e2.1, fun g j => if g = paLasts ∧ j = (Int32.ofNat b).toNatClampNeg then Int32.ofNat s else e2.2.1 g j, e2.2.2) := ⟨_, rfl⟩
    have h : rdB5 (f5_Co_setColumn (Int32.ofNat s) 9 ow e3) (fun e3 _ => rdB5 (f5_Co_setColumn (Int32.ofNat s) 10 (e3.1 coFunctions) e3) (fun e7 _ => .inl (e7, Int32.ofNat s))) = .inl (e1, r) := by rw [he3]; exact h
    have t1 : e3.1 = e0.1 := by rw [he3]; exact g1
    have t2 : e3.2.2 = e.2.2 := by rw [he3]; exact g2.trans p3
    have t3 : ∀ g, g ≠ 1012 → e3.2.1 g = e2.2.1 g := fun g q => by
      rw [he3]
      funext j
      exact if_neg (fun y => q y.1)
    have t4 : ∀ i, e3.2.1 1012 i = if i = b then Int32.ofNat s else e2.2.1 1012 i := fun i => by
      rw [he3]
      show (if 1012 = paLasts ∧ i = (Int32.ofNat b).toNatClampNeg then Int32.ofNat s else e2.2.1 1012 i) = _
      rw [cl_5 (by omega)]
      by_cases q : i = b
      · rw [if_pos ⟨rfl, q⟩, if_pos q]
      · rw [if_neg (fun y => q y.2), if_neg q]
    clear he3
    have x13 : e3.1 513 = Int32.ofNat (s + 1) := by rw [t1]; exact q13
    have y1 := st_s6 (s := s) (c := 9) (x := ow) x13 (Nat.lt_succ_self s) (by omega) (by omega)
    have y1 : stc5 (Int32.ofNat s) 9 ow e3 = _ := y1
    rw [stc_5, rdl_5, y1] at h
    obtain ⟨e4, he4⟩ : ∃ e4 : E5, e4 = (e3.1, fun g j => if g = 506 ∧ j = 11 * s + 9 then ow else e3.2.1 g j, e3.2.2) := ⟨_, rfl⟩
    rw [← he4] at h
    have x4 : e4.1 = e0.1 := by rw [he4]; exact t1
    have x134 : e4.1 513 = Int32.ofNat (s + 1) := by rw [x4]; exact q13
    have x12 : e4.1 coFunctions = Int32.ofNat f := by rw [x4]; exact q12
    have y2 := st_s6 (s := s) (c := 10) (x := Int32.ofNat f) x134 (Nat.lt_succ_self s) (by omega) (by omega)
    have y2 : stc5 (Int32.ofNat s) 10 (Int32.ofNat f) e4 = _ := y2
    rw [x12, stc_5, rdl_5, y2] at h
    have y := Prod.mk.inj (Sum.inl.inj h)
    obtain ⟨y3, y4⟩ := y
    subst y3
    refine ⟨y4.symm, x4, by rw [he4]; exact t2, fun g q1 q2 => ?_, fun i => ?_, fun i => ?_⟩
    · funext j
      show (if g = 506 ∧ j = 11 * s + 10 then Int32.ofNat f else e4.2.1 g j) = _
      rw [if_neg (fun y => q1 y.1), he4]
      show (if g = 506 ∧ j = 11 * s + 9 then ow else e3.2.1 g j) = _
      rw [if_neg (fun y => q1 y.1), t3 g q2]
    · show (if 1012 = 506 ∧ i = 11 * s + 10 then Int32.ofNat f else e4.2.1 1012 i) = _
      rw [if_neg (fun y => absurd y.1 (by decide)), he4]
      show (if 1012 = 506 ∧ i = 11 * s + 9 then ow else e3.2.1 1012 i) = _
      rw [if_neg (fun y => absurd y.1 (by decide)), t4]
    · show (if 506 = 506 ∧ i = 11 * s + 10 then Int32.ofNat f else e4.2.1 506 i) = _
      by_cases q : i = 11 * s + 10
      · rw [if_pos ⟨rfl, q⟩, if_pos q]
      · rw [if_neg (fun y => q y.2), if_neg q, he4]
        show (if 506 = 506 ∧ i = 11 * s + 9 then ow else e3.2.1 506 i) = _
        by_cases q2 : i = 11 * s + 9
        · rw [if_pos ⟨rfl, q2⟩, if_pos q2]
        · rw [if_neg (fun y => q2 y.2), if_neg q2, t3 506 (by decide)]
  have ends : ∀ (e2 : E5), e2.1 = e0.1 → e2.2.2 = e0.2.2 → (∀ g, g ≠ 506 → g ≠ 503 → e2.2.1 g = e.2.1 g) → (∀ i, e2.2.1 503 i = if la = -1 ∧ ow = -1 ∧ i = f then Int32.ofNat s else e.2.1 503 i) → (∀ i, tgC6 la ow (e.2.1 1013 b) i → e2.2.1 506 i = Int32.ofNat s) → (∀ i, ¬ tgC6 la ow (e.2.1 1013 b) i → e2.2.1 506 i = e0.2.1 506 i) → f5_Pa_addStatement_205 (Int32.ofNat s) (Int32.ofNat b) ow e2 = .inl (e1, r) → r = Int32.ofNat s ∧ (∀ g, e1.1 g = if g = 513 then Int32.ofNat (s + 1) else e.1 g) ∧ e1.2.2 = e.2.2 ∧ (∀ g, g ≠ 506 → g ≠ 503 → g ≠ 1012 → e1.2.1 g = e.2.1 g) ∧ (∀ i, e1.2.1 1012 i = if i = b then Int32.ofNat s else e.2.1 1012 i) ∧ (∀ i, e1.2.1 503 i = if la = -1 ∧ ow = -1 ∧ i = f then Int32.ofNat s else e.2.1 503 i) ∧ (∀ i, i ≠ 11 * s + 10 → i ≠ 11 * s + 9 → tgC6 la ow (e.2.1 1013 b) i → e1.2.1 506 i = Int32.ofNat s) ∧ (∀ i, i ≠ 11 * s + 10 → i ≠ 11 * s + 9 → ¬ tgC6 la ow (e.2.1 1013 b) i → e1.2.1 506 i = if 11 * s ≤ i ∧ i < 11 * s + 11 then nr5 (e.1 515) (i - 11 * s) else e.2.1 506 i) ∧ e1.2.1 506 (11 * s + 10) = Int32.ofNat f ∧ e1.2.1 506 (11 * s + 9) = ow := fun e2 g1 g2 g3 g4 g5 g6 h => by
    obtain ⟨y1, y2, y3, y4, y5, y6⟩ := fin e2 g1 g2 h
    refine ⟨y1, fun g => by rw [y2]; exact p1 g, y3, fun g q1 q2 q3 => (y4 g q1 q3).trans (g3 g q1 q2), fun i => by rw [y5, g3 1012 (by decide) (by decide)], fun i => by rw [y4 503 (by decide) (by decide)]; exact g4 i, fun i q1 q2 q3 => ?_, fun i q1 q2 q3 => ?_, ?_, ?_⟩
    · rw [y6, if_neg q1, if_neg q2]; exact g5 i q3
    · rw [y6, if_neg q1, if_neg q2, g6 i q3]; exact p4 i
    · rw [y6, if_pos rfl]
    · rw [y6, if_neg (by omega), if_pos rfl]
  -- a column of an older statement
  have col : ∀ (n c : Nat), n < s → c ≤ 10 → stc5 (Int32.ofNat n) (Int32.ofNat c) (Int32.ofNat s) e0 = (e0.1, fun g j => if g = 506 ∧ j = 11 * n + c then Int32.ofNat s else e0.2.1 g j, e0.2.2) := fun n c hn hc => st_s6 q13 (by omega) (by omega) hc
  by_cases kla : la = -1
  · rw [if_pos kla] at h
    by_cases kow : ow = -1
    · rw [if_pos kow, if_neg (by rw [lei, l10, ofn_i (by omega)]; omega), cl_5 (by omega)] at h
      have h : f5_Pa_addStatement_205 (Int32.ofNat s) (Int32.ofNat b) ow (e0.1, fun g j => if g = coFirstStatements ∧ j = f then Int32.ofNat s else e0.2.1 g j, e0.2.2) = .inl (e1, r) := h
      refine ends (e0.1, fun g j => if g = coFirstStatements ∧ j = f then Int32.ofNat s else e0.2.1 g j, e0.2.2) rfl rfl (fun g q1 q2 => ?_) (fun i => ?_) (fun i q => ?_) (fun i q => ?_) h
      · funext j
        show (if g = coFirstStatements ∧ j = f then Int32.ofNat s else e0.2.1 g j) = _
        rw [if_neg (fun y => q2 y.1), p2 g q1]
      · show (if 503 = coFirstStatements ∧ i = f then Int32.ofNat s else e0.2.1 503 i) = _
        by_cases q : i = f
        · rw [if_pos ⟨rfl, q⟩, if_pos ⟨kla, kow, q⟩]
        · rw [if_neg (fun y => q y.2), if_neg (fun y => q y.2.2), p2 503 (by decide)]
      · rcases q with ⟨q, _⟩ | ⟨_, q, _⟩
        · exact absurd kla q
        · exact absurd kow q
      · show (if 506 = coFirstStatements ∧ i = f then Int32.ofNat s else e0.2.1 506 i) = _
        rw [if_neg (fun y => absurd y.1 (by decide))]
    · rw [if_neg kow] at h
      obtain ⟨n, n1, n2⟩ : ∃ n, n < s ∧ ow = Int32.ofNat n := ko.resolve_left kow
      have cn : ow.toNatClampNeg = n := cln_6 n2 (by omega)
      have go : ∀ c : Nat, c ≤ 10 → (if e.2.1 1013 b = 0 then 6 else 7) = c → rdB5 (f5_Co_setColumn ow (Int32.ofNat c) (Int32.ofNat s) e0) (fun e1 _ => f5_Pa_addStatement_205 (Int32.ofNat s) (Int32.ofNat b) ow e1) = .inl (e1, r) → _ := fun c hc hcc h => by
        rw [stc_5, rdl_5] at h
        have y := col n c n1 hc
        rw [← n2] at y
        rw [y] at h
        refine ends (e0.1, fun g j => if g = 506 ∧ j = 11 * n + c then Int32.ofNat s else e0.2.1 g j, e0.2.2) rfl rfl (fun g q1 q2 => ?_) (fun i => ?_) (fun i q => ?_) (fun i q => ?_) h
        · funext j
          show (if g = 506 ∧ j = 11 * n + c then Int32.ofNat s else e0.2.1 g j) = _
          rw [if_neg (fun y => q1 y.1), p2 g q1]
        · show (if 503 = 506 ∧ i = 11 * n + c then Int32.ofNat s else e0.2.1 503 i) = _
          rw [if_neg (fun y => absurd y.1 (by decide)), if_neg (fun y => kow y.2.1), p2 503 (by decide)]
        · rcases q with ⟨q, _⟩ | ⟨_, _, q⟩
          · exact absurd kla q
          · rw [cn, hcc] at q
            show (if 506 = 506 ∧ i = 11 * n + c then Int32.ofNat s else e0.2.1 506 i) = _
            rw [if_pos ⟨rfl, q⟩]
        · show (if 506 = 506 ∧ i = 11 * n + c then Int32.ofNat s else e0.2.1 506 i) = _
          rw [if_neg (fun y => q (Or.inr ⟨kla, kow, by rw [cn, hcc]; exact y.2⟩))]
      unfold f5_Pa_addStatement_170 at h
      by_cases ke : e.2.1 1013 b = 0
      · rw [if_pos ke] at h
        exact go 6 (by omega) (if_pos ke) h
      · rw [if_neg ke] at h
        exact go 7 (by omega) (if_neg ke) h
  · rw [if_neg kla] at h
    obtain ⟨n, n1, n2⟩ : ∃ n, n < s ∧ la = Int32.ofNat n := kl.resolve_left kla
    have cn : la.toNatClampNeg = n := cln_6 n2 (by omega)
    rw [stc_5, rdl_5] at h
    have y := col n 8 n1 (by omega)
    rw [← n2] at y
    have y : stc5 la 8 (Int32.ofNat s) e0 = _ := y
    rw [y] at h
    refine ends (e0.1, fun g j => if g = 506 ∧ j = 11 * n + 8 then Int32.ofNat s else e0.2.1 g j, e0.2.2) rfl rfl (fun g q1 q2 => ?_) (fun i => ?_) (fun i q => ?_) (fun i q => ?_) h
    · funext j
      show (if g = 506 ∧ j = 11 * n + 8 then Int32.ofNat s else e0.2.1 g j) = _
      rw [if_neg (fun y => q1 y.1), p2 g q1]
    · show (if 503 = 506 ∧ i = 11 * n + 8 then Int32.ofNat s else e0.2.1 503 i) = _
      rw [if_neg (fun y => absurd y.1 (by decide)), if_neg (fun y => kla y.1), p2 503 (by decide)]
    · rcases q with ⟨_, q⟩ | ⟨q, _⟩
      · rw [cn] at q
        show (if 506 = 506 ∧ i = 11 * n + 8 then Int32.ofNat s else e0.2.1 506 i) = _
        rw [if_pos ⟨rfl, q⟩]
      · exact absurd q kla
    · show (if 506 = 506 ∧ i = 11 * n + 8 then Int32.ofNat s else e0.2.1 506 i) = _
      rw [if_neg (fun y => q (Or.inl ⟨kla, by rw [cn]; exact y.2⟩))]

end
section
set_option maxHeartbeats 1600000
/-! a statement added: the reference -/
/-- the first eight stores -/
def ns06 (k ow : Int32) (s : Nat) (σ : rS) : rS := riU (riU (riU (riU (riU (riU (riU (riU (siU σ 19 (σ.1 19 + 1)) 30 s k) 38 s (σ.1 41)) 31 s (σ.1 10)) 32 s (-1)) 33 s (-1)) 34 s (-1)) 35 s (-1)) 36 s ow
theorem ns_e6 {k : Int32} {s : Nat} {σ : rS} (h11 : σ.1 11 = 0) (hs : s < 150) : g5_newStatement_51 k (Int32.ofNat s) σ = (if σ.2.2.1 44 (σ.1 42 - 1).toNatClampNeg = -1 then (if σ.2.2.1 43 (σ.1 42 - 1).toNatClampNeg = -1 then g5_newStatement_221 (Int32.ofNat s) (σ.1 42 - 1) (riU (ns06 k (σ.2.2.1 43 (σ.1 42 - 1).toNatClampNeg) s σ) 29 (σ.1 41).toNatClampNeg (Int32.ofNat s)) else (if σ.2.2.1 45 (σ.1 42 - 1).toNatClampNeg = 0 then g5_newStatement_221 (Int32.ofNat s) (σ.1 42 - 1) (riU (ns06 k (σ.2.2.1 43 (σ.1 42 - 1).toNatClampNeg) s σ) 33 (σ.2.2.1 43 (σ.1 42 - 1).toNatClampNeg).toNatClampNeg (Int32.ofNat s)) else g5_newStatement_221 (Int32.ofNat s) (σ.1 42 - 1) (riU (ns06 k (σ.2.2.1 43 (σ.1 42 - 1).toNatClampNeg) s σ) 34 (σ.2.2.1 43 (σ.1 42 - 1).toNatClampNeg).toNatClampNeg (Int32.ofNat s)))) else g5_newStatement_221 (Int32.ofNat s) (σ.1 42 - 1) (riU (ns06 k (σ.2.2.1 43 (σ.1 42 - 1).toNatClampNeg) s σ) 35 (σ.2.2.1 44 (σ.1 42 - 1).toNatClampNeg).toNatClampNeg (Int32.ofNat s))) := by
  have cs : (Int32.ofNat s).toNatClampNeg = s := cl_5 (by omega)
  have ir : g5_isRight σ = 1 := if_pos h11
  unfold g5_newStatement_51
  rw [pb_e5, ir, if_neg ne105, cs]
  rfl
theorem ns_r6 {k ow : Int32} {s j : Nat} {σ : rS} : (ns06 k ow s σ).2.2.1 30 j = (if j = s then k else σ.2.2.1 30 j) ∧ (ns06 k ow s σ).2.2.1 38 j = (if j = s then σ.1 41 else σ.2.2.1 38 j) ∧ (ns06 k ow s σ).2.2.1 31 j = (if j = s then σ.1 10 else σ.2.2.1 31 j) ∧ (ns06 k ow s σ).2.2.1 32 j = (if j = s then -1 else σ.2.2.1 32 j) ∧ (ns06 k ow s σ).2.2.1 33 j = (if j = s then -1 else σ.2.2.1 33 j) ∧ (ns06 k ow s σ).2.2.1 34 j = (if j = s then -1 else σ.2.2.1 34 j) ∧ (ns06 k ow s σ).2.2.1 35 j = (if j = s then -1 else σ.2.2.1 35 j) ∧ (ns06 k ow s σ).2.2.1 36 j = (if j = s then ow else σ.2.2.1 36 j) := by
  unfold ns06
  refine ⟨?_, ?_, ?_, ?_, ?_, ?_, ?_, ?_⟩
  · rw [ri_o6 (by decide), ri_o6 (by decide), ri_o6 (by decide), ri_o6 (by decide), ri_o6 (by decide), ri_o6 (by decide), ri_o6 (by decide), ri_s6]; rfl
  · rw [ri_o6 (by decide), ri_o6 (by decide), ri_o6 (by decide), ri_o6 (by decide), ri_o6 (by decide), ri_o6 (by decide), ri_s6, ri_o6 (by decide)]; rfl
  · rw [ri_o6 (by decide), ri_o6 (by decide), ri_o6 (by decide), ri_o6 (by decide), ri_o6 (by decide), ri_s6, ri_o6 (by decide), ri_o6 (by decide)]; rfl
  · rw [ri_o6 (by decide), ri_o6 (by decide), ri_o6 (by decide), ri_o6 (by decide), ri_s6, ri_o6 (by decide), ri_o6 (by decide), ri_o6 (by decide)]; rfl
  · rw [ri_o6 (by decide), ri_o6 (by decide), ri_o6 (by decide), ri_s6, ri_o6 (by decide), ri_o6 (by decide), ri_o6 (by decide), ri_o6 (by decide)]; rfl
  · rw [ri_o6 (by decide), ri_o6 (by decide), ri_s6, ri_o6 (by decide), ri_o6 (by decide), ri_o6 (by decide), ri_o6 (by decide), ri_o6 (by decide)]; rfl
  · rw [ri_o6 (by decide), ri_s6, ri_o6 (by decide), ri_o6 (by decide), ri_o6 (by decide), ri_o6 (by decide), ri_o6 (by decide), ri_o6 (by decide)]; rfl
  · rw [ri_s6, ri_o6 (by decide), ri_o6 (by decide), ri_o6 (by decide), ri_o6 (by decide), ri_o6 (by decide), ri_o6 (by decide), ri_o6 (by decide)]; rfl
theorem ns_o6 {k ow : Int32} {s g : Nat} {σ : rS} (h : g ≠ 30 ∧ g ≠ 31 ∧ g ≠ 32 ∧ g ≠ 33 ∧ g ≠ 34 ∧ g ≠ 35 ∧ g ≠ 36 ∧ g ≠ 38) : (ns06 k ow s σ).2.2.1 g = σ.2.2.1 g := by
  obtain ⟨a, b, c, d, e, f, i, j⟩ := h
  unfold ns06
  rw [ri_o6 i, ri_o6 f, ri_o6 e, ri_o6 d, ri_o6 c, ri_o6 b, ri_o6 j, ri_o6 a]
  rfl
/-- what the reference has behind it -/
theorem nsR_6 {s b f : Nat} {k la ow : Int32} {σ : rS} (h11 : σ.1 11 = 0) (h19 : σ.1 19 = Int32.ofNat s) (s150 : s < 150) (h42 : σ.1 42 = Int32.ofNat (b + 1)) (b40 : b ≤ 1000) (h41 : σ.1 41 = Int32.ofNat f) (f10 : f < 10) (hl : σ.2.2.1 44 b = la) (ho : σ.2.2.1 43 b = ow) : ∃ σ1, g5_newStatement k σ = (σ1, Int32.ofNat s) ∧ (∀ g, σ1.1 g = if g = 19 then Int32.ofNat (s + 1) else σ.1 g) ∧ σ1.2.1 = σ.2.1 ∧ σ1.2.2.2 = σ.2.2.2 ∧ (∀ g, g ≠ 29 → g ≠ 30 → g ≠ 31 → g ≠ 32 → g ≠ 33 → g ≠ 34 → g ≠ 35 → g ≠ 36 → g ≠ 38 → g ≠ 44 → σ1.2.2.1 g = σ.2.2.1 g) ∧
    (∀ j, σ1.2.2.1 30 j = if j = s then k else σ.2.2.1 30 j) ∧ (∀ j, σ1.2.2.1 38 j = if j = s then Int32.ofNat f else σ.2.2.1 38 j) ∧ (∀ j, σ1.2.2.1 31 j = if j = s then σ.1 10 else σ.2.2.1 31 j) ∧ (∀ j, σ1.2.2.1 32 j = if j = s then -1 else σ.2.2.1 32 j) ∧ (∀ j, σ1.2.2.1 36 j = if j = s then ow else σ.2.2.1 36 j) ∧
    (∀ j, σ1.2.2.1 33 j = if la = -1 ∧ ow ≠ -1 ∧ σ.2.2.1 45 b = 0 ∧ j = ow.toNatClampNeg then Int32.ofNat s else if j = s then -1 else σ.2.2.1 33 j) ∧ (∀ j, σ1.2.2.1 34 j = if la = -1 ∧ ow ≠ -1 ∧ σ.2.2.1 45 b ≠ 0 ∧ j = ow.toNatClampNeg then Int32.ofNat s else if j = s then -1 else σ.2.2.1 34 j) ∧ (∀ j, σ1.2.2.1 35 j = if la ≠ -1 ∧ j = la.toNatClampNeg then Int32.ofNat s else if j = s then -1 else σ.2.2.1 35 j) ∧
    (∀ j, σ1.2.2.1 29 j = if la = -1 ∧ ow = -1 ∧ j = f then Int32.ofNat s else σ.2.2.1 29 j) ∧ (∀ j, σ1.2.2.1 44 j = if j = b then Int32.ofNat s else σ.2.2.1 44 j) := by
  have l150 : (150 : Int32).toInt = 150 := rfl
  have e42 : σ.1 42 - 1 = Int32.ofNat b := ofU_5 h42 (by omega)
  have cb : (Int32.ofNat b).toNatClampNeg = b := cl_5 (by omega)
  have cf : (σ.1 41).toNatClampNeg = f := cln_6 h41 (by omega)
  have n150 : ¬ σ.1 19 = 150 := fun q => by
    rw [h19] at q
    have z := congrArg Int32.toInt q
    rw [ofn_i (by omega), l150] at z
    omega
  have e33 : g5_newStatement k σ = g5_newStatement_51 k (Int32.ofNat s) σ := by
    have z : g5_newStatement_33 k σ = g5_newStatement_51 k (Int32.ofNat s) σ := by
      unfold g5_newStatement_33
      rw [h19, if_neg (by rw [lei, l150, ofn_i (by omega)]; omega)]
    unfold g5_newStatement
    rw [z]
    by_cases q : σ.2.2.1 5 (σ.1 10).toNatClampNeg = 5
    · rw [if_pos q]
    · rw [if_neg q, if_neg n150]
  rw [e33, ns_e6 h11 s150, e42, cb, hl, ho, cf]
  have r0 := fun j => ns_r6 (k := k) (ow := ow) (s := s) (j := j) (σ := σ)
  have base : ∀ (g0 i0 : Nat), (g0 = 29 ∨ g0 = 33 ∨ g0 = 34 ∨ g0 = 35) → ∃ σ1, g5_newStatement_221 (Int32.ofNat s) (Int32.ofNat b) (riU (ns06 k ow s σ) g0 i0 (Int32.ofNat s)) = (σ1, Int32.ofNat s) ∧ (∀ g, σ1.1 g = if g = 19 then Int32.ofNat (s + 1) else σ.1 g) ∧ σ1.2.1 = σ.2.1 ∧ σ1.2.2.2 = σ.2.2.2 ∧ (∀ g, g ≠ 44 → σ1.2.2.1 g = (riU (ns06 k ow s σ) g0 i0 (Int32.ofNat s)).2.2.1 g) ∧ (∀ j, σ1.2.2.1 44 j = if j = b then Int32.ofNat s else σ.2.2.1 44 j) := fun g0 i0 hg => by
    refine ⟨riU (riU (ns06 k ow s σ) g0 i0 (Int32.ofNat s)) 44 b (Int32.ofNat s), ?_, fun g => ?_, rfl, rfl, fun g q => ri_o6 q, fun j => ?_⟩
    · unfold g5_newStatement_221
      rw [pb_e5, cb]
    · show (if g = 19 then σ.1 19 + 1 else σ.1 g) = _
      by_cases q : g = 19
      · rw [if_pos q, if_pos q, h19, on_15 (by omega)]
      · rw [if_neg q, if_neg q]
    · rw [ri_s6]
      by_cases q : j = b
      · rw [if_pos q, if_pos q]
      · rw [if_neg q, if_neg q, ri_o6 (by rcases hg with y | y | y | y <;> rw [y] <;> decide), ns_o6 (by decide)]
  by_cases kl : la = -1
  · rw [if_pos kl]
    by_cases ko : ow = -1
    · rw [if_pos ko]
      obtain ⟨σ1, y1, y2, y3, y4, y5, y6⟩ := base 29 f (Or.inl rfl)
      refine ⟨σ1, y1, y2, y3, y4, fun g q1 q2 q3 q4 q5 q6 q7 q8 q9 q10 => ?_, fun j => ?_, fun j => ?_, fun j => ?_, fun j => ?_, fun j => ?_, fun j => ?_, fun j => ?_, fun j => ?_, fun j => ?_, y6⟩
      · rw [y5 g q10, ri_o6 q1, ns_o6 ⟨q2, q3, q4, q5, q6, q7, q8, q9⟩]
      · rw [y5 _ (by decide), ri_o6 (by decide)]; exact (r0 j).1
      · rw [y5 _ (by decide), ri_o6 (by decide), (r0 j).2.1, h41]
      · rw [y5 _ (by decide), ri_o6 (by decide)]; exact (r0 j).2.2.1
      · rw [y5 _ (by decide), ri_o6 (by decide)]; exact (r0 j).2.2.2.1
      · rw [y5 _ (by decide), ri_o6 (by decide)]; exact (r0 j).2.2.2.2.2.2.2
      · rw [y5 _ (by decide), ri_o6 (by decide)]; exact (r0 j).2.2.2.2.1.trans (Eq.symm (if_neg (fun q => q.2.1 ko)))
      · rw [y5 _ (by decide), ri_o6 (by decide)]; exact (r0 j).2.2.2.2.2.1.trans (Eq.symm (if_neg (fun q => q.2.1 ko)))
      · rw [y5 _ (by decide), ri_o6 (by decide)]; exact (r0 j).2.2.2.2.2.2.1.trans (Eq.symm (if_neg (fun q => q.1 kl)))
      · rw [y5 _ (by decide), ri_s6]
        by_cases q : j = f
        · rw [if_pos q, if_pos ⟨kl, ko, q⟩]
        · rw [if_neg q, if_neg (fun y => q y.2.2), ns_o6 (by decide)]
    · rw [if_neg ko]
      by_cases ke : σ.2.2.1 45 b = 0
      · rw [if_pos ke]
        obtain ⟨σ1, y1, y2, y3, y4, y5, y6⟩ := base 33 ow.toNatClampNeg (Or.inr (Or.inl rfl))
        refine ⟨σ1, y1, y2, y3, y4, fun g q1 q2 q3 q4 q5 q6 q7 q8 q9 q10 => ?_, fun j => ?_, fun j => ?_, fun j => ?_, fun j => ?_, fun j => ?_, fun j => ?_, fun j => ?_, fun j => ?_, fun j => ?_, y6⟩
        · rw [y5 g q10, ri_o6 q5, ns_o6 ⟨q2, q3, q4, q5, q6, q7, q8, q9⟩]
        · rw [y5 _ (by decide), ri_o6 (by decide)]; exact (r0 j).1
        · rw [y5 _ (by decide), ri_o6 (by decide), (r0 j).2.1, h41]
        · rw [y5 _ (by decide), ri_o6 (by decide)]; exact (r0 j).2.2.1
        · rw [y5 _ (by decide), ri_o6 (by decide)]; exact (r0 j).2.2.2.1
        · rw [y5 _ (by decide), ri_o6 (by decide)]; exact (r0 j).2.2.2.2.2.2.2
        · rw [y5 _ (by decide), ri_s6]
          by_cases q : j = ow.toNatClampNeg
          · rw [if_pos q, if_pos ⟨kl, ko, ke, q⟩]
          · rw [if_neg q, if_neg (fun y => q y.2.2.2)]; exact (r0 j).2.2.2.2.1
        · rw [y5 _ (by decide), ri_o6 (by decide)]; exact (r0 j).2.2.2.2.2.1.trans (Eq.symm (if_neg (fun q => q.2.2.1 ke)))
        · rw [y5 _ (by decide), ri_o6 (by decide)]; exact (r0 j).2.2.2.2.2.2.1.trans (Eq.symm (if_neg (fun q => q.1 kl)))
        · rw [y5 _ (by decide), ri_o6 (by decide), if_neg (fun y => ko y.2.1), ns_o6 (by decide)]
      · rw [if_neg ke]
        obtain ⟨σ1, y1, y2, y3, y4, y5, y6⟩ := base 34 ow.toNatClampNeg (Or.inr (Or.inr (Or.inl rfl)))
        refine ⟨σ1, y1, y2, y3, y4, fun g q1 q2 q3 q4 q5 q6 q7 q8 q9 q10 => ?_, fun j => ?_, fun j => ?_, fun j => ?_, fun j => ?_, fun j => ?_, fun j => ?_, fun j => ?_, fun j => ?_, fun j => ?_, y6⟩
        · rw [y5 g q10, ri_o6 q6, ns_o6 ⟨q2, q3, q4, q5, q6, q7, q8, q9⟩]
        · rw [y5 _ (by decide), ri_o6 (by decide)]; exact (r0 j).1
        · rw [y5 _ (by decide), ri_o6 (by decide), (r0 j).2.1, h41]
        · rw [y5 _ (by decide), ri_o6 (by decide)]; exact (r0 j).2.2.1
        · rw [y5 _ (by decide), ri_o6 (by decide)]; exact (r0 j).2.2.2.1
        · rw [y5 _ (by decide), ri_o6 (by decide)]; exact (r0 j).2.2.2.2.2.2.2
        · rw [y5 _ (by decide), ri_o6 (by decide)]; exact (r0 j).2.2.2.2.1.trans (Eq.symm (if_neg (fun q => ke q.2.2.1)))
        · rw [y5 _ (by decide), ri_s6]
          by_cases q : j = ow.toNatClampNeg
          · rw [if_pos q, if_pos ⟨kl, ko, ke, q⟩]
          · rw [if_neg q, if_neg (fun y => q y.2.2.2)]; exact (r0 j).2.2.2.2.2.1
        · rw [y5 _ (by decide), ri_o6 (by decide)]; exact (r0 j).2.2.2.2.2.2.1.trans (Eq.symm (if_neg (fun q => q.1 kl)))
        · rw [y5 _ (by decide), ri_o6 (by decide), if_neg (fun y => ko y.2.1), ns_o6 (by decide)]
  · rw [if_neg kl]
    obtain ⟨σ1, y1, y2, y3, y4, y5, y6⟩ := base 35 la.toNatClampNeg (Or.inr (Or.inr (Or.inr rfl)))
    refine ⟨σ1, y1, y2, y3, y4, fun g q1 q2 q3 q4 q5 q6 q7 q8 q9 q10 => ?_, fun j => ?_, fun j => ?_, fun j => ?_, fun j => ?_, fun j => ?_, fun j => ?_, fun j => ?_, fun j => ?_, fun j => ?_, y6⟩
    · rw [y5 g q10, ri_o6 q7, ns_o6 ⟨q2, q3, q4, q5, q6, q7, q8, q9⟩]
    · rw [y5 _ (by decide), ri_o6 (by decide)]; exact (r0 j).1
    · rw [y5 _ (by decide), ri_o6 (by decide), (r0 j).2.1, h41]
    · rw [y5 _ (by decide), ri_o6 (by decide)]; exact (r0 j).2.2.1
    · rw [y5 _ (by decide), ri_o6 (by decide)]; exact (r0 j).2.2.2.1
    · rw [y5 _ (by decide), ri_o6 (by decide)]; exact (r0 j).2.2.2.2.2.2.2
    · rw [y5 _ (by decide), ri_o6 (by decide)]; exact (r0 j).2.2.2.2.1.trans (Eq.symm (if_neg (fun q => kl q.1)))
    · rw [y5 _ (by decide), ri_o6 (by decide)]; exact (r0 j).2.2.2.2.2.1.trans (Eq.symm (if_neg (fun q => kl q.1)))
    · rw [y5 _ (by decide), ri_s6]
      by_cases q : j = la.toNatClampNeg
      · rw [if_pos q, if_pos ⟨kl, q⟩]
      · rw [if_neg q, if_neg (fun y => q y.2)]; exact (r0 j).2.2.2.2.2.2.1
    · rw [y5 _ (by decide), ri_o6 (by decide), if_neg (fun y => kl y.1), ns_o6 (by decide)]

end
section
set_option maxHeartbeats 1600000
/-! between statements: all that is told so far is alike -/
def bl6 (s : Nat) (x : Int32) : Prop := x = -1 ∨ ∃ n, n < s ∧ x = Int32.ofNat n
theorem bl_m6 {s s' : Nat} {x : Int32} (h : bl6 s x) (hs : s ≤ s') : bl6 s' x := by
  rcases h with q | ⟨n, n1, n2⟩
  · exact Or.inl q
  · exact Or.inr ⟨n, by omega, n2⟩
/-- the links of statement j -/
def lj6 (m s : Nat) (e : E5) (σ : rS) (j : Nat) : Prop := (e.2.1 506 (11 * j + 6) = σ.2.2.1 33 j ∧ bl6 s (σ.2.2.1 33 j)) ∧ (e.2.1 506 (11 * j + 7) = σ.2.2.1 34 j ∧ bl6 s (σ.2.2.1 34 j)) ∧ (e.2.1 506 (11 * j + 8) = σ.2.2.1 35 j ∧ bl6 s (σ.2.2.1 35 j)) ∧ (e.2.1 506 (11 * j + 9) = σ.2.2.1 36 j ∧ (σ.2.2.1 36 j = -1 ∨ ∃ n, n < j ∧ σ.2.2.1 36 j = Int32.ofNat n ∧ (σ.2.2.1 30 n = 6 ∨ σ.2.2.1 30 n = 7))) ∧ (e.2.1 506 (11 * j + 10) = σ.2.2.1 38 j ∧ ∃ f, (f < m ∧ f < 10) ∧ σ.2.2.1 38 j = Int32.ofNat f)
/-- vars and arrays -/
def gl6 (nv na : Nat) (e : E5) (σ : rS) : Prop := (∀ k, k < nv → e.2.1 500 k = σ.2.2.1 21 k) ∧ (∀ k, k < na → e.2.1 501 k = σ.2.2.1 24 k ∧ e.2.1 502 k = σ.2.2.1 23 k ∧ ∃ x y : Nat, σ.2.2.1 24 k = Int32.ofNat x ∧ σ.2.2.1 23 k = Int32.ofNat y ∧ (x + y : Int) ≤ (e.1 511).toInt) ∧ e.1 511 = σ.1 17 ∧ 0 ≤ (e.1 511).toInt ∧ (e.1 511).toInt ≤ 8 * na
/-- functions told: their counts of names; the first statements of m functions -/
def tf6 (f m s : Nat) (e : E5) (σ : rS) : Prop := (∀ g, g < f → e.2.1 505 g = σ.2.2.1 27 g ∧ ∃ w, w ≤ 8 ∧ σ.2.2.1 27 g = Int32.ofNat w) ∧ (∀ g, g < m → e.2.1 503 g = σ.2.2.1 29 g ∧ bl6 s (σ.2.2.1 29 g)) ∧ ∀ g, m ≤ g → g < 10 → e.2.1 503 g = -1
def MP6 (T : T5) (Bk nv na a b f m s q : Nat) (e : E5) (σ : rS) : Prop := ((e.1 509 = Int32.ofNat nv ∧ nv ≤ 10) ∧ (e.1 510 = Int32.ofNat na ∧ na ≤ 3)) ∧ (∀ j, j < q → ∃ z, z ≤ a ∧ stm6 T Bk nv na e (σ.2.2.1 30) (σ.2.2.1 31) (σ.2.2.1 32) (σ.2.2.1 39) j z) ∧ (∀ j, j < s → lj6 m s e σ j) ∧ (∀ i, i < b → e.2.1 1012 i = σ.2.2.1 44 i ∧ bl6 s (σ.2.2.1 44 i)) ∧ (∀ i, 0 < i → i < b → ∃ n, n < q ∧ e.2.1 1011 i = Int32.ofNat n ∧ (σ.2.2.1 30 n = 6 ∨ σ.2.2.1 30 n = 7)) ∧ tf6 f m s e σ ∧ gl6 nv na e σ
def PI6 (T : T5) (X : X5) (Bk N : Nat) (Z : Int32) (nv na a b f s : Nat) (e : E5) (σ : rS) : Prop := (∃ R, SR6 T X Bk N Z a b R e σ) ∧ MP6 T Bk nv na a b f (f + 1) s s e σ
section
variable {T : T5} {X : X5} {Bk N : Nat} {Z : Int32} {nv na a a' b f s : Nat} {e e' : E5} {σ σ' : rS}
/-- a statement read -/
theorem MP_w6 (P : MP6 T Bk nv na a b f (f + 1) (s + 1) s e σ) (h : fw6 Bk s a a' e e' σ σ') (ha : a < a') (hf : (σ.1 41).toNatClampNeg = f) (hst : stm6 T Bk nv na e' (σ'.2.2.1 30) (σ'.2.2.1 31) (σ'.2.2.1 32) (σ'.2.2.1 39) s a') (hc : ∀ c, 6 ≤ c → c ≤ 10 → e'.2.1 506 (11 * s + c) = e.2.1 506 (11 * s + c)) : MP6 T Bk nv na a' b f (f + 1) (s + 1) (s + 1) e' σ' := by
  obtain ⟨⟨p1, p2⟩, p3, p4, p5, p6, ⟨p7, p8, p9⟩, p10, p11, p12, p13, p14⟩ := P
  obtain ⟨⟨g1, g2, _, g3⟩, ⟨n1, n2, n3⟩, hm, h39, h27⟩ := h
  have w : ∀ j c, j < s + 1 → 6 ≤ c → c ≤ 10 → e'.2.1 506 (11 * j + c) = e.2.1 506 (11 * j + c) := fun j c x y z => by
    by_cases q : j = s
    · rw [q]; exact hc c y z
    · exact g3 _ (by omega)
  have r30 : ∀ n, n < s → σ'.2.2.1 30 n = σ.2.2.1 30 n := fun n x => (n3 n (by omega)).1
  have f511 := g1 511 (by decide) (by decide) (by decide) (by decide) (by decide) (by decide)
  refine ⟨⟨?_, ?_⟩, fun j hj => ?_, fun j hj => ?_, fun i hi => ?_, fun i i0 hi => ?_, ⟨fun g hg => ?_, fun g hg => ?_, fun g x y => ?_⟩, fun k hk => ?_, fun k hk => ?_, ?_, ?_, ?_⟩
  · rw [g1 509 (by decide) (by decide) (by decide) (by decide) (by decide) (by decide)]; exact p1
  · rw [g1 510 (by decide) (by decide) (by decide) (by decide) (by decide) (by decide)]; exact p2
  · by_cases q : j = s
    · rw [q]; exact ⟨a', Nat.le_refl _, hst⟩
    · obtain ⟨z, z1, z2⟩ := p3 j (by omega)
      exact ⟨z, by omega, st_m6 z2 hm (Nat.le_refl _) (Nat.le_refl _) (fun c hc => g3 _ (by omega)) (n3 j q).1 (by rw [n2 31 (by decide) (by decide) (by decide) (by decide) (by decide) (by decide) (by decide) (by decide)]) (n3 j q).2 (fun t x _ _ => h39 _ (by omega))⟩
  · obtain ⟨l1, l2, l3, l4, l5⟩ := p4 j hj
    unfold lj6
    rw [w j 6 hj (by omega) (by omega), w j 7 hj (by omega) (by omega), w j 8 hj (by omega) (by omega), w j 9 hj (by omega) (by omega), w j 10 hj (by omega) (by omega), n2 33 (by decide) (by decide) (by decide) (by decide) (by decide) (by decide) (by decide) (by decide), n2 34 (by decide) (by decide) (by decide) (by decide) (by decide) (by decide) (by decide) (by decide), n2 35 (by decide) (by decide) (by decide) (by decide) (by decide) (by decide) (by decide) (by decide), n2 36 (by decide) (by decide) (by decide) (by decide) (by decide) (by decide) (by decide) (by decide), n2 38 (by decide) (by decide) (by decide) (by decide) (by decide) (by decide) (by decide) (by decide)]
    refine ⟨l1, l2, l3, ⟨l4.1, ?_⟩, l5⟩
    rcases l4.2 with q | ⟨n, n1, n2, n3⟩
    · exact Or.inl q
    · exact Or.inr ⟨n, n1, n2, by rw [r30 n (by omega)]; exact n3⟩
  · rw [g2 1012 (by decide) (by decide) (by decide) (by decide) (by decide), n2 44 (by decide) (by decide) (by decide) (by decide) (by decide) (by decide) (by decide) (by decide)]; exact p5 i hi
  · obtain ⟨n, y1, y2, y3⟩ := p6 i i0 hi
    refine ⟨n, by omega, ?_, ?_⟩
    · rw [g2 1011 (by decide) (by decide) (by decide) (by decide) (by decide)]; exact y2
    · rw [r30 n y1]; exact y3
  · rw [g2 505 (by decide) (by decide) (by decide) (by decide) (by decide), h27 g (by omega)]; exact p7 g hg
  · rw [g2 503 (by decide) (by decide) (by decide) (by decide) (by decide), n2 29 (by decide) (by decide) (by decide) (by decide) (by decide) (by decide) (by decide) (by decide)]; exact p8 g hg
  · rw [g2 503 (by decide) (by decide) (by decide) (by decide) (by decide)]; exact p9 g x y
  · rw [g2 500 (by decide) (by decide) (by decide) (by decide) (by decide), n2 21 (by decide) (by decide) (by decide) (by decide) (by decide) (by decide) (by decide) (by decide)]; exact p10 k hk
  · rw [g2 501 (by decide) (by decide) (by decide) (by decide) (by decide), g2 502 (by decide) (by decide) (by decide) (by decide) (by decide), n2 23 (by decide) (by decide) (by decide) (by decide) (by decide) (by decide) (by decide) (by decide), n2 24 (by decide) (by decide) (by decide) (by decide) (by decide) (by decide) (by decide) (by decide), f511]; exact p11 k hk
  · rw [f511, n1 17 (by decide) (by decide) (by decide) (by decide) (by decide)]; exact p12
  · rw [f511]; exact p13
  · rw [f511]; exact p14
/-- a statement added -/
theorem MP_a6 {la ow k : Int32} (P : MP6 T Bk nv na a (b + 1) f (f + 1) s s e σ) (s150 : s < 150) (f10 : f < 10) (hb : b ≤ 1000) (hl : e.2.1 1012 b = la) (ho : e.2.1 1011 b = ow) (kl : bl6 s la) (ko : bl6 s ow) (ko0 : b = 0 → ow = -1) (hel : e.2.1 1013 b = σ.2.2.1 45 b) (w0 : ∀ i, e.2.1 1011 i = e'.2.1 1011 i)
    (c1 : ∀ g, e'.1 g = if g = 513 then Int32.ofNat (s + 1) else e.1 g) (c3 : ∀ g, g ≠ 506 → g ≠ 503 → g ≠ 1012 → e'.2.1 g = e.2.1 g) (c4 : ∀ i, e'.2.1 1012 i = if i = b then Int32.ofNat s else e.2.1 1012 i) (c5 : ∀ i, e'.2.1 503 i = if la = -1 ∧ ow = -1 ∧ i = f then Int32.ofNat s else e.2.1 503 i) (c6 : ∀ i, i ≠ 11 * s + 10 → i ≠ 11 * s + 9 → tgC6 la ow (e.2.1 1013 b) i → e'.2.1 506 i = Int32.ofNat s) (c7 : ∀ i, i ≠ 11 * s + 10 → i ≠ 11 * s + 9 → ¬ tgC6 la ow (e.2.1 1013 b) i → e'.2.1 506 i = if 11 * s ≤ i ∧ i < 11 * s + 11 then nr5 (e.1 515) (i - 11 * s) else e.2.1 506 i) (c8 : e'.2.1 506 (11 * s + 10) = Int32.ofNat f) (c9 : e'.2.1 506 (11 * s + 9) = ow)
    (d1 : ∀ g, σ'.1 g = if g = 19 then Int32.ofNat (s + 1) else σ.1 g) (d4 : ∀ g, g ≠ 29 → g ≠ 30 → g ≠ 31 → g ≠ 32 → g ≠ 33 → g ≠ 34 → g ≠ 35 → g ≠ 36 → g ≠ 38 → g ≠ 44 → σ'.2.2.1 g = σ.2.2.1 g) (d5 : ∀ j, σ'.2.2.1 30 j = if j = s then k else σ.2.2.1 30 j) (d6 : ∀ j, σ'.2.2.1 38 j = if j = s then Int32.ofNat f else σ.2.2.1 38 j) (d7 : ∀ j, σ'.2.2.1 31 j = if j = s then σ.1 10 else σ.2.2.1 31 j) (d8 : ∀ j, σ'.2.2.1 32 j = if j = s then -1 else σ.2.2.1 32 j) (d9 : ∀ j, σ'.2.2.1 36 j = if j = s then ow else σ.2.2.1 36 j)
    (d10 : ∀ j, σ'.2.2.1 33 j = if la = -1 ∧ ow ≠ -1 ∧ σ.2.2.1 45 b = 0 ∧ j = ow.toNatClampNeg then Int32.ofNat s else if j = s then -1 else σ.2.2.1 33 j) (d11 : ∀ j, σ'.2.2.1 34 j = if la = -1 ∧ ow ≠ -1 ∧ σ.2.2.1 45 b ≠ 0 ∧ j = ow.toNatClampNeg then Int32.ofNat s else if j = s then -1 else σ.2.2.1 34 j) (d12 : ∀ j, σ'.2.2.1 35 j = if la ≠ -1 ∧ j = la.toNatClampNeg then Int32.ofNat s else if j = s then -1 else σ.2.2.1 35 j) (d13 : ∀ j, σ'.2.2.1 29 j = if la = -1 ∧ ow = -1 ∧ j = f then Int32.ofNat s else σ.2.2.1 29 j) (d14 : ∀ j, σ'.2.2.1 44 j = if j = b then Int32.ofNat s else σ.2.2.1 44 j) : MP6 T Bk nv na a (b + 1) f (f + 1) (s + 1) s e' σ' ∧ cm6 e e' ∧ (∀ c, c ≤ 5 → e'.2.1 506 (11 * s + c) = nr5 (e.1 515) c) := by
  obtain ⟨⟨p1, p2⟩, p3, p4, p5, p6, ⟨p7, p8, p9⟩, p10, p11, p12, p13, p14⟩ := P
  have lt_la : la ≠ -1 → la.toNatClampNeg < s := fun q => by
    obtain ⟨n, n1, n2⟩ := kl.resolve_left q
    rw [cln_6 n2 (by omega)]; exact n1
  have lt_ow : ow ≠ -1 → ow.toNatClampNeg < s := fun q => by
    obtain ⟨n, n1, n2⟩ := ko.resolve_left q
    rw [cln_6 n2 (by omega)]; exact n1
  have hm : cm6 e e' := cm_e6 (by rw [c1, if_neg (by decide)]) (c3 507 (by decide) (by decide) (by decide)) (c3 508 (by decide) (by decide) (by decide))
  -- the target's index
  have tg : ∀ j c, c ≤ 10 → (tgC6 la ow (e.2.1 1013 b) (11 * j + c) ↔ (la ≠ -1 ∧ c = 8 ∧ j = la.toNatClampNeg) ∨ (la = -1 ∧ ow ≠ -1 ∧ c = (if e.2.1 1013 b = 0 then 6 else 7) ∧ j = ow.toNatClampNeg)) := fun j c hc => by
    unfold tgC6
    have q67 : (if e.2.1 1013 b = 0 then 6 else 7) = 6 ∨ (if e.2.1 1013 b = 0 then 6 else 7) = 7 := by
      by_cases q : e.2.1 1013 b = 0
      · rw [if_pos q]; exact Or.inl rfl
      · rw [if_neg q]; exact Or.inr rfl
    generalize (if e.2.1 1013 b = 0 then 6 else 7) = d at q67
    constructor
    · rintro (⟨x, y⟩ | ⟨x, y, z⟩)
      · exact Or.inl ⟨x, by omega, by omega⟩
      · exact Or.inr ⟨x, y, by omega, by omega⟩
    · rintro (⟨x, y, z⟩ | ⟨x, y, z, w⟩)
      · exact Or.inl ⟨x, by omega⟩
      · exact Or.inr ⟨x, y, by omega⟩
  have ntg : ∀ j c, c ≤ 10 → (la ≠ -1 → ¬ (c = 8 ∧ j = la.toNatClampNeg)) → (la = -1 → ow ≠ -1 → ¬ (c = (if e.2.1 1013 b = 0 then 6 else 7) ∧ j = ow.toNatClampNeg)) → ¬ tgC6 la ow (e.2.1 1013 b) (11 * j + c) := fun j c hc x y q => by
    rcases (tg j c hc).mp q with ⟨q1, q2, q3⟩ | ⟨q1, q2, q3, q4⟩
    · exact x q1 ⟨q2, q3⟩
    · exact y q1 q2 ⟨q3, q4⟩
  have old : ∀ j c, j < s → c ≤ 10 → ¬ tgC6 la ow (e.2.1 1013 b) (11 * j + c) → e'.2.1 506 (11 * j + c) = e.2.1 506 (11 * j + c) := fun j c hj hc q => by
    rw [c7 _ (by omega) (by omega) q, if_neg (by omega)]
  have new : ∀ c, c ≤ 8 → e'.2.1 506 (11 * s + c) = nr5 (e.1 515) c := fun c hc => by
    have q : ¬ tgC6 la ow (e.2.1 1013 b) (11 * s + c) := ntg s c (by omega) (fun x y => by have := lt_la x; omega) (fun _ x y => by have := lt_ow x; omega)
    rw [c7 _ (by omega) (by omega) q, if_pos (by omega)]
    congr 1
    omega
  have nc : ∀ c, c ≤ 5 → (la ≠ -1 → ∀ j : Nat, ¬ (c = 8 ∧ j = la.toNatClampNeg)) ∧ (∀ j : Nat, ¬ (c = (if e.2.1 1013 b = 0 then 6 else 7) ∧ j = ow.toNatClampNeg)) := fun c hc => ⟨fun _ j q => by omega, fun j q => by
    by_cases y : e.2.1 1013 b = 0
    · rw [if_pos y] at q; omega
    · rw [if_neg y] at q; omega⟩
  have lowc : ∀ j c, j < s → c ≤ 5 → e'.2.1 506 (11 * j + c) = e.2.1 506 (11 * j + c) := fun j c hj hc => old j c hj (by omega) (ntg j c (by omega) (fun x => (nc c hc).1 x j) (fun _ _ => (nc c hc).2 j))
  have f511 : e'.1 511 = e.1 511 := by rw [c1, if_neg (by decide)]
  have r30 : ∀ n, n < s → σ'.2.2.1 30 n = σ.2.2.1 30 n := fun n x => by rw [d5, if_neg (by omega)]
  have sbl : bl6 (s + 1) (Int32.ofNat s) := Or.inr ⟨s, by omega, rfl⟩
  have mbl : bl6 (s + 1) (-1) := Or.inl rfl
  refine ⟨⟨⟨?_, ?_⟩, fun j hj => ?_, fun j hj => ?_, fun i hi => ?_, fun i i0 hi => ?_, ⟨fun g hg => ?_, fun g hg => ?_, fun g x y => ?_⟩, fun k hk => ?_, fun k hk => ?_, ?_, ?_, ?_⟩, hm, fun c hc => new c (by omega)⟩
  · rw [c1, if_neg (by decide)]; exact p1
  · rw [c1, if_neg (by decide)]; exact p2
  · obtain ⟨z, z1, z2⟩ := p3 j hj
    refine ⟨z, z1, st_m6 z2 hm (Nat.le_refl _) (Nat.le_refl _) (fun c hc => lowc j c hj (by omega)) (by rw [d5, if_neg (by omega)]) (by rw [d7, if_neg (by omega)]) (by rw [d8, if_neg (by omega)]) (fun t _ _ _ => by rw [d4 39 (by decide) (by decide) (by decide) (by decide) (by decide) (by decide) (by decide) (by decide) (by decide) (by decide)])⟩
  · by_cases q : j = s
    · subst q
      unfold lj6
      rw [new 6 (by omega), new 7 (by omega), new 8 (by omega), c9, c8, d9, if_pos rfl, d6, if_pos rfl, d10, if_neg (fun y => by have := lt_ow y.2.1; have := y.2.2.2; omega), if_pos rfl, d11, if_neg (fun y => by have := lt_ow y.2.1; have := y.2.2.2; omega), if_pos rfl, d12, if_neg (fun y => by have := lt_la y.1; have := y.2; omega), if_pos rfl]
      refine ⟨⟨rfl, mbl⟩, ⟨rfl, mbl⟩, ⟨rfl, mbl⟩, ⟨rfl, ?_⟩, rfl, f, ⟨by omega, f10⟩, rfl⟩
      by_cases b0 : b = 0
      · exact Or.inl (ko0 b0)
      · obtain ⟨n, n1, n2, n3⟩ := p6 b (by omega) (by omega)
        rw [ho] at n2
        exact Or.inr ⟨n, n1, n2, by rw [r30 n n1]; exact n3⟩
    · have hj : j < s := by omega
      obtain ⟨l1, l2, l3, l4, l5⟩ := p4 j hj
      have k9 : ¬ tgC6 la ow (e.2.1 1013 b) (11 * j + 9) := ntg j 9 (by omega) (fun _ y => by omega) (fun _ _ y => by
        by_cases z : e.2.1 1013 b = 0
        · rw [if_pos z] at y; omega
        · rw [if_neg z] at y; omega)
      have k10 : ¬ tgC6 la ow (e.2.1 1013 b) (11 * j + 10) := ntg j 10 (by omega) (fun _ y => by omega) (fun _ _ y => by
        by_cases z : e.2.1 1013 b = 0
        · rw [if_pos z] at y; omega
        · rw [if_neg z] at y; omega)
      unfold lj6
      rw [old j 9 hj (by omega) k9, old j 10 hj (by omega) k10, d9, if_neg q, d6, if_neg q]
      refine ⟨?_, ?_, ?_, ⟨l4.1, ?_⟩, l5⟩
      · rw [d10, if_neg q]
        by_cases y : la = -1 ∧ ow ≠ -1 ∧ σ.2.2.1 45 b = 0 ∧ j = ow.toNatClampNeg
        · rw [if_pos y, c6 _ (by omega) (by omega) ((tg j 6 (by omega)).mpr (Or.inr ⟨y.1, y.2.1, by rw [hel, if_pos y.2.2.1], y.2.2.2⟩))]
          exact ⟨rfl, sbl⟩
        · rw [if_neg y, old j 6 hj (by omega) (ntg j 6 (by omega) (fun _ z => by omega) (fun z1 z2 z => y ⟨z1, z2, by
            by_cases w : e.2.1 1013 b = 0
            · rw [← hel]; exact w
            · rw [if_neg w] at z; omega, z.2⟩))]
          exact ⟨l1.1, bl_m6 l1.2 (by omega)⟩
      · rw [d11, if_neg q]
        by_cases y : la = -1 ∧ ow ≠ -1 ∧ σ.2.2.1 45 b ≠ 0 ∧ j = ow.toNatClampNeg
        · rw [if_pos y, c6 _ (by omega) (by omega) ((tg j 7 (by omega)).mpr (Or.inr ⟨y.1, y.2.1, by rw [hel, if_neg y.2.2.1], y.2.2.2⟩))]
          exact ⟨rfl, sbl⟩
        · rw [if_neg y, old j 7 hj (by omega) (ntg j 7 (by omega) (fun _ z => by omega) (fun z1 z2 z => y ⟨z1, z2, by
            intro w
            rw [← hel] at w
            rw [if_pos w] at z; omega, z.2⟩))]
          exact ⟨l2.1, bl_m6 l2.2 (by omega)⟩
      · rw [d12, if_neg q]
        by_cases y : la ≠ -1 ∧ j = la.toNatClampNeg
        · rw [if_pos y, c6 _ (by omega) (by omega) ((tg j 8 (by omega)).mpr (Or.inl ⟨y.1, rfl, y.2⟩))]
          exact ⟨rfl, sbl⟩
        · rw [if_neg y, old j 8 hj (by omega) (ntg j 8 (by omega) (fun z1 z => y ⟨z1, z.2⟩) (fun _ _ z => by
            by_cases w : e.2.1 1013 b = 0
            · rw [if_pos w] at z; omega
            · rw [if_neg w] at z; omega))]
          exact ⟨l3.1, bl_m6 l3.2 (by omega)⟩
      · rcases l4.2 with y | ⟨n, n1, n2, n3⟩
        · exact Or.inl y
        · exact Or.inr ⟨n, n1, n2, by rw [r30 n (by omega)]; exact n3⟩
  · rw [c4, d14]
    by_cases q : i = b
    · rw [if_pos q, if_pos q]; exact ⟨rfl, sbl⟩
    · rw [if_neg q, if_neg q]
      exact ⟨(p5 i hi).1, bl_m6 (p5 i hi).2 (by omega)⟩
  · obtain ⟨n, y1, y2, y3⟩ := p6 i i0 hi
    exact ⟨n, y1, by rw [← w0]; exact y2, by rw [r30 n y1]; exact y3⟩
  · rw [c3 505 (by decide) (by decide) (by decide), d4 27 (by decide) (by decide) (by decide) (by decide) (by decide) (by decide) (by decide) (by decide) (by decide) (by decide)]; exact p7 g hg
  · rw [c5, d13]
    by_cases q : la = -1 ∧ ow = -1 ∧ g = f
    · rw [if_pos q, if_pos q]; exact ⟨rfl, sbl⟩
    · rw [if_neg q, if_neg q]
      exact ⟨(p8 g hg).1, bl_m6 (p8 g hg).2 (by omega)⟩
  · rw [c5, if_neg (fun q => by have := q.2.2; omega)]; exact p9 g x y
  · rw [c3 500 (by decide) (by decide) (by decide), d4 21 (by decide) (by decide) (by decide) (by decide) (by decide) (by decide) (by decide) (by decide) (by decide) (by decide)]; exact p10 k hk
  · rw [c3 501 (by decide) (by decide) (by decide), c3 502 (by decide) (by decide) (by decide), d4 23 (by decide) (by decide) (by decide) (by decide) (by decide) (by decide) (by decide) (by decide) (by decide) (by decide), d4 24 (by decide) (by decide) (by decide) (by decide) (by decide) (by decide) (by decide) (by decide) (by decide) (by decide), f511]; exact p11 k hk
  · rw [f511, d1, if_neg (by decide)]; exact p12
  · rw [f511]; exact p13
  · rw [f511]; exact p14
end

end
