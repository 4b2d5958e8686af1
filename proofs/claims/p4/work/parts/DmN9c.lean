set_option maxHeartbeats 1600000
/-! named statements: calls, values -/
theorem ofU_5 {b : Nat} {x : Int32} (hx : x = Int32.ofNat (b + 1)) (hb : b ≤ 1000000) : x - 1 = Int32.ofNat b := by
  apply Int32.toInt_inj.mp
  have l1 := ofn_i (n := b + 1) (by omega)
  have l2 := ofn_i (n := b) (by omega)
  rw [hx, sub_i (by rw [t1i]; omega) (by rw [t1i]; omega), l1, l2, t1i]
  omega
theorem ep_5 {β : Type} {c : Int32} {e : E5} {k : E5 → Unit → R5 β} : rdB5 (f5_Pa_expect c e) (fun e1 _ => rdB5 (f5_Pa_take e1) k) = rdB5 (f5_Pa_pass c e) k := by
  unfold f5_Pa_expect f5_Pa_pass
  by_cases h : e.1 paKind = c
  · rw [if_pos h, if_pos h, rdl_5, rb_u5]
  · rw [if_neg h, if_neg h, rdr_5, rdr_5]
theorem no_m5 {a : Nat} (h : a ≤ 1000000) : ¬ Int32.ofNat a = -1 := fun q => by
  have y := congrArg Int32.toInt q
  rw [ofn_i (by omega)] at y
  have z : (-1 : Int32).toInt = -1 := rfl
  omega
section
variable {T : T5} {X : X5} {Bk N : Nat} {Z : Int32} {V : V5} {W : W5} {a a0 l b f t s tc : Nat} {e : E5} {σ : rS}
theorem lr_N5 (H : TR5 T X Bk N Z) (L : LR5 T X Bk N Z V W a l e σ) (hk : e.1 paKind ≠ 142) : a + 1 < N := by
  have z := H.2.2.2.1 a L.2.2.1.1
  have a4 := L.2.2.1.2.2.2.1
  have a5 := L.2.2.1.2.2.2.2
  have y : ¬ (a + 1 = N) := fun q => by
    rcases z.mpr q with w | w
    · exact hk (a4.trans w)
    · exact a5 w
  have := L.2.2.1.1
  omega
theorem lr_nx5 {c : Int32} (H : TR5 T X Bk N Z) (L : LR5 T X Bk N Z V W a l e σ) (h0 : 0 < c.toInt) (h1 : c.toInt < 128) (hN : a + 1 < N) : g5_isNext c σ = if T.2.1 (a + 1) = c then 1 else 0 := by
  have hh := H.1
  have es : σ.1 10 + 1 = Int32.ofNat (Bk + (a + 1)) := by rw [L.2.2.1.2.2.1, on_15 (by omega)]; rfl
  have e2 : sx5 σ = X := L.1.2.1
  have k := kd_s5 (H.2.2.1 (a + 1) hN) h0 h1
  have s1 : σ.2.2.1 5 (Bk + (a + 1)) = X.1 (Bk + (a + 1)) := by rw [← e2]; rfl
  have s2 : σ.2.2.1 7 (Bk + (a + 1)) = X.2.2.1 (Bk + (a + 1)) := by rw [← e2]; rfl
  unfold g5_isNext
  rw [es, cl_5 (by omega), s1, s2]
  by_cases q : T.2.1 (a + 1) = c
  · obtain ⟨q1, q2⟩ := k.mpr q
    rw [if_pos q, if_pos q1, if_pos q2]
  · rw [if_neg q]
    by_cases q1 : X.1 (Bk + (a + 1)) = 3
    · rw [if_pos q1, if_neg (fun q2 => q (k.mp ⟨q1, q2⟩))]
    · rw [if_neg q1]
theorem rst_45 {x : Int32} (J : jS5 T X Bk N b f t s V W) : ∀ i, i ≠ 11 * s + 4 → rst5 (Int32.ofNat s) 4 x V i = vrs5 V i := fun i hi => by
  show rst5 (Int32.ofNat s) (Int32.ofNat 4) x V i = vrs5 V i
  rw [rst_5 (s := s) (c := 4) (x := x) (V := V) J.2.1.2.1 (by omega) (by have := J.2.2; omega) (by decide)]
  exact if_neg hi
/-- a call's arguments -/
theorem sr_223 (H : TR5 T X Bk N Z) (J : jS5 T X Bk N b f t s V W) (L : LR5 T X Bk N Z V W (tc + 1) b e σ) (hE : vrs5 V (11 * s + 4) = 0) (h5 : vrs5 V (11 * s + 5) = Int32.ofNat tc) (h30 : w30_5 W s = 5) (hw : w32_5 W s = Int32.ofNat (Bk + tc)) (kt : T.2.1 tc = 140) (ha : a0 ≤ tc) : sr5 (fun e' _ σ' => eS5 T X Bk N Z a0 f t s e' σ') (f5_Pa_statement_223 (Int32.ofNat s) e) (g5_arguments σ) := by
  obtain ⟨e1, V1, z1, L1, J1, v1, k1⟩ := js_set (c := 0) (x := 5) (ci := 0) J L (by decide) rfl
  have hN := L.2.2.1.1
  unfold f5_Pa_statement_223
  rw [z1, rdl_5, b233_k J1 L1 (show vrs5 V1 (11 * s) = 5 by rw [v1, if_pos (by omega)]) (by decide)]
  refine sr_m5 (sr_args H J1 L1 (by rw [v1, if_neg (by omega)]; exact hE)) (fun e' _ Q => ?_)
  obtain ⟨a', R, h, L', hR, hc⟩ := Q
  have J' : jS5 T X Bk N b f t s (vr5 V1 R) W := by
    have q := js_v5 (R := R) (r30 := w30_5 W) (r32 := w32_5 W) J1 (fun i hi => hR i (by omega)) (fun _ _ => rfl) (fun _ _ => rfl)
    rw [ww_i5] at q
    exact q
  have r0 : R (11 * s) = 5 := by rw [hR _ (by omega), v1, if_pos (by omega)]
  have r5 : R (11 * s + 5) = Int32.ofNat tc := by rw [hR _ (by omega), v1, if_neg (by omega)]; exact h5
  exact ⟨a', b, by omega, js_e5 J' L' ⟨⟨fun _ => h30, fun _ => r0⟩, ⟨fun h => absurd (r0.symm.trans h) (by decide), fun h => absurd (h30.symm.trans h) (by decide)⟩, fun _ => ⟨tc, by omega, kt, r5, hw, hc⟩⟩⟩
theorem sr_244 {a3 : Int32} (H : TR5 T X Bk N Z) (J : jS5 T X Bk N b f t s V W) (L : LR5 T X Bk N Z V W a b e σ) (h2 : w30_5 W s = 2) (hw : w32_5 W s = Int32.ofNat (Bk + a)) (hE : vrs5 V (11 * s + 4) = 0) (h3 : a3 ≠ 0 ↔ vrs5 V (11 * s + 1) = 3) (ha : a0 ≤ a) : sr5 (fun e' _ σ' => eS5 T X Bk N Z a0 f t s e' σ') (rdB5 (f5_Pa_behindPlace_91 (Int32.ofNat s) 0 e) (fun e1 r2 => f5_Pa_statement_191 (Int32.ofNat s) 0 r2 e1)) (g5_tellNamed_244 (Int32.ofNat s) a3 σ) := by
  have hh := H.1
  have aN := L.2.2.1.1
  have cs : (Int32.ofNat s).toNatClampNeg = s := cl_5 (by have := J.2.2; omega)
  obtain ⟨e1, V1, z1, L1, J1, v1, k1⟩ := js_set (c := 0) (x := 0) (ci := 0) J L (by decide) rfl
  have c0 : vrs5 V1 (11 * s) = 0 := by rw [v1, if_pos (by omega)]
  have c1 : vrs5 V1 (11 * s + 1) = vrs5 V (11 * s + 1) := by rw [v1, if_neg (by omega)]
  have c4 : vrs5 V1 (11 * s + 4) = 0 := by rw [v1, if_neg (by omega)]; exact hE
  unfold f5_Pa_behindPlace_91
  rw [z1, rdl_5, if_pos rfl]
  unfold g5_tellNamed_244
  rw [pb_e5, pb_e5, lr_ir5 L, if_neg ne105]
  have b0 : f5_Pa_behindPlace_133 0 0 e1 = .inl (e1, -1) := by
    unfold f5_Pa_behindPlace_133 f5_Pa_behindPlace_159
    rw [if_pos rfl, if_neg (by decide), if_neg (by decide), if_neg (by decide), if_pos rfl]
  have D := sr_295 (a0 := a0) H J1 L1 c0 h2 ha
  obtain ⟨so, _, _⟩ := lr_so5 H L1
  have ko := (kd_o5 (lr_kd5 H L1)).2.1
  by_cases ck : e1.1 paKind = 140
  · by_cases c3 : a3 = 0
    · have hN := lr_N5 H L1 (by rw [ck]; decide)
      rw [if_pos ck, lr_cw5 (c := 1) (ci := 1) J1 L1 (by decide) rfl, c1, if_neg (fun h => (h3.mpr h) c3)]
      unfold f5_Pa_behindPlace_133
      rw [if_neg ne105, rdB_a5, if_pos c3, if_pos (so.trans (ko.mpr ck)), pb_e5, lr_nx5 H L1 (by decide) (by decide) hN]
      by_cases c40 : T.2.1 (a + 1) = 40
      · rw [if_pos c40, if_neg ne105, pb_e5, pb_e5, pb_e5, cs]
        obtain ⟨W2, L2, J2, w2, w2'⟩ := js_30 (x := 5) J1 L1
        generalize riU σ 30 s 5 = σ2 at L2 ⊢
        refine sr_b5 (sr_take H L2 (by rw [ck]; decide)) (fun e2 _ n2 Q2 => ?_) (kq_arguments kq_rf) (fun p e2 _ d => ?_)
        · obtain ⟨L3, _, _⟩ := Q2
          generalize g5_go σ2 = σ3 at L3 ⊢
          unfold f5_Pa_behindPlace_159
          rw [if_neg ne105, rdl_5, ofU_5 L3.2.2.1.2.1 (by omega)]
          obtain ⟨e3, V3, z3, L4, J4, v3, k3⟩ := js_set (c := 5) (x := Int32.ofNat a) (ci := 5) J2 L3 (by decide) rfl
          unfold f5_Pa_statement_191
          rw [z3, rdl_5, if_pos rfl, if_neg (no_m5 (by omega)), if_pos (show e3.1 paKind = 40 by rw [k3, L3.2.2.1.2.2.2.1]; exact c40)]
          exact sr_223 H J4 L4 (by rw [v3, if_neg (by omega)]; exact c4) (by rw [v3, if_pos (by omega)]) w2 (w2'.trans hw) ((lr_K5 L1).trans ck) ha
        · unfold f5_Pa_behindPlace_159
          rw [if_neg ne105, rdl_5]
          exact dq_191 d
      · rw [if_neg c40, if_pos rfl]
        unfold g5_tellNamed_295
        rw [pm_e5, pb_e5]
        refine sr_b5 (sr_take H L1 (by rw [ck]; decide)) (fun e2 _ n2 Q2 => ?_) ?_ (fun p e2 _ d => ?_)
        · obtain ⟨L3, _, _⟩ := Q2
          unfold f5_Pa_behindPlace_159
          rw [if_neg ne105, rdl_5, ofU_5 L3.2.2.1.2.1 (by omega)]
          obtain ⟨e3, V3, z3, L4, J4, v3, k3⟩ := js_set (c := 5) (x := Int32.ofNat a) (ci := 5) J1 L3 (by decide) rfl
          have c03 : vrs5 V3 (11 * s) = 0 := by rw [v3, if_neg (by omega)]; exact c0
          unfold f5_Pa_statement_191
          rw [z3, rdl_5, if_pos rfl, if_neg (no_m5 (by omega)), if_neg (show ¬ e3.1 paKind = 40 by rw [k3, L3.2.2.1.2.2.2.1]; exact c40), b233_0 J4 L4 c03, show vrs5 V3 (11 * s + 5) = Int32.ofNat a by rw [v3, if_pos (by omega)]]
          exact sr_xt5 H J4 (sr_exprT (s := Int32.ofNat s) H J4.1.1 (HI_O5 J4.1) L1 ck L4) (rst_45 J4) c03 h2 ha
        · rw [ge_T5 H L1 ck]
          exact kq_sign (kq_cont (kq_nmd (kq_si (by decide) (by decide) (kq_si (by decide) (by decide) kq_rf))))
        · unfold f5_Pa_behindPlace_159
          rw [if_neg ne105, rdl_5]
          exact dq_191 d
    · rw [if_pos ck, lr_cw5 (c := 1) (ci := 1) J1 L1 (by decide) rfl, c1, if_pos (h3.mp c3), b0, rdl_5, if_neg c3]
      exact D
  · rw [if_neg ck, b0, rdl_5]
    by_cases c3 : a3 = 0
    · rw [if_pos c3, if_neg (fun h => ck (ko.mp (so.symm.trans h)))]
      exact D
    · rw [if_neg c3]
      exact D
/-- behind the sign of a value -/
def q175_5 (a1 : Int32) (a3 : Int32) (σ1 : rS) : rS := pb5 (riU σ1 32 (a1).toNatClampNeg (σ1.1 10)) (fun σ3 => pb5 (g5_isRight σ3) (fun r5 => (if r5 = 0 then (g5_tellNamed_244 (a1) (a3) (σ3)) else pb5 (g5_isWord ((13 : Int32)) σ3) (fun r7 => (if r7 = 0 then (g5_tellNamed_244 (a1) (a3) (σ3)) else pb5 (riU σ3 30 (a1).toNatClampNeg (4 : Int32)) (fun σ8 => pb5 (g5_go σ8) (fun σ9 => pb5 (g5_open ((40 : Int32)) σ9) (fun σ11 => pm5 (g5_expression σ11) (fun σ13 r14 => pb5 (g5_close ((41 : Int32)) σ13) (fun σ15 => pb5 (g5_sign ((59 : Int32)) σ15) (fun σ17 => σ17)))))))))))
theorem t175_5 {a1 a3 : Int32} : g5_tellNamed_175 a1 a3 σ = q175_5 a1 a3 (g5_sign 61 σ) := by
  unfold g5_tellNamed_175 q175_5
  rw [pb_e5]
theorem kq_q175 {s9 : rS} {a1 a3 : Int32} (h : kq5 s9 σ) : kq5 s9 (q175_5 a1 a3 σ) := by
  unfold q175_5
  refine kq_pb (kq_pb (kq_if (kq_tellNamed_244 (kq_ri h)) (kq_pb (kq_if (kq_tellNamed_244 (kq_ri h)) (kq_pb (kq_pb (kq_pb (kq_pm (kq_pb (kq_pb ?_)))))))))) 
  exact kq_sign (kq_close (kq_expression (kq_open (kq_go (kq_ri (kq_ri h))))))
theorem sr_asg {a3 : Int32} (H : TR5 T X Bk N Z) (J : jS5 T X Bk N b f t s V W) (L : LR5 T X Bk N Z V W a b e σ) (h2 : w30_5 W s = 2) (hE : vrs5 V (11 * s + 4) = 0) (h3 : a3 ≠ 0 ↔ vrs5 V (11 * s + 1) = 3) (ha : a0 ≤ a) : sr5 (fun e' _ σ' => eS5 T X Bk N Z a0 f t s e' σ') (rdB5 (f5_Pa_behindPlace_14 (Int32.ofNat s) 0 e) (fun e1 r2 => f5_Pa_statement_191 (Int32.ofNat s) 0 r2 e1)) (g5_tellNamed_175 (Int32.ofNat s) a3 σ) := by
  have cs : (Int32.ofNat s).toNatClampNeg = s := cl_5 (by have := J.2.2; omega)
  rw [t175_5]
  unfold f5_Pa_behindPlace_14
  rw [if_pos rfl]
  unfold f5_Pa_behindPlace_25
  rw [ep_5, rdB_a5]
  refine sr_b5 (sr_pass H L (by decide) (by decide)) (fun e1 _ n1 Q1 => ?_) (kq_q175 kq_rf) (fun p e1 _ d => ?_)
  · obtain ⟨L1, _, _⟩ := Q1
    generalize g5_sign 61 σ = σ1 at L1 ⊢
    unfold q175_5
    rw [pb_e5, cs]
    obtain ⟨W2, L2, J2, w2, w2'⟩ := js_32 (x := σ1.1 10) J L1
    have hw : w32_5 W2 s = Int32.ofNat (Bk + (a + 1)) := w2'.trans L1.2.2.1.2.2.1
    generalize riU σ1 32 s (σ1.1 10) = σ2 at L2 ⊢
    rw [pb_e5, lr_ir5 L2, if_neg ne105, pb_e5, lr_wk5 H L2 (k := 162) (by decide) (by decide) rfl, if_pos (show (0 : Int32) = 0 from rfl)]
    by_cases c : e1.1 paKind = 162
    · rw [if_pos c, if_pos c, if_neg ne105, pb_e5, pb_e5, pb_e5, pm_e5, pb_e5, pb_e5]
      obtain ⟨W3, L3, J3, w3, _⟩ := js_30 (x := 4) J2 L2
      generalize riU σ2 30 s 4 = σ3 at L3 ⊢
      obtain ⟨e2, V4, z4, L4, J4, v4, k4⟩ := js_set (c := 0) (x := 4) (ci := 0) J3 L3 (by decide) rfl
      unfold f5_Pa_behindPlace_91
      rw [z4, rdl_5, if_neg (by decide)]
      unfold f5_Pa_behindPlace_133
      rw [if_pos rfl, if_neg (by decide), if_neg (by decide), if_pos rfl, rdB_a5]
      refine sr_b5 (sr_take H L4 (by rw [k4, c]; decide)) (fun e5 _ n5 Q5 => ?_) (kq_sign (kq_close (kq_expression (kq_open kq_rf)))) (fun p e5 _ d => ?_)
      · obtain ⟨L5, _, _⟩ := Q5
        generalize g5_go σ3 = σ5 at L5 ⊢
        unfold f5_Pa_behindPlace_159
        rw [if_pos rfl, rdl_5]
        obtain ⟨e6, V6, z6, L6, J6, v6, _⟩ := s191_m J4 L5
        have h4 : vrs5 V6 (11 * s) = 4 := by rw [v6, if_neg (by omega), v4, if_pos (by omega)]
        rw [z6, b233_k J6 L6 h4 (by decide)]
        exact sr_m5 (sr_fin1 H J6 L6 (by decide) (by decide) (by decide)) (fun e' _ D => dP_e5 J6 D (by rw [h4]; decide) (by rw [w3]; decide) (by rw [h4]; decide) (by rw [w3]; decide) (by omega))
      · unfold f5_Pa_behindPlace_159
        rw [if_pos rfl, rdl_5]
        exact dq_191 d
    · rw [if_neg c, if_neg c, if_pos (show (0 : Int32) = 0 from rfl)]
      exact sr_244 H J2 L2 (w2.trans h2) hw hE h3 (by omega)
  · rw [if_pos rfl]
    refine dq_b5 (m := if e1.1 paKind = 162 then f5_Pa_behindPlace_91 (Int32.ofNat s) 4 e1 else f5_Pa_behindPlace_91 (Int32.ofNat s) 0 e1) (dq_n5 d (by decide) (dq_91 d)) (fun e9 _ d9 => dq_191 d9)
end
