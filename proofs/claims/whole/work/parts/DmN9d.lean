section
set_option maxHeartbeats 1600000
/-! named statements whole -/
section
variable {T : T5} {X : X5} {Bk N : Nat} {Z : Int32} {V : V5} {W : W5} {a a0 l b f t s tv : Nat} {e : E5} {σ : rS}
theorem js_pl {x y : Int32} (J : jS5 T X Bk N b f t s V W) (L : LR5 T X Bk N Z V W a l e σ) : ∃ (e' : E5) (V' : V5), f5_Pa_setPlace (Int32.ofNat s) x y e = .inl (e', ()) ∧ LR5 T X Bk N Z V' W a l e' σ ∧ jS5 T X Bk N b f t s V' W ∧ vrs5 V' (11 * s + 1) = x ∧ vrs5 V' (11 * s + 4) = vrs5 V (11 * s + 4) ∧ e'.1 = e.1 := by
  obtain ⟨e1, V1, z1, L1, J1, v1, k1⟩ := js_set (c := 1) (x := x) (ci := 1) J L (by decide) rfl
  obtain ⟨e2, V2, z2, L2, J2, v2, k2⟩ := js_set (c := 2) (x := y) (ci := 2) J1 L1 (by decide) rfl
  refine ⟨e2, V2, ?_, L2, J2, ?_, ?_, k2.trans k1⟩
  · unfold f5_Pa_setPlace
    rw [z1, rdl_5, z2, rdl_5]
  · rw [v2, if_neg (by omega), v1, if_pos (by omega)]
  · rw [v2, if_neg (by omega), v1, if_neg (by omega)]
theorem dq_pl5 {p x y z : Int32} {e : E5} (d : dk5 p e) : dq5 p (f5_Pa_setPlace x y z e) := by
  unfold f5_Pa_setPlace
  exact dq_b5 (dq_sc5 d) (fun _ _ d1 => dq_b5 (dq_sc5 d1) (fun _ _ d2 => dq_i5 d2))
theorem sr_bp5 {x a3 : Int32} (H : TR5 T X Bk N Z) (J : jS5 T X Bk N b f t s V W) (L : LR5 T X Bk N Z V W a b e σ) (h2 : w30_5 W s = 2) (hE : vrs5 V (11 * s + 4) = 0) (h3 : a3 ≠ 0 ↔ vrs5 V (11 * s + 1) = 3) (h1 : vrs5 V (11 * s + 1) ≠ 0) (ha : a0 ≤ a) : sr5 (fun e' _ σ' => eS5 T X Bk N Z a0 f t s e' σ') (f5_Pa_statement_151 (Int32.ofNat s) x e) (g5_tellNamed_133 (Int32.ofNat s) a3 σ) := by
  have cs : (Int32.ofNat s).toNatClampNeg = s := cl_5 (by have := J.2.2; omega)
  have z : f5_Pa_statement_151 (Int32.ofNat s) x e = f5_Pa_statement_177 (Int32.ofNat s) x 0 e := by
    unfold f5_Pa_statement_151
    by_cases c : e.1 paKind = 40
    · rw [if_pos c, pb_e5, lr_cw5 (c := 1) (ci := 1) J L (by decide) rfl, if_neg h1]
    · rw [if_neg c]
  rw [z]
  unfold g5_tellNamed_133
  rw [pb_e5, lr_ir5 L, if_neg ne105, pb_e5, lr_at5 H L (by decide) (by decide)]
  by_cases c : e.1 paKind = 126
  · rw [if_pos c, if_neg ne105, pb_e5, pb_e5, pb_e5, pb_e5, cs]
    exact sr_draw H J L c ha
  · rw [if_neg c, if_pos rfl]
    unfold f5_Pa_statement_177
    rw [if_pos rfl]
    unfold f5_Pa_behindPlace
    rw [if_neg c]
    exact sr_asg H J L h2 hE h3 ha
theorem sr_104 {tok : Int32} (H : TR5 T X Bk N Z) (J : jS5 T X Bk N b f t s V W) (L : LR5 T X Bk N Z V W a b e σ) (h2 : w30_5 W s = 2) (hE : vrs5 V (11 * s + 4) = 0) (ht : tv < N) (kt : T.2.1 tv = 140) (htok : tok = Int32.ofNat (Bk + tv)) (ha : a0 ≤ a) : sr5 (fun e' _ σ' => eS5 T X Bk N Z a0 f t s e' σ') (f5_Pa_statement_104 (Int32.ofNat s) (Int32.ofNat tv) e) (g5_tellNamed_90 (Int32.ofNat s) tok 0 σ) := by
  unfold f5_Pa_statement_104 g5_tellNamed_90
  rw [if_pos (show (0 : Int32) = 0 from rfl), pb_e5]
  unfold g5_tellNamed_109
  rw [pb_e5, if_pos (show (0 : Int32) = 0 from rfl)]
  refine sr_b5 (sr_findVariable H L J.1.1 (HI_O5 J.1) ht kt htok) (fun e1 r n1 Q1 => ?_) (kq_tellNamed_133 kq_rf) (fun p e1 r d => ?_)
  · obtain ⟨L1, _, _⟩ := Q1
    generalize g5_look tok (g5_variableOf tok σ) σ = σ1 at L1 ⊢
    have st : ∃ (x y : Int32), (x = 1 ∨ x = 2) ∧ (if r < 0 then f5_Pa_statement_121 (Int32.ofNat s) (Int32.ofNat tv) r (Int32.ofNat s) 1 e1 else f5_Pa_statement_121 (Int32.ofNat s) (Int32.ofNat tv) r (Int32.ofNat s) 2 e1) = rdB5 (f5_Pa_setPlace (Int32.ofNat s) x y e1) (fun e4 _ => f5_Pa_statement_151 (Int32.ofNat s) (Int32.ofNat tv) e4) := by
      unfold f5_Pa_statement_121
      by_cases c : r < 0
      · refine ⟨1, f5_Ta_findName (tq5 e1) (e1.2.1 paVarNames) (e1.2.2 paVarNames) (e1.1 coVars) (Int32.ofNat tv), Or.inl rfl, ?_⟩
        rw [if_pos c, if_pos c, pb_e5]
      · refine ⟨2, r, Or.inr rfl, ?_⟩
        rw [if_neg c, if_neg c]
    obtain ⟨x, y, hx, z⟩ := st
    rw [z]
    obtain ⟨e2, V2, z2, L2, J2, p1, p4, _⟩ := js_pl (x := x) (y := y) J L1
    rw [z2, rdl_5]
    refine sr_bp5 H J2 L2 h2 (p4.trans hE) ?_ ?_ ha
    · rw [p1]
      rcases hx with rfl | rfl
      · exact ⟨fun h => absurd rfl h, fun h => absurd h (by decide)⟩
      · exact ⟨fun h => absurd rfl h, fun h => absurd h (by decide)⟩
    · rw [p1]
      rcases hx with rfl | rfl
      · decide
      · decide
  · unfold f5_Pa_statement_121
    dsimp only [pb5]
    exact dq_f5 (dq_f5 (dq_b5 (dq_pl5 d) (fun _ _ d1 => dq_151 d1)) (dq_b5 (dq_pl5 d) (fun _ _ d1 => dq_151 d1))) (dq_f5 (dq_b5 (dq_pl5 d) (fun _ _ d1 => dq_151 d1)) (dq_b5 (dq_pl5 d) (fun _ _ d1 => dq_151 d1)))
theorem sr_arr5 {tok : Int32} (H : TR5 T X Bk N Z) (J : jS5 T X Bk N b f t s V W) (L : LR5 T X Bk N Z V W a b e σ) (h2 : w30_5 W s = 2) (hE : vrs5 V (11 * s + 4) = 0) (ht : tv < N) (kt : T.2.1 tv = 140) (htok : tok = Int32.ofNat (Bk + tv)) (ha : a0 ≤ a) : sr5 (fun e' _ σ' => eS5 T X Bk N Z a0 f t s e' σ') (rdB5 (f5_Pa_findArray (Int32.ofNat tv) e) (fun e6 r7 => rdB5 (f5_Pa_setPlace (Int32.ofNat s) 3 r7 e6) (fun e9 _ => rdB5 (f5_Pa_openSign 91 e9) (fun e13 _ => rdB5 (f5_Pa_expression (-1) (-1) e13) (fun e17 _ => rdB5 (f5_Pa_closeSign 93 e17) (fun e21 _ => f5_Pa_statement_151 (Int32.ofNat s) (Int32.ofNat tv) e21)))))) (g5_tellNamed_90 (Int32.ofNat s) tok 1 σ) := by
  unfold g5_tellNamed_90
  rw [if_neg ne105, pb_e5]
  unfold g5_tellNamed_109
  rw [pb_e5, if_neg ne105, pb_e5, pm_e5, pb_e5]
  have kA : ∀ {s9 σ9 : rS}, kq5 s9 σ9 → kq5 s9 (g5_tellNamed_133 (Int32.ofNat s) 1 (g5_close 93 σ9)) := fun h => kq_tellNamed_133 (kq_close h)
  refine sr_b5 (sr_findArray H L J.1.1 ht kt htok) (fun e1 r n1 Q1 => ?_) (kA (kq_expression (kq_open kq_rf))) (fun p e1 r d => dq_b5 (dq_pl5 d) (fun _ _ d1 => dq_x5 (dx_open d1 (by decide))))
  obtain ⟨L1, _, _⟩ := Q1
  generalize g5_look tok (g5_arrayOf tok σ) σ = σ1 at L1 ⊢
  obtain ⟨e2, V2, z2, L2, J2, p1, p4, _⟩ := js_pl (x := 3) (y := r) J L1
  rw [z2, rdl_5]
  refine sr_b5 (sr_open H L2 (by decide) (by decide)) (fun e3 _ n3 Q3 => ?_) (kA (kq_expression kq_rf)) (fun p e3 _ d => dq_b5 (dq_expr d) (fun _ _ d1 => dq_x5 (dx_close d1 (by decide))))
  obtain ⟨L3, _, _⟩ := Q3
  generalize g5_open 91 σ1 = σ3 at L3 ⊢
  have E := sr_expr (s := -1) H J2.1.1 (HI_O5 J2.1) L3
  rw [show rst5 (-1) 4 (cl5 (-1) 4 e3 + 1) V2 = vrs5 V2 from if_pos (by decide), vr_i5] at E
  generalize (g5_expression σ3).1 = σ4 at E ⊢
  refine xb_5 E (fun e4 a' n4 L4 h4 _ => ?_) (kA kq_rf) (fun p e4 d => dq_x5 (dx_close d (by decide))) (fun a' d => ?_)
  · refine sr_b5 (sr_close H L4 (by decide) (by decide)) (fun e5 _ n5 Q5 => ?_) (kq_tellNamed_133 kq_rf) (fun p e5 _ d => dq_151 d)
    obtain ⟨L5, _, _⟩ := Q5
    exact sr_bp5 H J2 L5 h2 (p4.trans hE) (by rw [p1]; exact ⟨fun _ => rfl, fun _ => by decide⟩) (by rw [p1]; decide) (by omega)
  · obtain ⟨f1, f2⟩ := dc_close (c := 93) H d (by decide) (by decide) (by decide)
    obtain ⟨g1, g2⟩ := kq_tellNamed_133 (a1 := Int32.ofNat s) (a3 := 1) (kq_rf (s := g5_close 93 σ4)) (by rw [f1]; decide)
    exact ⟨g1.trans f1, g2.trans f2⟩
/-- the reference behind a name -/
def tlM5 (r2 v2_3 : Int32) (σ4 : rS) : rS := pb5 (g5_isRight σ4) (fun r7 => (if r7 = 0 then σ4 else pb5 (g5_isAt ((40 : Int32)) σ4) (fun r9 => (if r9 = 0 then pb5 (g5_isAt ((91 : Int32)) σ4) (fun r11 => (if r11 = 0 then pb5 (g5_isAt ((61 : Int32)) σ4) (fun r13 => (if r13 = 0 then pb5 (g5_isAt ((126 : Int32)) σ4) (fun r15 => (if r15 = 0 then pb5 (g5_flaw ((2 : Int32)) ((σ4.1 10)) σ4) (fun σ16 => σ16) else (g5_tellNamed_90 (r2) (v2_3) (r11) (σ4)))) else (g5_tellNamed_90 (r2) (v2_3) (r11) (σ4)))) else (g5_tellNamed_90 (r2) (v2_3) (r11) (σ4)))) else pb5 (riU σ4 30 (r2).toNatClampNeg (5 : Int32)) (fun σ18 => pb5 (riU σ18 32 (r2).toNatClampNeg v2_3) (fun σ19 => pb5 (g5_arguments σ19) (fun σ20 => σ20)))))))
theorem tlM_5 : g5_tellNamed σ = tlM5 (g5_newStatement 2 σ).2 ((g5_newStatement 2 σ).1.1 10) (g5_go (g5_newStatement 2 σ).1) := by
  unfold g5_tellNamed tlM5
  rw [pm_e5, pb_e5, pb_e5]
theorem kq_tlM {s9 : rS} {x y : Int32} (h : kq5 s9 σ) : kq5 s9 (tlM5 x y σ) := by
  unfold tlM5
  refine kq_pb (kq_if h (kq_pb (kq_if (kq_pb (kq_if (kq_pb (kq_if (kq_pb (kq_if (kq_pb (kq_flaw h)) (kq_tellNamed_90 h))) (kq_tellNamed_90 h))) (kq_tellNamed_90 h))) (kq_pb (kq_pb (kq_pb ?_))))))
  exact kq_arguments (kq_ri (kq_ri h))
theorem sr_named (H : TR5 T X Bk N Z) (J : jS5 T X Bk N b f t s V W) (L : LR5 T X Bk N Z V W a b e σ) (hk : e.1 paKind = 140) (h2 : w30_5 W s = 2) (hE : vrs5 V (11 * s + 4) = 0) (h1 : vrs5 V (11 * s + 1) = 0) : sr5 (fun e' _ σ' => eS5 T X Bk N Z a f t s e' σ') (f5_Pa_statement (Int32.ofNat s) e) (tlM5 (Int32.ofNat s) (σ.1 10) (g5_go σ)) := by
  have cs : (Int32.ofNat s).toNatClampNeg = s := cl_5 (by have := J.2.2; omega)
  have hN := L.2.2.1.1
  have kt : T.2.1 a = 140 := (lr_K5 L).trans hk
  unfold f5_Pa_statement
  rw [if_neg (show ¬ e.1 paKind = 153 by rw [hk]; decide), if_pos hk, pb_e5, L.2.2.1.2.1, L.2.2.1.2.2.1]
  refine sr_b5 (sr_take H L (by rw [hk]; decide)) (fun e2 _ n2 Q2 => ?_) (kq_tlM kq_rf) (fun p e2 _ d => dq_n5 d (by decide) (dq_n5 d (by decide) (dq_n5 d (by decide) (dq_151 d))))
  obtain ⟨L2, _, _⟩ := Q2
  generalize g5_go σ = σ2 at L2 ⊢
  unfold tlM5
  rw [pb_e5, lr_ir5 L2, if_neg ne105, pb_e5, lr_at5 H L2 (c := 40) (by decide) (by decide)]
  by_cases c40 : e2.1 paKind = 40
  · rw [if_pos c40, if_neg ne105, if_neg (show ¬ e2.1 paKind = 91 by rw [c40]; decide), if_neg (show ¬ e2.1 paKind = 61 by rw [c40]; decide), if_neg (show ¬ e2.1 paKind = 126 by rw [c40]; decide), pb_e5, pb_e5, pb_e5, cs]
    unfold f5_Pa_statement_151
    rw [if_pos c40, pb_e5, lr_cw5 (c := 1) (ci := 1) J L2 (by decide) rfl, if_pos h1]
    unfold f5_Pa_statement_177
    rw [if_neg ne105]
    obtain ⟨W3, L3, J3, w3, _⟩ := js_30 (x := 5) J L2
    obtain ⟨W4, L4, J4, w4, w4'⟩ := js_32 (x := Int32.ofNat (Bk + a)) J3 L3
    generalize riU (riU σ2 30 s 5) 32 s (Int32.ofNat (Bk + a)) = σ4 at L4 ⊢
    obtain ⟨e5, V5', z5, L5, J5, v5, k5⟩ := js_set (c := 5) (x := Int32.ofNat a) (ci := 5) J4 L4 (by decide) rfl
    unfold f5_Pa_statement_191
    rw [z5, rdl_5, if_neg ne105]
    exact sr_223 H J5 L5 (by rw [v5, if_neg (by omega)]; exact hE) (by rw [v5, if_pos (by omega)]) (w4.trans w3) w4' kt (by omega)
  · rw [if_neg c40, if_pos rfl, pb_e5, lr_at5 H L2 (c := 91) (by decide) (by decide)]
    by_cases c91 : e2.1 paKind = 91
    · rw [if_pos c91, if_pos c91, if_neg ne105]
      exact sr_arr5 H J L2 h2 hE hN kt rfl (by omega)
    · rw [if_neg c91, if_neg c91, if_pos rfl, pb_e5, lr_at5 H L2 (c := 61) (by decide) (by decide)]
      by_cases c61 : e2.1 paKind = 61
      · rw [if_pos c61, if_pos c61, if_neg ne105]
        exact sr_104 H J L2 h2 hE hN kt rfl (by omega)
      · rw [if_neg c61, if_neg c61, if_pos rfl, pb_e5, lr_at5 H L2 (c := 126) (by decide) (by decide)]
        by_cases c126 : e2.1 paKind = 126
        · rw [if_pos c126, if_pos c126, if_neg ne105]
          exact sr_104 H J L2 h2 hE hN kt rfl (by omega)
        · rw [if_neg c126, if_neg c126, if_pos rfl, pb_e5]
          unfold f5_Pa_statement_151
          rw [if_neg c40]
          unfold f5_Pa_statement_177
          rw [if_pos rfl]
          unfold f5_Pa_behindPlace
          rw [if_neg c126]
          unfold f5_Pa_behindPlace_14
          rw [if_pos rfl]
          unfold f5_Pa_expect
          rw [if_neg c61, lr_rva5 H L2, rdr_5, rdr_5]
          exact sr_r5 (by decide) (lr_fl5 H L2).1 (lr_fl5 H L2).2
end

end
section
set_option maxHeartbeats 1600000
/-! a block ends -/
section
variable {T : T5} {X : X5} {Bk N : Nat} {Z : Int32} {a b f t s : Nat} {e : E5} {σ : rS}
theorem bl_f5 {x : Int32} {e : E5} : ∃ e' : E5, stI5 paBlocks x e = .inl (e', ()) ∧ gE5 e' = (e.1 509, e.2.1 1006, e.1 510, e.2.1 1007, e.1 512, e.2.1 1008, e.2.1 504, e.1 1010, e.2.1 1009, e.1 513, e.2.1 506, x, e.2.1 1011, e.2.1 1013, e.1 1005, e.2.2) ∧ e'.2 = e.2 ∧ tq5 e' = tq5 e ∧ (e'.1 paAt = e.1 paAt ∧ e'.1 paKind = e.1 paKind ∧ e'.1 paOpen = e.1 paOpen) ∧ e'.1 coStatements = e.1 coStatements := ⟨_, rfl, rfl, rfl, rfl, ⟨rfl, rfl, rfl⟩, rfl⟩
theorem br_f5 {x : Int32} {σ : rS} : ∃ σ' : rS, siU σ 42 x = σ' ∧ gS5 σ' = (σ.1 15, σ.2.2.1 20, σ.1 16, σ.2.2.1 22, σ.1 18, σ.2.2.1 25, σ.2.2.1 26, σ.2.2.1 27, σ.2.2.1 28, σ.1 41, σ.1 19, σ.2.2.1 30, σ.2.2.1 32, x, σ.2.2.1 43, σ.2.2.1 45) ∧ sx5 σ' = sx5 σ ∧ (σ'.1 2 = σ.1 2 ∧ σ'.1 10 = σ.1 10 ∧ σ'.1 11 = σ.1 11 ∧ σ'.1 46 = σ.1 46 ∧ σ'.1 47 = σ.1 47 ∧ σ'.1 13 = σ.1 13) := ⟨_, rfl, rfl, rfl, rfl, rfl, rfl, rfl, rfl, rfl⟩
theorem of_s5 {b : Nat} {x : Int32} (hx : x = Int32.ofNat (b + 1)) (hb : b ≤ 1000) : x - 1 = Int32.ofNat b := by
  apply Int32.toInt_inj.mp
  have l1 := ofn_i (n := b + 1) (by omega)
  have l2 := ofn_i (n := b) (by omega)
  rw [hx, sub_i (by rw [t1i]; omega) (by rw [t1i]; omega), l1, l2, t1i]
  omega
theorem sr_endB (H : TR5 T X Bk N Z) (h : iS5 T X Bk N Z a (b + 1) f t s s e σ) (hb : 0 < b) : sr5 (fun e' _ σ' => ∃ a' b', a < a' ∧ iS5 T X Bk N Z a' b' f t s s e' σ') (f5_Pa_closeBlock e) (g5_endBlock σ) := by
  obtain ⟨L, ⟨G, ⟨w, O⟩, nc, fn, hi, bK, b0⟩, S⟩ := h
  have b40 : b + 1 ≤ 40 := by have := L.2.2.2.2.2; omega
  obtain ⟨k1, k2, k3⟩ := bK
  have s42 : σ.1 42 = Int32.ofNat (b + 1) := k2
  have e14 : e.1 paBlocks = Int32.ofNat (b + 1) := k1
  have c42 : (σ.1 42 - 1).toNatClampNeg = b := by rw [of_s5 s42 (by omega), cl_5 (by omega)]
  obtain ⟨q1, q2, _, q4⟩ := k3 b (by omega)
  obtain ⟨o, o1, o2⟩ := q4 hb
  have r43 : σ.2.2.1 43 b = Int32.ofNat o := by
    have z : e.2.1 1011 b = σ.2.2.1 43 b := q1
    rw [← z]; exact o2
  have r45 : e.2.1 1013 b = σ.2.2.1 45 b := q2
  have r11 : e.2.1 1011 b = Int32.ofNat o := o2
  unfold g5_endBlock f5_Pa_closeBlock
  rw [pb_e5, pb_e5, pb_e5, pb_e5, pb_e5, c42, r43]
  obtain ⟨σ1, u1, u2, u3, u4⟩ := br_f5 (x := σ.1 42 - 1) (σ := σ)
  rw [u1]
  have L1 : LR5 T X Bk N Z (gE5 e) (gS5 σ1) a (b + 1) e σ1 := lr_V5 L rfl ⟨rfl, rfl, rfl⟩ u3 u4
  refine sr_b5 (sr_close H L1 (by decide) (by decide)) (fun e1 _ n1 Q1 => ?_) ?_ (fun p e1 _ d => ?_)
  · obtain ⟨L2, tF, _⟩ := Q1
    generalize g5_close 125 σ1 = σ2 at L2 ⊢
    have hV := L2.2.1.1
    have hW := L2.2.1.2
    have e1b : e1.1 paBlocks = Int32.ofNat (b + 1) := (tF.2 1014 (by decide) (by decide) (by decide)).trans e14
    have lb := ofn_i (n := b + 1) (by omega)
    rw [if_neg (show ¬ e1.1 paBlocks ≤ 0 by rw [e1b, lei, lb, t0i]; omega), lr_ir5 L2, if_neg ne105]
    unfold f5_Pa_closeBlock_24
    obtain ⟨e2, v1, v2, v3, v4, v5, v6⟩ := bl_f5 (x := e1.1 paBlocks - 1) (e := e1)
    rw [v1, rdl_5, pb_e5]
    have w2 : gE5 e2 = (e.1 509, e.2.1 1006, e.1 510, e.2.1 1007, e.1 512, e.2.1 1008, e.2.1 504, e.1 1010, e.2.1 1009, e.1 513, e.2.1 506, Int32.ofNat b, e.2.1 1011, e.2.1 1013, e.1 1005, e.2.2) := by
      rw [v2, of_s5 e1b (by omega), tF.1, tF.2 509 (by decide) (by decide) (by decide), tF.2 510 (by decide) (by decide) (by decide), tF.2 512 (by decide) (by decide) (by decide), tF.2 1010 (by decide) (by decide) (by decide), tF.2 513 (by decide) (by decide) (by decide), tF.2 1005 (by decide) (by decide) (by decide)]
    have x2 : gS5 σ2 = (σ.1 15, σ.2.2.1 20, σ.1 16, σ.2.2.1 22, σ.1 18, σ.2.2.1 25, σ.2.2.1 26, σ.2.2.1 27, σ.2.2.1 28, σ.1 41, σ.1 19, σ.2.2.1 30, σ.2.2.1 32, Int32.ofNat b, σ.2.2.1 43, σ.2.2.1 45) := by
      rw [hW, u2, of_s5 s42 (by omega)]
    have eb : (e2.1 paBlocks).toNatClampNeg = b := by
      have z : e2.1 1014 = Int32.ofNat b := congrArg (fun V : V5 => vbl5 V) w2
      rw [show e2.1 paBlocks = Int32.ofNat b from z, cl_5 (by omega)]
    have er : e2.2 = e.2 := v3.trans tF.1
    have hi2 : HI5 T Bk N f t b s (gE5 e2) (gS5 σ2) := by
      refine ⟨?_, ⟨w, ?_⟩, ?_, ?_, ?_, ⟨by rw [w2], by rw [x2], fun j hj => ?_⟩, hb⟩
      · exact nG_k5 G (by rw [w2]; rfl) (by rw [w2]; rfl) (by rw [w2]; rfl) (by rw [w2]; rfl) (by rw [w2]; rfl) (fun v k _ _ _ => by rw [w2]; rfl) (fun v k _ _ _ => by rw [w2]; rfl) (by rw [w2]; rfl) (by rw [x2]; rfl) (by rw [x2]; rfl) (by rw [x2]; rfl) (by rw [x2]; rfl) (by rw [x2]; rfl) (by rw [x2]; rfl) (fun v k _ _ _ => by rw [x2]; rfl)
      · exact fO_k5 O (by rw [w2]; rfl) (by rw [w2]; rfl) (by rw [w2]; rfl) (by rw [x2]; rfl) (by rw [x2]; rfl) (by rw [x2]; rfl)
      · rw [w2, x2]; exact nc
      · rw [w2]; exact fn
      · rw [w2]; exact hi
      · rw [w2, x2]; exact k3 j (by omega)
    have S2 : SS5 T X Bk N s s (gE5 e2) (gS5 σ2) := SS_k5 S (by rw [w2]; rfl) (by rw [w2]; rfl) (by rw [x2]; rfl) (by rw [x2]; rfl) (by rw [x2]; rfl)
    have L3 : LR5 T X Bk N Z (gE5 e2) (gS5 σ2) (a + 1) b e2 σ2 := lr_V5 L2 v4 v5 rfl ⟨rfl, rfl, rfl, rfl, rfl, rfl⟩
    have n2 : e2.1 paKind ≠ 143 := by rw [v5.2.1]; exact n1
    have done : sr5 (fun e' (_ : Unit) σ' => ∃ a' b', a < a' ∧ iS5 T X Bk N Z a' b' f t s s e' σ') (.inl (e2, ())) σ2 := sr_i5 n2 ⟨a + 1, b, by omega, L3, hi2, S2⟩
    have s150 := S.1
    have est : e2.1 coStatements = Int32.ofNat s := by
      have z : e2.1 513 = e.1 513 := congrArg (fun V : V5 => vst5 V) w2
      exact z.trans S.2.1
    have c0 : cl5 (Int32.ofNat o) 0 e2 = e.2.1 506 (11 * o) := by
      have z := cl_55 (s := o) (c := 0) est o1 (by omega) (by decide)
      rw [er] at z
      exact z
    have s30 : σ2.2.2.1 30 = σ.2.2.1 30 := congrArg (fun W : W5 => w30_5 W) x2
    have kk : e.2.1 506 (11 * o) = 6 ↔ σ.2.2.1 30 o = 6 := (S.2.2.2 o o1).2.1
    have no : ¬ Int32.ofNat o = -1 := fun q => by
      have y := congrArg Int32.toInt q
      have l2 : (-1 : Int32).toInt = -1 := rfl
      rw [ofn_i (by omega), l2] at y
      omega
    rw [eb, er, r11, if_neg no, pb_e5, c0, r45, s30, cl_5 (by omega)]
    by_cases c155 : e2.1 paKind = 155
    · rw [if_pos c155]
      by_cases c6 : e.2.1 506 (11 * o) = 6
      · rw [if_pos c6]
        by_cases c45 : σ.2.2.1 45 b = 0
        · rw [if_pos c45, if_pos c45, if_pos (kk.mp c6), pb_e5, lr_wd5 H L3 (by decide) (by decide), if_pos (show e2.1 paKind = 149 + 6 by rw [c155]; decide), if_neg ne105, pb_e5, pb_e5, pb_e5]
          refine sr_b5 (sr_take H L3 (by rw [c155]; decide)) (fun e3 _ n3 Q3 => ?_) (kq_openBlock (kq_open kq_rf)) (fun p e3 _ d => dq_x5 (dx_open d (by decide)))
          refine sr_b5 (sr_open H Q3.1 (by decide) (by decide)) (fun e4 _ n4 Q4 => ?_) (kq_openBlock kq_rf) (fun p e4 _ d => dq_b5 (dk_puB5 d) (fun e9 _ d9 => dq_i5 d9))
          obtain ⟨e5, y1, y2, y3⟩ := sr_block (o := o) (y := 1) hi2 S2 Q4.1 o1
          rw [y1, rdl_5]
          exact sr_i5 (by rw [y2]; exact n4) ⟨a + 1 + 1 + 1, b + 1, by omega, y3⟩
        · rw [if_neg c45, if_neg c45]; exact done
      · rw [if_neg c6]
        by_cases c45 : σ.2.2.1 45 b = 0
        · rw [if_pos c45, if_neg (fun q => c6 (kk.mpr q))]; exact done
        · rw [if_neg c45]; exact done
    · rw [if_neg c155]
      by_cases c45 : σ.2.2.1 45 b = 0
      · rw [if_pos c45]
        by_cases c6 : σ.2.2.1 30 o = 6
        · rw [if_pos c6, pb_e5, lr_wd5 H L3 (by decide) (by decide), if_neg (show ¬ e2.1 paKind = 149 + 6 from c155), if_pos rfl]; exact done
        · rw [if_neg c6]; exact done
      · rw [if_neg c45]; exact done
  · exact kq_if kq_rf (kq_if (kq_if (kq_pb (kq_if kq_rf (kq_pb (kq_pb (kq_pb (kq_openBlock (kq_open (kq_go kq_rf)))))))) kq_rf) kq_rf)
  · have d86 : ∀ e9 : E5, dk5 p e9 → dq5 p (f5_Pa_closeBlock_86 e9) := fun e9 d9 => by
      unfold f5_Pa_closeBlock_86
      exact dq_b5 (dq_i5 (a := ()) d9) (fun e3 _ d3 => dq_b5 (dq_i5 (a := ()) d3) (fun e4 _ d4 => dq_i5 d4))
    have d24 : ∀ x : Int32, dq5 p (f5_Pa_closeBlock_24 x e1) := fun x => by
      unfold f5_Pa_closeBlock_24
      refine dq_b5 (dq_i5 (a := ()) d) (fun e2 _ d2 => ?_)
      rw [pb_e5]
      exact dq_f5 (dq_f5 (d86 e2 d2) (dq_b5 (dq_sa5 d2 (by decide)) (fun e3 _ d3 => dq_b5 (dq_i5 (a := ()) d3) (fun e4 _ d4 => d86 e4 d4)))) (dq_n5 d2 (by decide) (dq_i5 d2))
    exact dq_f5 (d24 _) (d24 _)
end

end
section
set_option maxHeartbeats 1600000
/-! a function ends -/
section
variable {T : T5} {X : X5} {Bk N : Nat} {Z : Int32} {a f t s : Nat} {e : E5} {σ : rS}
theorem tS_5 {fs : Nat} {σ : rS} (h0 : g5_isRight σ = 1) (h42 : σ.1 42 = 1) (hA : g5_isAt 125 σ = 1) : g5_tellStatements_11 (fs + 2) σ = siU σ 42 0 := by
  have s0 : g5_isRight (siU σ 42 0) = 1 := h0
  rw [g5_tellStatements_11, pb_e5, h0, if_neg ne105, h42, if_neg (show ¬ (1 : Int32) ≤ 0 by decide), pb_e5, hA, if_neg ne105, if_pos rfl, pb_e5, g5_tellStatements_11, pb_e5, s0, if_neg ne105, if_pos (show (siU σ 42 0).1 42 ≤ 0 by show (0 : Int32) ≤ 0; decide)]
theorem fe_f5 {e : E5} {f : Nat} (hf : e.1 coFunctions = Int32.ofNat f) (hf2 : f < 10) (h11 : e.2.1 1011 0 = -1) : ∃ e' : E5, f5_Pa_closeBlock_24 0 e = .inl (e', ()) ∧ gE5 e' = (e.1 509, e.2.1 1006, e.1 510, e.2.1 1007, Int32.ofNat (f + 1), e.2.1 1008, e.2.1 504, 0, e.2.1 1009, e.1 513, e.2.1 506, 0, e.2.1 1011, e.2.1 1013, 0, e.2.2) ∧ tq5 e' = tq5 e ∧ (e'.1 paAt = e.1 paAt ∧ e'.1 paKind = e.1 paKind ∧ e'.1 paOpen = e.1 paOpen) := by
  have z : f5_Pa_closeBlock_24 0 e = .inl (((fun g => if g = paInside then 0 else if g = paOwns then 0 else if g = coFunctions then e.1 coFunctions + 1 else if g = paBlocks then 0 else e.1 g), (fun g j => if g = coOwnCounts ∧ j = (e.1 coFunctions).toNatClampNeg then e.1 paOwns else e.2.1 g j), e.2.2), ()) := by
    unfold f5_Pa_closeBlock_24 stI5
    rw [rdl_5, pb_e5]
    show (if e.2.1 1011 (0 : Int32).toNatClampNeg = -1 then (if (10 : Int32) ≤ e.1 coFunctions then _ else _) else _) = _
    rw [if_pos (show e.2.1 1011 (0 : Int32).toNatClampNeg = -1 from h11), if_neg (show ¬ (10 : Int32) ≤ e.1 coFunctions from fun q => absurd ((lti_n5 (m := 10) hf (by omega) (by decide)).mp q) (by omega))]
    rfl
  rw [hf, on_15 (by omega)] at z
  exact ⟨_, z, rfl, rfl, rfl, rfl, rfl⟩
end

end
