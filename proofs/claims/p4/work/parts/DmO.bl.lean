set_option maxHeartbeats 1600000
/-! a block ends -/
section
variable {T : T5} {X : X5} {Bk N : Nat} {Z : Int32} {a b f t s : Nat} {e : E5} {σ : rS}
theorem bl_f5 {x : Int32} {e : E5} : ∃ e' : E5, stI5 paBlocks x e = .inl (e', ()) ∧ gE5 e' = (e.1 509, e.2.1 1006, e.1 510, e.2.1 1007, e.1 512, e.2.1 1008, e.2.1 504, e.1 1010, e.2.1 1009, e.1 513, e.2.1 506, x, e.2.1 1011, e.2.1 1013, e.1 1005, e.2.2) ∧ e'.2 = e.2 ∧ tq5 e' = tq5 e ∧ (e'.1 paAt = e.1 paAt ∧ e'.1 paKind = e.1 paKind ∧ e'.1 paOpen = e.1 paOpen) ∧ e'.1 coStatements = e.1 coStatements := ⟨_, rfl, rfl, rfl, rfl, ⟨rfl, rfl, rfl⟩, rfl⟩
theorem br_f5 {x : Int32} {σ : rS} : ∃ σ' : rS, siU σ 42 x = σ' ∧ gS5 σ' = (σ.1 15, σ.2.2.1 20, σ.1 16, σ.2.2.1 22, σ.1 18, σ.2.2.1 25, σ.2.2.1 26, σ.2.2.1 27, σ.2.2.1 28, σ.1 41, σ.1 19, σ.2.2.1 30, σ.2.2.1 32, x, σ.2.2.1 43, σ.2.2.1 45) ∧ sx5 σ' = sx5 σ ∧ (σ'.1 2 = σ.1 2 ∧ σ'.1 10 = σ.1 10 ∧ σ'.1 11 = σ.1 11 ∧ σ'.1 46 = σ.1 46 ∧ σ'.1 47 = σ.1 47 ∧ σ'.1 13 = σ.1 13) := ⟨_, rfl, rfl, rfl, rfl, rfl, rfl, rfl, rfl, rfl⟩
theorem of_s5 {b : Nat} {x : Int32} (hx : x = Int32.ofNat (b + 1)) (hb : b ≤ 1000) : x - 1 = Int32.ofNat b := by
  apply Int32.toInt_inj.mp
  have l1 := ofn_i (n := b + 1) (by omega)
  have l2 := ofn_i (n := b) (by omega)
  rw [hx, sub_i (by rw [t1i]; omega) (by rw [t1i]; omega), l1, l2, t1i]
  omega
theorem sr_endB (H : TR5 T X Bk N Z) (h : iS5 T X Bk N Z a (b + 1) f t s s e σ) (hb : 0 < b) : sr5 (fun e' _ σ' => ∃ a' b', a < a' ∧ iS5 T X Bk N Z a' b' f t s s e' σ') (f5_Pa_closeBlock e) (g5_endBlock σ) := by
  obtain ⟨L, ⟨G, ⟨w, O⟩, nc, fn, hi, bK, b0⟩, S⟩ := h
  have b40 : b + 1 ≤ 40 := by have := L.2.2.2.2.2; omega
  obtain ⟨k1, k2, k3⟩ := bK
  have s42 : σ.1 42 = Int32.ofNat (b + 1) := k2
  have e14 : e.1 paBlocks = Int32.ofNat (b + 1) := k1
  have c42 : (σ.1 42 - 1).toNatClampNeg = b := by rw [of_s5 s42 (by omega), cl_5 (by omega)]
  obtain ⟨q1, q2, _, q4⟩ := k3 b (by omega)
  obtain ⟨o, o1, o2⟩ := q4 hb
  have r43 : σ.2.2.1 43 b = Int32.ofNat o := by
    have z : e.2.1 1011 b = σ.2.2.1 43 b := q1
    rw [← z]; exact o2
  have r45 : e.2.1 1013 b = σ.2.2.1 45 b := q2
  have r11 : e.2.1 1011 b = Int32.ofNat o := o2
  unfold g5_endBlock f5_Pa_closeBlock
  rw [pb_e5, pb_e5, pb_e5, pb_e5, pb_e5, c42, r43]
  obtain ⟨σ1, u1, u2, u3, u4⟩ := br_f5 (x := σ.1 42 - 1) (σ := σ)
  rw [u1]
  have L1 : LR5 T X Bk N Z (gE5 e) (gS5 σ1) a (b + 1) e σ1 := lr_V5 L rfl ⟨rfl, rfl, rfl⟩ u3 u4
  refine sr_b5 (sr_close H L1 (by decide) (by decide)) (fun e1 _ n1 Q1 => ?_) ?_ (fun p e1 _ d => ?_)
  · obtain ⟨L2, tF, _⟩ := Q1
    generalize g5_close 125 σ1 = σ2 at L2 ⊢
    have hV := L2.2.1.1
    have hW := L2.2.1.2
    have e1b : e1.1 paBlocks = Int32.ofNat (b + 1) := (tF.2 1014 (by decide) (by decide) (by decide)).trans e14
    have lb := ofn_i (n := b + 1) (by omega)
    rw [if_neg (show ¬ e1.1 paBlocks ≤ 0 by rw [e1b, lei, lb, t0i]; omega), lr_ir5 L2, if_neg ne105]
    unfold f5_Pa_closeBlock_24
    obtain ⟨e2, v1, v2, v3, v4, v5, v6⟩ := bl_f5 (x := e1.1 paBlocks - 1) (e := e1)
    rw [v1, rdl_5, pb_e5]
    have w2 : gE5 e2 = (e.1 509, e.2.1 1006, e.1 510, e.2.1 1007, e.1 512, e.2.1 1008, e.2.1 504, e.1 1010, e.2.1 1009, e.1 513, e.2.1 506, Int32.ofNat b, e.2.1 1011, e.2.1 1013, e.1 1005, e.2.2) := by
      rw [v2, of_s5 e1b (by omega), tF.1, tF.2 509 (by decide) (by decide) (by decide), tF.2 510 (by decide) (by decide) (by decide), tF.2 512 (by decide) (by decide) (by decide), tF.2 1010 (by decide) (by decide) (by decide), tF.2 513 (by decide) (by decide) (by decide), tF.2 1005 (by decide) (by decide) (by decide)]
    have x2 : gS5 σ2 = (σ.1 15, σ.2.2.1 20, σ.1 16, σ.2.2.1 22, σ.1 18, σ.2.2.1 25, σ.2.2.1 26, σ.2.2.1 27, σ.2.2.1 28, σ.1 41, σ.1 19, σ.2.2.1 30, σ.2.2.1 32, Int32.ofNat b, σ.2.2.1 43, σ.2.2.1 45) := by
      rw [hW, u2, of_s5 s42 (by omega)]
    have eb : (e2.1 paBlocks).toNatClampNeg = b := by
      have z : e2.1 1014 = Int32.ofNat b := congrArg (fun V : V5 => vbl5 V) w2
      rw [show e2.1 paBlocks = Int32.ofNat b from z, cl_5 (by omega)]
    have er : e2.2 = e.2 := v3.trans tF.1
    have hi2 : HI5 T Bk N f t b s (gE5 e2) (gS5 σ2) := by
      refine ⟨?_, ⟨w, ?_⟩, ?_, ?_, ?_, ⟨by rw [w2], by rw [x2], fun j hj => ?_⟩, hb⟩
      · exact nG_k5 G (by rw [w2]; rfl) (by rw [w2]; rfl) (by rw [w2]; rfl) (by rw [w2]; rfl) (by rw [w2]; rfl) (fun v k _ _ _ => by rw [w2]; rfl) (fun v k _ _ _ => by rw [w2]; rfl) (by rw [w2]; rfl) (by rw [x2]; rfl) (by rw [x2]; rfl) (by rw [x2]; rfl) (by rw [x2]; rfl) (by rw [x2]; rfl) (by rw [x2]; rfl) (fun v k _ _ _ => by rw [x2]; rfl)
      · exact fO_k5 O (by rw [w2]; rfl) (by rw [w2]; rfl) (by rw [w2]; rfl) (by rw [x2]; rfl) (by rw [x2]; rfl) (by rw [x2]; rfl)
      · rw [w2, x2]; exact nc
      · rw [w2]; exact fn
      · rw [w2]; exact hi
      · rw [w2, x2]; exact k3 j (by omega)
    have S2 : SS5 T X Bk N s s (gE5 e2) (gS5 σ2) := SS_k5 S (by rw [w2]; rfl) (by rw [w2]; rfl) (by rw [x2]; rfl) (by rw [x2]; rfl) (by rw [x2]; rfl)
    have L3 : LR5 T X Bk N Z (gE5 e2) (gS5 σ2) (a + 1) b e2 σ2 := lr_V5 L2 v4 v5 rfl ⟨rfl, rfl, rfl, rfl, rfl, rfl⟩
    have n2 : e2.1 paKind ≠ 143 := by rw [v5.2.1]; exact n1
    have done : sr5 (fun e' (_ : Unit) σ' => ∃ a' b', a < a' ∧ iS5 T X Bk N Z a' b' f t s s e' σ') (.inl (e2, ())) σ2 := sr_i5 n2 ⟨a + 1, b, by omega, L3, hi2, S2⟩
    have s150 := S.1
    have est : e2.1 coStatements = Int32.ofNat s := by
      have z : e2.1 513 = e.1 513 := congrArg (fun V : V5 => vst5 V) w2
      exact z.trans S.2.1
    have c0 : cl5 (Int32.ofNat o) 0 e2 = e.2.1 506 (11 * o) := by
      have z := cl_55 (s := o) (c := 0) est o1 (by omega) (by decide)
      rw [er] at z
      exact z
    have s30 : σ2.2.2.1 30 = σ.2.2.1 30 := congrArg (fun W : W5 => w30_5 W) x2
    have kk : e.2.1 506 (11 * o) = 6 ↔ σ.2.2.1 30 o = 6 := (S.2.2.2 o o1).2.1
    have no : ¬ Int32.ofNat o = -1 := fun q => by
      have y := congrArg Int32.toInt q
      have l2 : (-1 : Int32).toInt = -1 := rfl
      rw [ofn_i (by omega), l2] at y
      omega
    rw [eb, er, r11, if_neg no, pb_e5, c0, r45, s30, cl_5 (by omega)]
    by_cases c155 : e2.1 paKind = 155
    · rw [if_pos c155]
      by_cases c6 : e.2.1 506 (11 * o) = 6
      · rw [if_pos c6]
        by_cases c45 : σ.2.2.1 45 b = 0
        · rw [if_pos c45, if_pos c45, if_pos (kk.mp c6), pb_e5, lr_wd5 H L3 (by decide) (by decide), if_pos (show e2.1 paKind = 149 + 6 by rw [c155]; decide), if_neg ne105, pb_e5, pb_e5, pb_e5]
          refine sr_b5 (sr_take H L3 (by rw [c155]; decide)) (fun e3 _ n3 Q3 => ?_) (kq_openBlock (kq_open kq_rf)) (fun p e3 _ d => dq_x5 (dx_open d (by decide)))
          refine sr_b5 (sr_open H Q3.1 (by decide) (by decide)) (fun e4 _ n4 Q4 => ?_) (kq_openBlock kq_rf) (fun p e4 _ d => dq_b5 (dk_puB5 d) (fun e9 _ d9 => dq_i5 d9))
          obtain ⟨e5, y1, y2, y3⟩ := sr_block (o := o) (y := 1) hi2 S2 Q4.1 o1
          rw [y1, rdl_5]
          exact sr_i5 (by rw [y2]; exact n4) ⟨a + 1 + 1 + 1, b + 1, by omega, y3⟩
        · rw [if_neg c45, if_neg c45]; exact done
      · rw [if_neg c6]
        by_cases c45 : σ.2.2.1 45 b = 0
        · rw [if_pos c45, if_neg (fun q => c6 (kk.mpr q))]; exact done
        · rw [if_neg c45]; exact done
    · rw [if_neg c155]
      by_cases c45 : σ.2.2.1 45 b = 0
      · rw [if_pos c45]
        by_cases c6 : σ.2.2.1 30 o = 6
        · rw [if_pos c6, pb_e5, lr_wd5 H L3 (by decide) (by decide), if_neg (show ¬ e2.1 paKind = 149 + 6 from c155), if_pos rfl]; exact done
        · rw [if_neg c6]; exact done
      · rw [if_neg c45]; exact done
  · exact kq_if kq_rf (kq_if (kq_if (kq_pb (kq_if kq_rf (kq_pb (kq_pb (kq_pb (kq_openBlock (kq_open (kq_go kq_rf)))))))) kq_rf) kq_rf)
  · have d86 : ∀ e9 : E5, dk5 p e9 → dq5 p (f5_Pa_closeBlock_86 e9) := fun e9 d9 => by
      unfold f5_Pa_closeBlock_86
      exact dq_b5 (dq_i5 (a := ()) d9) (fun e3 _ d3 => dq_b5 (dq_i5 (a := ()) d3) (fun e4 _ d4 => dq_i5 d4))
    have d24 : ∀ x : Int32, dq5 p (f5_Pa_closeBlock_24 x e1) := fun x => by
      unfold f5_Pa_closeBlock_24
      refine dq_b5 (dq_i5 (a := ()) d) (fun e2 _ d2 => ?_)
      rw [pb_e5]
      exact dq_f5 (dq_f5 (d86 e2 d2) (dq_b5 (dq_sa5 d2 (by decide)) (fun e3 _ d3 => dq_b5 (dq_i5 (a := ()) d3) (fun e4 _ d4 => d86 e4 d4)))) (dq_n5 d2 (by decide) (dq_i5 d2))
    exact dq_f5 (d24 _) (d24 _)
end
