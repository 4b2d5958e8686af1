set_option maxHeartbeats 1600000
/-! a function ends, side by side -/
theorem rF_f5 {σ : rS} {i : Nat} {x y : Int32} : ∃ (σ' : rS) (r25 : Nat → Int32), siU (riU σ 25 i x) 18 y = σ' ∧ gS5 σ' = (σ.1 15, σ.2.2.1 20, σ.1 16, σ.2.2.1 22, y, r25, σ.2.2.1 26, σ.2.2.1 27, σ.2.2.1 28, σ.1 41, σ.1 19, σ.2.2.1 30, σ.2.2.1 32, σ.1 42, σ.2.2.1 43, σ.2.2.1 45) ∧ (∀ k, r25 k = if k = i then x else σ.2.2.1 25 k) ∧ sx5 σ' = sx5 σ ∧ (σ'.1 2 = σ.1 2 ∧ σ'.1 10 = σ.1 10 ∧ σ'.1 11 = σ.1 11 ∧ σ'.1 46 = σ.1 46 ∧ σ'.1 47 = σ.1 47 ∧ σ'.1 13 = σ.1 13) := by
  refine ⟨_, _, rfl, rfl, fun k => ?_, rfl, rfl, rfl, rfl, rfl, rfl, rfl⟩
  show (riU σ 25 i x).2.2.1 25 k = _
  rw [ri34, if_pos rfl]
theorem dq_24 {p x : Int32} {e1 : E5} (d : dk5 p e1) : dq5 p (f5_Pa_closeBlock_24 x e1) := by
  have d86 : ∀ e9 : E5, dk5 p e9 → dq5 p (f5_Pa_closeBlock_86 e9) := fun e9 d9 => by
    unfold f5_Pa_closeBlock_86
    exact dq_b5 (dq_i5 (a := ()) d9) (fun e3 _ d3 => dq_b5 (dq_i5 (a := ()) d3) (fun e4 _ d4 => dq_i5 d4))
  unfold f5_Pa_closeBlock_24
  refine dq_b5 (dq_i5 (a := ()) d) (fun e2 _ d2 => ?_)
  rw [pb_e5]
  exact dq_f5 (dq_f5 (d86 e2 d2) (dq_b5 (dq_sa5 d2 (by decide)) (fun e3 _ d3 => dq_b5 (dq_i5 (a := ()) d3) (fun e4 _ d4 => d86 e4 d4)))) (dq_n5 d2 (by decide) (dq_i5 d2))
section
variable {T : T5} {X : X5} {Bk N : Nat} {Z : Int32} {a f t s : Nat} {e : E5} {σ : rS}
theorem sr_endF {fs : Nat} {tok : Int32} (H : TR5 T X Bk N Z) (h : iS5 T X Bk N Z a 1 f t s s e σ) (hk : e.1 paKind = 125) (htok : tok = Int32.ofNat (Bk + t)) : sr5 (fun e' _ σ' => ∃ a', a < a' ∧ oI5 T X Bk N Z a' s e' σ') (f5_Pa_closeBlock e) (tlF5 (fs + 2) tok σ) := by
  obtain ⟨L, ⟨G, ⟨w, O⟩, nc, fn, hi, bK, b0⟩, S⟩ := h
  obtain ⟨k1, k2, k3⟩ := bK
  have s42 : σ.1 42 = 1 := k2
  have e14 : e.1 paBlocks = 1 := k1
  have hA : g5_isAt 125 σ = 1 := by rw [lr_at5 H L (by decide) (by decide), if_pos hk]
  unfold tlF5
  rw [tS_5 (lr_ir5 L) s42 hA]
  obtain ⟨σ1, u1, u2, u3, u4⟩ := br_f5 (x := 0) (σ := σ)
  rw [u1]
  have L1 : LR5 T X Bk N Z (gE5 e) (gS5 σ1) a (0 + 1) e σ1 := lr_V5 L rfl ⟨rfl, rfl, rfl⟩ u3 u4
  unfold f5_Pa_closeBlock
  refine sr_b5 (sr_close H L1 (by decide) (by decide)) (fun e1 _ n1 Q1 => ?_) (kq_if kq_rf (kq_si (by decide) (by decide) (kq_ri kq_rf))) (fun p e1 _ d => dq_f5 (dq_24 d) (dq_24 d))
  obtain ⟨L2, tF, _⟩ := Q1
  generalize g5_close 125 σ1 = σ2 at L2 ⊢
  have hW := L2.2.1.2
  have e1b : e1.1 paBlocks = 1 := (tF.2 1014 (by decide) (by decide) (by decide)).trans e14
  have e11 : e1.2.1 1011 0 = -1 := by
    rw [tF.1]
    exact (k3 0 (by omega)).2.2.1 rfl
  have e1f : e1.1 coFunctions = Int32.ofNat f := (tF.2 512 (by decide) (by decide) (by decide)).trans O.2.2.1
  rw [if_neg (show ¬ e1.1 paBlocks ≤ 0 by rw [e1b]; decide), e1b, show (1 : Int32) - 1 = 0 from rfl, lr_ir5 L2, if_neg ne105]
  obtain ⟨e2, v1, v2, v3, v4⟩ := fe_f5 e1f O.1 e11
  rw [v1]
  obtain ⟨p1, p2, ⟨v, pF, pc⟩, pl⟩ := G
  have vf : v = f := by
    have y := congrArg Int32.toInt (pF.2.1.symm.trans O.2.2.1)
    have := pF.1
    have := O.1
    rw [ofn_i (by omega), ofn_i (by omega)] at y
    omega
  subst vf
  have s18 : σ2.1 18 = Int32.ofNat v := by
    have z : σ2.1 18 = σ1.1 18 := congrArg (fun W : W5 => W.2.2.2.2.1) hW
    have z2 : σ1.1 18 = σ.1 18 := congrArg (fun W : W5 => W.2.2.2.2.1) u2
    rw [z, z2]
    exact pF.2.2.1
  rw [s18, cl_5 (by have := O.1; omega), on_15 (by have := O.1; omega)]
  obtain ⟨σ3, r25, x1, x2, x3, x4, x5⟩ := rF_f5 (σ := σ2) (i := v) (x := tok) (y := Int32.ofNat (v + 1))
  rw [x1]
  have w2 : gE5 e2 = (e.1 509, e.2.1 1006, e.1 510, e.2.1 1007, Int32.ofNat (v + 1), e.2.1 1008, e.2.1 504, 0, e.2.1 1009, e.1 513, e.2.1 506, 0, e.2.1 1011, e.2.1 1013, 0, e.2.2) := by
    rw [v2, tF.1, tF.2 509 (by decide) (by decide) (by decide), tF.2 510 (by decide) (by decide) (by decide), tF.2 513 (by decide) (by decide) (by decide)]
  have hW2 : gS5 σ2 = (σ.1 15, σ.2.2.1 20, σ.1 16, σ.2.2.1 22, σ.1 18, σ.2.2.1 25, σ.2.2.1 26, σ.2.2.1 27, σ.2.2.1 28, σ.1 41, σ.1 19, σ.2.2.1 30, σ.2.2.1 32, 0, σ.2.2.1 43, σ.2.2.1 45) := hW.trans u2
  have y2 : gS5 σ3 = (σ.1 15, σ.2.2.1 20, σ.1 16, σ.2.2.1 22, Int32.ofNat (v + 1), r25, σ.2.2.1 26, σ.2.2.1 27, σ.2.2.1 28, σ.1 41, σ.1 19, σ.2.2.1 30, σ.2.2.1 32, 0, σ.2.2.1 43, σ.2.2.1 45) := by
    rw [x2]
    have q1 : σ2.1 15 = σ.1 15 := congrArg (fun W : W5 => W.1) hW2
    have q2 : σ2.2.2.1 20 = σ.2.2.1 20 := congrArg (fun W : W5 => W.2.1) hW2
    have q3 : σ2.1 16 = σ.1 16 := congrArg (fun W : W5 => W.2.2.1) hW2
    have q4 : σ2.2.2.1 22 = σ.2.2.1 22 := congrArg (fun W : W5 => W.2.2.2.1) hW2
    have q7 : σ2.2.2.1 26 = σ.2.2.1 26 := congrArg (fun W : W5 => w26_5 W) hW2
    have q8 : σ2.2.2.1 27 = σ.2.2.1 27 := congrArg (fun W : W5 => w27_5 W) hW2
    have q9 : σ2.2.2.1 28 = σ.2.2.1 28 := congrArg (fun W : W5 => w28_5 W) hW2
    have q10 : σ2.1 41 = σ.1 41 := congrArg (fun W : W5 => wfn5 W) hW2
    have q11 : σ2.1 19 = σ.1 19 := congrArg (fun W : W5 => wst5 W) hW2
    have q12 : σ2.2.2.1 30 = σ.2.2.1 30 := congrArg (fun W : W5 => w30_5 W) hW2
    have q13 : σ2.2.2.1 32 = σ.2.2.1 32 := congrArg (fun W : W5 => w32_5 W) hW2
    have q14 : σ2.1 42 = 0 := congrArg (fun W : W5 => wbl5 W) hW2
    have q15 : σ2.2.2.1 43 = σ.2.2.1 43 := congrArg (fun W : W5 => w43_5 W) hW2
    have q16 : σ2.2.2.1 45 = σ.2.2.1 45 := congrArg (fun W : W5 => w45_5 W) hW2
    rw [q1, q2, q3, q4, q7, q8, q9, q10, q11, q12, q13, q14, q15, q16]
  have r25s : ∀ k, r25 k = if k = v then Int32.ofNat (Bk + t) else σ.2.2.1 25 k := fun k => by
    have q6 : σ2.2.2.1 25 = σ.2.2.1 25 := congrArg (fun W : W5 => W.2.2.2.2.2.1) hW2
    rw [x3, htok, q6]
  have n2 : e2.1 paKind ≠ 143 := by rw [v4.2.1]; exact n1
  refine sr_i5 n2 ⟨a + 1, by omega, lr_V5 L2 v3 v4 x4 x5, ?_, congrArg (fun V : V5 => vow5 V) w2, congrArg (fun V : V5 => vin5 V) w2, congrArg (fun V : V5 => vbl5 V) w2, SS_k5 S (by rw [w2]; rfl) (by rw [w2]; rfl) (by rw [y2]; rfl) (by rw [y2]; rfl) (by rw [y2]; rfl)⟩
  rw [w2, y2]
  refine ⟨p1, p2, ⟨v + 1, ?_, fun k hk => ?_⟩, pl⟩
  · refine pN_a5 pF O.1 (by decide) fn.2.1 fn.2.2 ?_ ?_ (fun k => ?_) r25s
    · show Int32.ofNat (v + 1) = e.1 512 + 1
      rw [show e.1 512 = Int32.ofNat v from O.2.2.1, on_15 (by have := O.1; omega)]
    · show Int32.ofNat (v + 1) = σ.1 18 + 1
      rw [show σ.1 18 = Int32.ofNat v from pF.2.2.1, on_15 (by have := O.1; omega)]
    · show e.2.1 1008 k = _
      by_cases c : k = v
      · rw [if_pos c, c]; exact fn.1
      · rw [if_neg c]; rfl
  · show e.2.1 504 k = σ.2.2.1 26 k
    by_cases c : k = v
    · rw [c]; exact nc
    · exact pc k (by omega)
end
