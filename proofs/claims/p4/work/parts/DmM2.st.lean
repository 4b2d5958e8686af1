set_option maxHeartbeats 1600000
/-! a statement begins, side by side -/
theorem bK_s5 {b s s' : Nat} {V : V5} {W : W5} (h : bK5 b s V W) (hs : s ≤ s') : bK5 b s' V W := by
  obtain ⟨h1, h2, h3⟩ := h
  refine ⟨h1, h2, fun j hj => ?_⟩
  obtain ⟨a1, a2, a3, a4⟩ := h3 j hj
  refine ⟨a1, a2, a3, fun w => ?_⟩
  obtain ⟨o, o1, o2⟩ := a4 w
  exact ⟨o, by omega, o2⟩
theorem HI_s5 {T : T5} {Bk N f t b s s' : Nat} {V : V5} {W : W5} (h : HI5 T Bk N f t b s V W) (hs : s ≤ s') : HI5 T Bk N f t b s' V W := ⟨h.1, h.2.1, h.2.2.1, h.2.2.2.1, h.2.2.2.2.1, bK_s5 h.2.2.2.2.2.1 hs, h.2.2.2.2.2.2⟩
theorem HI_O5 {T : T5} {Bk N f t b s : Nat} {V : V5} {W : W5} (h : HI5 T Bk N f t b s V W) : nO5 T Bk N V W := by
  obtain ⟨w, hw⟩ := h.2.1
  exact fO_n5 hw
def iS5 (T : T5) (X : X5) (Bk N : Nat) (Z : Int32) (a b f t q s : Nat) (e : E5) (σ : rS) : Prop := LR5 T X Bk N Z (gE5 e) (gS5 σ) a b e σ ∧ HI5 T Bk N f t b s (gE5 e) (gS5 σ) ∧ SS5 T X Bk N q s (gE5 e) (gS5 σ)
theorem sS_k5 {T : T5} {X : X5} {Bk N j : Nat} {R R' r30 r30' r32 r32' : Nat → Int32} (h : sS5 T X Bk N R r30 r32 j) (h0 : R' (11 * j) = R (11 * j)) (h4 : R' (11 * j + 4) = R (11 * j + 4)) (h5 : R' (11 * j + 5) = R (11 * j + 5)) (k0 : r30' j = r30 j) (k2 : r32' j = r32 j) : sS5 T X Bk N R' r30' r32' j := by
  unfold sS5 at h ⊢
  rw [h0, h4, h5, k0, k2]
  exact h
section
variable {T : T5} {X : X5} {Bk N : Nat} {Z : Int32} {a b f t s : Nat} {e : E5} {σ : rS}
theorem sr_addS {k : Int32} (H : TR5 T X Bk N Z) (h : iS5 T X Bk N Z a b f t s s e σ) (h142 : e.1 paKind ≠ 142) : sr5 (fun e' r σ' => r = Int32.ofNat s ∧ (g5_newStatement k σ).2 = Int32.ofNat s ∧ s < 150 ∧ iS5 T X Bk N Z a b f t s (s + 1) e' σ' ∧ (e'.2.1 506 (11 * s + 1) = 0 ∧ e'.2.1 506 (11 * s + 4) = 0) ∧ σ'.2.2.1 30 s = k ∧ e'.1 paKind = e.1 paKind) (f5_Pa_addStatement_59 e) (g5_newStatement k σ).1 := by
  obtain ⟨L, HI, s150, st, sw, sS⟩ := h
  have kd := kd_o5 (lr_kd5 H L)
  have e13 : e.1 coStatements = Int32.ofNat s := st
  have s19 : σ.1 19 = Int32.ofNat s := sw
  have ls := ofn_i (n := s) (by omega)
  have l150 : (150 : Int32).toInt = 150 := rfl
  unfold f5_Pa_addStatement_59 g5_newStatement
  dsimp only [pb5]
  rw [(lr_so5 H L).1, if_neg (fun q => h142 (kd.2.2.2.mp q)), e13, s19]
  by_cases c : s = 150
  · rw [if_neg (show ¬ Int32.ofNat s < 150 by rw [lti, ls, l150]; omega), if_pos (show Int32.ofNat s = 150 by rw [c]; rfl), lr_rva5 H L]
    exact sr_q5 (by decide) (lr_fl5 H L).1 (lr_fl5 H L).2 (kq_newStatement_33 kq_rf)
  · have n150 : ¬ Int32.ofNat s = 150 := fun q => by
      have y := congrArg Int32.toInt q
      rw [ls, l150] at y
      omega
    rw [if_pos (show Int32.ofNat s < 150 by rw [lti, ls, l150]; omega), if_neg n150]
    unfold g5_newStatement_33
    rw [s19, if_neg (show ¬ (150 : Int32) ≤ Int32.ofNat s by rw [lei, ls, l150]; omega)]
    obtain ⟨σ', r30, r32, u1, u2, u3, u4, u5, u6⟩ := nS_f5 (k := k) L.2.2.2.1.1 s19 (by omega)
    rw [u1]
    unfold f5_Pa_addStatement_82
    have hb : e.1 paBlocks = Int32.ofNat b := HI.2.2.2.2.2.1.1
    have b0 := HI.2.2.2.2.2.2
    have b40 : b ≤ 40 := by have := L.2.2.2.2.2; omega
    have lb := ofn_i (n := b) (by omega)
    have cs : (e.1 513).toNatClampNeg = s := by rw [show e.1 513 = Int32.ofNat s from e13, cl_5 (by omega)]
    obtain ⟨e1, v1, v2, v3, v4, v5, v6⟩ : ∃ e1 : E5, f5_Co_addStatement e = .inl (e1, e.1 513) ∧ (gE5 e1 = (e.1 509, e.2.1 1006, e.1 510, e.2.1 1007, e.1 512, e.2.1 1008, e.2.1 504, e.1 1010, e.2.1 1009, e.1 513 + 1, e1.2.1 506, e.1 1014, e.2.1 1011, e.2.1 1013, e.1 1005, e.2.2)) ∧ (∀ j, e1.2.1 506 j = if 506 = 506 ∧ 11 * s ≤ j ∧ j < 11 * s + 11 then nr5 (e.1 515) (j - 11 * s) else e.2.1 506 j) ∧ tq5 e1 = tq5 e ∧ (e1.1 paAt = e.1 paAt ∧ e1.1 paKind = e.1 paKind ∧ e1.1 paOpen = e.1 paOpen) ∧ e1.1 1014 = e.1 1014 := by
      refine ⟨_, rfl, rfl, fun j => ?_, rfl, ⟨rfl, rfl, rfl⟩, rfl⟩
      rw [← cs]
    have e1s : e1.1 coStatements = Int32.ofNat (s + 1) := by
      have z : e1.1 513 = e.1 513 + 1 := congrArg (fun V : V5 => vst5 V) v2
      show e1.1 513 = _
      rw [z, show e.1 513 = Int32.ofNat s from e13, on_15 (by omega)]
    rw [v1, rdl_5, if_neg (show ¬ e1.1 paBlocks ≤ 0 by
      show ¬ e1.1 1014 ≤ 0
      rw [v6, show e.1 1014 = Int32.ofNat b from hb, lei, lb, t0i]; omega), show e.1 513 = Int32.ofNat s from e13]
    obtain ⟨e2, w1, w2⟩ := aS_107 (s1 := Int32.ofNat s) (s0 := e1.1 paBlocks - 1) e1s (by omega)
    rw [w1]
    obtain ⟨x1, x2⟩ := rK_V5 w2
    have k2 : e2.1 paKind = e.1 paKind := by rw [w2.1]; exact v5.2.1
    have hV2 : gE5 e2 = (e.1 509, e.2.1 1006, e.1 510, e.2.1 1007, e.1 512, e.2.1 1008, e.2.1 504, e.1 1010, e.2.1 1009, Int32.ofNat (s + 1), e2.2.1 506, e.1 1014, e.2.1 1011, e.2.1 1013, e.1 1005, e.2.2) := by
      rw [x1, v2, show e.1 513 = Int32.ofNat s from e13, on_15 (by omega)]
      rfl
    have col : ∀ j c, (c = 0 ∨ c = 1 ∨ c = 4 ∨ c = 5) → j < s → e2.2.1 506 (11 * j + c) = e.2.1 506 (11 * j + c) := fun j c hc hj => by
      rw [w2.2.2.2 j c hc, v3, if_neg (fun q => by omega)]
    have col2 : ∀ c, (c = 0 ∨ c = 1 ∨ c = 4 ∨ c = 5) → e2.2.1 506 (11 * s + c) = nr5 (e.1 515) c := fun c hc => by
      rw [w2.2.2.2 s c hc, v3, if_pos ⟨rfl, by omega, by omega⟩, show 11 * s + c - 11 * s = c by omega]
    refine sr_i5 (by rw [k2]; exact lr_k5 L) ⟨rfl, rfl, by omega, ⟨lr_V5 L (x2.trans v4) (by rw [w2.1]; exact v5) u5 u6, ?_, by omega, by rw [hV2], by rw [u2], fun j hj => ?_⟩, ⟨by rw [col2 1 (by decide)]; rfl, by rw [col2 4 (by decide)]; rfl⟩, ?_, k2⟩
    · rw [hV2, u2]
      exact HI_s5 HI (by omega)
    · rw [hV2, u2]
      refine sS_k5 (sS j hj) ?_ (col j 4 (by decide) hj) (col j 5 (by decide) hj) ?_ ?_
      · exact col j 0 (by decide) hj
      · show r30 j = σ.2.2.1 30 j
        rw [u3, if_neg (by omega)]
      · show r32 j = σ.2.2.1 32 j
        rw [u4, if_neg (by omega)]
    · have z : σ'.2.2.1 30 = r30 := congrArg (fun W : W5 => w30_5 W) u2
      rw [z, u3, if_pos rfl]
end
