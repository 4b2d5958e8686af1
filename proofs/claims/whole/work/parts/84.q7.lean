section
set_option maxHeartbeats 1600000
/-! the reference: fractions in their lowest terms -/
theorem gcd_s {a b : Nat} : Nat.gcd (a % b) b = Nat.gcd a b := by
  rw [Nat.gcd_comm a b, Nat.gcd_rec b a]
theorem gcd_t {a b : Nat} : Nat.gcd a (b % a) = Nat.gcd a b := by
  rw [Nat.gcd_comm a (b % a), gcd_s, Nat.gcd_comm]
def rdI (σ τ : rS) (n d : Nat) (w : Int32) : Prop := frN [0, 1, 2] σ τ ∧ numO τ 0 ∧ numO τ 1 ∧ nV τ 0 ≤ nV σ n ∧ nV τ 1 ≤ nV σ d ∧ ((w = -1 ∧ 0 < nV τ 0 ∧ 0 < nV τ 1 ∧ Nat.gcd (nV τ 0) (nV τ 1) = Nat.gcd (nV σ n) (nV σ d)) ∨ (w = 0 ∧ nV τ 0 = Nat.gcd (nV σ n) (nV σ d)) ∨ (w = 1 ∧ nV τ 1 = Nat.gcd (nV σ n) (nV σ d)))
def rdM (τ : rS) (w : Int32) : Nat := if w = -1 then nV τ 1 + 1 else 0
theorem ge4 {a : Int32} (h : 4 ≤ a) (h1 : a < 30) : 0 ≤ a ∧ 4 ≤ a.toNatClampNeg ∧ ¬ (2 : Int32) = a ∧ ¬ a = 3 ∧ ¬ (0 : Int32) = a ∧ ¬ (1 : Int32) = a := by
  have z : 0 ≤ a := Int32.le_trans (by decide) h
  refine ⟨z, ?_, ?_, ?_, ?_, ?_⟩
  · have := (cn_li (x := 4) (by decide) z).mp h
    rwa [show (4 : Int32).toNatClampNeg = 4 from rfl] at this
  all_goals (rintro rfl; revert h; decide)
theorem nm3 {a b c d : Nat} (h : a ≠ b) (g : a ≠ c) (k : a ≠ d) : a ∉ [b, c, d] := fun z => by
  rcases List.mem_cons.mp z with e | e
  · exact h e
  · exact nm2 g k e
theorem z_1 {σ : rS} {r : Nat} {w : Int32} (hr : numO σ r) (h : nb w ∧ (w ≠ 0 ↔ σ.2.2.1 91 r = 0)) : (w = 0 → 0 < nV σ r) ∧ (¬ w = 0 → nV σ r = 0) := by
  refine ⟨fun e => Nat.pos_of_ne_zero (fun z => ?_), fun e => (nL_z hr).mp ?_⟩
  · exact h.2.mpr (cn_inj hr.1 (by decide) ((nL_z hr).mpr z)) e
  · show (σ.2.2.1 91 r).toNatClampNeg = 0
    rw [h.2.mp e]
    rfl
theorem one_v {σ : rS} {r : Nat} (h : σ.2.2.1 91 r = 1) (h1 : σ.2.2.1 90 (40000 * r) = 1) : nV σ r = 1 := by
  unfold nV
  rw [show nL σ r = 0 + 1 by show (σ.2.2.1 91 r).toNatClampNeg = 1; rw [h]; rfl, dv_s, Nat.add_zero, h1]
  rfl
theorem reduce_c {C : rCx} (hC : cOK C)  {σ : rS} {a1 : Int32} {a2 : Int32} {Q : rS → Prop} (hp : 4 ≤ a1 ∧ a1 < 30 ∧ 4 ≤ a2 ∧ a2 < 30 ∧ a1 ≠ a2 ∧ numO σ a1.toNatClampNeg ∧ numO σ a2.toNatClampNeg ∧ 0 < nV σ a2.toNatClampNeg ∧ nL σ a1.toNatClampNeg + 1 < 40000 ∧ nL σ a2.toNatClampNeg + 1 < 40000) (h : ∀ (σ' : rS), (frN [0, 1, 2, 3, a1.toNatClampNeg, a2.toNatClampNeg] σ σ' ∧ numO σ' a1.toNatClampNeg ∧ numO σ' a2.toNatClampNeg ∧ nV σ' a1.toNatClampNeg = nV σ a1.toNatClampNeg / Nat.gcd (nV σ a1.toNatClampNeg) (nV σ a2.toNatClampNeg) ∧ nV σ' a2.toNatClampNeg = nV σ a2.toNatClampNeg / Nat.gcd (nV σ a1.toNatClampNeg) (nV σ a2.toNatClampNeg)) → Q σ') : cV C 3 m_reduce [.ref (co C), .int a1, .int a2] σ Q := by
  refine m_reduce_run hC ?_
  unfold w_reduce_0
  obtain ⟨h0, h1, h2, h3, hne, hn, hd, hz, l1, l2⟩ := hp
  have f1 := ge4 h0 h1
  have f2 := ge4 h2 h3
  have cne : a1.toNatClampNeg ≠ a2.toNatClampNeg := fun e => hne (cn_inj f1.1 f2.1 e)
  have hj103 : ∀ (l1 : Int32) (l2 : Int32) (l3 : Int32) (τ : rS), (l1 = a1 ∧ l2 = a2 ∧ frN [0, 1, 2] σ τ ∧ (l3 = 0 ∨ l3 = 1) ∧ numO τ l3.toNatClampNeg ∧ nV τ l3.toNatClampNeg = Nat.gcd (nV σ a1.toNatClampNeg) (nV σ a2.toNatClampNeg)) → w_reduce_103 C Q  l1 l2 l3 τ := by
    rintro y103_1 y103_2 y103_3 τ103 j103
    unfold w_reduce_103
    obtain ⟨e1, e2, F, w, no, nv⟩ := j103
    have gz : 0 < Nat.gcd (nV σ a1.toNatClampNeg) (nV σ a2.toNatClampNeg) := Nat.gcd_pos_of_pos_right _ hz
    have w3 : y103_3.toNatClampNeg ≠ 3 ∧ 0 ≤ y103_3 ∧ y103_3 < 30 ∧ ¬ (3 : Int32) = y103_3 := by rcases w with rfl | rfl <;> decide
    have gn := nV_fr F (nm3 (by omega) (by omega) (by omega)) hn
    have gd := nV_fr F (nm3 (by omega) (by omega) (by omega)) hd
    refine copy_v hC  ?_ (fun σ_1 q2 => ?_)
    · clear h; exact ⟨by decide, by decide, w3.2.1, w3.2.2.1, w3.2.2.2, no⟩  -- p1
    have q2 : frN [3] τ103 σ_1 ∧ numO σ_1 3 ∧ nV σ_1 3 = nV τ103 y103_3.toNatClampNeg ∧ nL σ_1 3 = nL τ103 y103_3.toNatClampNeg := q2
    have gn1 := nV_fr q2.1 (nm1 (by omega)) gn.1
    have gd1 := nV_fr q2.1 (nm1 (by omega)) gd.1
    refine divide_c hC  ?_ (fun σ_3 q4 => ?_)
    · clear h; rw [e1]
      exact ⟨by decide, by decide, f1.1, h1, by decide, by decide, f1.2.2.1, by decide, f1.2.2.2.1, gn1.1, q2.2.1, by show 0 < nV σ_1 3; rw [q2.2.2.1, nv]; exact gz, by omega⟩
    rw [e1] at q4
    have q4 : frN [2, a1.toNatClampNeg, 3] σ_1 σ_3 ∧ numO σ_3 2 ∧ numO σ_3 a1.toNatClampNeg ∧ numO σ_3 3 ∧ nV σ_3 2 = nV σ_1 a1.toNatClampNeg / nV σ_1 3 ∧ nV σ_3 a1.toNatClampNeg = nV σ_1 a1.toNatClampNeg % nV σ_1 3 ∧ nV σ_3 3 = nV σ_1 3 := q4
    have gd3 := nV_fr q4.1 (nm3 (by omega) (Ne.symm cne) (by omega)) gd1.1
    refine copy_v hC  ?_ (fun σ_5 q6 => ?_)
    · clear h; rw [e1]
      exact ⟨f1.1, h1, by decide, by decide, fun z => f1.2.2.1 z.symm, q4.2.1⟩
    rw [e1] at q6
    have q6 : frN [a1.toNatClampNeg] σ_3 σ_5 ∧ numO σ_5 a1.toNatClampNeg ∧ nV σ_5 a1.toNatClampNeg = nV σ_3 2 ∧ nL σ_5 a1.toNatClampNeg = nL σ_3 2 := q6
    have gd5 := nV_fr q6.1 (nm1 (Ne.symm cne)) gd3.1
    have g35 := nV_fr q6.1 (nm1 (by omega)) q4.2.2.2.1
    refine divide_c hC  ?_ (fun σ_7 q8 => ?_)
    · clear h; rw [e2]
      exact ⟨by decide, by decide, f2.1, h3, by decide, by decide, f2.2.2.1, by decide, f2.2.2.2.1, gd5.1, g35.1, by show 0 < nV σ_5 3; rw [g35.2.1, q4.2.2.2.2.2.2, q2.2.2.1, nv]; exact gz, by omega⟩
    rw [e2] at q8
    have q8 : frN [2, a2.toNatClampNeg, 3] σ_5 σ_7 ∧ numO σ_7 2 ∧ numO σ_7 a2.toNatClampNeg ∧ numO σ_7 3 ∧ nV σ_7 2 = nV σ_5 a2.toNatClampNeg / nV σ_5 3 ∧ nV σ_7 a2.toNatClampNeg = nV σ_5 a2.toNatClampNeg % nV σ_5 3 ∧ nV σ_7 3 = nV σ_5 3 := q8
    refine copy_v hC  ?_ (fun σ_9 q10 => ?_)
    · clear h; rw [e2]
      exact ⟨f2.1, h3, by decide, by decide, fun z => f2.2.2.1 z.symm, q8.2.1⟩
    rw [e2] at q10
    have q10 : frN [a2.toNatClampNeg] σ_7 σ_9 ∧ numO σ_9 a2.toNatClampNeg ∧ nV σ_9 a2.toNatClampNeg = nV σ_7 2 ∧ nL σ_9 a2.toNatClampNeg = nL σ_7 2 := q10
    refine h _ ?_
    · clear h; have gn7 := nV_fr q8.1 (nm3 (by omega) cne (by omega)) q6.2.1
      have gn9 := nV_fr q10.1 (nm1 cne) gn7.1
      refine ⟨?_, gn9.1, q10.2.1, ?_, ?_⟩
      · refine frN_tr (frN_mono F ?_) (frN_tr (frN_mono q2.1 ?_) (frN_tr (frN_mono q4.1 ?_) (frN_tr (frN_mono q6.1 ?_) (frN_tr (frN_mono q8.1 ?_) (frN_mono q10.1 ?_)))))
        all_goals
          intro k hk
          simp only [List.mem_cons, List.not_mem_nil, or_false] at hk ⊢
          omega
      · rw [gn9.2.1, gn7.2.1, q6.2.2.1, q4.2.2.2.2.1, gn1.2.1, gn.2.1, q2.2.2.1, nv]
      · rw [q10.2.2.1, q8.2.2.2.2.1, gd5.2.1, gd3.2.1, gd1.2.1, gd.2.1, g35.2.1, q4.2.2.2.2.2.2, q2.2.2.1, nv]
  refine isZero_c hC  ?_ (fun r11 q13 => ?_)
  · clear h; exact ⟨f1.1, h1⟩  -- p7
  have zz := z_1 hn q13
  refine ⟨fun c14 => ?_, fun c14 => ?_⟩
  · skip
    refine copy_v hC  ?_ (fun σ_15 q16 => ?_)
    · clear h; exact ⟨by decide, by decide, f1.1, h1, f1.2.2.2.2.1, hn⟩  -- p8
    have q16 : frN [0] σ σ_15 ∧ numO σ_15 0 ∧ nV σ_15 0 = nV σ a1.toNatClampNeg ∧ nL σ_15 0 = nL σ a1.toNatClampNeg := q16
    have gd := nV_fr q16.1 (nm1 (by omega)) hd
    refine copy_v hC  ?_ (fun σ_17 q18 => ?_)
    · clear h; exact ⟨by decide, by decide, f2.1, h3, f2.2.2.2.2.2, gd.1⟩  -- p9
    have q18 : frN [1] σ_15 σ_17 ∧ numO σ_17 1 ∧ nV σ_17 1 = nV σ_15 a2.toNatClampNeg ∧ nL σ_17 1 = nL σ_15 a2.toNatClampNeg := q18
    have g0 := nV_fr q18.1 (nm1 (by decide)) q16.2.1
    unfold w_reduce_29
    refine ⟨fun n l1 l2 l3 τ => n = rdM τ l3 ∧ (l1 = a1 ∧ l2 = a2 ∧ rdI σ τ a1.toNatClampNeg a2.toNatClampNeg l3), ⟨_, rfl, ?_⟩, ?_⟩
    · clear h; have v0 : nV σ_17 0 = nV σ a1.toNatClampNeg := by rw [g0.2.1, q16.2.2.1]
      have v1 : nV σ_17 1 = nV σ a2.toNatClampNeg := by rw [q18.2.2.1, gd.2.1]
      refine ⟨rfl, rfl, ?_, g0.1, q18.2.1, by omega, by omega, Or.inl ⟨rfl, by rw [v0]; exact zz.1 c14, by omega, by rw [v0, v1]⟩⟩
      refine frN_tr (frN_mono q16.1 ?_) (frN_mono q18.1 ?_)
      all_goals
        intro k hk
        simp only [List.mem_cons, List.not_mem_nil, or_false] at hk ⊢
        omega
    rintro n29 x29_1 x29_2 x29_3 σ29 ⟨hn29, i29⟩
    obtain ⟨e1, e2, F, o0, o1, le0, le1, st⟩ := i29
    have gn := nV_fr F (nm3 (by omega) (by omega) (by omega)) hn
    have gd := nV_fr F (nm3 (by omega) (by omega) (by omega)) hd
    refine ⟨fun c19 => ?_, fun c19 => ?_⟩
    · skip
      refine ⟨ib_30.mpr ?_, ?_⟩
      · clear h; rcases st with z | z | z
        · exact absurd z.1 c19
        · rw [z.1]; decide
        · rw [z.1]; decide
      refine ⟨fun c20 => ?_, fun c20 => ?_⟩
      · skip
        refine hj103 _ _ _ _ ?_
        · clear h; rcases st with z | z | z
          · exact absurd z.1 c19
          · rw [z.1]; exact ⟨e1, e2, F, Or.inl rfl, o0, z.2⟩
          · rw [z.1]; exact ⟨e1, e2, F, Or.inr rfl, o1, z.2⟩
      · skip
        refine ⟨ib_1200000.mpr ?_, ?_⟩
        · clear h; rcases st with z | z | z
          · exact absurd z.1 c19
          · rw [z.1]; decide
          · rw [z.1]; decide
        refine ⟨fun c21 => ?_, fun c21 => ?_⟩
        · skip
          refine hj103 _ _ _ _ ?_
          · clear h; rcases st with z | z | z
            · exact absurd z.1 c19
            · rw [z.1]; exact ⟨e1, e2, F, Or.inl rfl, o0, z.2⟩
            · rw [z.1]; exact ⟨e1, e2, F, Or.inr rfl, o1, z.2⟩
        · skip
          refine h _ ?_
          · clear h; have g1 : Nat.gcd (nV σ a1.toNatClampNeg) (nV σ a2.toNatClampNeg) = 1 := by
              rcases st with z | z | z
              · exact absurd z.1 c19
              · rw [z.1] at c20 c21
                rw [← z.2]
                exact one_v (r := 0) c20 c21
              · rw [z.1] at c20 c21
                rw [← z.2]
                exact one_v (r := 1) c20 c21
            refine ⟨frN_mono F ?_, gn.1, gd.1, by rw [g1, Nat.div_one]; exact gn.2.1, by rw [g1, Nat.div_one]; exact gd.2.1⟩
            intro k hk
            simp only [List.mem_cons, List.not_mem_nil, or_false] at hk ⊢
            omega
    · skip
      have S : 0 < nV σ29 0 ∧ 0 < nV σ29 1 ∧ Nat.gcd (nV σ29 0) (nV σ29 1) = Nat.gcd (nV σ a1.toNatClampNeg) (nV σ a2.toNatClampNeg) := by
        rcases st with z | z | z
        · exact z.2
        · rw [z.1] at c19
          exact absurd c19 (by decide)
        · rw [z.1] at c19
          exact absurd c19 (by decide)
      have L0 := nL_mono o0 hn le0
      have L1 := nL_mono o1 hd le1
      refine divide_c hC  ?_ (fun σ_22 q23 => ?_)
      · clear h; exact ⟨by decide, by decide, by decide, by decide, by decide, by decide, by decide, by decide, by decide, o0, o1, S.2.1, by show nL σ29 0 + 1 < _; omega⟩  -- p16
      have q23 : frN [2, 0, 1] σ29 σ_22 ∧ numO σ_22 2 ∧ numO σ_22 0 ∧ numO σ_22 1 ∧ nV σ_22 2 = nV σ29 0 / nV σ29 1 ∧ nV σ_22 0 = nV σ29 0 % nV σ29 1 ∧ nV σ_22 1 = nV σ29 1 := q23
      have m1 := Nat.mod_lt (nV σ29 0) S.2.1
      have m2 := Nat.mod_le (nV σ29 0) (nV σ29 1)
      have F2 : frN [0, 1, 2] σ σ_22 := frN_tr F (frN_mono q23.1 (fun k hk => by
        simp only [List.mem_cons, List.not_mem_nil, or_false] at hk ⊢
        omega))
      refine isZero_c hC  ?_ (fun r24 q26 => ?_)
      · clear h; decide  -- p17
      have z2 := z_1 (r := 0) q23.2.2.1 q26
      refine ⟨fun c27 => ?_, fun c27 => ?_⟩
      · skip
        refine divide_c hC  ?_ (fun σ_28 q29 => ?_)
        · clear h; exact ⟨by decide, by decide, by decide, by decide, by decide, by decide, by decide, by decide, by decide, q23.2.2.2.1, q23.2.2.1, z2.1 c27, by show nL σ_22 1 + 1 < _; have := nL_mono q23.2.2.2.1 o1 (by omega); omega⟩  -- p18
        have q29 : frN [2, 1, 0] σ_22 σ_28 ∧ numO σ_28 2 ∧ numO σ_28 1 ∧ numO σ_28 0 ∧ nV σ_28 2 = nV σ_22 1 / nV σ_22 0 ∧ nV σ_28 1 = nV σ_22 1 % nV σ_22 0 ∧ nV σ_28 0 = nV σ_22 0 := q29
        have m3 := Nat.mod_lt (nV σ_22 1) (z2.1 c27)
        have F3 : frN [0, 1, 2] σ σ_28 := frN_tr F2 (frN_mono q29.1 (fun k hk => by
          simp only [List.mem_cons, List.not_mem_nil, or_false] at hk ⊢
          omega))
        have gg : Nat.gcd (nV σ_28 0) (nV σ_28 1) = Nat.gcd (nV σ a1.toNatClampNeg) (nV σ a2.toNatClampNeg) := by
          rw [q29.2.2.2.2.2.1, q29.2.2.2.2.2.2, gcd_t, q23.2.2.2.2.2.1, q23.2.2.2.2.2.2, gcd_s]
          exact S.2.2
        refine isZero_c hC  ?_ (fun r30 q32 => ?_)
        · clear h; decide  -- p19
        have z3 := z_1 (r := 1) q29.2.2.1 q32
        refine ⟨fun c33 => ?_, fun c33 => ?_⟩
        · skip
          refine ⟨_, ?_, rfl, ?_⟩
          · clear h; show rdM σ_28 (-1) < n29
            rw [hn29, c19]
            show nV σ_28 1 + 1 < nV σ29 1 + 1
            omega
          · clear h; exact ⟨e1, e2, F3, q29.2.2.2.1, q29.2.2.1, by omega, by omega, Or.inl ⟨rfl, by have := z2.1 c27; omega, z3.1 c33, gg⟩⟩  -- i21
        · skip
          refine ⟨_, ?_, rfl, ?_⟩
          · clear h; show rdM σ_28 0 < n29
            rw [hn29, c19]
            show 0 < nV σ29 1 + 1
            omega
          · clear h; refine ⟨e1, e2, F3, q29.2.2.2.1, q29.2.2.1, by omega, by omega, Or.inr (Or.inl ⟨rfl, ?_⟩)⟩
            rw [z3.2 c33, Nat.gcd_zero_right] at gg
            exact gg
      · skip
        refine ⟨_, ?_, rfl, ?_⟩
        · clear h; show rdM σ_22 1 < n29
          rw [hn29, c19]
          show 0 < nV σ29 1 + 1
          omega
        · clear h; have zz2 := z2.2 c27
          refine ⟨e1, e2, F2, q23.2.2.1, q23.2.2.2.1, by omega, by omega, Or.inr (Or.inr ⟨rfl, ?_⟩)⟩
          rw [← S.2.2, ← gcd_s, ← q23.2.2.2.2.2.1, zz2, Nat.gcd_zero_left]
          exact q23.2.2.2.2.2.2
  · skip
    refine set_c hC  ?_ (fun σ_34 q35 => ?_)
    · clear h; exact ⟨f2.1, h3, by decide⟩  -- p26
    refine h _ ?_
    · clear h; have q35 : frN [a2.toNatClampNeg] σ σ_34 ∧ numO σ_34 a2.toNatClampNeg ∧ nV σ_34 a2.toNatClampNeg = 1 ∧ nL σ_34 a2.toNatClampNeg ≤ 4 := q35
      have n0 := zz.2 c14
      have gn := nV_fr q35.1 (nm1 cne) hn
      refine ⟨frN_mono q35.1 ?_, gn.1, q35.2.1, ?_, ?_⟩
      · intro k hk
        simp only [List.mem_cons, List.not_mem_nil, or_false] at hk ⊢
        omega
      · rw [gn.2.1, n0, Nat.zero_div]
      · rw [q35.2.2.1, n0, Nat.gcd_zero_left, Nat.div_self hz]

end
section
set_option maxHeartbeats 1600000
/-! the reference: fractions by their values -/
def fQ (σ : rS) (n d : Nat) : Rat := mkRat (nV σ n) (nV σ d)
/-- the numbers n and d hold the fraction q in its lowest terms -/
def hR (σ : rS) (n d : Nat) (q : Rat) : Prop := numO σ n ∧ numO σ d ∧ (nV σ n : Int) = q.num ∧ nV σ d = q.den
theorem hR_q {σ : rS} {n d : Nat} {q : Rat} (h : hR σ n d q) : fQ σ n d = q ∧ 0 < nV σ d := by
  unfold fQ
  rw [h.2.2.1, h.2.2.2]
  exact ⟨Rat.mkRat_self q, Nat.pos_of_ne_zero q.den_nz⟩
theorem hR_red {σ τ : rS} {n d : Nat} (hn : numO τ n) (hd : numO τ d) (z : 0 < nV σ d) (en : nV τ n = nV σ n / Nat.gcd (nV σ n) (nV σ d)) (ed : nV τ d = nV σ d / Nat.gcd (nV σ n) (nV σ d)) : hR τ n d (fQ σ n d) := by
  have z2 : ¬ nV σ d = 0 := by omega
  refine ⟨hn, hd, ?_, ?_⟩
  · unfold fQ
    rw [Rat.num_mkRat, if_neg z2, en, Int.natAbs_natCast, Nat.gcd_comm, Int.natCast_ediv]
  · unfold fQ
    rw [Rat.den_mkRat, if_neg z2, ed, Int.natAbs_natCast, Nat.gcd_comm]
theorem hR_fr {l : List Nat} {σ τ : rS} {n d : Nat} {q : Rat} (f : frN l σ τ) (hn : n ∉ l) (hd : d ∉ l) (h : hR σ n d q) : hR τ n d q := by
  have a := nV_fr f hn h.1
  have b := nV_fr f hd h.2.1
  exact ⟨a.1, b.1, by rw [a.2.1]; exact h.2.2.1, by rw [b.2.1]; exact h.2.2.2⟩
/-- as frN, and the sum's sign -/
def frS (l : List Nat) (σ τ : rS) : Prop := (∀ k, k ≠ 92 → τ.1 k = σ.1 k) ∧ τ.2.1 = σ.2.1 ∧ (∀ k, k ≠ 90 → k ≠ 91 → τ.2.2.1 k = σ.2.2.1 k) ∧ τ.2.2.2 = σ.2.2.2 ∧ ∀ k, k ∉ l → τ.2.2.1 91 k = σ.2.2.1 91 k ∧ ∀ i, i < 40000 → τ.2.2.1 90 (40000 * k + i) = σ.2.2.1 90 (40000 * k + i)
theorem frS_of {l : List Nat} {σ τ : rS} (h : frN l σ τ) : frS l σ τ := ⟨fun k _ => by rw [h.1], h.2⟩
theorem frS_tr {l : List Nat} {σ τ υ : rS} (h : frS l σ τ) (g : frS l τ υ) : frS l σ υ := ⟨fun k z => (g.1 k z).trans (h.1 k z), g.2.1.trans h.2.1, fun k z1 z2 => (g.2.2.1 k z1 z2).trans (h.2.2.1 k z1 z2), g.2.2.2.1.trans h.2.2.2.1, fun k z => ⟨(g.2.2.2.2 k z).1.trans (h.2.2.2.2 k z).1, fun i hi => ((g.2.2.2.2 k z).2 i hi).trans ((h.2.2.2.2 k z).2 i hi)⟩⟩
theorem frS_mono {l m : List Nat} {σ τ : rS} (h : frS l σ τ) (hl : ∀ k, k ∈ l → k ∈ m) : frS m σ τ := ⟨h.1, h.2.1, h.2.2.1, h.2.2.2.1, fun k z => h.2.2.2.2 k (fun e => z (hl k e))⟩
theorem frS_N {l : List Nat} {σ τ : rS} (h : frS l σ τ) : frN l (τ.1, σ.2) τ := ⟨rfl, h.2⟩
theorem frS_92 {l : List Nat} {σ : rS} {x : Int32} : frS l σ (siU σ 92 x) := ⟨fun k z => by show (if k = 92 then x else σ.1 k) = σ.1 k; rw [if_neg z], rfl, fun _ _ _ => rfl, rfl, fun _ _ => ⟨rfl, fun _ _ => rfl⟩⟩
theorem nV_frS {l : List Nat} {σ τ : rS} {k : Nat} (f : frS l σ τ) (hk : k ∉ l) (h : numO σ k) : numO τ k ∧ nV τ k = nV σ k ∧ nL τ k = nL σ k := nV_fr (σ := (τ.1, σ.2)) (frS_N f) hk h
theorem hR_frS {l : List Nat} {σ τ : rS} {n d : Nat} {q : Rat} (f : frS l σ τ) (hn : n ∉ l) (hd : d ∉ l) (h : hR σ n d q) : hR τ n d q := hR_fr (σ := (τ.1, σ.2)) (frS_N f) hn hd h
theorem nV_92 {σ : rS} {x : Int32} {k : Nat} : nV (siU σ 92 x) k = nV σ k ∧ (numO (siU σ 92 x) k ↔ numO σ k) ∧ nL (siU σ 92 x) k = nL σ k := ⟨rfl, Iff.rfl, rfl⟩
theorem l1_n {x : Int64} (h : 0 < x) : 0 ≤ x ∧ 0 < x.toInt.toNat ∧ (x.toInt.toNat : Int) = x.toInt := by
  have a := Int64.lt_iff_toInt_lt.mp h
  rw [Int64.toInt_zero] at a
  exact ⟨Int64.le_of_lt h, by omega, by omega⟩
/-- the sum: its sign, and the numbers 4 and 5 -/
def hS (σ : rS) (p : Rat) : Prop := ∃ q, hR σ 4 5 q ∧ ((σ.1 92 = 1 ∧ p = q) ∨ (σ.1 92 = -1 ∧ p = -q))
theorem hR_0 {σ : rS} {n d : Nat} (hn : numO σ n) (hd : numO σ d) (zn : nV σ n = 0) (zd : nV σ d = 1) : hR σ n d 0 := ⟨hn, hd, by rw [zn]; rfl, by rw [zd]; rfl⟩
theorem kn : (0 : Int32).toNatClampNeg = 0 ∧ (1 : Int32).toNatClampNeg = 1 ∧ (2 : Int32).toNatClampNeg = 2 ∧ (3 : Int32).toNatClampNeg = 3 ∧ (4 : Int32).toNatClampNeg = 4 ∧ (5 : Int32).toNatClampNeg = 5 ∧ (6 : Int32).toNatClampNeg = 6 ∧ (7 : Int32).toNatClampNeg = 7 ∧ (8 : Int32).toNatClampNeg = 8 ∧ (9 : Int32).toNatClampNeg = 9 ∧ (10 : Int32).toNatClampNeg = 10 ∧ (11 : Int32).toNatClampNeg = 11 ∧ (12 : Int32).toNatClampNeg = 12 ∧ (13 : Int32).toNatClampNeg = 13 ∧ (14 : Int32).toNatClampNeg = 14 := ⟨rfl, rfl, rfl, rfl, rfl, rfl, rfl, rfl, rfl, rfl, rfl, rfl, rfl, rfl, rfl⟩
theorem sub_of {l m : List Nat} (h : l.all (fun k => m.contains k) = true) : ∀ k, k ∈ l → k ∈ m := fun k hk => List.contains_iff_mem.mp (List.all_eq_true.mp h k hk)
theorem fQ_mul {σ τ : rS} {n d m e : Nat} {x y : Nat} (h1 : nV τ n = nV σ m * x) (h2 : nV τ d = nV σ e * y) : fQ τ n d = fQ σ m e * mkRat (x : Int) y := by
  unfold fQ
  rw [h1, h2, Rat.mkRat_mul_mkRat, Int.natCast_mul]
theorem clearSum_c {C : rCx} (hC : cOK C)  {σ : rS}  {Q : rS → Prop} (h : ∀ (σ' : rS), (frS [4, 5] σ σ' ∧ hS σ' 0) → Q σ') : cV C 1 m_clearSum [.ref (co C)] σ Q := by
  refine m_clearSum_run hC ?_
  unfold w_clearSum_0
  refine set_c hC  ?_ (fun σ_1 q2 => ?_)
  · clear h; decide  -- p1
  simp only [kn] at q2
  refine set_c hC  ?_ (fun σ_3 q4 => ?_)
  · clear h; decide  -- p2
  simp only [kn] at q4
  have g4 := nV_fr q4.1 (k := 4) (by decide) q2.2.1
  intro σ_5 hσ_5
  refine h _ ?_
  · clear h; rw [hσ_5]
    refine ⟨frS_tr (frS_of (frN_mono q2.1 (sub_of rfl))) (frS_tr (frS_of (frN_mono q4.1 (sub_of rfl))) frS_92), 0, hR_0 (nV_92.2.1.mpr g4.1) (nV_92.2.1.mpr q4.2.1) ?_ ?_, Or.inl ⟨rfl, rfl⟩⟩
    · rw [nV_92.1, g4.2.1, q2.2.2.1]; rfl
    · rw [nV_92.1, q4.2.2.1]; rfl

theorem scale_c {C : rCx} (hC : cOK C)  {σ : rS} {a1 : Int64} {a3 : Int64} {Q : rS → Prop} (hp : numO σ 6 ∧ numO σ 7 ∧ 0 < nV σ 7 ∧ 0 ≤ a1 ∧ 0 < a3 ∧ nL σ 6 + 5 < 40000 ∧ nL σ 7 + 5 < 40000) (h : ∀ (σ' : rS), (frN [0, 1, 2, 3, 6, 7, 8, 9] σ σ' ∧ hR σ' 6 7 (fQ σ 6 7 * mkRat a1.toInt a3.toInt.toNat)) → Q σ') : cV C 4 m_scale [.ref (co C), .long a1, .long a3] σ Q := by
  refine m_scale_run hC ?_
  unfold w_scale_0
  obtain ⟨h6, h7, hz, p0, p1, l6, l7⟩ := hp
  have c3 := l1_n p1
  refine set_c hC  ?_ (fun σ_1 q2 => ?_)
  · clear h; exact ⟨by decide, by decide, p0⟩  -- p1
  simp only [kn] at q2
  have g6 := nV_fr q2.1 (k := 6) (by decide) h6
  have g7 := nV_fr q2.1 (k := 7) (by decide) h7
  refine times_c hC  ?_ (fun σ_3 q4 => ?_)
  · clear h; simp only [kn]
    exact ⟨by decide, by decide, by decide, by decide, by decide, by decide, by decide, by decide, g6.1, q2.2.1, by omega⟩
  simp only [kn] at q4
  have k7 := nV_fr q4.1 (k := 7) (by decide) g7.1
  refine copy_v hC  ?_ (fun σ_5 q6 => ?_)
  · clear h; simp only [kn]
    exact ⟨by decide, by decide, by decide, by decide, by decide, q4.2.1⟩
  simp only [kn] at q6
  have m7 := nV_fr q6.1 (k := 7) (by decide) k7.1
  refine set_c hC  ?_ (fun σ_7 q8 => ?_)
  · clear h; exact ⟨by decide, by decide, c3.1⟩  -- p4
  simp only [kn] at q8
  have n7 := nV_fr q8.1 (k := 7) (by decide) m7.1
  have n6 := nV_fr q8.1 (k := 6) (by decide) q6.2.1
  refine times_c hC  ?_ (fun σ_9 q10 => ?_)
  · clear h; simp only [kn]
    exact ⟨by decide, by decide, by decide, by decide, by decide, by decide, by decide, by decide, n7.1, q8.2.1, by omega⟩
  simp only [kn] at q10
  have o6 := nV_fr q10.1 (k := 6) (by decide) n6.1
  refine copy_v hC  ?_ (fun σ_11 q12 => ?_)
  · clear h; simp only [kn]
    exact ⟨by decide, by decide, by decide, by decide, by decide, q10.2.1⟩
  simp only [kn] at q12
  have r6 := nV_fr q12.1 (k := 6) (by decide) o6.1
  have v6 : nV σ_11 6 = nV σ 6 * a1.toInt.toNat := by rw [r6.2.1, o6.2.1, n6.2.1, q6.2.2.1, q4.2.2.1, g6.2.1, q2.2.2.1]
  have v7 : nV σ_11 7 = nV σ 7 * a3.toInt.toNat := by rw [q12.2.2.1, q10.2.2.1, n7.2.1, m7.2.1, k7.2.1, g7.2.1, q8.2.2.1]
  have z7 : 0 < nV σ_11 7 := by rw [v7]; exact Nat.mul_pos hz c3.2.1
  refine reduce_c hC  ?_ (fun σ_13 q14 => ?_)
  · clear h; simp only [kn]
    exact ⟨by decide, by decide, by decide, by decide, by decide, r6.1, q12.2.1, z7, by omega, by omega⟩
  simp only [kn] at q14
  refine h _ ?_
  · clear h; have a0 := Int64.le_iff_toInt_le.mp p0
    rw [Int64.toInt_zero] at a0
    have e := fQ_mul v6 v7
    rw [show ((a1.toInt.toNat : Nat) : Int) = a1.toInt by omega] at e
    rw [← e]
    refine ⟨?_, hR_red q14.2.1 q14.2.2.1 z7 q14.2.2.2.1 q14.2.2.2.2⟩
    exact frN_tr (frN_mono q2.1 (sub_of rfl)) (frN_tr (frN_mono q4.1 (sub_of rfl)) (frN_tr (frN_mono q6.1 (sub_of rfl)) (frN_tr (frN_mono q8.1 (sub_of rfl)) (frN_tr (frN_mono q10.1 (sub_of rfl)) (frN_tr (frN_mono q12.1 (sub_of rfl)) (frN_mono q14.1 (sub_of rfl)))))))

end
section
set_option maxHeartbeats 1600000
/-! the reference: the sum of fractions -/
def sgq (s : Int32) (q : Rat) : Rat := if s = 1 then q else -q
theorem sgq_1 {q : Rat} : sgq 1 q = q := if_pos rfl
theorem sgq_m {q : Rat} : sgq (-1) q = -q := if_neg (by decide)
theorem sgq_0 {s : Int32} : sgq s 0 = 0 := by
  unfold sgq
  split
  · rfl
  · exact Rat.neg_zero
theorem sgq_add {s : Int32} {p q : Rat} : sgq s (p + q) = sgq s p + sgq s q := by
  unfold sgq
  split
  · rfl
  · exact Rat.neg_add
theorem fQ_sum {σ τ : rS} (e8 : nV τ 8 = nV σ 4 * nV σ 7 + nV σ 6 * nV σ 5) (e10 : nV τ 10 = nV σ 5 * nV σ 7) (z5 : 0 < nV σ 5) (z7 : 0 < nV σ 7) : fQ τ 8 10 = fQ σ 4 5 + fQ σ 6 7 := by
  unfold fQ
  rw [Rat.mkRat_add_mkRat _ _ (by omega) (by omega), e8, e10, Int.natCast_add, Int.natCast_mul, Int.natCast_mul]
theorem fQ_d1 {σ τ : rS} (h : nV σ 6 * nV σ 5 ≤ nV σ 4 * nV σ 7) (e8 : nV τ 8 = nV σ 4 * nV σ 7 - nV σ 6 * nV σ 5) (e10 : nV τ 10 = nV σ 5 * nV σ 7) (z5 : 0 < nV σ 5) (z7 : 0 < nV σ 7) : fQ τ 8 10 = fQ σ 4 5 + -fQ σ 6 7 := by
  unfold fQ
  rw [Rat.neg_mkRat, Rat.mkRat_add_mkRat _ _ (by omega) (by omega), e8, e10, Int.neg_mul, ← Int.natCast_mul, ← Int.natCast_mul]
  congr 1
  omega
theorem fQ_d2 {σ τ : rS} (h : nV σ 4 * nV σ 7 ≤ nV σ 6 * nV σ 5) (e8 : nV τ 8 = nV σ 6 * nV σ 5 - nV σ 4 * nV σ 7) (e10 : nV τ 10 = nV σ 5 * nV σ 7) (z5 : 0 < nV σ 5) (z7 : 0 < nV σ 7) : fQ τ 8 10 = -fQ σ 4 5 + fQ σ 6 7 := by
  unfold fQ
  rw [Rat.neg_mkRat, Rat.mkRat_add_mkRat _ _ (by omega) (by omega), e8, e10, Int.neg_mul, ← Int.natCast_mul, ← Int.natCast_mul]
  congr 1
  omega
theorem sgq_d1 {s a : Int32} {A B : Rat} (hs : s = 1 ∨ s = -1) (ha : a = 1 ∨ a = -1) (h : ¬ a = s) : sgq s (A + -B) = sgq s A + sgq a B := by
  rcases hs with rfl | rfl <;> rcases ha with rfl | rfl
  · exact absurd rfl h
  · rw [sgq_1, sgq_1, sgq_m]
  · rw [sgq_m, sgq_m, sgq_1, Rat.neg_add, Rat.neg_neg]
  · exact absurd rfl h
theorem sgq_d2 {s a : Int32} {A B : Rat} (hs : s = 1 ∨ s = -1) (ha : a = 1 ∨ a = -1) (h : ¬ a = s) : sgq a (-A + B) = sgq s A + sgq a B := by
  rcases hs with rfl | rfl <;> rcases ha with rfl | rfl
  · exact absurd rfl h
  · rw [sgq_m, sgq_1, sgq_m, Rat.neg_add, Rat.neg_neg]
  · rw [sgq_1, sgq_m, sgq_1]
  · exact absurd rfl h
theorem fQ_z {σ : rS} {n d : Nat} (h : nV σ n = 0) : fQ σ n d = 0 := by
  unfold fQ
  rw [h]
  exact Rat.zero_mkRat _
def adJR9 (σ τ : rS) (P : Rat) : Prop := frS [8, 9, 10] σ τ ∧ (τ.1 92 = 1 ∨ τ.1 92 = -1) ∧ numO τ 8 ∧ numO τ 10 ∧ 0 < nV τ 10 ∧ nL τ 8 + 1 < 40000 ∧ nL τ 10 + 1 < 40000 ∧ sgq (τ.1 92) (fQ τ 8 10) = P
theorem add_c {C : rCx} (hC : cOK C)  {σ : rS} {a1 : Int32} {Q : rS → Prop} (hp : (a1 = 1 ∨ a1 = -1) ∧ (σ.1 92 = 1 ∨ σ.1 92 = -1) ∧ numO σ 4 ∧ numO σ 5 ∧ numO σ 6 ∧ numO σ 7 ∧ 0 < nV σ 5 ∧ 0 < nV σ 7 ∧ nL σ 4 + nL σ 7 + 3 < 40000 ∧ nL σ 6 + nL σ 5 + 3 < 40000 ∧ nL σ 5 + nL σ 7 + 3 < 40000) (h : ∀ (σ' : rS), (frS [0, 1, 2, 3, 4, 5, 8, 9, 10] σ σ' ∧ hS σ' (sgq (σ.1 92) (fQ σ 4 5) + sgq a1 (fQ σ 6 7))) → Q σ') : cV C 4 m_add [.ref (co C), .int a1] σ Q := by
  refine m_add_run hC ?_
  unfold w_add_0
  obtain ⟨ha, hs, h4, h5, h6, h7, z5, z7, l1, l2, l3⟩ := hp
  have hj117 : ∀  (τ : rS), (adJR9 σ τ (sgq (σ.1 92) (fQ σ 4 5) + sgq a1 (fQ σ 6 7))) → w_add_117 C Q   τ := by
    rintro  τ117 j117
    unfold w_add_117
    obtain ⟨F, w, o8, o10, z10, m8, m10, P⟩ := j117
    refine copy_v hC  ?_ (fun σ_1 q2 => ?_)
    · clear h; simp only [kn]
      exact ⟨by decide, by decide, by decide, by decide, by decide, o8⟩
    simp only [kn] at q2
    have g10 := nV_fr q2.1 (k := 10) (by decide) o10
    refine copy_v hC  ?_ (fun σ_3 q4 => ?_)
    · clear h; simp only [kn]
      exact ⟨by decide, by decide, by decide, by decide, by decide, g10.1⟩
    simp only [kn] at q4
    have g4 := nV_fr q4.1 (k := 4) (by decide) q2.2.1
    have e : fQ σ_3 4 5 = fQ τ117 8 10 := by unfold fQ; rw [g4.2.1, q2.2.2.1, q4.2.2.1, g10.2.1]
    have y5 : 0 < nV σ_3 5 := by rw [q4.2.2.1, g10.2.1]; exact z10
    refine reduce_c hC  ?_ (fun σ_5 q6 => ?_)
    · clear h; simp only [kn]
      exact ⟨by decide, by decide, by decide, by decide, by decide, g4.1, q4.2.1, y5, by omega, by omega⟩
    simp only [kn] at q6
    have R : hR σ_5 4 5 (fQ τ117 8 10) := by rw [← e]; exact hR_red q6.2.1 q6.2.2.1 y5 q6.2.2.2.1 q6.2.2.2.2
    have G : frN [0, 1, 2, 3, 4, 5] τ117 σ_5 := frN_tr (frN_mono q2.1 (sub_of rfl)) (frN_tr (frN_mono q4.1 (sub_of rfl)) (frN_mono q6.1 (sub_of rfl)))
    have GS : frS [0, 1, 2, 3, 4, 5, 8, 9, 10] σ σ_5 := frS_tr (frS_mono F (sub_of rfl)) (frS_of (frN_mono G (sub_of rfl)))
    have s5 : σ_5.1 92 = τ117.1 92 := by rw [G.1]
    refine isZero_c hC  ?_ (fun r7 q9 => ?_)
    · clear h; decide  -- p4
    refine ⟨fun c10 => ?_, fun c10 => ?_⟩
    · skip
      intro σ_11 hσ_11
      refine h _ ?_
      · clear h; rw [hσ_11]
        refine ⟨frS_tr GS frS_92, _, R, ?_⟩
        rcases w with w | w
        · exact Or.inl ⟨s5.trans w, by rw [← P, w, sgq_1]⟩
        · exact Or.inr ⟨s5.trans w, by rw [← P, w, sgq_m]⟩
    · skip
      intro σ_12 hσ_12
      refine h _ ?_
      · clear h; have nz := (z_1 (r := 4) R.1 q9).2 c10
        have q0 : fQ τ117 8 10 = 0 := Rat.num_eq_zero.mp (by rw [← R.2.2.1, nz]; rfl)
        rw [hσ_12]
        refine ⟨frS_tr GS frS_92, _, R, Or.inl ⟨rfl, ?_⟩⟩
        rw [← P, q0, sgq_0]
  have hj43 : ∀ (l1 : Int32) (τ : rS), (l1 = a1 ∧ frN [8, 9, 10] σ τ ∧ numO τ 8 ∧ numO τ 9 ∧ numO τ 10 ∧ nV τ 8 = nV σ 4 * nV σ 7 ∧ nV τ 9 = nV σ 6 * nV σ 5 ∧ nV τ 10 = nV σ 5 * nV σ 7 ∧ nL τ 8 + 3 < 40000 ∧ nL τ 9 + 3 < 40000 ∧ nL τ 10 + 3 < 40000 ∧ (a1 = σ.1 92 ∨ nV σ 4 = 0)) → w_add_43 C Q  l1 τ := by
    rintro y43_1 τ43 j43
    unfold w_add_43
    obtain ⟨e1, F, o8, o9, o10, v8, v9, v10, m8, m9, m10, w⟩ := j43
    refine plus_c hC  ?_ (fun σ_13 q14 => ?_)
    · clear h; simp only [kn]
      exact ⟨by decide, by decide, by decide, by decide, by decide, o8, o9, by omega, by omega⟩
    simp only [kn] at q14
    have FS : frN [8, 9, 10] σ σ_13 := frN_tr F (frN_mono q14.1 (sub_of rfl))
    have g4 := nV_fr FS (k := 4) (by decide) h4
    have g10 := nV_fr q14.1 (k := 10) (by decide) o10
    have SM := fQ_sum (σ := σ) (τ := σ_13) (by rw [q14.2.2.1, v8, v9]) (by rw [g10.2.1, v10]) z5 z7
    have PP : sgq a1 (fQ σ_13 8 10) = sgq (σ.1 92) (fQ σ 4 5) + sgq a1 (fQ σ 6 7) := by
      rw [SM, sgq_add]
      rcases w with w | w
      · rw [← w]
      · rw [fQ_z w, sgq_0, sgq_0]
    have y10 : 0 < nV σ_13 10 := by rw [g10.2.1, v10]; exact Nat.mul_pos z5 z7
    have N8 : nL σ_13 8 + 1 < 40000 := by have := q14.2.2.2; omega
    have N10 : nL σ_13 10 + 1 < 40000 := by omega
    refine isZero_c hC  ?_ (fun r15 q17 => ?_)
    · clear h; decide  -- p8
    have zz := z_1 (r := 4) g4.1 q17
    refine ⟨fun c18 => ?_, fun c18 => ?_⟩
    · skip
      intro σ_19 hσ_19
      refine hj117 _ ?_
      · clear h; have ws : a1 = σ.1 92 := by
          rcases w with w | w
          · exact w
          · have := zz.1 c18
            omega
        rw [hσ_19]
        refine ⟨frS_tr (frS_of FS) frS_92, ?_, q14.2.1, g10.1, y10, N8, N10, ?_⟩
        · show σ_13.1 92 = 1 ∨ σ_13.1 92 = -1
          rw [FS.1]; exact hs
        · show sgq (σ_13.1 92) (fQ σ_13 8 10) = _
          rw [FS.1, ← ws]
          rw [← ws] at PP
          exact PP
    · skip
      intro σ_20 hσ_20
      refine hj117 _ ?_
      · clear h; rw [hσ_20, e1]
        exact ⟨frS_tr (frS_of FS) frS_92, ha, q14.2.1, g10.1, y10, N8, N10, PP⟩
  refine times_c hC  ?_ (fun σ_21 q22 => ?_)
  · clear h; simp only [kn]
    exact ⟨by decide, by decide, by decide, by decide, by decide, by decide, by decide, by decide, h4, h7, by omega⟩
  simp only [kn] at q22
  have a5 := nV_fr q22.1 (k := 5) (by decide) h5
  have a6 := nV_fr q22.1 (k := 6) (by decide) h6
  have a7 := nV_fr q22.1 (k := 7) (by decide) h7
  refine times_c hC  ?_ (fun σ_23 q24 => ?_)
  · clear h; simp only [kn]
    exact ⟨by decide, by decide, by decide, by decide, by decide, by decide, by decide, by decide, a6.1, a5.1, by omega⟩
  simp only [kn] at q24
  have b5 := nV_fr q24.1 (k := 5) (by decide) a5.1
  have b7 := nV_fr q24.1 (k := 7) (by decide) a7.1
  have b8 := nV_fr q24.1 (k := 8) (by decide) q22.2.1
  refine times_c hC  ?_ (fun σ_25 q26 => ?_)
  · clear h; simp only [kn]
    exact ⟨by decide, by decide, by decide, by decide, by decide, by decide, by decide, by decide, b5.1, b7.1, by omega⟩
  simp only [kn] at q26
  have k8 := nV_fr q26.1 (k := 8) (by decide) b8.1
  have k9 := nV_fr q26.1 (k := 9) (by decide) q24.2.1
  have F : frN [8, 9, 10] σ σ_25 := frN_tr (frN_mono q22.1 (sub_of rfl)) (frN_tr (frN_mono q24.1 (sub_of rfl)) (frN_mono q26.1 (sub_of rfl)))
  have v8 : nV σ_25 8 = nV σ 4 * nV σ 7 := by rw [k8.2.1, b8.2.1, q22.2.2.1]
  have v9 : nV σ_25 9 = nV σ 6 * nV σ 5 := by rw [k9.2.1, q24.2.2.1, a6.2.1, a5.2.1]
  have v10 : nV σ_25 10 = nV σ 5 * nV σ 7 := by rw [q26.2.2.1, b5.2.1, a5.2.1, b7.2.1, a7.2.1]
  have N8 : nL σ_25 8 + 3 < 40000 := by have := q22.2.2.2; omega
  have N9 : nL σ_25 9 + 3 < 40000 := by have := q24.2.2.2; omega
  have N10 : nL σ_25 10 + 3 < 40000 := by have := q26.2.2.2; omega
  have s25 : σ_25.1 92 = σ.1 92 := by rw [F.1]
  refine ⟨fun c27 => ?_, fun c27 => ?_⟩
  · skip
    refine hj43 _ _ ?_
    · clear h; exact ⟨rfl, F, k8.1, k9.1, q26.2.1, v8, v9, v10, N8, N9, N10, Or.inl (c27.trans s25)⟩  -- k14
  · skip
    refine isZero_c hC  ?_ (fun r28 q30 => ?_)
    · clear h; decide  -- p15
    have d4 := nV_fr F (k := 4) (by decide) h4
    have zz := z_1 (r := 4) d4.1 q30
    have ne : ¬ a1 = σ.1 92 := fun z => c27 (z.trans s25.symm)
    refine ⟨fun c31 => ?_, fun c31 => ?_⟩
    · skip
      refine compare_c hC  ?_ (fun r32 q34 => ?_)
      · clear h; simp only [kn]
        exact ⟨by decide, by decide, by decide, by decide, k8.1, k9.1⟩
      simp only [kn] at q34
      refine ⟨fun c35 => ?_, fun c35 => ?_⟩
      · skip
        refine minus_c hC  ?_ (fun σ_36 q37 => ?_)
        · clear h; simp only [kn]
          refine ⟨by decide, by decide, by decide, by decide, by decide, k9.1, k8.1, ?_⟩
          rcases q34 with z | z | z
          · rw [z.1] at c35
            exact absurd c35 (by decide)
          · rw [z.1] at c35
            exact absurd c35 (by decide)
          · omega
        simp only [kn] at q37
        have e10 := nV_fr q37.1 (k := 10) (by decide) q26.2.1
        refine copy_v hC  ?_ (fun σ_38 q39 => ?_)
        · clear h; simp only [kn]
          exact ⟨by decide, by decide, by decide, by decide, by decide, q37.2.1⟩
        simp only [kn] at q39
        have f10 := nV_fr q39.1 (k := 10) (by decide) e10.1
        intro σ_40 hσ_40
        refine hj117 _ ?_
        · clear h; have lt : nV σ_25 8 < nV σ_25 9 := by
            rcases q34 with z | z | z
            · rw [z.1] at c35
              exact absurd c35 (by decide)
            · rw [z.1] at c35
              exact absurd c35 (by decide)
            · exact z.2
          have DD := fQ_d2 (σ := σ) (τ := σ_38) (by rw [v8, v9] at lt; omega) (by rw [q39.2.2.1, q37.2.2.1, v8, v9]) (by rw [f10.2.1, e10.2.1, v10]) z5 z7
          rw [hσ_40]
          refine ⟨frS_tr (frS_of (frN_tr F (frN_tr (frN_mono q37.1 (sub_of rfl)) (frN_mono q39.1 (sub_of rfl))))) frS_92, ha, q39.2.1, f10.1, ?_, ?_, ?_, ?_⟩
          · show 0 < nV σ_38 10
            rw [f10.2.1, e10.2.1, v10]; exact Nat.mul_pos z5 z7
          · show nL σ_38 8 + 1 < 40000
            have := q37.2.2.2
            omega
          · show nL σ_38 10 + 1 < 40000
            omega
          · show sgq a1 (fQ σ_38 8 10) = _
            rw [DD]; exact sgq_d2 hs ha ne
      · skip
        refine minus_c hC  ?_ (fun σ_41 q42 => ?_)
        · clear h; simp only [kn]
          refine ⟨by decide, by decide, by decide, by decide, by decide, k8.1, k9.1, ?_⟩
          rcases q34 with z | z | z
          · omega
          · omega
          · rw [z.1] at c35
            exact absurd (by decide) c35
        simp only [kn] at q42
        have e10 := nV_fr q42.1 (k := 10) (by decide) q26.2.1
        refine hj117 _ ?_
        · clear h; have ge : nV σ_25 9 ≤ nV σ_25 8 := by
            rcases q34 with z | z | z
            · omega
            · omega
            · rw [z.1] at c35
              exact absurd (by decide) c35
          have DD := fQ_d1 (σ := σ) (τ := σ_41) (by rw [v8, v9] at ge; omega) (by rw [q42.2.2.1, v8, v9]) (by rw [e10.2.1, v10]) z5 z7
          have s41 : σ_41.1 92 = σ.1 92 := by rw [q42.1.1]; exact s25
          refine ⟨frS_of (frN_tr F (frN_mono q42.1 (sub_of rfl))), by rw [s41]; exact hs, q42.2.1, e10.1, ?_, ?_, ?_, ?_⟩
          · rw [e10.2.1, v10]; exact Nat.mul_pos z5 z7
          · have := q42.2.2.2
            omega
          · omega
          · rw [s41, DD]; exact sgq_d1 hs ha ne
    · skip
      refine hj43 _ _ ?_
      · clear h; exact ⟨rfl, F, k8.1, k9.1, q26.2.1, v8, v9, v10, N8, N9, N10, Or.inr (by rw [← d4.2.1]; exact zz.2 c31)⟩  -- k22

end
section
set_option maxHeartbeats 1600000
/-! the reference: fractions kept in rows -/
/-- only places from l below u of the row k differ -/
def frR (k l u : Nat) (σ τ : rS) : Prop := τ.1 = σ.1 ∧ τ.2.1 = σ.2.1 ∧ (∀ j, j ≠ k → τ.2.2.1 j = σ.2.2.1 j) ∧ τ.2.2.2 = σ.2.2.2 ∧ ∀ i, (i < l ∨ u ≤ i) → τ.2.2.1 k i = σ.2.2.1 k i
theorem frR_refl {k l u : Nat} {σ : rS} : frR k l u σ σ := ⟨rfl, rfl, fun _ _ => rfl, rfl, fun _ _ => rfl⟩
theorem frR_tr {k l u : Nat} {σ τ υ : rS} (h : frR k l u σ τ) (g : frR k l u τ υ) : frR k l u σ υ := ⟨g.1.trans h.1, g.2.1.trans h.2.1, fun j z => (g.2.2.1 j z).trans (h.2.2.1 j z), g.2.2.2.1.trans h.2.2.2.1, fun i z => (g.2.2.2.2 i z).trans (h.2.2.2.2 i z)⟩
theorem frR_w {k l u i : Nat} {σ : rS} {x : Int32} (h1 : l ≤ i) (h2 : i < u) : frR k l u σ (riU σ k i x) := ⟨rfl, rfl, fun j z => ri3 z, rfl, fun j z => by rw [ri4, if_neg (by omega)]⟩
/-- a number of at most m places, its length L apart -/
def gO (f : Nat → Int32) (L : Int32) (o : Nat) (m : Int32) : Prop := 0 ≤ L ∧ L ≤ m ∧ dgO f o L.toNatClampNeg ∧ (L.toNatClampNeg = 0 ∨ ∃ t, L.toNatClampNeg = t + 1 ∧ (f (o + t)).toNatClampNeg ≠ 0)
theorem gO_c {f g : Nat → Int32} {L M m m' : Int32} {o p : Nat} (h : gO f L o m) (e : M = L) (hm : L ≤ m') (hc : ∀ i, i < L.toNatClampNeg → g (p + i) = f (o + i)) : gO g M p m' ∧ dv g p M.toNatClampNeg = dv f o L.toNatClampNeg := by
  rw [e]
  refine ⟨⟨h.1, hm, fun i hi => by rw [hc i hi]; exact h.2.2.1 i hi, ?_⟩, dv_congr hc⟩
  rcases h.2.2.2 with z | ⟨t, z1, z2⟩
  · exact Or.inl z
  · exact Or.inr ⟨t, z1, by rw [hc t (by omega)]; exact z2⟩
/-- a number in a row, its length before it -/
def slN (σ : rS) (k c : Nat) (m : Int32) : Prop := gO (σ.2.2.1 k) (σ.2.2.1 k c) (c + 1) m
def slV (σ : rS) (k c : Nat) : Nat := dv (σ.2.2.1 k) (c + 1) (σ.2.2.1 k c).toNatClampNeg
theorem m260 {a : Int32} (h0 : 0 ≤ a) (h1 : a < 2176) : 0 ≤ 260 * a ∧ (260 * a).toInt = 260 * a.toInt ∧ a.toNatClampNeg < 2176 ∧ (260 * a).toNatClampNeg = 260 * a.toNatClampNeg := by
  have a2 := t0 h0
  have a3 := Int32.lt_iff_toInt_lt.mp h1
  rw [show (2176 : Int32).toInt = 2176 from rfl] at a3
  have e : (260 * a).toInt = 260 * a.toInt := by
    rw [Int32.toInt_mul, show (260 : Int32).toInt = 260 from rfl]
    exact Int.bmod_eq_of_le (by omega) (by omega)
  have z : 0 ≤ 260 * a := Int32.le_iff_toInt_le.mpr (by rw [e, Int32.toInt_zero]; omega)
  have c := cn_int h0
  have d := cn_int z
  exact ⟨z, e, by omega, by omega⟩
theorem sx {a j k : Int32} (h0 : 0 ≤ a) (h1 : a < 2176) (hj : 0 ≤ j) (hk : 0 ≤ k) (h : j.toNatClampNeg + k.toNatClampNeg < 260) : (0 ≤ 260 * a + j + k ∧ 260 * a + j + k < 566000) ∧ (260 * a + j + k).toNatClampNeg = 260 * a.toNatClampNeg + j.toNatClampNeg + k.toNatClampNeg := by
  have m := m260 h0 h1
  have a2 := t0 h0
  have a3 := Int32.lt_iff_toInt_lt.mp h1
  rw [show (2176 : Int32).toInt = 2176 from rfl] at a3
  have cj := cn_int hj
  have ck := cn_int hk
  have ca := cn_int h0
  have e1 := i_add m.1 hj (by omega)
  have z1 : 0 ≤ 260 * a + j := Int32.le_iff_toInt_le.mpr (by rw [e1, Int32.toInt_zero]; omega)
  have e2 := i_add z1 hk (by omega)
  have z2 : 0 ≤ 260 * a + j + k := Int32.le_iff_toInt_le.mpr (by rw [e2, Int32.toInt_zero]; omega)
  have c := cn_int z2
  exact ⟨⟨z2, Int32.lt_iff_toInt_lt.mpr (by rw [e2, show (566000 : Int32).toInt = 566000 from rfl]; omega)⟩, by omega⟩
theorem sx1 {a j : Int32} (h0 : 0 ≤ a) (h1 : a < 2176) (hj : 0 ≤ j) (h : j.toNatClampNeg < 260) : (0 ≤ 260 * a + j ∧ 260 * a + j < 566000) ∧ (260 * a + j).toNatClampNeg = 260 * a.toNatClampNeg + j.toNatClampNeg := by
  have s := sx h0 h1 hj (k := 0) (by decide) (by show _ + 0 < _; omega)
  rw [Int32.add_zero] at s
  exact s
theorem le129 {σ : rS} {r : Nat} (hr : numO σ r) (h : nL σ r ≤ 129) : σ.2.2.1 91 r ≤ 129 := (cn_li hr.1 (by decide)).mpr h
/-- while a number is copied out: k places are done -/
def kpI (f g : Nat → Int32) (o p : Nat) (L k : Int32) : Prop := 0 ≤ k ∧ k ≤ L ∧ ∀ i, i < k.toNatClampNeg → g (p + i) = f (o + i)
theorem kp_s {f g g' : Nat → Int32} {o p : Nat} {L k : Int32} (h : kpI f g o p L k) (hL : L ≤ 40000) (hk : ¬ L ≤ k) (hg : ∀ i, g' i = if i = p + k.toNatClampNeg then f (o + k.toNatClampNeg) else g i) : kpI f g' o p L (k + 1) := by
  have u := mn_u h.1 hk hL
  refine ⟨u.1, u.2.1, fun i hi => ?_⟩
  rw [cn_succ h.1 u.2.2.2.2.2.2.1] at hi
  rw [hg]
  by_cases e : i = k.toNatClampNeg
  · rw [e, if_pos rfl]
  · rw [if_neg (by omega)]
    exact h.2.2 i (by omega)
theorem kp_k {f g g' : Nat → Int32} {o p : Nat} {L k : Int32} (h : kpI f g o p L k) (hg : ∀ i, i < k.toNatClampNeg → g' (p + i) = g (p + i)) : kpI f g' o p L k := ⟨h.1, h.2.1, fun i hi => by rw [hg i hi]; exact h.2.2 i hi⟩
theorem keepIn_c {C : rCx} (hC : cOK C)  {σ : rS} {a1 : Int32} {a2 : Int32} {a3 : Int32} {Q : rS → Prop} (hp : 0 ≤ a1 ∧ a1 < 2176 ∧ 0 ≤ a2 ∧ a2 < 30 ∧ 0 ≤ a3 ∧ a3 < 30 ∧ numO σ a2.toNatClampNeg ∧ numO σ a3.toNatClampNeg ∧ nL σ a2.toNatClampNeg ≤ 129 ∧ nL σ a3.toNatClampNeg ≤ 129) (h : ∀ (σ' : rS), (frR 93 (260 * a1.toNatClampNeg) (260 * a1.toNatClampNeg + 260) σ σ' ∧ slN σ' 93 (260 * a1.toNatClampNeg) 129 ∧ slN σ' 93 (260 * a1.toNatClampNeg + 130) 129 ∧ slV σ' 93 (260 * a1.toNatClampNeg) = nV σ a2.toNatClampNeg ∧ slV σ' 93 (260 * a1.toNatClampNeg + 130) = nV σ a3.toNatClampNeg) → Q σ') : cV C 0 m_keepIn [.ref (co C), .int a1, .int a2, .int a3] σ Q := by
  refine m_keepIn_run hC ?_
  unfold w_keepIn_0
  obtain ⟨h0, h1, h2, h3, h4, h5, hn, hd, ln, ld⟩ := hp
  have ma := m260 h0 h1
  have mb := sx1 h0 h1 (j := 0) (by decide) (by decide)
  rw [Int32.add_zero] at mb
  have mc := sx1 h0 h1 (j := 130) (by decide) (by decide)
  rw [show (130 : Int32).toNatClampNeg = 130 from rfl] at mc
  have l1 := le129 hn ln
  have l2 := le129 hd ld
  have ln' : (σ.2.2.1 91 a2.toNatClampNeg).toNatClampNeg ≤ 129 := ln
  have ld' : (σ.2.2.1 91 a3.toNatClampNeg).toNatClampNeg ≤ 129 := ld
  intro x1 hx1
  refine ⟨ib_30.mpr ?_, ?_⟩
  · clear h; exact ⟨h2, h3⟩  -- b1
  refine ⟨ib_566000.mpr ?_, ?_⟩
  · clear h; rw [hx1]; exact mb.1  -- b2
  intro σ_2 hσ_2
  refine ⟨ib_30.mpr ?_, ?_⟩
  · clear h; exact ⟨h4, h5⟩  -- b3
  refine ⟨ib_566000.mpr ?_, ?_⟩
  · clear h; rw [hx1]; exact mc.1  -- b4
  intro σ_3 hσ_3
  unfold w_keepIn_40
  refine ⟨fun n l2 l3 l4 l5 τ => n = (rd σ 91 a2 - l5).toNatClampNeg ∧ (l2 = a2 ∧ l3 = a3 ∧ l4 = 260 * a1 ∧ frR 93 (260 * a1.toNatClampNeg) (260 * a1.toNatClampNeg + 260) σ τ ∧ τ.2.2.1 93 (260 * a1.toNatClampNeg) = σ.2.2.1 91 a2.toNatClampNeg ∧ τ.2.2.1 93 (260 * a1.toNatClampNeg + 130) = σ.2.2.1 91 a3.toNatClampNeg ∧ kpI (σ.2.2.1 90) (τ.2.2.1 93) (40000 * a2.toNatClampNeg) (260 * a1.toNatClampNeg + 1) (σ.2.2.1 91 a2.toNatClampNeg) l5), ⟨_, rfl, ?_⟩, ?_⟩
  · clear h; rw [hx1, ma.2.2.2] at hσ_2
    rw [hx1, mc.2] at hσ_3
    refine ⟨rfl, rfl, hx1, frR_tr (τ := σ_2) (by rw [hσ_2]; exact frR_w (by omega) (by omega)) (by rw [hσ_3]; exact frR_w (by omega) (by omega)), ?_, ?_, by decide, hn.1, fun i hi => absurd hi (Nat.not_lt_zero i)⟩
    · rw [hσ_3, ri4, if_neg (by omega), hσ_2, ri4, if_pos rfl]
    · rw [hσ_3, ri4, if_pos rfl, hσ_2, ri3 (by decide)]
  rintro n40 x40_2 x40_3 x40_4 x40_5 σ40 ⟨hn40, i40⟩
  obtain ⟨e2, e3, e4, F, c0, c1, K⟩ := i40
  have r91 : σ40.2.2.1 91 = σ.2.2.1 91 := F.2.2.1 91 (by decide)
  have r90 : σ40.2.2.1 90 = σ.2.2.1 90 := F.2.2.1 90 (by decide)
  refine ⟨ib_30.mpr ?_, ?_⟩
  · clear h; rw [e2]; exact ⟨h2, h3⟩  -- b6
  refine ⟨fun c4 => ?_, fun c4 => ?_⟩
  · skip
    unfold w_keepIn_85
    refine ⟨fun n l3 l4 l5 τ => n = (rd σ 91 a3 - l5).toNatClampNeg ∧ (l3 = a3 ∧ l4 = 260 * a1 ∧ frR 93 (260 * a1.toNatClampNeg) (260 * a1.toNatClampNeg + 260) σ τ ∧ τ.2.2.1 93 (260 * a1.toNatClampNeg) = σ.2.2.1 91 a2.toNatClampNeg ∧ τ.2.2.1 93 (260 * a1.toNatClampNeg + 130) = σ.2.2.1 91 a3.toNatClampNeg ∧ kpI (σ.2.2.1 90) (τ.2.2.1 93) (40000 * a2.toNatClampNeg) (260 * a1.toNatClampNeg + 1) (σ.2.2.1 91 a2.toNatClampNeg) (σ.2.2.1 91 a2.toNatClampNeg) ∧ kpI (σ.2.2.1 90) (τ.2.2.1 93) (40000 * a3.toNatClampNeg) (260 * a1.toNatClampNeg + 130 + 1) (σ.2.2.1 91 a3.toNatClampNeg) l5), ⟨_, rfl, ?_⟩, ?_⟩
    · clear h; rw [e2, r91] at c4
      rw [show x40_5 = σ.2.2.1 91 a2.toNatClampNeg from Int32.le_antisymm K.2.1 c4] at K
      exact ⟨e3, e4, F, c0, c1, K, by decide, hd.1, fun i hi => absurd hi (Nat.not_lt_zero i)⟩
    rintro n85 x85_3 x85_4 x85_5 σ85 ⟨hn85, i85⟩
    obtain ⟨f3, f4, G, d0, d1, K1, K2⟩ := i85
    have t91 : σ85.2.2.1 91 = σ.2.2.1 91 := G.2.2.1 91 (by decide)
    have t90 : σ85.2.2.1 90 = σ.2.2.1 90 := G.2.2.1 90 (by decide)
    refine ⟨ib_30.mpr ?_, ?_⟩
    · clear h; rw [f3]; exact ⟨h4, h5⟩  -- b8
    refine ⟨fun c5 => ?_, fun c5 => ?_⟩
    · skip
      refine h _ ?_
      · clear h; rw [f3, t91] at c5
        rw [show x85_5 = σ.2.2.1 91 a3.toNatClampNeg from Int32.le_antisymm K2.2.1 c5] at K2
        have N := gO_c (m := 40000) hn d0 l1 K1.2.2
        have D := gO_c (m := 40000) hd d1 l2 K2.2.2
        exact ⟨G, N.1, D.1, N.2, D.2⟩
    · skip
      rw [f3, t91] at c5
      have u := mn_u K2.1 c5 hd.2.1
      have kl : x85_5.toNatClampNeg < (σ.2.2.1 91 a3.toNatClampNeg).toNatClampNeg := cn_lt K2.1 u.2.2.2.2.2.2.2
      have b9 := bx h4 h5 K2.1 u.2.2.2.2.2.1
      have s := sx h0 h1 (j := 131) (by decide) K2.1 (by show 131 + _ < _; omega)
      have s2 : (260 * a1 + 131 + x85_5).toNatClampNeg = 260 * a1.toNatClampNeg + 130 + 1 + x85_5.toNatClampNeg := s.2
      have ea : x85_4 + 130 + 1 + x85_5 = 260 * a1 + 131 + x85_5 := by rw [f4, Int32.add_assoc (260 * a1), show (130 : Int32) + 1 = 131 from rfl]
      refine ⟨ib_1200000.mpr ?_, ?_⟩
      · clear h; rw [f3]; exact ⟨b9.1, b9.2.2.1 u.2.2.2.2.1⟩  -- b10
      refine ⟨ib_566000.mpr ?_, ?_⟩
      · clear h; rw [ea]; exact s.1  -- b11
      intro σ_6 hσ_6
      intro x7 hx7
      refine ⟨_, cn_lt2 hn85 ?_ ?_, rfl, ?_⟩
      · clear h; rw [hx7]; exact u.2.2.1  -- d12
      · clear h; rw [hx7]; exact u.2.2.2.1  -- d13
      · clear h; rw [ea, s2, f3, b9.2.1, t90] at hσ_6
        have r93 : ∀ i, σ_6.2.2.1 93 i = if i = 260 * a1.toNatClampNeg + 130 + 1 + x85_5.toNatClampNeg then σ.2.2.1 90 (40000 * a3.toNatClampNeg + x85_5.toNatClampNeg) else σ85.2.2.1 93 i := fun i => by rw [hσ_6, ri4]
        refine ⟨f3, f4, frR_tr G (by rw [hσ_6]; exact frR_w (by omega) (by omega)), by rw [r93, if_neg (by omega)]; exact d0, by rw [r93, if_neg (by omega)]; exact d1, kp_k K1 (fun i hi => by rw [r93, if_neg (by omega)]), ?_⟩
        rw [hx7]
        exact kp_s K2 hd.2.1 c5 r93
  · skip
    rw [e2, r91] at c4
    have u := mn_u K.1 c4 hn.2.1
    have kl : x40_5.toNatClampNeg < (σ.2.2.1 91 a2.toNatClampNeg).toNatClampNeg := cn_lt K.1 u.2.2.2.2.2.2.2
    have b9 := bx h2 h3 K.1 u.2.2.2.2.2.1
    have s := sx h0 h1 (j := 1) (by decide) K.1 (by show 1 + _ < _; omega)
    have s2 : (260 * a1 + 1 + x40_5).toNatClampNeg = 260 * a1.toNatClampNeg + 1 + x40_5.toNatClampNeg := s.2
    refine ⟨ib_1200000.mpr ?_, ?_⟩
    · clear h; rw [e2]; exact ⟨b9.1, b9.2.2.1 u.2.2.2.2.1⟩  -- b15
    refine ⟨ib_566000.mpr ?_, ?_⟩
    · clear h; rw [e4]; exact s.1  -- b16
    intro σ_8 hσ_8
    intro x9 hx9
    refine ⟨_, cn_lt2 hn40 ?_ ?_, rfl, ?_⟩
    · clear h; rw [hx9]; exact u.2.2.1  -- d17
    · clear h; rw [hx9]; exact u.2.2.2.1  -- d18
    · clear h; rw [e4, s2, e2, b9.2.1, r90] at hσ_8
      have r93 : ∀ i, σ_8.2.2.1 93 i = if i = 260 * a1.toNatClampNeg + 1 + x40_5.toNatClampNeg then σ.2.2.1 90 (40000 * a2.toNatClampNeg + x40_5.toNatClampNeg) else σ40.2.2.1 93 i := fun i => by rw [hσ_8, ri4]
      refine ⟨e2, e3, e4, frR_tr F (by rw [hσ_8]; exact frR_w (by omega) (by omega)), by rw [r93, if_neg (by omega)]; exact c0, by rw [r93, if_neg (by omega)]; exact c1, ?_⟩
      rw [hx9]
      exact kp_s K hn.2.1 c4 r93

theorem load_c {C : rCx} (hC : cOK C)  {σ : rS} {a1 : Int32} {a2 : Int32} {a3 : Int32} {Q : rS → Prop} (hp : 0 ≤ a1 ∧ a1 < 2176 ∧ 0 ≤ a2 ∧ a2 < 30 ∧ 0 ≤ a3 ∧ a3 < 30 ∧ a2 ≠ a3 ∧ slN σ 93 (260 * a1.toNatClampNeg) 129 ∧ slN σ 93 (260 * a1.toNatClampNeg + 130) 129) (h : ∀ (σ' : rS), (frN [a2.toNatClampNeg, a3.toNatClampNeg] σ σ' ∧ numO σ' a2.toNatClampNeg ∧ numO σ' a3.toNatClampNeg ∧ nV σ' a2.toNatClampNeg = slV σ 93 (260 * a1.toNatClampNeg) ∧ nV σ' a3.toNatClampNeg = slV σ 93 (260 * a1.toNatClampNeg + 130) ∧ nL σ' a2.toNatClampNeg ≤ 129 ∧ nL σ' a3.toNatClampNeg ≤ 129) → Q σ') : cV C 0 m_load [.ref (co C), .int a1, .int a2, .int a3] σ Q := by
  refine m_load_run hC ?_
  unfold w_load_0
  obtain ⟨h0, h1, h2, h3, h4, h5, hne, hn, hd⟩ := hp
  have cne : a2.toNatClampNeg ≠ a3.toNatClampNeg := fun e => hne (cn_inj h2 h4 e)
  have ma := m260 h0 h1
  have mb := sx1 h0 h1 (j := 0) (by decide) (by decide)
  rw [Int32.add_zero] at mb
  have mc := sx1 h0 h1 (j := 130) (by decide) (by decide)
  rw [show (130 : Int32).toNatClampNeg = 130 from rfl] at mc
  have ln : (σ.2.2.1 93 (260 * a1.toNatClampNeg)).toNatClampNeg ≤ 129 := (cn_li hn.1 (by decide)).mp hn.2.1
  have ld : (σ.2.2.1 93 (260 * a1.toNatClampNeg + 130)).toNatClampNeg ≤ 129 := (cn_li hd.1 (by decide)).mp hd.2.1
  have l1 : σ.2.2.1 93 (260 * a1.toNatClampNeg) ≤ 40000 := Int32.le_trans hn.2.1 (by decide)
  have l2 : σ.2.2.1 93 (260 * a1.toNatClampNeg + 130) ≤ 40000 := Int32.le_trans hd.2.1 (by decide)
  intro x1 hx1
  refine ⟨ib_566000.mpr ?_, ?_⟩
  · clear h; rw [hx1]; exact mb.1  -- b1
  refine ⟨ib_30.mpr ?_, ?_⟩
  · clear h; exact ⟨h2, h3⟩  -- b2
  intro σ_2 hσ_2
  refine ⟨ib_566000.mpr ?_, ?_⟩
  · clear h; rw [hx1]; exact mc.1  -- b3
  refine ⟨ib_30.mpr ?_, ?_⟩
  · clear h; exact ⟨h4, h5⟩  -- b4
  intro σ_3 hσ_3
  have mq : ∀ k, k ∈ [a2.toNatClampNeg] → k ∈ [a2.toNatClampNeg, a3.toNatClampNeg] := fun k hk => by rw [List.mem_singleton.mp hk]; exact List.mem_cons_self
  have mr : ∀ k, k ∈ [a3.toNatClampNeg] → k ∈ [a2.toNatClampNeg, a3.toNatClampNeg] := fun k hk => List.mem_cons_of_mem _ hk
  unfold w_load_40
  refine ⟨fun n l2 l3 l4 l5 τ => n = (σ.2.2.1 93 (260 * a1.toNatClampNeg) - l5).toNatClampNeg ∧ (l2 = a2 ∧ l3 = a3 ∧ l4 = 260 * a1 ∧ frN [a2.toNatClampNeg, a3.toNatClampNeg] σ τ ∧ τ.2.2.1 91 a2.toNatClampNeg = σ.2.2.1 93 (260 * a1.toNatClampNeg) ∧ τ.2.2.1 91 a3.toNatClampNeg = σ.2.2.1 93 (260 * a1.toNatClampNeg + 130) ∧ kpI (σ.2.2.1 93) (τ.2.2.1 90) (260 * a1.toNatClampNeg + 1) (40000 * a2.toNatClampNeg) (σ.2.2.1 93 (260 * a1.toNatClampNeg)) l5), ⟨_, rfl, ?_⟩, ?_⟩
  · clear h; rw [hx1, ma.2.2.2] at hσ_2
    rw [hx1, mc.2] at hσ_3
    refine ⟨rfl, rfl, hx1, frN_tr (τ := σ_2) (frN_mono (by rw [hσ_2]; exact frN_91) mq) (frN_mono (by rw [hσ_3]; exact frN_91) mr), ?_, ?_, by decide, hn.1, fun i hi => absurd hi (Nat.not_lt_zero i)⟩
    · rw [hσ_3, ri4, if_neg cne, hσ_2, ri4, if_pos rfl]
    · rw [hσ_3, ri4, if_pos rfl, hσ_2, ri3 (by decide)]
  rintro n40 x40_2 x40_3 x40_4 x40_5 σ40 ⟨hn40, i40⟩
  obtain ⟨e2, e3, e4, F, c0, c1, K⟩ := i40
  have r93 : σ40.2.2.1 93 = σ.2.2.1 93 := F.2.2.1 93 (by decide) (by decide)
  refine ⟨ib_30.mpr ?_, ?_⟩
  · clear h; rw [e2]; exact ⟨h2, h3⟩  -- b6
  refine ⟨fun c4 => ?_, fun c4 => ?_⟩
  · skip
    unfold w_load_85
    refine ⟨fun n l3 l4 l5 τ => n = (σ.2.2.1 93 (260 * a1.toNatClampNeg + 130) - l5).toNatClampNeg ∧ (l3 = a3 ∧ l4 = 260 * a1 ∧ frN [a2.toNatClampNeg, a3.toNatClampNeg] σ τ ∧ τ.2.2.1 91 a2.toNatClampNeg = σ.2.2.1 93 (260 * a1.toNatClampNeg) ∧ τ.2.2.1 91 a3.toNatClampNeg = σ.2.2.1 93 (260 * a1.toNatClampNeg + 130) ∧ kpI (σ.2.2.1 93) (τ.2.2.1 90) (260 * a1.toNatClampNeg + 1) (40000 * a2.toNatClampNeg) (σ.2.2.1 93 (260 * a1.toNatClampNeg)) (σ.2.2.1 93 (260 * a1.toNatClampNeg)) ∧ kpI (σ.2.2.1 93) (τ.2.2.1 90) (260 * a1.toNatClampNeg + 130 + 1) (40000 * a3.toNatClampNeg) (σ.2.2.1 93 (260 * a1.toNatClampNeg + 130)) l5), ⟨_, rfl, ?_⟩, ?_⟩
    · clear h; rw [e2, c0] at c4
      rw [show x40_5 = σ.2.2.1 93 (260 * a1.toNatClampNeg) from Int32.le_antisymm K.2.1 c4] at K
      exact ⟨e3, e4, F, c0, c1, K, by decide, hd.1, fun i hi => absurd hi (Nat.not_lt_zero i)⟩
    rintro n85 x85_3 x85_4 x85_5 σ85 ⟨hn85, i85⟩
    obtain ⟨f3, f4, G, d0, d1, K1, K2⟩ := i85
    have t93 : σ85.2.2.1 93 = σ.2.2.1 93 := G.2.2.1 93 (by decide) (by decide)
    refine ⟨ib_30.mpr ?_, ?_⟩
    · clear h; rw [f3]; exact ⟨h4, h5⟩  -- b8
    refine ⟨fun c5 => ?_, fun c5 => ?_⟩
    · skip
      refine h _ ?_
      · clear h; rw [f3, d1] at c5
        rw [show x85_5 = σ.2.2.1 93 (260 * a1.toNatClampNeg + 130) from Int32.le_antisymm K2.2.1 c5] at K2
        have N := gO_c (m' := 40000) hn d0 l1 K1.2.2
        have D := gO_c (m' := 40000) hd d1 l2 K2.2.2
        refine ⟨G, N.1, D.1, N.2, D.2, ?_, ?_⟩
        · show (σ85.2.2.1 91 a2.toNatClampNeg).toNatClampNeg ≤ 129
          rw [d0]; exact ln
        · show (σ85.2.2.1 91 a3.toNatClampNeg).toNatClampNeg ≤ 129
          rw [d1]; exact ld
    · skip
      rw [f3, d1] at c5
      have u := mn_u K2.1 c5 l2
      have kl : x85_5.toNatClampNeg < (σ.2.2.1 93 (260 * a1.toNatClampNeg + 130)).toNatClampNeg := cn_lt K2.1 u.2.2.2.2.2.2.2
      have b9 := bx h4 h5 K2.1 u.2.2.2.2.2.1
      have s := sx h0 h1 (j := 131) (by decide) K2.1 (by show 131 + _ < _; omega)
      have s2 : (260 * a1 + 131 + x85_5).toNatClampNeg = 260 * a1.toNatClampNeg + 130 + 1 + x85_5.toNatClampNeg := s.2
      have ea : x85_4 + 130 + 1 + x85_5 = 260 * a1 + 131 + x85_5 := by rw [f4, Int32.add_assoc (260 * a1), show (130 : Int32) + 1 = 131 from rfl]
      refine ⟨ib_566000.mpr ?_, ?_⟩
      · clear h; rw [ea]; exact s.1  -- b10
      refine ⟨ib_1200000.mpr ?_, ?_⟩
      · clear h; rw [f3]; exact ⟨b9.1, b9.2.2.1 u.2.2.2.2.1⟩  -- b11
      intro σ_6 hσ_6
      intro x7 hx7
      refine ⟨_, cn_lt2 hn85 ?_ ?_, rfl, ?_⟩
      · clear h; rw [hx7]; exact u.2.2.1  -- d12
      · clear h; rw [hx7]; exact u.2.2.2.1  -- d13
      · clear h; rw [ea, s2, f3, b9.2.1, t93] at hσ_6
        have r90 : ∀ i, σ_6.2.2.1 90 i = if i = 40000 * a3.toNatClampNeg + x85_5.toNatClampNeg then σ.2.2.1 93 (260 * a1.toNatClampNeg + 130 + 1 + x85_5.toNatClampNeg) else σ85.2.2.1 90 i := fun i => by rw [hσ_6, ri4]
        have r91 : σ_6.2.2.1 91 = σ85.2.2.1 91 := by rw [hσ_6, ri3 (by decide)]
        refine ⟨f3, f4, frN_tr G (frN_mono (by rw [hσ_6]; exact frN_90 (by omega)) mr), by rw [r91]; exact d0, by rw [r91]; exact d1, kp_k K1 (fun i hi => by rw [r90, if_neg (by omega)]), ?_⟩
        rw [hx7]
        exact kp_s K2 l2 c5 r90
  · skip
    rw [e2, c0] at c4
    have u := mn_u K.1 c4 l1
    have kl : x40_5.toNatClampNeg < (σ.2.2.1 93 (260 * a1.toNatClampNeg)).toNatClampNeg := cn_lt K.1 u.2.2.2.2.2.2.2
    have b9 := bx h2 h3 K.1 u.2.2.2.2.2.1
    have s := sx h0 h1 (j := 1) (by decide) K.1 (by show 1 + _ < _; omega)
    have s2 : (260 * a1 + 1 + x40_5).toNatClampNeg = 260 * a1.toNatClampNeg + 1 + x40_5.toNatClampNeg := s.2
    refine ⟨ib_566000.mpr ?_, ?_⟩
    · clear h; rw [e4]; exact s.1  -- b15
    refine ⟨ib_1200000.mpr ?_, ?_⟩
    · clear h; rw [e2]; exact ⟨b9.1, b9.2.2.1 u.2.2.2.2.1⟩  -- b16
    intro σ_8 hσ_8
    intro x9 hx9
    refine ⟨_, cn_lt2 hn40 ?_ ?_, rfl, ?_⟩
    · clear h; rw [hx9]; exact u.2.2.1  -- d17
    · clear h; rw [hx9]; exact u.2.2.2.1  -- d18
    · clear h; rw [e4, s2, e2, b9.2.1, r93] at hσ_8
      have r90 : ∀ i, σ_8.2.2.1 90 i = if i = 40000 * a2.toNatClampNeg + x40_5.toNatClampNeg then σ.2.2.1 93 (260 * a1.toNatClampNeg + 1 + x40_5.toNatClampNeg) else σ40.2.2.1 90 i := fun i => by rw [hσ_8, ri4]
      have r91 : σ_8.2.2.1 91 = σ40.2.2.1 91 := by rw [hσ_8, ri3 (by decide)]
      refine ⟨e2, e3, e4, frN_tr F (frN_mono (by rw [hσ_8]; exact frN_90 (by omega)) mq), by rw [r91]; exact c0, by rw [r91]; exact c1, ?_⟩
      rw [hx9]
      exact kp_s K l1 c4 r90

end
section
set_option maxHeartbeats 1600000
/-! the reference: products of kept fractions -/
/-- numbers of a list, the sum's sign and the kept fractions from place u below v differ -/
def frK (l : List Nat) (u v : Nat) (σ τ : rS) : Prop := (∀ k, k ≠ 92 → τ.1 k = σ.1 k) ∧ τ.2.1 = σ.2.1 ∧ (∀ j, j ≠ 90 → j ≠ 91 → j ≠ 93 → τ.2.2.1 j = σ.2.2.1 j) ∧ τ.2.2.2 = σ.2.2.2 ∧ (∀ k, k ∉ l → τ.2.2.1 91 k = σ.2.2.1 91 k ∧ ∀ i, i < 40000 → τ.2.2.1 90 (40000 * k + i) = σ.2.2.1 90 (40000 * k + i)) ∧ ∀ i, (i < u ∨ v ≤ i) → τ.2.2.1 93 i = σ.2.2.1 93 i
theorem frK_refl {l : List Nat} {u v : Nat} {σ : rS} : frK l u v σ σ := ⟨fun _ _ => rfl, rfl, fun _ _ _ _ => rfl, rfl, fun _ _ => ⟨rfl, fun _ _ => rfl⟩, fun _ _ => rfl⟩
theorem frK_tr {l : List Nat} {u v : Nat} {σ τ υ : rS} (h : frK l u v σ τ) (g : frK l u v τ υ) : frK l u v σ υ := ⟨fun k z => (g.1 k z).trans (h.1 k z), g.2.1.trans h.2.1, fun k z1 z2 z3 => (g.2.2.1 k z1 z2 z3).trans (h.2.2.1 k z1 z2 z3), g.2.2.2.1.trans h.2.2.2.1, fun k z => ⟨(g.2.2.2.2.1 k z).1.trans (h.2.2.2.2.1 k z).1, fun i hi => ((g.2.2.2.2.1 k z).2 i hi).trans ((h.2.2.2.2.1 k z).2 i hi)⟩, fun i z => (g.2.2.2.2.2 i z).trans (h.2.2.2.2.2 i z)⟩
theorem frK_S {l m : List Nat} {u v : Nat} {σ τ : rS} (h : frS l σ τ) (hl : ∀ k, k ∈ l → k ∈ m) : frK m u v σ τ := ⟨h.1, h.2.1, fun j z1 z2 _ => h.2.2.1 j z1 z2, h.2.2.2.1, fun k z => h.2.2.2.2 k (fun e => z (hl k e)), fun i _ => by rw [h.2.2.1 93 (by decide) (by decide)]⟩
theorem frK_N {l m : List Nat} {u v : Nat} {σ τ : rS} (h : frN l σ τ) (hl : ∀ k, k ∈ l → k ∈ m) : frK m u v σ τ := frK_S (frS_of h) hl
theorem frK_R {m : List Nat} {u v : Nat} {σ τ : rS} (h : frR 93 u v σ τ) : frK m u v σ τ := ⟨fun k _ => by rw [h.1], h.2.1, fun j _ _ z3 => h.2.2.1 j z3, h.2.2.2.1, fun k _ => ⟨by rw [h.2.2.1 91 (by decide)], fun i _ => by rw [h.2.2.1 90 (by decide)]⟩, h.2.2.2.2⟩
theorem frK_w {l m : List Nat} {u v x y : Nat} {σ τ : rS} (h : frK l u v σ τ) (hl : ∀ k, k ∈ l → k ∈ m) (h1 : x ≤ u) (h2 : v ≤ y) : frK m x y σ τ := ⟨h.1, h.2.1, h.2.2.1, h.2.2.2.1, fun k z => h.2.2.2.2.1 k (fun e => z (hl k e)), fun i z => h.2.2.2.2.2 i (by omega)⟩
/-- the slot a holds the fraction q in its lowest terms -/
def hL (σ : rS) (a : Nat) (q : Rat) : Prop := slN σ 93 (260 * a) 129 ∧ slN σ 93 (260 * a + 130) 129 ∧ (slV σ 93 (260 * a) : Int) = q.num ∧ slV σ 93 (260 * a + 130) = q.den
theorem sl_e {σ τ : rS} {c : Nat} (h : ∀ i, c ≤ i → i < c + 130 → τ.2.2.1 93 i = σ.2.2.1 93 i) (hs : slN σ 93 c 129) : slN τ 93 c 129 ∧ slV τ 93 c = slV σ 93 c := by
  have e := h c (by omega) (by omega)
  have l : (σ.2.2.1 93 c).toNatClampNeg ≤ 129 := (cn_li hs.1 (by decide)).mp hs.2.1
  exact gO_c hs e hs.2.1 (fun i hi => h _ (by omega) (by omega))
theorem hL_e {σ τ : rS} {a : Nat} {q : Rat} (h : ∀ i, 260 * a ≤ i → i < 260 * a + 260 → τ.2.2.1 93 i = σ.2.2.1 93 i) (hs : hL σ a q) : hL τ a q := by
  have x := sl_e (τ := τ) (fun i h1 h2 => h i h1 (by omega)) hs.1
  have y := sl_e (τ := τ) (fun i h1 h2 => h i (by omega) (by omega)) hs.2.1
  exact ⟨x.1, y.1, by rw [x.2]; exact hs.2.2.1, by rw [y.2]; exact hs.2.2.2⟩
theorem hL_K {l : List Nat} {u v : Nat} {σ τ : rS} {a : Nat} {q : Rat} (f : frK l u v σ τ) (ho : 260 * a + 260 ≤ u ∨ v ≤ 260 * a) (hs : hL σ a q) : hL τ a q := hL_e (fun i h1 h2 => f.2.2.2.2.2 i (by omega)) hs
theorem hL_N {l : List Nat} {σ τ : rS} {a : Nat} {q : Rat} (f : frN l σ τ) (hs : hL σ a q) : hL τ a q := hL_e (fun i _ _ => by rw [f.2.2.1 93 (by decide) (by decide)]) hs
theorem hL_S {l : List Nat} {σ τ : rS} {a : Nat} {q : Rat} (f : frS l σ τ) (hs : hL σ a q) : hL τ a q := hL_e (fun i _ _ => by rw [f.2.2.1 93 (by decide) (by decide)]) hs
/-- both sides of a fraction have at most 129 places -/
def fit (q : Rat) : Prop := q.num.natAbs < 65536 ^ 129 ∧ q.den < 65536 ^ 129
theorem fit_L {σ : rS} {n d : Nat} {q : Rat} (h : hR σ n d q) (f : fit q) : nL σ n ≤ 129 ∧ nL σ d ≤ 129 := by
  refine ⟨nL_lt h.1 ?_, nL_lt h.2.1 ?_⟩
  · have := f.1
    rw [← h.2.2.1, Int.natAbs_natCast] at this
    exact this
  · rw [h.2.2.2]; exact f.2
theorem hL_of {σ τ : rS} {n d a : Nat} {q : Rat} (h : hR σ n d q) (s1 : slN τ 93 (260 * a) 129) (s2 : slN τ 93 (260 * a + 130) 129) (v1 : slV τ 93 (260 * a) = nV σ n) (v2 : slV τ 93 (260 * a + 130) = nV σ d) : hL τ a q := ⟨s1, s2, by rw [v1]; exact h.2.2.1, by rw [v2]; exact h.2.2.2⟩
theorem hR_of {σ τ : rS} {n d a : Nat} {q : Rat} (h : hL σ a q) (o1 : numO τ n) (o2 : numO τ d) (v1 : nV τ n = slV σ 93 (260 * a)) (v2 : nV τ d = slV σ 93 (260 * a + 130)) : hR τ n d q := ⟨o1, o2, by rw [v1]; exact h.2.2.1, by rw [v2]; exact h.2.2.2⟩
def sQ (σ : rS) (a : Nat) : Rat := mkRat (slV σ 93 (260 * a)) (slV σ 93 (260 * a + 130))
theorem hL_q {σ : rS} {a : Nat} {q : Rat} (h : hL σ a q) : sQ σ a = q := by
  unfold sQ
  rw [h.2.2.1, h.2.2.2]
  exact Rat.mkRat_self q
theorem hL_z {σ : rS} {a : Nat} {q : Rat} (h : hL σ a q) : σ.2.2.1 93 (260 * a) = 0 ↔ q = 0 := by
  have key : slV σ 93 (260 * a) = 0 ↔ σ.2.2.1 93 (260 * a) = 0 := by
    constructor
    · intro z
      rcases h.1.2.2.2 with e | ⟨t, e1, e2⟩
      · exact cn_inj h.1.1 (by decide) e
      · unfold slV at z
        rw [e1, dv_s] at z
        have := Nat.mul_le_mul_right (65536 ^ t) (Nat.one_le_iff_ne_zero.mpr e2)
        have := Nat.pow_pos (n := t) (show 0 < 65536 by decide)
        omega
    · intro z
      unfold slV
      rw [z]
      rfl
  rw [← key, ← Rat.num_eq_zero, ← h.2.2.1]
  omega
theorem hR_nn {σ : rS} {n d : Nat} {q : Rat} (h : hR σ n d q) : 0 ≤ q := Rat.num_nonneg.mp (by rw [← h.2.2.1]; omega)
theorem hL_nn {σ : rS} {a : Nat} {q : Rat} (h : hL σ a q) : 0 ≤ q := Rat.num_nonneg.mp (by rw [← h.2.2.1]; omega)
theorem hS_nn {σ : rS} {p : Rat} (h : hS σ p) (hp : 0 ≤ p) : hR σ 4 5 p := by
  obtain ⟨q, hq, z | z⟩ := h
  · rw [z.2]; exact hq
  · have n := hR_nn hq
    rw [z.2] at hp
    have e := Rat.nonneg_antisymm n hp
    rw [z.2, e, Rat.neg_zero]
    rw [e] at hq
    exact hq
theorem mk_inv {a b : Nat} : mkRat (b : Int) a = (mkRat (a : Int) b)⁻¹ := by
  rw [← Rat.divInt_ofNat, ← Rat.divInt_ofNat, Rat.inv_divInt]
def ziq (σ : rS) (a : Int32) : Rat := if a = -1 then 1 else (sQ σ a.toNatClampNeg)⁻¹
theorem red_le {a g : Nat} : a / g ≤ a := Nat.div_le_self a g
theorem sx0 {a : Int32} (h0 : 0 ≤ a) (h1 : a < 2176) : (0 ≤ 260 * a ∧ 260 * a < 566000) ∧ (260 * a).toNatClampNeg = 260 * a.toNatClampNeg := by
  have s := sx1 h0 h1 (j := 0) (by decide) (by decide)
  rw [Int32.add_zero] at s
  exact s
theorem den0 {q : Rat} : 0 < q.den := Nat.pos_of_ne_zero q.den_nz
theorem keepSmall_c {C : rCx} (hC : cOK C)  {σ : rS} {a1 : Int32} {a2 : Int64} {a4 : Int64} {Q : rS → Prop} (hp : 0 ≤ a1 ∧ a1 < 2176 ∧ 0 ≤ a2 ∧ 0 < a4) (h : ∀ (σ' : rS), (frK [0, 1, 2, 3, 6, 7] (260 * a1.toNatClampNeg) (260 * a1.toNatClampNeg + 260) σ σ' ∧ hL σ' a1.toNatClampNeg (mkRat a2.toInt a4.toInt.toNat)) → Q σ') : cV C 4 m_keepSmall [.ref (co C), .int a1, .long a2, .long a4] σ Q := by
  refine m_keepSmall_run hC ?_
  unfold w_keepSmall_0
  obtain ⟨h0, h1, p0, p1⟩ := hp
  have c4 := l1_n p1
  refine set_c hC  ?_ (fun σ_1 q2 => ?_)
  · clear h; exact ⟨by decide, by decide, p0⟩  -- p1
  simp only [kn] at q2
  refine set_c hC  ?_ (fun σ_3 q4 => ?_)
  · clear h; exact ⟨by decide, by decide, c4.1⟩  -- p2
  simp only [kn] at q4
  have g6 := nV_fr q4.1 (k := 6) (by decide) q2.2.1
  have z7 : 0 < nV σ_3 7 := by rw [q4.2.2.1]; exact c4.2.1
  refine reduce_c hC  ?_ (fun σ_5 q6 => ?_)
  · clear h; simp only [kn]
    exact ⟨by decide, by decide, by decide, by decide, by decide, g6.1, q4.2.1, z7, by have := q2.2.2.2; omega, by have := q4.2.2.2; omega⟩
  simp only [kn] at q6
  have R := hR_red q6.2.1 q6.2.2.1 z7 q6.2.2.2.1 q6.2.2.2.2
  have L6 := nL_mono q6.2.1 g6.1 (by rw [q6.2.2.2.1]; exact red_le)
  have L7 := nL_mono q6.2.2.1 q4.2.1 (by rw [q6.2.2.2.2]; exact red_le)
  refine keepIn_c hC  ?_ (fun σ_7 q8 => ?_)
  · clear h; simp only [kn]
    exact ⟨h0, h1, by decide, by decide, by decide, by decide, R.1, R.2.1, by have := q2.2.2.2; omega, by have := q4.2.2.2; omega⟩
  refine h _ ?_
  · clear h; simp only [kn] at q8
    have a0 := Int64.le_iff_toInt_le.mp p0
    rw [Int64.toInt_zero] at a0
    have e : fQ σ_3 6 7 = mkRat a2.toInt a4.toInt.toNat := by
      unfold fQ
      rw [g6.2.1, q2.2.2.1, q4.2.2.1, show ((a2.toInt.toNat : Nat) : Int) = a2.toInt by omega]
    rw [e] at R
    exact ⟨frK_tr (frK_N q2.1 (sub_of rfl)) (frK_tr (frK_N q4.1 (sub_of rfl)) (frK_tr (frK_N q6.1 (sub_of rfl)) (frK_R q8.1))), hL_of R q8.2.1 q8.2.2.1 q8.2.2.2.1 q8.2.2.2.2⟩

theorem takeTimes_c {C : rCx} (hC : cOK C)  {σ : rS} {a1 : Int32} {Q : rS → Prop} (hp : (a1 = -1 ∨ (0 ≤ a1 ∧ a1 < 2176 ∧ hL σ a1.toNatClampNeg (sQ σ a1.toNatClampNeg))) ∧ hR σ 6 7 (fQ σ 6 7) ∧ nL σ 6 + 200 < 40000 ∧ nL σ 7 + 200 < 40000) (h : ∀ (σ' : rS), (frN [0, 1, 2, 3, 6, 7, 11, 12, 13, 14] σ σ' ∧ hR σ' 6 7 (fQ σ 6 7 * (if a1 = -1 then 1 else sQ σ a1.toNatClampNeg))) → Q σ') : cV C 4 m_takeTimes [.ref (co C), .int a1] σ Q := by
  refine m_takeTimes_run hC ?_
  unfold w_takeTimes_0
  obtain ⟨ha, hr, l6, l7⟩ := hp
  refine ⟨fun c1 => ?_, fun c1 => ?_⟩
  · skip
    refine load_c hC  ?_ (fun σ_2 q3 => ?_)
    · clear h; rcases ha with z | z
      · exact absurd z c1
      · exact ⟨z.1, z.2.1, by decide, by decide, by decide, by decide, by decide, z.2.2.1, z.2.2.2.1⟩
    simp only [kn] at q3
    have T : hL σ a1.toNatClampNeg (sQ σ a1.toNatClampNeg) := by
      rcases ha with z | z
      · exact absurd z c1
      · exact z.2.2
    have g6 := nV_fr q3.1 (k := 6) (by decide) hr.1
    have g7 := nV_fr q3.1 (k := 7) (by decide) hr.2.1
    have A3 := q3.2.2.2.2.2.1
    have A4 := q3.2.2.2.2.2.2
    refine times_c hC  ?_ (fun σ_4 q5 => ?_)
    · clear h; simp only [kn]
      exact ⟨by decide, by decide, by decide, by decide, by decide, by decide, by decide, by decide, g6.1, q3.2.1, by omega⟩
    simp only [kn] at q5
    have h7 := nV_fr q5.1 (k := 7) (by decide) g7.1
    have h12 := nV_fr q5.1 (k := 12) (by decide) q3.2.2.1
    have A1 := q5.2.2.2
    refine times_c hC  ?_ (fun σ_6 q7 => ?_)
    · clear h; simp only [kn]
      exact ⟨by decide, by decide, by decide, by decide, by decide, by decide, by decide, by decide, h7.1, h12.1, by omega⟩
    simp only [kn] at q7
    have i13 := nV_fr q7.1 (k := 13) (by decide) q5.2.1
    have A2 := q7.2.2.2
    refine copy_v hC  ?_ (fun σ_8 q9 => ?_)
    · clear h; simp only [kn]
      exact ⟨by decide, by decide, by decide, by decide, by decide, i13.1⟩
    simp only [kn] at q9
    have j14 := nV_fr q9.1 (k := 14) (by decide) q7.2.1
    refine copy_v hC  ?_ (fun σ_10 q11 => ?_)
    · clear h; simp only [kn]
      exact ⟨by decide, by decide, by decide, by decide, by decide, j14.1⟩
    simp only [kn] at q11
    have k6 := nV_fr q11.1 (k := 6) (by decide) q9.2.1
    have v6 : nV σ_10 6 = nV σ 6 * slV σ 93 (260 * a1.toNatClampNeg) := by rw [k6.2.1, q9.2.2.1, i13.2.1, q5.2.2.1, g6.2.1, q3.2.2.2.1]
    have v7 : nV σ_10 7 = nV σ 7 * slV σ 93 (260 * a1.toNatClampNeg + 130) := by rw [q11.2.2.1, j14.2.1, q7.2.2.1, h7.2.1, g7.2.1, h12.2.1, q3.2.2.2.2.1]
    have z7 : 0 < nV σ_10 7 := by rw [v7, T.2.2.2]; exact Nat.mul_pos (hR_q hr).2 den0
    have A5 := q9.2.2.2
    have A6 := q11.2.2.2
    refine reduce_c hC  ?_ (fun σ_12 q13 => ?_)
    · clear h; simp only [kn]
      exact ⟨by decide, by decide, by decide, by decide, by decide, k6.1, q11.2.1, z7, by omega, by omega⟩
    simp only [kn] at q13
    refine h _ ?_
    · clear h; have R := hR_red q13.2.1 q13.2.2.1 z7 q13.2.2.2.1 q13.2.2.2.2
      rw [fQ_mul v6 v7] at R
      rw [if_neg c1]
      refine ⟨?_, R⟩
      exact frN_tr (frN_mono q3.1 (sub_of rfl)) (frN_tr (frN_mono q5.1 (sub_of rfl)) (frN_tr (frN_mono q7.1 (sub_of rfl)) (frN_tr (frN_mono q9.1 (sub_of rfl)) (frN_tr (frN_mono q11.1 (sub_of rfl)) (frN_mono q13.1 (sub_of rfl))))))
  · skip
    refine h _ ?_
    · clear h; refine ⟨frN_refl, ?_⟩
      rw [if_pos c1, Rat.mul_one]
      exact hr

theorem addProduct_c {C : rCx} (hC : cOK C)  {σ : rS} {a1 : Int32} {a2 : Int32} {a3 : Int32} {a4 : Int32} {Q : rS → Prop} (hp : 0 ≤ a1 ∧ a1 < 2176 ∧ 0 ≤ a2 ∧ a2 < 2176 ∧ 0 ≤ a3 ∧ a3 < 2176 ∧ (a4 = -1 ∨ (0 ≤ a4 ∧ a4 < 2176 ∧ hL σ a4.toNatClampNeg (sQ σ a4.toNatClampNeg) ∧ sQ σ a4.toNatClampNeg ≠ 0)) ∧ hL σ a1.toNatClampNeg (sQ σ a1.toNatClampNeg) ∧ hL σ a2.toNatClampNeg (sQ σ a2.toNatClampNeg) ∧ hL σ a3.toNatClampNeg (sQ σ a3.toNatClampNeg) ∧ fit (sQ σ a1.toNatClampNeg + sQ σ a2.toNatClampNeg * sQ σ a3.toNatClampNeg * ziq σ a4)) (h : ∀ (σ' : rS), (frK [0, 1, 2, 3, 4, 5, 6, 7, 8, 9, 10, 11, 12, 13, 14] (260 * a1.toNatClampNeg) (260 * a1.toNatClampNeg + 260) σ σ' ∧ hL σ' a1.toNatClampNeg (sQ σ a1.toNatClampNeg + sQ σ a2.toNatClampNeg * sQ σ a3.toNatClampNeg * ziq σ a4)) → Q σ') : cV C 5 m_addProduct [.ref (co C), .int a1, .int a2, .int a3, .int a4] σ Q := by
  refine m_addProduct_run hC ?_
  unfold w_addProduct_0
  obtain ⟨h0, h1, h2, h3, h4, h5, hz, t1, t2, t3, ft⟩ := hp
  have hj133 : ∀ (l1 : Int32) (τ : rS), (l1 = a1 ∧ frN [6, 7, 11, 12, 13, 14] σ τ ∧ numO τ 6 ∧ numO τ 7 ∧ 0 < nV τ 7 ∧ nL τ 6 ≤ 600 ∧ nL τ 7 ≤ 600 ∧ fQ τ 6 7 = sQ σ a2.toNatClampNeg * sQ σ a3.toNatClampNeg * ziq σ a4) → w_addProduct_133 C Q  l1 τ := by
    rintro y133_1 τ133 j133
    unfold w_addProduct_133
    obtain ⟨e1, F, o6, o7, z7, m6, m7, X⟩ := j133
    refine reduce_c hC  ?_ (fun σ_1 q2 => ?_)
    · clear h; simp only [kn]
      exact ⟨by decide, by decide, by decide, by decide, by decide, o6, o7, z7, by omega, by omega⟩
    simp only [kn] at q2
    have R := hR_red q2.2.1 q2.2.2.1 z7 q2.2.2.2.1 q2.2.2.2.2
    rw [X] at R
    have L6 := nL_mono q2.2.1 o6 (by rw [q2.2.2.2.1]; exact red_le)
    have L7 := nL_mono q2.2.2.1 o7 (by rw [q2.2.2.2.2]; exact red_le)
    have S1 : hL σ_1 a1.toNatClampNeg (sQ σ a1.toNatClampNeg) := hL_N q2.1 (hL_N F t1)
    refine load_c hC  ?_ (fun σ_3 q4 => ?_)
    · clear h; rw [e1]
      exact ⟨h0, h1, by decide, by decide, by decide, by decide, by decide, S1.1, S1.2.1⟩
    rw [e1] at q4
    simp only [kn] at q4
    have U : hR σ_3 4 5 (sQ σ a1.toNatClampNeg) := hR_of S1 q4.2.1 q4.2.2.1 q4.2.2.2.1 q4.2.2.2.2.1
    have V := hR_fr q4.1 (by decide) (by decide) R
    have G6 := nV_fr q4.1 (k := 6) (by decide) R.1
    have G7 := nV_fr q4.1 (k := 7) (by decide) R.2.1
    have A4 := q4.2.2.2.2.2.1
    have A5 := q4.2.2.2.2.2.2
    intro σ_5 hσ_5
    refine add_c hC  ?_ (fun σ_6 q7 => ?_)
    · clear h; rw [hσ_5]
      exact ⟨Or.inl rfl, Or.inl rfl, U.1, U.2.1, V.1, V.2.1, (hR_q U).2, (hR_q V).2, by show nL σ_3 4 + nL σ_3 7 + 3 < 40000; omega, by show nL σ_3 6 + nL σ_3 5 + 3 < 40000; omega, by show nL σ_3 5 + nL σ_3 7 + 3 < 40000; omega⟩
    have W : hR σ_6 4 5 (sQ σ a1.toNatClampNeg + sQ σ a2.toNatClampNeg * sQ σ a3.toNatClampNeg * ziq σ a4) := by
      refine hS_nn ?_ (Rat.add_nonneg (hL_nn t1) (hR_nn R))
      have q8 := q7.2
      rw [hσ_5] at q8
      have e : sgq ((siU σ_3 92 1).1 92) (fQ (siU σ_3 92 1) 4 5) + sgq 1 (fQ (siU σ_3 92 1) 6 7) = sQ σ a1.toNatClampNeg + sQ σ a2.toNatClampNeg * sQ σ a3.toNatClampNeg * ziq σ a4 := by
        show sgq 1 (fQ σ_3 4 5) + sgq 1 (fQ σ_3 6 7) = _
        rw [sgq_1, sgq_1, (hR_q U).1, (hR_q V).1]
      rw [e] at q8
      exact q8
    have FT := fit_L W ft
    refine keepIn_c hC  ?_ (fun σ_8 q9 => ?_)
    · clear h; rw [e1]
      simp only [kn]
      exact ⟨h0, h1, by decide, by decide, by decide, by decide, W.1, W.2.1, FT.1, FT.2⟩
    refine h _ ?_
    · clear h; rw [e1] at q9
      simp only [kn] at q9
      refine ⟨?_, hL_of W q9.2.1 q9.2.2.1 q9.2.2.2.1 q9.2.2.2.2⟩
      exact frK_tr (frK_N F (sub_of rfl)) (frK_tr (frK_N q2.1 (sub_of rfl)) (frK_tr (frK_N q4.1 (sub_of rfl)) (frK_tr (τ := σ_5) (frK_S (l := []) (by rw [hσ_5]; exact frS_92) (sub_of rfl)) (frK_tr (frK_S q7.1 (sub_of rfl)) (frK_R q9.1)))))
  refine ⟨ib_566000.mpr ?_, ?_⟩
  · clear h; exact (sx0 h2 h3).1  -- b6
  refine ⟨fun c10 => ?_, fun c10 => ?_⟩
  · skip
    refine h _ ?_
    · clear h; rw [(sx0 h2 h3).2] at c10
      refine ⟨frK_refl, ?_⟩
      rw [(hL_z t2).mp c10, Rat.zero_mul, Rat.zero_mul, Rat.add_zero]
      exact t1
  · skip
    refine ⟨ib_566000.mpr ?_, ?_⟩
    · clear h; exact (sx0 h4 h5).1  -- b8
    refine ⟨fun c11 => ?_, fun c11 => ?_⟩
    · skip
      refine load_c hC  ?_ (fun σ_12 q13 => ?_)
      · clear h; exact ⟨h2, h3, by decide, by decide, by decide, by decide, by decide, t2.1, t2.2.1⟩  -- p9
      simp only [kn] at q13
      have u3 := hL_N q13.1 t3
      have r93 : σ_12.2.2.1 93 = σ.2.2.1 93 := q13.1.2.2.1 93 (by decide) (by decide)
      have sv : ∀ c, slV σ_12 93 c = slV σ 93 c := fun c => by unfold slV; rw [r93]
      have A1 := q13.2.2.2.2.2.1
      have A2 := q13.2.2.2.2.2.2
      refine load_c hC  ?_ (fun σ_14 q15 => ?_)
      · clear h; exact ⟨h4, h5, by decide, by decide, by decide, by decide, by decide, u3.1, u3.2.1⟩  -- p10
      simp only [kn] at q15
      have A6 := nV_fr q15.1 (k := 6) (by decide) q13.2.1
      have A7 := nV_fr q15.1 (k := 7) (by decide) q13.2.2.1
      have A3 := q15.2.2.2.2.2.1
      have A4 := q15.2.2.2.2.2.2
      refine times_c hC  ?_ (fun σ_16 q17 => ?_)
      · clear h; simp only [kn]
        exact ⟨by decide, by decide, by decide, by decide, by decide, by decide, by decide, by decide, A6.1, q15.2.1, by omega⟩
      simp only [kn] at q17
      have B7 := nV_fr q17.1 (k := 7) (by decide) A7.1
      have B12 := nV_fr q17.1 (k := 12) (by decide) q15.2.2.1
      have B1 := q17.2.2.2
      refine times_c hC  ?_ (fun σ_18 q19 => ?_)
      · clear h; simp only [kn]
        exact ⟨by decide, by decide, by decide, by decide, by decide, by decide, by decide, by decide, B7.1, B12.1, by omega⟩
      simp only [kn] at q19
      have C13 := nV_fr q19.1 (k := 13) (by decide) q17.2.1
      have B2 := q19.2.2.2
      refine copy_v hC  ?_ (fun σ_20 q21 => ?_)
      · clear h; simp only [kn]
        exact ⟨by decide, by decide, by decide, by decide, by decide, C13.1⟩
      simp only [kn] at q21
      have D14 := nV_fr q21.1 (k := 14) (by decide) q19.2.1
      have B3 := q21.2.2.2
      refine copy_v hC  ?_ (fun σ_22 q23 => ?_)
      · clear h; simp only [kn]
        exact ⟨by decide, by decide, by decide, by decide, by decide, D14.1⟩
      simp only [kn] at q23
      have E6 := nV_fr q23.1 (k := 6) (by decide) q21.2.1
      have B4 := q23.2.2.2
      have v6 : nV σ_22 6 = slV σ 93 (260 * a2.toNatClampNeg) * slV σ 93 (260 * a3.toNatClampNeg) := by rw [E6.2.1, q21.2.2.1, C13.2.1, q17.2.2.1, A6.2.1, q13.2.2.2.1, q15.2.2.2.1, sv]
      have v7 : nV σ_22 7 = slV σ 93 (260 * a2.toNatClampNeg + 130) * slV σ 93 (260 * a3.toNatClampNeg + 130) := by rw [q23.2.2.1, D14.2.1, q19.2.2.1, B7.2.1, A7.2.1, B12.2.1, q13.2.2.2.2.1, q15.2.2.2.2.1, sv]
      have z7 : 0 < nV σ_22 7 := by rw [v7, t2.2.2.2, t3.2.2.2]; exact Nat.mul_pos den0 den0
      have FF : frN [6, 7, 11, 12, 13, 14] σ σ_22 := frN_tr (frN_mono q13.1 (sub_of rfl)) (frN_tr (frN_mono q15.1 (sub_of rfl)) (frN_tr (frN_mono q17.1 (sub_of rfl)) (frN_tr (frN_mono q19.1 (sub_of rfl)) (frN_tr (frN_mono q21.1 (sub_of rfl)) (frN_mono q23.1 (sub_of rfl))))))
      have XX : fQ σ_22 6 7 = sQ σ a2.toNatClampNeg * sQ σ a3.toNatClampNeg := by unfold fQ sQ; rw [v6, v7, Rat.mkRat_mul_mkRat, Int.natCast_mul]
      have M6 : nL σ_22 6 ≤ 258 := by omega
      have M7 : nL σ_22 7 ≤ 258 := by omega
      refine ⟨fun c24 => ?_, fun c24 => ?_⟩
      · skip
        refine hj133 _ _ ?_
        · clear h; refine ⟨rfl, FF, E6.1, q23.2.1, z7, by omega, by omega, ?_⟩
          unfold ziq
          rw [XX, if_pos c24, Rat.mul_one]
      · skip
        refine load_c hC  ?_ (fun σ_25 q26 => ?_)
        · clear h; rcases hz with z | z
          · exact absurd z c24
          · have u4 := hL_N FF z.2.2.1
            exact ⟨z.1, z.2.1, by decide, by decide, by decide, by decide, by decide, u4.1, u4.2.1⟩
        simp only [kn] at q26
        have T : hL σ a4.toNatClampNeg (sQ σ a4.toNatClampNeg) ∧ sQ σ a4.toNatClampNeg ≠ 0 := by
          rcases hz with z | z
          · exact absurd z c24
          · exact z.2.2
        have Y : hR σ_25 11 12 (sQ σ a4.toNatClampNeg) := hR_of (hL_N FF T.1) q26.2.1 q26.2.2.1 q26.2.2.2.1 q26.2.2.2.2.1
        have y11 : 0 < nV σ_25 11 := Nat.pos_of_ne_zero (fun z => T.2 (Rat.num_eq_zero.mp (by rw [← Y.2.2.1, z]; rfl)))
        have G6 := nV_fr q26.1 (k := 6) (by decide) E6.1
        have G7 := nV_fr q26.1 (k := 7) (by decide) q23.2.1
        have A8 := q26.2.2.2.2.2.1
        have A9 := q26.2.2.2.2.2.2
        refine times_c hC  ?_ (fun σ_27 q28 => ?_)
        · clear h; simp only [kn]
          exact ⟨by decide, by decide, by decide, by decide, by decide, by decide, by decide, by decide, G6.1, q26.2.2.1, by omega⟩
        simp only [kn] at q28
        have H7 := nV_fr q28.1 (k := 7) (by decide) G7.1
        have H11 := nV_fr q28.1 (k := 11) (by decide) q26.2.1
        have B5 := q28.2.2.2
        refine times_c hC  ?_ (fun σ_29 q30 => ?_)
        · clear h; simp only [kn]
          exact ⟨by decide, by decide, by decide, by decide, by decide, by decide, by decide, by decide, H7.1, H11.1, by omega⟩
        simp only [kn] at q30
        have I13 := nV_fr q30.1 (k := 13) (by decide) q28.2.1
        have B6 := q30.2.2.2
        refine copy_v hC  ?_ (fun σ_31 q32 => ?_)
        · clear h; simp only [kn]
          exact ⟨by decide, by decide, by decide, by decide, by decide, I13.1⟩
        simp only [kn] at q32
        have J14 := nV_fr q32.1 (k := 14) (by decide) q30.2.1
        have B8 := q32.2.2.2
        refine copy_v hC  ?_ (fun σ_33 q34 => ?_)
        · clear h; simp only [kn]
          exact ⟨by decide, by decide, by decide, by decide, by decide, J14.1⟩
        simp only [kn] at q34
        have K6 := nV_fr q34.1 (k := 6) (by decide) q32.2.1
        have B9 := q34.2.2.2
        have w6 : nV σ_33 6 = nV σ_22 6 * nV σ_25 12 := by rw [K6.2.1, q32.2.2.1, I13.2.1, q28.2.2.1, G6.2.1]
        have w7 : nV σ_33 7 = nV σ_22 7 * nV σ_25 11 := by rw [q34.2.2.1, J14.2.1, q30.2.2.1, H7.2.1, G7.2.1, H11.2.1]
        refine hj133 _ _ ?_
        · clear h; refine ⟨rfl, ?_, K6.1, q34.2.1, by rw [w7]; exact Nat.mul_pos z7 y11, by omega, by omega, ?_⟩
          · exact frN_tr FF (frN_tr (frN_mono q26.1 (sub_of rfl)) (frN_tr (frN_mono q28.1 (sub_of rfl)) (frN_tr (frN_mono q30.1 (sub_of rfl)) (frN_tr (frN_mono q32.1 (sub_of rfl)) (frN_mono q34.1 (sub_of rfl))))))
          · unfold ziq
            rw [fQ_mul w6 w7, XX, if_neg c24, mk_inv, ← (hR_q Y).1]
            rfl
    · skip
      refine h _ ?_
      · clear h; rw [(sx0 h4 h5).2] at c11
        refine ⟨frK_refl, ?_⟩
        rw [(hL_z t3).mp c11, Rat.mul_zero, Rat.zero_mul, Rat.add_zero]
        exact t1

end
section
set_option maxHeartbeats 1600000
/-! the reference: visits kept -/
theorem m34 {a : Int32} (h0 : 0 ≤ a) (h1 : a < 1000) : 0 ≤ 34 * a ∧ (34 * a).toInt = 34 * a.toInt ∧ a.toNatClampNeg < 1000 ∧ (34 * a).toNatClampNeg = 34 * a.toNatClampNeg := by
  have a2 := t0 h0
  have a3 := Int32.lt_iff_toInt_lt.mp h1
  rw [show (1000 : Int32).toInt = 1000 from rfl] at a3
  have e : (34 * a).toInt = 34 * a.toInt := by
    rw [Int32.toInt_mul, show (34 : Int32).toInt = 34 from rfl]
    exact Int.bmod_eq_of_le (by omega) (by omega)
  have z : 0 ≤ 34 * a := Int32.le_iff_toInt_le.mpr (by rw [e, Int32.toInt_zero]; omega)
  have c := cn_int h0
  have d := cn_int z
  exact ⟨z, e, by omega, by omega⟩
theorem vx {a j k : Int32} (h0 : 0 ≤ a) (h1 : a < 1000) (hj : 0 ≤ j) (hk : 0 ≤ k) (h : j.toNatClampNeg + k.toNatClampNeg < 34) : (0 ≤ 34 * a + j + k ∧ 34 * a + j + k < 34000) ∧ (34 * a + j + k).toNatClampNeg = 34 * a.toNatClampNeg + j.toNatClampNeg + k.toNatClampNeg := by
  have m := m34 h0 h1
  have a2 := t0 h0
  have a3 := Int32.lt_iff_toInt_lt.mp h1
  rw [show (1000 : Int32).toInt = 1000 from rfl] at a3
  have cj := cn_int hj
  have ck := cn_int hk
  have ca := cn_int h0
  have e1 := i_add m.1 hj (by omega)
  have z1 : 0 ≤ 34 * a + j := Int32.le_iff_toInt_le.mpr (by rw [e1, Int32.toInt_zero]; omega)
  have e2 := i_add z1 hk (by omega)
  have z2 : 0 ≤ 34 * a + j + k := Int32.le_iff_toInt_le.mpr (by rw [e2, Int32.toInt_zero]; omega)
  have c := cn_int z2
  exact ⟨⟨z2, Int32.lt_iff_toInt_lt.mpr (by rw [e2, show (34000 : Int32).toInt = 34000 from rfl]; omega)⟩, by omega⟩
theorem vx1 {a j : Int32} (h0 : 0 ≤ a) (h1 : a < 1000) (hj : 0 ≤ j) (h : j.toNatClampNeg < 34) : (0 ≤ 34 * a + j ∧ 34 * a + j < 34000) ∧ (34 * a + j).toNatClampNeg = 34 * a.toNatClampNeg + j.toNatClampNeg := by
  have s := vx h0 h1 hj (k := 0) (by decide) (by show _ + 0 < _; omega)
  rw [Int32.add_zero] at s
  exact s
theorem vx0 {a : Int32} (h0 : 0 ≤ a) (h1 : a < 1000) : (0 ≤ 34 * a ∧ 34 * a < 34000) ∧ (34 * a).toNatClampNeg = 34 * a.toNatClampNeg := by
  have s := vx1 h0 h1 (j := 0) (by decide) (by decide)
  rw [Int32.add_zero] at s
  exact s
theorem v16 {k : Int32} (k0 : 0 ≤ k) (h : ¬ 16 ≤ k) : k.toNatClampNeg < 16 ∧ 0 ≤ k + 1 ∧ k + 1 ≤ 16 ∧ 0 ≤ 16 - (k + 1) ∧ 16 - (k + 1) < 16 - k ∧ (k + 1).toNatClampNeg = k.toNatClampNeg + 1 ∧ k < 40000 ∧ k ≤ 40000 := by
  have l := cn_lt k0 (Int32.not_le.mp h)
  rw [show (16 : Int32).toNatClampNeg = 16 from rfl] at l
  have g : 0 ≤ k + 1 ∧ k + 1 ≤ 16 ∧ 0 ≤ 16 - (k + 1) ∧ 16 - (k + 1) < 16 - k ∧ k < 40000 ∧ k ≤ 40000 ∧ k < 1000000 := by grind
  exact ⟨l, g.1, g.2.1, g.2.2.1, g.2.2.2.1, cn_succ k0 g.2.2.2.2.2.2, g.2.2.2.2.1, g.2.2.2.2.2.1⟩
/-- places copied among 16, as far as the number reaches -/
def cpI (f g : Nat → Int32) (o p L k : Nat) : Prop := ∀ i, i < k → i < L → g (p + i) = f (o + i)
theorem cp_s {f g g' : Nat → Int32} {o p L k : Nat} {x : Int32} (h : cpI f g o p L k) (hx : k < L → x = f (o + k)) (hg : g' (p + k) = x) (ho : ∀ i, i < k → g' (p + i) = g (p + i)) : cpI f g' o p L (k + 1) := fun i hi hl => by
  by_cases e : i = k
  · rw [e, hg]; exact hx (by omega)
  · rw [ho i (by omega)]; exact h i (by omega) hl
theorem bxc {c k : Int32} (c0 : 0 ≤ c) (c1 : c ≤ 280000) (k0 : 0 ≤ k) (k1 : k.toNatClampNeg < 16) : (0 ≤ c + k ∧ c + k < 1200000) ∧ (c + k).toNatClampNeg = c.toNatClampNeg + k.toNatClampNeg := by
  have a := cn_int c0
  have b := cn_int k0
  have l := ti c1
  rw [show (280000 : Int32).toInt = 280000 from rfl] at l
  have e := i_add c0 k0 (by omega)
  have z : 0 ≤ c + k := Int32.le_iff_toInt_le.mpr (by rw [e, Int32.toInt_zero]; omega)
  have d := cn_int z
  exact ⟨⟨z, Int32.lt_iff_toInt_lt.mpr (by rw [e, show (1200000 : Int32).toInt = 1200000 from rfl]; omega)⟩, by omega⟩
theorem kc : (160000 : Int32).toNatClampNeg = 160000 ∧ (200000 : Int32).toNatClampNeg = 200000 ∧ (240000 : Int32).toNatClampNeg = 240000 ∧ (280000 : Int32).toNatClampNeg = 280000 := ⟨rfl, rfl, rfl, rfl⟩
theorem nl16 {σ : rS} {r : Nat} (hr : numO σ r) (h : nL σ r ≤ 16) : σ.2.2.1 91 r ≤ 16 := (cn_li hr.1 (by decide)).mpr h
theorem keepVisits_c {C : rCx} (hC : cOK C)  {σ : rS} {a1 : Int32} {Q : rS → Prop} (hp : 0 ≤ a1 ∧ a1 < 1000 ∧ numO σ 4 ∧ numO σ 5) (h : ∀ (σ' : rS), (frR 102 (34 * a1.toNatClampNeg) (34 * a1.toNatClampNeg + 34) σ σ' ∧ (nL σ 4 ≤ 16 → slN σ' 102 (34 * a1.toNatClampNeg) 16 ∧ slV σ' 102 (34 * a1.toNatClampNeg) = nV σ 4) ∧ (nL σ 5 ≤ 16 → slN σ' 102 (34 * a1.toNatClampNeg + 17) 16 ∧ slV σ' 102 (34 * a1.toNatClampNeg + 17) = nV σ 5)) → Q σ') : cV C 0 m_keepVisits [.ref (co C), .int a1] σ Q := by
  refine m_keepVisits_run hC ?_
  unfold w_keepVisits_0
  obtain ⟨h0, h1, h4, h5⟩ := hp
  have v0 := vx0 h0 h1
  have v1 := vx1 h0 h1 (j := 17) (by decide) (by decide)
  have v2 : (34 * a1 + 17).toNatClampNeg = 34 * a1.toNatClampNeg + 17 := v1.2
  intro x1 hx1
  refine ⟨ib_30.mpr ?_, ?_⟩
  · clear h; decide  -- b1
  refine ⟨ib_34000.mpr ?_, ?_⟩
  · clear h; rw [hx1]; exact v0.1  -- b2
  intro σ_2 hσ_2
  refine ⟨ib_30.mpr ?_, ?_⟩
  · clear h; decide  -- b3
  refine ⟨ib_34000.mpr ?_, ?_⟩
  · clear h; rw [hx1]; exact v1.1  -- b4
  intro σ_3 hσ_3
  unfold w_keepVisits_34
  refine ⟨fun n l2 l3 τ => n = (16 - l3).toNatClampNeg ∧ (l2 = 34 * a1 ∧ frR 102 (34 * a1.toNatClampNeg) (34 * a1.toNatClampNeg + 34) σ τ ∧ τ.2.2.1 102 (34 * a1.toNatClampNeg) = σ.2.2.1 91 4 ∧ τ.2.2.1 102 (34 * a1.toNatClampNeg + 17) = σ.2.2.1 91 5 ∧ 0 ≤ l3 ∧ l3 ≤ 16 ∧ cpI (σ.2.2.1 90) (τ.2.2.1 102) 160000 (34 * a1.toNatClampNeg + 1) (nL σ 4) l3.toNatClampNeg ∧ cpI (σ.2.2.1 90) (τ.2.2.1 102) 200000 (34 * a1.toNatClampNeg + 17 + 1) (nL σ 5) l3.toNatClampNeg), ⟨_, rfl, ?_⟩, ?_⟩
  · clear h; rw [hx1, v0.2] at hσ_2
    rw [hx1, v2] at hσ_3
    simp only [kn] at hσ_2 hσ_3
    refine ⟨hx1, frR_tr (τ := σ_2) (by rw [hσ_2]; exact frR_w (by omega) (by omega)) (by rw [hσ_3]; exact frR_w (by omega) (by omega)), ?_, ?_, by decide, by decide, fun i hi => absurd hi (Nat.not_lt_zero i), fun i hi => absurd hi (Nat.not_lt_zero i)⟩
    · rw [hσ_3, ri4, if_neg (by omega), hσ_2, ri4, if_pos rfl]
    · rw [hσ_3, ri4, if_pos rfl, hσ_2, ri3 (by decide)]
  rintro n34 x34_2 x34_3 σ34 ⟨hn34, i34⟩
  have hj108 : ∀ (l2 : Int32) (l3 : Int32) (s1 : Int32) (s2 : Int32) (τ : rS), (l2 = 34 * a1 ∧ l3 = x34_3 ∧ ¬ 16 ≤ x34_3 ∧ s1 = 34 * a1 + 18 + x34_3 ∧ (x34_3.toNatClampNeg < nL σ 5 → s2 = σ.2.2.1 90 (200000 + x34_3.toNatClampNeg)) ∧ ∃ x, (x34_3.toNatClampNeg < nL σ 4 → x = σ.2.2.1 90 (160000 + x34_3.toNatClampNeg)) ∧ τ = riU σ34 102 (34 * a1.toNatClampNeg + 1 + x34_3.toNatClampNeg) x) → w_keepVisits_108 C Q (fun l2' l3' τ => ∃ k < n34, (fun n l2 l3 τ => n = (16 - l3).toNatClampNeg ∧ (l2 = 34 * a1 ∧ frR 102 (34 * a1.toNatClampNeg) (34 * a1.toNatClampNeg + 34) σ τ ∧ τ.2.2.1 102 (34 * a1.toNatClampNeg) = σ.2.2.1 91 4 ∧ τ.2.2.1 102 (34 * a1.toNatClampNeg + 17) = σ.2.2.1 91 5 ∧ 0 ≤ l3 ∧ l3 ≤ 16 ∧ cpI (σ.2.2.1 90) (τ.2.2.1 102) 160000 (34 * a1.toNatClampNeg + 1) (nL σ 4) l3.toNatClampNeg ∧ cpI (σ.2.2.1 90) (τ.2.2.1 102) 200000 (34 * a1.toNatClampNeg + 17 + 1) (nL σ 5) l3.toNatClampNeg)) k l2' l3' τ) l2 l3 s1 s2 τ := by
    rintro y108_2 y108_3 y108_s1 y108_s2 τ108 j108
    unfold w_keepVisits_108
    obtain ⟨e2, F, c0, c1, k0, k1, P, R⟩ := i34
    obtain ⟨f2, f3, fk, fs, fx, x, gx, ft⟩ := j108
    have w := v16 k0 fk
    have s := vx h0 h1 (j := 18) (by decide) k0 (by show 18 + _ < _; omega)
    have s2 : (34 * a1 + 18 + x34_3).toNatClampNeg = 34 * a1.toNatClampNeg + 17 + 1 + x34_3.toNatClampNeg := s.2
    refine ⟨ib_34000.mpr ?_, ?_⟩
    · clear h; rw [fs]; exact s.1  -- b6
    intro σ_4 hσ_4
    intro x5 hx5
    refine ⟨_, cn_lt2 hn34 ?_ ?_, rfl, ?_⟩
    · clear h; rw [hx5, f3]; exact w.2.2.2.1  -- d7
    · clear h; rw [hx5, f3]; exact w.2.2.2.2.1  -- d8
    · clear h; rw [fs, s2] at hσ_4
      have r1 : ∀ i, τ108.2.2.1 102 i = if i = 34 * a1.toNatClampNeg + 1 + x34_3.toNatClampNeg then x else σ34.2.2.1 102 i := fun i => by rw [ft, ri4]
      have r2 : ∀ i, σ_4.2.2.1 102 i = if i = 34 * a1.toNatClampNeg + 17 + 1 + x34_3.toNatClampNeg then y108_s2 else τ108.2.2.1 102 i := fun i => by rw [hσ_4, ri4]
      refine ⟨f2, frR_tr F (frR_tr (τ := τ108) (by rw [ft]; exact frR_w (by omega) (by omega)) (by rw [hσ_4]; exact frR_w (by omega) (by omega))), by rw [r2, if_neg (by omega), r1, if_neg (by omega)]; exact c0, by rw [r2, if_neg (by omega), r1, if_neg (by omega)]; exact c1, by rw [hx5, f3]; exact w.2.1, by rw [hx5, f3]; exact w.2.2.1, ?_, ?_⟩
      · rw [hx5, f3, w.2.2.2.2.2.1]
        exact cp_s P gx (by rw [r2, if_neg (by omega), r1, if_pos rfl]) (fun i hi => by rw [r2, if_neg (by omega), r1, if_neg (by omega)])
      · rw [hx5, f3, w.2.2.2.2.2.1]
        exact cp_s R fx (by rw [r2, if_pos rfl]) (fun i hi => by rw [r2, if_neg (by omega), r1, if_neg (by omega)])
  have hj73 : ∀ (l2 : Int32) (l3 : Int32) (s1 : Int32) (s2 : Int32) (τ : rS), (τ = σ34 ∧ l2 = 34 * a1 ∧ l3 = x34_3 ∧ ¬ 16 ≤ x34_3 ∧ s1 = 34 * a1 + 1 + x34_3 ∧ (x34_3.toNatClampNeg < nL σ 4 → s2 = σ.2.2.1 90 (160000 + x34_3.toNatClampNeg))) → w_keepVisits_73 C Q (fun l2' l3' τ => ∃ k < n34, (fun n l2 l3 τ => n = (16 - l3).toNatClampNeg ∧ (l2 = 34 * a1 ∧ frR 102 (34 * a1.toNatClampNeg) (34 * a1.toNatClampNeg + 34) σ τ ∧ τ.2.2.1 102 (34 * a1.toNatClampNeg) = σ.2.2.1 91 4 ∧ τ.2.2.1 102 (34 * a1.toNatClampNeg + 17) = σ.2.2.1 91 5 ∧ 0 ≤ l3 ∧ l3 ≤ 16 ∧ cpI (σ.2.2.1 90) (τ.2.2.1 102) 160000 (34 * a1.toNatClampNeg + 1) (nL σ 4) l3.toNatClampNeg ∧ cpI (σ.2.2.1 90) (τ.2.2.1 102) 200000 (34 * a1.toNatClampNeg + 17 + 1) (nL σ 5) l3.toNatClampNeg)) k l2' l3' τ) l2 l3 s1 s2 τ := by
    rintro y73_2 y73_3 y73_s1 y73_s2 τ73 j73
    unfold w_keepVisits_73
    obtain ⟨e2, F, c0, c1, k0, k1, P, R⟩ := i34
    obtain ⟨ft, f2, f3, fk, fs, fx⟩ := j73
    have w := v16 k0 fk
    have s := vx h0 h1 (j := 1) (by decide) k0 (by show 1 + _ < _; omega)
    have s2 : (34 * a1 + 1 + x34_3).toNatClampNeg = 34 * a1.toNatClampNeg + 1 + x34_3.toNatClampNeg := s.2
    refine ⟨ib_34000.mpr ?_, ?_⟩
    · clear h; rw [fs]; exact s.1  -- b10
    intro σ_6 hσ_6
    refine ⟨ib_30.mpr ?_, ?_⟩
    · clear h; decide  -- b11
    rw [fs, s2, ft] at hσ_6
    have r91 : σ_6.2.2.1 91 = σ.2.2.1 91 := by rw [hσ_6, ri3 (by decide)]; exact F.2.2.1 91 (by decide)
    have r90 : σ_6.2.2.1 90 = σ.2.2.1 90 := by rw [hσ_6, ri3 (by decide)]; exact F.2.2.1 90 (by decide)
    have lc := cn_li (x := σ.2.2.1 91 5) (y := x34_3) h5.1 k0
    have bc := bxc (c := 200000) (by decide) (by decide) k0 w.1
    refine ⟨fun c7 => ?_, fun c7 => ?_⟩
    · skip
      refine hj108 _ _ _ _ _ ?_
      · clear h; simp only [kn] at c7
        rw [r91, f3, lc] at c7
        exact ⟨f2, f3, fk, by rw [f2, f3], fun z => absurd z (Nat.not_lt.mpr c7), _, fx, hσ_6⟩
    · skip
      refine ⟨ib_1200000.mpr ?_, ?_⟩
      · clear h; rw [f3]; exact bc.1  -- b13
      refine hj108 _ _ _ _ _ ?_
      · clear h; refine ⟨f2, f3, fk, by rw [f2, f3], fun _ => ?_, _, fx, hσ_6⟩
        rw [f3, bc.2, r90, kc.2.1]
  obtain ⟨e2, F, c0, c1, k0, k1, P, R⟩ := i34
  have r91 : σ34.2.2.1 91 = σ.2.2.1 91 := F.2.2.1 91 (by decide)
  have r90 : σ34.2.2.1 90 = σ.2.2.1 90 := F.2.2.1 90 (by decide)
  refine ⟨fun c8 => ?_, fun c8 => ?_⟩
  · skip
    refine h _ ?_
    · clear h; have n16 := (cn_li (x := 16) (by decide) k0).mp c8
      rw [show (16 : Int32).toNatClampNeg = 16 from rfl] at n16
      refine ⟨F, fun l => ?_, fun l => ?_⟩
      · exact gO_c (m := 40000) (o := 160000) h4 c0 (nl16 h4 l) (fun i hi => P i (by have z : i < nL σ 4 := hi; omega) hi)
      · exact gO_c (m := 40000) (o := 200000) h5 c1 (nl16 h5 l) (fun i hi => R i (by have z : i < nL σ 5 := hi; omega) hi)
  · skip
    have w := v16 k0 c8
    have lc := cn_li (x := σ.2.2.1 91 4) (y := x34_3) h4.1 k0
    have bc := bxc (c := 160000) (by decide) (by decide) k0 w.1
    refine ⟨ib_30.mpr ?_, ?_⟩
    · clear h; decide  -- b16
    refine ⟨fun c9 => ?_, fun c9 => ?_⟩
    · skip
      refine hj73 _ _ _ _ _ ?_
      · clear h; simp only [kn] at c9
        rw [r91, lc] at c9
        exact ⟨rfl, e2, rfl, c8, by rw [e2], fun z => absurd z (Nat.not_lt.mpr c9)⟩
    · skip
      refine ⟨ib_1200000.mpr ?_, ?_⟩
      · clear h; exact bc.1  -- b18
      refine hj73 _ _ _ _ _ ?_
      · clear h; refine ⟨rfl, e2, rfl, c8, by rw [e2], fun _ => ?_⟩
        rw [bc.2, r90, kc.1]

theorem loadVisits_c {C : rCx} (hC : cOK C)  {σ : rS} {a1 : Int32} {Q : rS → Prop} (hp : 0 ≤ a1 ∧ a1 < 1000 ∧ slN σ 102 (34 * a1.toNatClampNeg) 16 ∧ slN σ 102 (34 * a1.toNatClampNeg + 17) 16) (h : ∀ (σ' : rS), (frN [6, 7] σ σ' ∧ numO σ' 6 ∧ numO σ' 7 ∧ nV σ' 6 = slV σ 102 (34 * a1.toNatClampNeg) ∧ nV σ' 7 = slV σ 102 (34 * a1.toNatClampNeg + 17) ∧ nL σ' 6 ≤ 16 ∧ nL σ' 7 ≤ 16) → Q σ') : cV C 0 m_loadVisits [.ref (co C), .int a1] σ Q := by
  refine m_loadVisits_run hC ?_
  unfold w_loadVisits_0
  obtain ⟨h0, h1, hn, hd⟩ := hp
  have v0 := vx0 h0 h1
  have v1 := vx1 h0 h1 (j := 17) (by decide) (by decide)
  have v2 : (34 * a1 + 17).toNatClampNeg = 34 * a1.toNatClampNeg + 17 := v1.2
  have ln : (σ.2.2.1 102 (34 * a1.toNatClampNeg)).toNatClampNeg ≤ 16 := (cn_li hn.1 (by decide)).mp hn.2.1
  have ld : (σ.2.2.1 102 (34 * a1.toNatClampNeg + 17)).toNatClampNeg ≤ 16 := (cn_li hd.1 (by decide)).mp hd.2.1
  intro x1 hx1
  refine ⟨ib_34000.mpr ?_, ?_⟩
  · clear h; rw [hx1]; exact v0.1  -- b1
  refine ⟨ib_30.mpr ?_, ?_⟩
  · clear h; decide  -- b2
  intro σ_2 hσ_2
  refine ⟨ib_34000.mpr ?_, ?_⟩
  · clear h; rw [hx1]; exact v1.1  -- b3
  refine ⟨ib_30.mpr ?_, ?_⟩
  · clear h; decide  -- b4
  intro σ_3 hσ_3
  unfold w_loadVisits_36
  refine ⟨fun n l2 l3 τ => n = (16 - l3).toNatClampNeg ∧ (l2 = 34 * a1 ∧ frN [6, 7] σ τ ∧ τ.2.2.1 91 6 = σ.2.2.1 102 (34 * a1.toNatClampNeg) ∧ τ.2.2.1 91 7 = σ.2.2.1 102 (34 * a1.toNatClampNeg + 17) ∧ 0 ≤ l3 ∧ l3 ≤ 16 ∧ cpI (σ.2.2.1 102) (τ.2.2.1 90) (34 * a1.toNatClampNeg + 1) 240000 16 l3.toNatClampNeg ∧ cpI (σ.2.2.1 102) (τ.2.2.1 90) (34 * a1.toNatClampNeg + 17 + 1) 280000 16 l3.toNatClampNeg), ⟨_, rfl, ?_⟩, ?_⟩
  · clear h; rw [hx1, v0.2] at hσ_2
    rw [hx1, v2] at hσ_3
    simp only [kn] at hσ_2 hσ_3
    refine ⟨hx1, frN_tr (τ := σ_2) (frN_mono (l := [6]) (by rw [hσ_2]; exact frN_91) (sub_of rfl)) (frN_mono (l := [7]) (by rw [hσ_3]; exact frN_91) (sub_of rfl)), ?_, ?_, by decide, by decide, fun i hi => absurd hi (Nat.not_lt_zero i), fun i hi => absurd hi (Nat.not_lt_zero i)⟩
    · rw [hσ_3, ri4, if_neg (by decide), hσ_2, ri4, if_pos rfl]
    · rw [hσ_3, ri4, if_pos rfl, hσ_2, ri3 (by decide)]
  rintro n36 x36_2 x36_3 σ36 ⟨hn36, i36⟩
  obtain ⟨e2, F, c0, c1, k0, k1, P, R⟩ := i36
  have t102 : σ36.2.2.1 102 = σ.2.2.1 102 := F.2.2.1 102 (by decide) (by decide)
  refine ⟨fun c4 => ?_, fun c4 => ?_⟩
  · skip
    refine h _ ?_
    · clear h; have n16 := (cn_li (x := 16) (by decide) k0).mp c4
      rw [show (16 : Int32).toNatClampNeg = 16 from rfl] at n16
      have N := gO_c (m' := 40000) (p := 240000) hn c0 (Int32.le_trans hn.2.1 (by decide)) (fun i hi => P i (by omega) (by omega))
      have D := gO_c (m' := 40000) (p := 280000) hd c1 (Int32.le_trans hd.2.1 (by decide)) (fun i hi => R i (by omega) (by omega))
      refine ⟨F, N.1, D.1, N.2, D.2, ?_, ?_⟩
      · show (σ36.2.2.1 91 6).toNatClampNeg ≤ 16
        rw [c0]; exact ln
      · show (σ36.2.2.1 91 7).toNatClampNeg ≤ 16
        rw [c1]; exact ld
  · skip
    have w := v16 k0 c4
    have s := vx h0 h1 (j := 1) (by decide) k0 (by show 1 + _ < _; omega)
    have s2 : (34 * a1 + 1 + x36_3).toNatClampNeg = 34 * a1.toNatClampNeg + 1 + x36_3.toNatClampNeg := s.2
    have s' := vx h0 h1 (j := 18) (by decide) k0 (by show 18 + _ < _; omega)
    have s3 : (34 * a1 + 18 + x36_3).toNatClampNeg = 34 * a1.toNatClampNeg + 17 + 1 + x36_3.toNatClampNeg := s'.2
    have bc := bxc (c := 240000) (by decide) (by decide) k0 w.1
    have bd := bxc (c := 280000) (by decide) (by decide) k0 w.1
    have b2 : (240000 + x36_3).toNatClampNeg = 40000 * 6 + x36_3.toNatClampNeg := bc.2
    have b3 : (280000 + x36_3).toNatClampNeg = 40000 * 7 + x36_3.toNatClampNeg := bd.2
    refine ⟨ib_34000.mpr ?_, ?_⟩
    · clear h; rw [e2]; exact s.1  -- b7
    refine ⟨ib_1200000.mpr ?_, ?_⟩
    · clear h; exact bc.1  -- b8
    intro σ_5 hσ_5
    refine ⟨ib_34000.mpr ?_, ?_⟩
    · clear h; rw [e2]; exact s'.1  -- b9
    refine ⟨ib_1200000.mpr ?_, ?_⟩
    · clear h; exact bd.1  -- b10
    intro σ_6 hσ_6
    intro x7 hx7
    refine ⟨_, cn_lt2 hn36 ?_ ?_, rfl, ?_⟩
    · clear h; rw [hx7]; exact w.2.2.2.1  -- d11
    · clear h; rw [hx7]; exact w.2.2.2.2.1  -- d12
    · clear h; rw [b2, e2, s2, t102] at hσ_5
      have u102 : σ_5.2.2.1 102 = σ.2.2.1 102 := by rw [hσ_5, ri3 (by decide)]; exact t102
      rw [b3, e2, s3, u102] at hσ_6
      have r1 : ∀ i, σ_5.2.2.1 90 i = if i = 40000 * 6 + x36_3.toNatClampNeg then σ.2.2.1 102 (34 * a1.toNatClampNeg + 1 + x36_3.toNatClampNeg) else σ36.2.2.1 90 i := fun i => by rw [hσ_5, ri4]
      have r2 : ∀ i, σ_6.2.2.1 90 i = if i = 40000 * 7 + x36_3.toNatClampNeg then σ.2.2.1 102 (34 * a1.toNatClampNeg + 17 + 1 + x36_3.toNatClampNeg) else σ_5.2.2.1 90 i := fun i => by rw [hσ_6, ri4]
      have r91 : σ_6.2.2.1 91 = σ36.2.2.1 91 := by rw [hσ_6, ri3 (by decide), hσ_5, ri3 (by decide)]
      refine ⟨e2, frN_tr F (frN_tr (τ := σ_5) (frN_mono (l := [6]) (by rw [hσ_5]; exact frN_90 (by omega)) (sub_of rfl)) (frN_mono (l := [7]) (by rw [hσ_6]; exact frN_90 (by omega)) (sub_of rfl))), by rw [r91]; exact c0, by rw [r91]; exact c1, by rw [hx7]; exact w.2.1, by rw [hx7]; exact w.2.2.1, ?_, ?_⟩
      · rw [hx7, w.2.2.2.2.2.1]
        exact cp_s P (fun _ => rfl) (by rw [r2, if_neg (by omega), r1, if_pos (by omega)]) (fun i hi => by rw [r2, if_neg (by omega), r1, if_neg (by omega)])
      · rw [hx7, w.2.2.2.2.2.1]
        exact cp_s R (fun _ => rfl) (by rw [r2, if_pos (by omega)]) (fun i hi => by rw [r2, if_neg (by omega), r1, if_neg (by omega)])

end
section
set_option maxHeartbeats 1600000
/-! denominators; small whole solutions -/
theorem den_mk {a : Int} {b : Nat} (h : b ≠ 0) : (mkRat a b).den ∣ b := by
  rw [Rat.den_mkRat, if_neg h]
  exact Nat.div_dvd_of_dvd (Nat.gcd_dvd_left ..)
theorem mk_of {q : Rat} {M : Nat} (h : q.den ∣ M) (hM : M ≠ 0) : ∃ x : Int, q = mkRat x M := by
  obtain ⟨k, hk⟩ := h
  refine ⟨q.num * k, ?_⟩
  have k0 : k ≠ 0 := fun z => hM (by rw [hk, z, Nat.mul_zero])
  rw [hk, Rat.mkRat_mul_right k0]
  exact (Rat.mkRat_self q).symm
theorem mk_add {x y : Int} {M : Nat} (hM : M ≠ 0) : mkRat x M + mkRat y M = mkRat (x + y) M := by
  rw [Rat.mkRat_add_mkRat _ _ hM hM, ← Int.add_mul, Rat.mkRat_mul_right hM]
theorem den_add {p q : Rat} {M : Nat} (hp : p.den ∣ M) (hq : q.den ∣ M) (hM : M ≠ 0) : (p + q).den ∣ M := by
  obtain ⟨x, hx⟩ := mk_of hp hM
  obtain ⟨y, hy⟩ := mk_of hq hM
  rw [hx, hy, mk_add hM]
  exact den_mk hM
theorem den_mul {p q : Rat} : (p * q).den ∣ p.den * q.den := by
  rw [Rat.mul_def']
  exact den_mk (Nat.mul_ne_zero p.den_nz q.den_nz)
theorem den_neg {p : Rat} : (-p).den = p.den := rfl
theorem php : ∀ (b a : Nat) (f : Nat → Nat), b < a → (∀ i, i < a → f i < b) → ∃ i j, i < j ∧ j < a ∧ f i = f j
  | 0, _, _, h, hf => absurd (hf 0 h) (Nat.not_lt_zero _)
  | b + 1, a, f, h, hf => by
    by_cases e : ∃ i, i < a - 1 ∧ f i = f (a - 1)
    · obtain ⟨i, hi, he⟩ := e
      exact ⟨i, a - 1, hi, by omega, he⟩
    · have ne : ∀ i, i < a - 1 → f i ≠ f (a - 1) := fun i hi z => e ⟨i, hi, z⟩
      obtain ⟨i, j, h1, h2, h3⟩ := php b (a - 1) (fun i => if f i = b then f (a - 1) else f i) (by omega) (fun i hi => by
        have l := hf i (by omega)
        have l2 := hf (a - 1) (by omega)
        have n := ne i hi
        show (if f i = b then f (a - 1) else f i) < b
        split <;> omega)
      have n1 := ne i (by omega)
      have n2 := ne j h2
      refine ⟨i, j, h1, by omega, ?_⟩
      have h3 : (if f i = b then f (a - 1) else f i) = (if f j = b then f (a - 1) else f j) := h3
      split at h3 <;> split at h3 <;> omega
def dgm : (Nat → Nat) → Nat → Nat → Nat
  | h, t, 0 => t % (h 0 + 1)
  | h, t, r + 1 => dgm (fun i => h (i + 1)) (t / (h 0 + 1)) r
def prd : (Nat → Nat) → Nat → Nat
  | _, 0 => 1
  | h, n + 1 => (h 0 + 1) * prd (fun i => h (i + 1)) n
theorem dgm_le : ∀ {r : Nat} {h : Nat → Nat} {t : Nat}, dgm h t r ≤ h r
  | 0, h, t => by
    show t % (h 0 + 1) ≤ h 0
    exact Nat.le_of_lt_succ (Nat.mod_lt t (Nat.succ_pos (h 0)))
  | r + 1, h, t => dgm_le (r := r) (h := fun i => h (i + 1)) (t := t / (h 0 + 1))
theorem dgm_inj : ∀ {n : Nat} {h : Nat → Nat} {t u : Nat}, t < prd h n → u < prd h n → (∀ r, r < n → dgm h t r = dgm h u r) → t = u
  | 0, _, t, u, ht, hu, _ => by
    have ht : t < 1 := ht
    have hu : u < 1 := hu
    omega
  | n + 1, h, t, u, ht, hu, e => by
    have ht : t < (h 0 + 1) * prd (fun i => h (i + 1)) n := ht
    have hu : u < (h 0 + 1) * prd (fun i => h (i + 1)) n := hu
    have e0 : t % (h 0 + 1) = u % (h 0 + 1) := e 0 (Nat.succ_pos n)
    have e1 : t / (h 0 + 1) = u / (h 0 + 1) := dgm_inj (n := n) (h := fun i => h (i + 1)) (Nat.div_lt_of_lt_mul ht) (Nat.div_lt_of_lt_mul hu) (fun r hr => e (r + 1) (by omega))
    have a := Nat.div_add_mod t (h 0 + 1)
    have b := Nat.div_add_mod u (h 0 + 1)
    rw [e0, e1] at a
    omega
def enc (Y : Nat) (y : Nat → Nat) : Nat → Nat
  | 0 => 0
  | n + 1 => enc Y y n + y n * Y ^ n
theorem enc_lt {Y : Nat} {y : Nat → Nat} : ∀ {n : Nat}, (∀ j, j < n → y j < Y) → enc Y y n < Y ^ n
  | 0, _ => Nat.one_pos
  | n + 1, h => by
    have ih := enc_lt (n := n) (fun j hj => h j (by omega))
    have l := Nat.mul_le_mul_right (Y ^ n) (show y n + 1 ≤ Y from h n (by omega))
    rw [Nat.add_mul] at l
    show enc Y y n + y n * Y ^ n < Y ^ (n + 1)
    rw [Nat.pow_succ, Nat.mul_comm (Y ^ n) Y]
    omega
theorem enc_inj {Y : Nat} {y z : Nat → Nat} : ∀ {n : Nat}, (∀ j, j < n → y j < Y) → (∀ j, j < n → z j < Y) → enc Y y n = enc Y z n → ∀ j, j < n → y j = z j
  | 0, _, _, _, j, hj => absurd hj (Nat.not_lt_zero j)
  | n + 1, hy, hz, e, j, hj => by
    have ly := enc_lt (n := n) (fun j hj => hy j (by omega))
    have lz := enc_lt (n := n) (fun j hj => hz j (by omega))
    have e : enc Y y n + y n * Y ^ n = enc Y z n + z n * Y ^ n := e
    have d : y n = z n := by
      have a : (enc Y y n + y n * Y ^ n) / Y ^ n = y n := by rw [Nat.add_mul_div_right _ _ (by omega), Nat.div_eq_of_lt ly, Nat.zero_add]
      have b : (enc Y z n + z n * Y ^ n) / Y ^ n = z n := by rw [Nat.add_mul_div_right _ _ (by omega), Nat.div_eq_of_lt lz, Nat.zero_add]
      rw [← a, e, b]
    by_cases q : j = n
    · rw [q]; exact d
    · rw [d] at e
      exact enc_inj (n := n) (fun j hj => hy j (by omega)) (fun j hj => hz j (by omega)) (by omega) j (by omega)
def sI (f : Nat → Int) : Nat → Int
  | 0 => 0
  | n + 1 => sI f n + f n
def sNt (f : Nat → Nat) : Nat → Nat
  | 0 => 0
  | n + 1 => sNt f n + f n
theorem sI_abs {d h : Nat → Nat} {N : Nat → Int} : ∀ {n : Nat}, (∀ r, r < n → d r ≤ h r) → (sI (fun r => (d r : Int) * N r) n).natAbs ≤ sNt (fun r => h r * (N r).natAbs) n
  | 0, _ => Nat.le_refl 0
  | n + 1, hd => by
    have ih := sI_abs (N := N) (n := n) (fun r hr => hd r (by omega))
    have a := Int.natAbs_add_le (sI (fun r => (d r : Int) * N r) n) ((d n : Int) * N n)
    rw [Int.natAbs_mul, Int.natAbs_natCast] at a
    have m := Nat.mul_le_mul_right (N n).natAbs (hd n (by omega))
    show (sI (fun r => (d r : Int) * N r) n + (d n : Int) * N n).natAbs ≤ sNt (fun r => h r * (N r).natAbs) n + h n * (N n).natAbs
    omega
theorem sI_sub {a b N : Nat → Int} : ∀ {n : Nat}, sI (fun r => (a r - b r) * N r) n = sI (fun r => a r * N r) n - sI (fun r => b r * N r) n
  | 0 => rfl
  | n + 1 => by
    show sI (fun r => (a r - b r) * N r) n + (a n - b n) * N n = sI (fun r => a r * N r) n + a n * N n - (sI (fun r => b r * N r) n + b n * N n)
    rw [sI_sub (n := n), Int.sub_mul]
    omega
theorem siegel {m n : Nat} {N : Nat → Nat → Int} {h : Nat → Nat} {Z : Nat} (hZ : ∀ j, j < m → sNt (fun r => h r * (N r j).natAbs) n ≤ Z) (hs : (2 * Z + 1) ^ m < prd h n) : ∃ c : Nat → Int, (∃ r, r < n ∧ c r ≠ 0) ∧ (∀ r, (c r).natAbs ≤ h r) ∧ ∀ j, j < m → sI (fun r => c r * N r j) n = 0 := by
  have bd : ∀ t j, j < m → (sI (fun r => (dgm h t r : Int) * N r j) n).natAbs ≤ Z := fun t j hj => Nat.le_trans (sI_abs (N := fun r => N r j) (fun r _ => dgm_le)) (hZ j hj)
  have yl : ∀ t j, j < m → (sI (fun r => (dgm h t r : Int) * N r j) n + Z).toNat < 2 * Z + 1 := fun t j hj => by have := bd t j hj; omega
  obtain ⟨t, u, h1, h2, h3⟩ := php ((2 * Z + 1) ^ m) (prd h n) (fun t => enc (2 * Z + 1) (fun j => (sI (fun r => (dgm h t r : Int) * N r j) n + Z).toNat) m) hs (fun t _ => enc_lt (fun j hj => yl t j hj))
  have eq := enc_inj (yl t) (yl u) h3
  refine ⟨fun r => (dgm h t r : Int) - dgm h u r, ?_, fun r => ?_, fun j hj => ?_⟩
  · by_cases e : ∃ r, r < n ∧ dgm h t r ≠ dgm h u r
    · obtain ⟨r, hr, hn⟩ := e
      exact ⟨r, hr, by show (dgm h t r : Int) - dgm h u r ≠ 0; omega⟩
    · refine absurd (dgm_inj (by omega) h2 (fun r hr => ?_)) (Nat.ne_of_lt h1)
      by_cases q : dgm h t r = dgm h u r
      · exact q
      · exact absurd ⟨r, hr, q⟩ e
  · have a := dgm_le (h := h) (t := t) (r := r)
    have b := dgm_le (h := h) (t := u) (r := r)
    show ((dgm h t r : Int) - dgm h u r).natAbs ≤ h r
    omega
  · rw [sI_sub (a := fun r => (dgm h t r : Int)) (b := fun r => (dgm h u r : Int)) (N := fun r => N r j)]
    have e := eq j hj
    have a := bd t j hj
    have b := bd u j hj
    omega

end
section
set_option maxHeartbeats 1600000
/-! states taken out of a chain, one after the other -/
def smQ (f : Nat → Rat) : Nat → Rat
  | 0 => 0
  | n + 1 => smQ f n + f n
theorem smQ_s {f : Nat → Rat} {n : Nat} : smQ f (n + 1) = smQ f n + f n := rfl
theorem smQ_c {f g : Nat → Rat} : ∀ {n : Nat}, (∀ i, i < n → f i = g i) → smQ f n = smQ g n
  | 0, _ => rfl
  | n + 1, h => by rw [smQ_s, smQ_s, smQ_c (n := n) (fun i hi => h i (by omega)), h n (by omega)]
theorem smQ_add {f g : Nat → Rat} : ∀ {n : Nat}, smQ (fun i => f i + g i) n = smQ f n + smQ g n
  | 0 => by show (0 : Rat) = 0 + 0; rw [Rat.add_zero]
  | n + 1 => by
    rw [smQ_s, smQ_s, smQ_s, smQ_add (n := n)]
    grind
theorem smQ_mul {f : Nat → Rat} {c : Rat} : ∀ {n : Nat}, smQ (fun i => f i * c) n = smQ f n * c
  | 0 => by show (0 : Rat) = 0 * c; rw [Rat.zero_mul]
  | n + 1 => by
    rw [smQ_s, smQ_s, smQ_mul (n := n)]
    grind
theorem smQ_0 {f : Nat → Rat} : ∀ {n : Nat}, (∀ i, i < n → f i = 0) → smQ f n = 0
  | 0, _ => rfl
  | n + 1, h => by rw [smQ_s, smQ_0 (n := n) (fun i hi => h i (by omega)), h n (by omega), Rat.add_zero]
/-- what leaves the state k for the states below it or for good (column m) -/
def elS (P : Nat → Nat → Rat) (m k : Nat) : Rat := P k m + smQ (P k) k
/-- a row without the state k -/
def elR (P : Nat → Nat → Rat) (m k : Nat) (x : Nat → Rat) : Nat → Rat := fun j => x j + x k * P k j * (elS P m k)⁻¹
def elP (P : Nat → Nat → Rat) (m k : Nat) : Nat → Nat → Rat := fun i => elR P m k (P i)
def dl (r j : Nat) : Rat := if r = j then 1 else 0
/-- a combination of the first k rows and of the row x -/
def cmb (P : Nat → Nat → Rat) (α : Nat → Rat) (β : Rat) (x : Nat → Rat) (k j : Nat) : Rat := smQ (fun r => α r * (dl r j - P r j)) k - β * x j
theorem inv_s {S : Rat} (h : S ≠ 0) : S * S⁻¹ = 1 := Rat.mul_inv_cancel S h
theorem cmb_s {P : Nat → Nat → Rat} {m k : Nat} {α : Nat → Rat} {β : Rat} {x : Nat → Rat} (hS : elS P m k ≠ 0) (h1 : P k k = 1 - elS P m k) (h0 : cmb P α β x (k + 1) k = 0) : α k * elS P m k = smQ (fun r => α r * P r k) k + β * x k ∧ ∀ j, j ≠ k → cmb P α β x (k + 1) j = cmb (elP P m k) α β (elR P m k x) k j := by
  have e0 : smQ (fun r => α r * (dl r k - P r k)) k = smQ (fun r => α r * P r k) k * (-1) := by
    rw [← smQ_mul]
    refine smQ_c (fun r hr => ?_)
    show α r * (dl r k - P r k) = α r * P r k * -1
    unfold dl
    rw [if_neg (by omega)]
    grind
  have a : α k * elS P m k = smQ (fun r => α r * P r k) k + β * x k := by
    unfold cmb at h0
    rw [smQ_s, e0] at h0
    have d : dl k k = 1 := if_pos rfl
    rw [d, h1] at h0
    grind
  refine ⟨a, fun j hj => ?_⟩
  have i := inv_s hS
  unfold cmb
  rw [smQ_s]
  have e1 : smQ (fun r => α r * (dl r j - elP P m k r j)) k = smQ (fun r => α r * (dl r j - P r j)) k + smQ (fun r => α r * P r k) k * (-(P k j * (elS P m k)⁻¹)) := by
    rw [← smQ_mul, ← smQ_add]
    refine smQ_c (fun r hr => ?_)
    show α r * (dl r j - (P r j + P r k * P k j * (elS P m k)⁻¹)) = α r * (dl r j - P r j) + α r * P r k * -(P k j * (elS P m k)⁻¹)
    grind
  rw [e1]
  have d : dl k j = 0 := if_neg (fun z => hj z.symm)
  show _ + α k * (dl k j - P k j) - β * x j = _ - β * (x j + x k * P k j * (elS P m k)⁻¹)
  rw [d]
  generalize smQ (fun r => α r * P r k) k = A at a ⊢
  generalize smQ (fun r => α r * (dl r j - P r j)) k = B
  generalize elS P m k = S at a i ⊢
  grind

end
section
set_option maxHeartbeats 1600000
/-! chains from which all can leave -/
theorem smQ_nn {f : Nat → Rat} : ∀ {n : Nat}, (∀ i, i < n → 0 ≤ f i) → 0 ≤ smQ f n
  | 0, _ => Rat.le_refl
  | n + 1, h => by
    rw [smQ_s]
    exact Rat.add_nonneg (smQ_nn (n := n) (fun i hi => h i (by omega))) (h n (by omega))
theorem smQ_ge {f : Nat → Rat} {j : Nat} : ∀ {n : Nat}, (∀ i, i < n → 0 ≤ f i) → j < n → f j ≤ smQ f n
  | 0, _, h => absurd h (Nat.not_lt_zero j)
  | n + 1, h, hj => by
    rw [smQ_s]
    have a := smQ_nn (f := f) (n := n) (fun i hi => h i (by omega))
    have b := h n (by omega)
    by_cases e : j = n
    · rw [e]; grind
    · have c := smQ_ge (n := n) (fun i hi => h i (by omega)) (by omega : j < n)
      grind
/-- from i one can leave in n steps -/
def cEx (P : Nat → Nat → Rat) (m k : Nat) : Nat → Nat → Prop
  | 0, i => 0 < P i m
  | n + 1, i => ∃ j, j < k ∧ 0 < P i j ∧ cEx P m k n j
def Mk (P : Nat → Nat → Rat) (m k : Nat) : Prop := (∀ i j, i < k → (j < k ∨ j = m) → 0 ≤ P i j) ∧ (∀ i, i < k → P i m + smQ (P i) k = 1) ∧ ∀ i, i < k → ∃ n, cEx P m k n i
theorem cEx_b {P : Nat → Nat → Rat} {m k : Nat} : ∀ {n : Nat}, cEx P m (k + 1) n k → 0 < P k m ∨ ∃ j, j < k ∧ 0 < P k j ∧ ∃ l, l < n ∧ cEx P m (k + 1) l j
  | 0, h => Or.inl h
  | n + 1, h => by
    obtain ⟨j, h1, h2, h3⟩ := h
    by_cases e : j = k
    · rw [e] at h3
      rcases cEx_b (n := n) h3 with z | ⟨j', z1, z2, l, z3, z4⟩
      · exact Or.inl z
      · exact Or.inr ⟨j', z1, z2, l, by omega, z4⟩
    · exact Or.inr ⟨j, by omega, h2, n, by omega, h3⟩
theorem Mk_S {P : Nat → Nat → Rat} {m k : Nat} (h : Mk P m (k + 1)) : 0 < elS P m k ∧ P k k = 1 - elS P m k := by
  obtain ⟨h1, h2, h3⟩ := h
  have nn : ∀ i, i < k → 0 ≤ P k i := fun i hi => h1 k i (by omega) (Or.inl (by omega))
  have a := smQ_nn nn
  have b := h1 k m (by omega) (Or.inr rfl)
  constructor
  · obtain ⟨n, hn⟩ := h3 k (by omega)
    unfold elS
    rcases cEx_b hn with z | ⟨j, z1, z2, _⟩
    · grind
    · have c := smQ_ge nn z1
      grind
  · have s := h2 k (by omega)
    rw [smQ_s] at s
    unfold elS
    grind
theorem elP_ge {P : Nat → Nat → Rat} {m k i j : Nat} (hS : 0 < elS P m k) (h1 : 0 ≤ P i k) (h2 : 0 ≤ P k j) : P i j ≤ elP P m k i j ∧ (0 ≤ P i j → 0 < P i k → 0 < P k j → 0 < elP P m k i j) := by
  have s := Rat.inv_pos.mpr hS
  have a := Rat.mul_nonneg (Rat.mul_nonneg h1 h2) (Rat.le_of_lt s)
  constructor
  · show P i j ≤ P i j + P i k * P k j * (elS P m k)⁻¹
    grind
  · intro z z1 z2
    have b := Rat.mul_pos (Rat.mul_pos z1 z2) s
    show 0 < P i j + P i k * P k j * (elS P m k)⁻¹
    grind
theorem cEx_s {P : Nat → Nat → Rat} {m k : Nat} (h : Mk P m (k + 1)) : ∀ {n N i : Nat}, n ≤ N → i < k → cEx P m (k + 1) n i → ∃ l, cEx (elP P m k) m k l i
  | n, N, i, hN, hi, hc => by
    have S := (Mk_S h).1
    have g1 : 0 ≤ P i k := h.1 i k (by omega) (Or.inl (by omega))
    have gm : 0 ≤ P k m := h.1 k m (by omega) (Or.inr rfl)
    have gi : 0 ≤ P i m := h.1 i m (by omega) (Or.inr rfl)
    match n, N, hN, hc with
    | 0, _, _, hc =>
      have g := elP_ge S g1 gm
      have z : 0 < P i m := hc
      exact ⟨0, by show 0 < elP P m k i m; grind⟩
    | n + 1, N + 1, hN, hc =>
      obtain ⟨j, z1, z2, z3⟩ := hc
      by_cases e : j = k
      · rw [e] at z2 z3
        rcases cEx_b z3 with w | ⟨j', w1, w2, l, w3, w4⟩
        · exact ⟨0, (elP_ge S g1 gm).2 gi z2 w⟩
        · obtain ⟨l', hl⟩ := cEx_s h (N := N) (by omega) w1 w4
          exact ⟨l' + 1, j', w1, (elP_ge S g1 (Rat.le_of_lt w2)).2 (h.1 i j' (by omega) (Or.inl (by omega))) z2 w2, hl⟩
      · obtain ⟨l', hl⟩ := cEx_s h (N := N) (by omega) (by omega : j < k) z3
        have g := elP_ge (i := i) (j := j) S g1 (h.1 k j (by omega) (Or.inl (by omega)))
        exact ⟨l' + 1, j, by omega, by grind, hl⟩
theorem Mk_s {P : Nat → Nat → Rat} {m k : Nat} (h : Mk P m (k + 1)) : Mk (elP P m k) m k := by
  have S := Mk_S h
  have iv := inv_s (S := elS P m k) (by have := S.1; grind)
  refine ⟨fun i j hi hj => ?_, fun i hi => ?_, fun i hi => ?_⟩
  · have g := elP_ge (i := i) (j := j) S.1 (h.1 i k (by omega) (Or.inl (by omega))) (h.1 k j (by omega) (by omega))
    have z := h.1 i j (by omega) (by omega)
    grind
  · have s := h.2.1 i (by omega)
    rw [smQ_s] at s
    have e : smQ (elP P m k i) k = smQ (P i) k + smQ (P k) k * (P i k * (elS P m k)⁻¹) := by
      rw [← smQ_mul, ← smQ_add]
      refine smQ_c (fun r hr => ?_)
      show P i r + P i k * P k r * (elS P m k)⁻¹ = P i r + P k r * (P i k * (elS P m k)⁻¹)
      grind
    rw [e]
    show P i m + P i k * P k m * (elS P m k)⁻¹ + _ = 1
    have d : elS P m k = P k m + smQ (P k) k := rfl
    generalize smQ (P k) k = A at d ⊢
    generalize smQ (P i) k = B at s ⊢
    generalize elS P m k = U at d iv ⊢
    grind
  · obtain ⟨n, hn⟩ := h.2.2 i (by omega)
    exact cEx_s h (Nat.le_refl n) hi hn
def elN (P : Nat → Nat → Rat) (m : Nat) : Nat → Nat → Nat → Rat
  | 0 => P
  | n + 1 => elP (elN P m n) m (m - 1 - n)
def elX (P : Nat → Nat → Rat) (m : Nat) (x : Nat → Rat) : Nat → Nat → Rat
  | 0 => x
  | n + 1 => elR (elN P m n) m (m - 1 - n) (elX P m x n)
theorem Mk_n {P : Nat → Nat → Rat} {m : Nat} (h : Mk P m m) : ∀ {n : Nat}, n ≤ m → Mk (elN P m n) m (m - n)
  | 0, _ => h
  | n + 1, hn => by
    have ih := Mk_n h (n := n) (by omega)
    rw [show m - n = m - 1 - n + 1 by omega] at ih
    rw [show m - (n + 1) = m - 1 - n by omega]
    exact Mk_s ih
theorem elX_row {P : Nat → Nat → Rat} {m i : Nat} : ∀ {n : Nat}, elX P m (P i) n = elN P m n i
  | 0 => rfl
  | n + 1 => by
    show elR (elN P m n) m (m - 1 - n) (elX P m (P i) n) = elR (elN P m n) m (m - 1 - n) (elN P m n i)
    rw [elX_row (n := n)]
theorem cmb_n {P : Nat → Nat → Rat} {m : Nat} {α : Nat → Rat} {β : Rat} {x : Nat → Rat} (h : Mk P m m) : ∀ {n : Nat}, n ≤ m → (∀ j, m - n ≤ j → j < m → cmb P α β x m j = 0) → ∀ j, (j < m - n ∨ j = m) → cmb P α β x m j = cmb (elN P m n) α β (elX P m x n) (m - n) j
  | 0, _, _, j, _ => rfl
  | n + 1, hn, h0, j, hj => by
    have ih := cmb_n h (n := n) (by omega) (fun j h1 h2 => h0 j (by omega) h2)
    have M := Mk_n h (n := n) (by omega)
    rw [show m - n = m - 1 - n + 1 by omega] at ih M
    have S := Mk_S M
    have z := ih (m - 1 - n) (Or.inl (by omega))
    rw [h0 (m - 1 - n) (by omega) (by omega)] at z
    have c := cmb_s (m := m) (by have := S.1; grind) S.2 z.symm
    rw [ih j (by omega), c.2 j (by omega), show m - (n + 1) = m - 1 - n by omega]
    rfl

end
