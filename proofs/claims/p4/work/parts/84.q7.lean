set_option maxHeartbeats 1600000
/-! the reference: fractions in their lowest terms -/
theorem gcd_s {a b : Nat} : Nat.gcd (a % b) b = Nat.gcd a b := by
  rw [Nat.gcd_comm a b, Nat.gcd_rec b a]
theorem gcd_t {a b : Nat} : Nat.gcd a (b % a) = Nat.gcd a b := by
  rw [Nat.gcd_comm a (b % a), gcd_s, Nat.gcd_comm]
def rdI (σ τ : rS) (n d : Nat) (w : Int32) : Prop := frN [0, 1, 2] σ τ ∧ numO τ 0 ∧ numO τ 1 ∧ nV τ 0 ≤ nV σ n ∧ nV τ 1 ≤ nV σ d ∧ ((w = -1 ∧ 0 < nV τ 0 ∧ 0 < nV τ 1 ∧ Nat.gcd (nV τ 0) (nV τ 1) = Nat.gcd (nV σ n) (nV σ d)) ∨ (w = 0 ∧ nV τ 0 = Nat.gcd (nV σ n) (nV σ d)) ∨ (w = 1 ∧ nV τ 1 = Nat.gcd (nV σ n) (nV σ d)))
def rdM (τ : rS) (w : Int32) : Nat := if w = -1 then nV τ 1 + 1 else 0
theorem ge4 {a : Int32} (h : 4 ≤ a) (h1 : a < 30) : 0 ≤ a ∧ 4 ≤ a.toNatClampNeg ∧ ¬ (2 : Int32) = a ∧ ¬ a = 3 ∧ ¬ (0 : Int32) = a ∧ ¬ (1 : Int32) = a := by
  have z : 0 ≤ a := Int32.le_trans (by decide) h
  refine ⟨z, ?_, ?_, ?_, ?_, ?_⟩
  · have := (cn_li (x := 4) (by decide) z).mp h
    rwa [show (4 : Int32).toNatClampNeg = 4 from rfl] at this
  all_goals (rintro rfl; revert h; decide)
theorem nm3 {a b c d : Nat} (h : a ≠ b) (g : a ≠ c) (k : a ≠ d) : a ∉ [b, c, d] := fun z => by
  rcases List.mem_cons.mp z with e | e
  · exact h e
  · exact nm2 g k e
theorem z_1 {σ : rS} {r : Nat} {w : Int32} (hr : numO σ r) (h : nb w ∧ (w ≠ 0 ↔ σ.2.2.1 91 r = 0)) : (w = 0 → 0 < nV σ r) ∧ (¬ w = 0 → nV σ r = 0) := by
  refine ⟨fun e => Nat.pos_of_ne_zero (fun z => ?_), fun e => (nL_z hr).mp ?_⟩
  · exact h.2.mpr (cn_inj hr.1 (by decide) ((nL_z hr).mpr z)) e
  · show (σ.2.2.1 91 r).toNatClampNeg = 0
    rw [h.2.mp e]
    rfl
theorem one_v {σ : rS} {r : Nat} (h : σ.2.2.1 91 r = 1) (h1 : σ.2.2.1 90 (40000 * r) = 1) : nV σ r = 1 := by
  unfold nV
  rw [show nL σ r = 0 + 1 by show (σ.2.2.1 91 r).toNatClampNeg = 1; rw [h]; rfl, dv_s, Nat.add_zero, h1]
  rfl
theorem reduce_c {C : rCx} (hC : cOK C)  {σ : rS} {a1 : Int32} {a2 : Int32} {Q : rS → Prop} (hp : 4 ≤ a1 ∧ a1 < 30 ∧ 4 ≤ a2 ∧ a2 < 30 ∧ a1 ≠ a2 ∧ numO σ a1.toNatClampNeg ∧ numO σ a2.toNatClampNeg ∧ 0 < nV σ a2.toNatClampNeg ∧ nL σ a1.toNatClampNeg + 1 < 40000 ∧ nL σ a2.toNatClampNeg + 1 < 40000) (h : ∀ (σ' : rS), (frN [0, 1, 2, 3, a1.toNatClampNeg, a2.toNatClampNeg] σ σ' ∧ numO σ' a1.toNatClampNeg ∧ numO σ' a2.toNatClampNeg ∧ nV σ' a1.toNatClampNeg = nV σ a1.toNatClampNeg / Nat.gcd (nV σ a1.toNatClampNeg) (nV σ a2.toNatClampNeg) ∧ nV σ' a2.toNatClampNeg = nV σ a2.toNatClampNeg / Nat.gcd (nV σ a1.toNatClampNeg) (nV σ a2.toNatClampNeg)) → Q σ') : cV C 3 m_reduce [.ref (co C), .int a1, .int a2] σ Q := by
  refine m_reduce_run hC ?_
  unfold w_reduce_0
  obtain ⟨h0, h1, h2, h3, hne, hn, hd, hz, l1, l2⟩ := hp
  have f1 := ge4 h0 h1
  have f2 := ge4 h2 h3
  have cne : a1.toNatClampNeg ≠ a2.toNatClampNeg := fun e => hne (cn_inj f1.1 f2.1 e)
  have hj103 : ∀ (l1 : Int32) (l2 : Int32) (l3 : Int32) (τ : rS), (l1 = a1 ∧ l2 = a2 ∧ frN [0, 1, 2] σ τ ∧ (l3 = 0 ∨ l3 = 1) ∧ numO τ l3.toNatClampNeg ∧ nV τ l3.toNatClampNeg = Nat.gcd (nV σ a1.toNatClampNeg) (nV σ a2.toNatClampNeg)) → w_reduce_103 C Q  l1 l2 l3 τ := by
    rintro y103_1 y103_2 y103_3 τ103 j103
    unfold w_reduce_103
    obtain ⟨e1, e2, F, w, no, nv⟩ := j103
    have gz : 0 < Nat.gcd (nV σ a1.toNatClampNeg) (nV σ a2.toNatClampNeg) := Nat.gcd_pos_of_pos_right _ hz
    have w3 : y103_3.toNatClampNeg ≠ 3 ∧ 0 ≤ y103_3 ∧ y103_3 < 30 ∧ ¬ (3 : Int32) = y103_3 := by rcases w with rfl | rfl <;> decide
    have gn := nV_fr F (nm3 (by omega) (by omega) (by omega)) hn
    have gd := nV_fr F (nm3 (by omega) (by omega) (by omega)) hd
    refine copy_v hC  ?_ (fun σ_1 q2 => ?_)
    · clear h; exact ⟨by decide, by decide, w3.2.1, w3.2.2.1, w3.2.2.2, no⟩  -- p1
    have q2 : frN [3] τ103 σ_1 ∧ numO σ_1 3 ∧ nV σ_1 3 = nV τ103 y103_3.toNatClampNeg ∧ nL σ_1 3 = nL τ103 y103_3.toNatClampNeg := q2
    have gn1 := nV_fr q2.1 (nm1 (by omega)) gn.1
    have gd1 := nV_fr q2.1 (nm1 (by omega)) gd.1
    refine divide_c hC  ?_ (fun σ_3 q4 => ?_)
    · clear h; rw [e1]
      exact ⟨by decide, by decide, f1.1, h1, by decide, by decide, f1.2.2.1, by decide, f1.2.2.2.1, gn1.1, q2.2.1, by show 0 < nV σ_1 3; rw [q2.2.2.1, nv]; exact gz, by omega⟩
    rw [e1] at q4
    have q4 : frN [2, a1.toNatClampNeg, 3] σ_1 σ_3 ∧ numO σ_3 2 ∧ numO σ_3 a1.toNatClampNeg ∧ numO σ_3 3 ∧ nV σ_3 2 = nV σ_1 a1.toNatClampNeg / nV σ_1 3 ∧ nV σ_3 a1.toNatClampNeg = nV σ_1 a1.toNatClampNeg % nV σ_1 3 ∧ nV σ_3 3 = nV σ_1 3 := q4
    have gd3 := nV_fr q4.1 (nm3 (by omega) (Ne.symm cne) (by omega)) gd1.1
    refine copy_v hC  ?_ (fun σ_5 q6 => ?_)
    · clear h; rw [e1]
      exact ⟨f1.1, h1, by decide, by decide, fun z => f1.2.2.1 z.symm, q4.2.1⟩
    rw [e1] at q6
    have q6 : frN [a1.toNatClampNeg] σ_3 σ_5 ∧ numO σ_5 a1.toNatClampNeg ∧ nV σ_5 a1.toNatClampNeg = nV σ_3 2 ∧ nL σ_5 a1.toNatClampNeg = nL σ_3 2 := q6
    have gd5 := nV_fr q6.1 (nm1 (Ne.symm cne)) gd3.1
    have g35 := nV_fr q6.1 (nm1 (by omega)) q4.2.2.2.1
    refine divide_c hC  ?_ (fun σ_7 q8 => ?_)
    · clear h; rw [e2]
      exact ⟨by decide, by decide, f2.1, h3, by decide, by decide, f2.2.2.1, by decide, f2.2.2.2.1, gd5.1, g35.1, by show 0 < nV σ_5 3; rw [g35.2.1, q4.2.2.2.2.2.2, q2.2.2.1, nv]; exact gz, by omega⟩
    rw [e2] at q8
    have q8 : frN [2, a2.toNatClampNeg, 3] σ_5 σ_7 ∧ numO σ_7 2 ∧ numO σ_7 a2.toNatClampNeg ∧ numO σ_7 3 ∧ nV σ_7 2 = nV σ_5 a2.toNatClampNeg / nV σ_5 3 ∧ nV σ_7 a2.toNatClampNeg = nV σ_5 a2.toNatClampNeg % nV σ_5 3 ∧ nV σ_7 3 = nV σ_5 3 := q8
    refine copy_v hC  ?_ (fun σ_9 q10 => ?_)
    · clear h; rw [e2]
      exact ⟨f2.1, h3, by decide, by decide, fun z => f2.2.2.1 z.symm, q8.2.1⟩
    rw [e2] at q10
    have q10 : frN [a2.toNatClampNeg] σ_7 σ_9 ∧ numO σ_9 a2.toNatClampNeg ∧ nV σ_9 a2.toNatClampNeg = nV σ_7 2 ∧ nL σ_9 a2.toNatClampNeg = nL σ_7 2 := q10
    refine h _ ?_
    · clear h; have gn7 := nV_fr q8.1 (nm3 (by omega) cne (by omega)) q6.2.1
      have gn9 := nV_fr q10.1 (nm1 cne) gn7.1
      refine ⟨?_, gn9.1, q10.2.1, ?_, ?_⟩
      · refine frN_tr (frN_mono F ?_) (frN_tr (frN_mono q2.1 ?_) (frN_tr (frN_mono q4.1 ?_) (frN_tr (frN_mono q6.1 ?_) (frN_tr (frN_mono q8.1 ?_) (frN_mono q10.1 ?_)))))
        all_goals
          intro k hk
          simp only [List.mem_cons, List.not_mem_nil, or_false] at hk ⊢
          omega
      · rw [gn9.2.1, gn7.2.1, q6.2.2.1, q4.2.2.2.2.1, gn1.2.1, gn.2.1, q2.2.2.1, nv]
      · rw [q10.2.2.1, q8.2.2.2.2.1, gd5.2.1, gd3.2.1, gd1.2.1, gd.2.1, g35.2.1, q4.2.2.2.2.2.2, q2.2.2.1, nv]
  refine isZero_c hC  ?_ (fun r11 q13 => ?_)
  · clear h; exact ⟨f1.1, h1⟩  -- p7
  have zz := z_1 hn q13
  refine ⟨fun c14 => ?_, fun c14 => ?_⟩
  · skip
    refine copy_v hC  ?_ (fun σ_15 q16 => ?_)
    · clear h; exact ⟨by decide, by decide, f1.1, h1, f1.2.2.2.2.1, hn⟩  -- p8
    have q16 : frN [0] σ σ_15 ∧ numO σ_15 0 ∧ nV σ_15 0 = nV σ a1.toNatClampNeg ∧ nL σ_15 0 = nL σ a1.toNatClampNeg := q16
    have gd := nV_fr q16.1 (nm1 (by omega)) hd
    refine copy_v hC  ?_ (fun σ_17 q18 => ?_)
    · clear h; exact ⟨by decide, by decide, f2.1, h3, f2.2.2.2.2.2, gd.1⟩  -- p9
    have q18 : frN [1] σ_15 σ_17 ∧ numO σ_17 1 ∧ nV σ_17 1 = nV σ_15 a2.toNatClampNeg ∧ nL σ_17 1 = nL σ_15 a2.toNatClampNeg := q18
    have g0 := nV_fr q18.1 (nm1 (by decide)) q16.2.1
    unfold w_reduce_29
    refine ⟨fun n l1 l2 l3 τ => n = rdM τ l3 ∧ (l1 = a1 ∧ l2 = a2 ∧ rdI σ τ a1.toNatClampNeg a2.toNatClampNeg l3), ⟨_, rfl, ?_⟩, ?_⟩
    · clear h; have v0 : nV σ_17 0 = nV σ a1.toNatClampNeg := by rw [g0.2.1, q16.2.2.1]
      have v1 : nV σ_17 1 = nV σ a2.toNatClampNeg := by rw [q18.2.2.1, gd.2.1]
      refine ⟨rfl, rfl, ?_, g0.1, q18.2.1, by omega, by omega, Or.inl ⟨rfl, by rw [v0]; exact zz.1 c14, by omega, by rw [v0, v1]⟩⟩
      refine frN_tr (frN_mono q16.1 ?_) (frN_mono q18.1 ?_)
      all_goals
        intro k hk
        simp only [List.mem_cons, List.not_mem_nil, or_false] at hk ⊢
        omega
    rintro n29 x29_1 x29_2 x29_3 σ29 ⟨hn29, i29⟩
    obtain ⟨e1, e2, F, o0, o1, le0, le1, st⟩ := i29
    have gn := nV_fr F (nm3 (by omega) (by omega) (by omega)) hn
    have gd := nV_fr F (nm3 (by omega) (by omega) (by omega)) hd
    refine ⟨fun c19 => ?_, fun c19 => ?_⟩
    · skip
      refine ⟨ib_30.mpr ?_, ?_⟩
      · clear h; rcases st with z | z | z
        · exact absurd z.1 c19
        · rw [z.1]; decide
        · rw [z.1]; decide
      refine ⟨fun c20 => ?_, fun c20 => ?_⟩
      · skip
        refine hj103 _ _ _ _ ?_
        · clear h; rcases st with z | z | z
          · exact absurd z.1 c19
          · rw [z.1]; exact ⟨e1, e2, F, Or.inl rfl, o0, z.2⟩
          · rw [z.1]; exact ⟨e1, e2, F, Or.inr rfl, o1, z.2⟩
      · skip
        refine ⟨ib_1200000.mpr ?_, ?_⟩
        · clear h; rcases st with z | z | z
          · exact absurd z.1 c19
          · rw [z.1]; decide
          · rw [z.1]; decide
        refine ⟨fun c21 => ?_, fun c21 => ?_⟩
        · skip
          refine hj103 _ _ _ _ ?_
          · clear h; rcases st with z | z | z
            · exact absurd z.1 c19
            · rw [z.1]; exact ⟨e1, e2, F, Or.inl rfl, o0, z.2⟩
            · rw [z.1]; exact ⟨e1, e2, F, Or.inr rfl, o1, z.2⟩
        · skip
          refine h _ ?_
          · clear h; have g1 : Nat.gcd (nV σ a1.toNatClampNeg) (nV σ a2.toNatClampNeg) = 1 := by
              rcases st with z | z | z
              · exact absurd z.1 c19
              · rw [z.1] at c20 c21
                rw [← z.2]
                exact one_v (r := 0) c20 c21
              · rw [z.1] at c20 c21
                rw [← z.2]
                exact one_v (r := 1) c20 c21
            refine ⟨frN_mono F ?_, gn.1, gd.1, by rw [g1, Nat.div_one]; exact gn.2.1, by rw [g1, Nat.div_one]; exact gd.2.1⟩
            intro k hk
            simp only [List.mem_cons, List.not_mem_nil, or_false] at hk ⊢
            omega
    · skip
      have S : 0 < nV σ29 0 ∧ 0 < nV σ29 1 ∧ Nat.gcd (nV σ29 0) (nV σ29 1) = Nat.gcd (nV σ a1.toNatClampNeg) (nV σ a2.toNatClampNeg) := by
        rcases st with z | z | z
        · exact z.2
        · rw [z.1] at c19
          exact absurd c19 (by decide)
        · rw [z.1] at c19
          exact absurd c19 (by decide)
      have L0 := nL_mono o0 hn le0
      have L1 := nL_mono o1 hd le1
      refine divide_c hC  ?_ (fun σ_22 q23 => ?_)
      · clear h; exact ⟨by decide, by decide, by decide, by decide, by decide, by decide, by decide, by decide, by decide, o0, o1, S.2.1, by show nL σ29 0 + 1 < _; omega⟩  -- p16
      have q23 : frN [2, 0, 1] σ29 σ_22 ∧ numO σ_22 2 ∧ numO σ_22 0 ∧ numO σ_22 1 ∧ nV σ_22 2 = nV σ29 0 / nV σ29 1 ∧ nV σ_22 0 = nV σ29 0 % nV σ29 1 ∧ nV σ_22 1 = nV σ29 1 := q23
      have m1 := Nat.mod_lt (nV σ29 0) S.2.1
      have m2 := Nat.mod_le (nV σ29 0) (nV σ29 1)
      have F2 : frN [0, 1, 2] σ σ_22 := frN_tr F (frN_mono q23.1 (fun k hk => by
        simp only [List.mem_cons, List.not_mem_nil, or_false] at hk ⊢
        omega))
      refine isZero_c hC  ?_ (fun r24 q26 => ?_)
      · clear h; decide  -- p17
      have z2 := z_1 (r := 0) q23.2.2.1 q26
      refine ⟨fun c27 => ?_, fun c27 => ?_⟩
      · skip
        refine divide_c hC  ?_ (fun σ_28 q29 => ?_)
        · clear h; exact ⟨by decide, by decide, by decide, by decide, by decide, by decide, by decide, by decide, by decide, q23.2.2.2.1, q23.2.2.1, z2.1 c27, by show nL σ_22 1 + 1 < _; have := nL_mono q23.2.2.2.1 o1 (by omega); omega⟩  -- p18
        have q29 : frN [2, 1, 0] σ_22 σ_28 ∧ numO σ_28 2 ∧ numO σ_28 1 ∧ numO σ_28 0 ∧ nV σ_28 2 = nV σ_22 1 / nV σ_22 0 ∧ nV σ_28 1 = nV σ_22 1 % nV σ_22 0 ∧ nV σ_28 0 = nV σ_22 0 := q29
        have m3 := Nat.mod_lt (nV σ_22 1) (z2.1 c27)
        have F3 : frN [0, 1, 2] σ σ_28 := frN_tr F2 (frN_mono q29.1 (fun k hk => by
          simp only [List.mem_cons, List.not_mem_nil, or_false] at hk ⊢
          omega))
        have gg : Nat.gcd (nV σ_28 0) (nV σ_28 1) = Nat.gcd (nV σ a1.toNatClampNeg) (nV σ a2.toNatClampNeg) := by
          rw [q29.2.2.2.2.2.1, q29.2.2.2.2.2.2, gcd_t, q23.2.2.2.2.2.1, q23.2.2.2.2.2.2, gcd_s]
          exact S.2.2
        refine isZero_c hC  ?_ (fun r30 q32 => ?_)
        · clear h; decide  -- p19
        have z3 := z_1 (r := 1) q29.2.2.1 q32
        refine ⟨fun c33 => ?_, fun c33 => ?_⟩
        · skip
          refine ⟨_, ?_, rfl, ?_⟩
          · clear h; show rdM σ_28 (-1) < n29
            rw [hn29, c19]
            show nV σ_28 1 + 1 < nV σ29 1 + 1
            omega
          · clear h; exact ⟨e1, e2, F3, q29.2.2.2.1, q29.2.2.1, by omega, by omega, Or.inl ⟨rfl, by have := z2.1 c27; omega, z3.1 c33, gg⟩⟩  -- i21
        · skip
          refine ⟨_, ?_, rfl, ?_⟩
          · clear h; show rdM σ_28 0 < n29
            rw [hn29, c19]
            show 0 < nV σ29 1 + 1
            omega
          · clear h; refine ⟨e1, e2, F3, q29.2.2.2.1, q29.2.2.1, by omega, by omega, Or.inr (Or.inl ⟨rfl, ?_⟩)⟩
            rw [z3.2 c33, Nat.gcd_zero_right] at gg
            exact gg
      · skip
        refine ⟨_, ?_, rfl, ?_⟩
        · clear h; show rdM σ_22 1 < n29
          rw [hn29, c19]
          show 0 < nV σ29 1 + 1
          omega
        · clear h; have zz2 := z2.2 c27
          refine ⟨e1, e2, F2, q23.2.2.1, q23.2.2.2.1, by omega, by omega, Or.inr (Or.inr ⟨rfl, ?_⟩)⟩
          rw [← S.2.2, ← gcd_s, ← q23.2.2.2.2.2.1, zz2, Nat.gcd_zero_left]
          exact q23.2.2.2.2.2.2
  · skip
    refine set_c hC  ?_ (fun σ_34 q35 => ?_)
    · clear h; exact ⟨f2.1, h3, by decide⟩  -- p26
    refine h _ ?_
    · clear h; have q35 : frN [a2.toNatClampNeg] σ σ_34 ∧ numO σ_34 a2.toNatClampNeg ∧ nV σ_34 a2.toNatClampNeg = 1 ∧ nL σ_34 a2.toNatClampNeg ≤ 4 := q35
      have n0 := zz.2 c14
      have gn := nV_fr q35.1 (nm1 cne) hn
      refine ⟨frN_mono q35.1 ?_, gn.1, q35.2.1, ?_, ?_⟩
      · intro k hk
        simp only [List.mem_cons, List.not_mem_nil, or_false] at hk ⊢
        omega
      · rw [gn.2.1, n0, Nat.zero_div]
      · rw [q35.2.2.1, n0, Nat.gcd_zero_left, Nat.div_self hz]
