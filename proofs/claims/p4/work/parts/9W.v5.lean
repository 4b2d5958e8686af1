set_option maxHeartbeats 1600000
/-! the reference: play, walk -/
abbrev pyF : List Nat := [0, 10, 11, 12, 13, 46, 47, 48, 49, 58, 61, 62, 63, 66, 67, 106, 107, 108, 109]
abbrev pyR : List Nat := [50, 51, 52, 57, 59, 60, 64, 65, 68, 84, 111]
abbrev pyL : List Nat := [8, 13, 17, 18]
def frW (σ τ : rS) : Prop := (∀ k, k ∉ pyF → τ.1 k = σ.1 k) ∧ (∀ k, k ≠ 110 → k ≠ 112 → τ.2.1 k = σ.2.1 k) ∧ (∀ k, k ≠ 90 → k ≠ 91 → k ∉ pyR → τ.2.2.1 k = σ.2.2.1 k) ∧ (∀ k j, τ.2.2.2 k j = σ.2.2.2 k j) ∧ ∀ k, k ∉ pyL → τ.2.2.1 91 k = σ.2.2.1 91 k ∧ ∀ i, i < 40000 → τ.2.2.1 90 (40000 * k + i) = σ.2.2.1 90 (40000 * k + i)
theorem frW_rf {σ : rS} : frW σ σ := ⟨fun _ _ => rfl, fun _ _ _ => rfl, fun _ _ _ _ => rfl, fun _ _ => rfl, fun _ _ => ⟨rfl, fun _ _ => rfl⟩⟩
theorem frW_tr {σ τ υ : rS} (h : frW σ τ) (g : frW τ υ) : frW σ υ := ⟨fun k z => (g.1 k z).trans (h.1 k z), fun k z1 z2 => (g.2.1 k z1 z2).trans (h.2.1 k z1 z2), fun k z1 z2 z3 => (g.2.2.1 k z1 z2 z3).trans (h.2.2.1 k z1 z2 z3), fun k j => (g.2.2.2.1 k j).trans (h.2.2.2.1 k j), fun k z => ⟨(g.2.2.2.2 k z).1.trans (h.2.2.2.2 k z).1, fun i hi => ((g.2.2.2.2 k z).2 i hi).trans ((h.2.2.2.2 k z).2 i hi)⟩⟩
theorem frW_G {F R : List Nat} {σ τ : rS} (h : frG F R σ τ) (hF : ∀ k, k ∈ F → k ∈ pyF) (hR : ∀ k, k ∈ R → k ∈ pyR) : frW σ τ := by
  have r90 : τ.2.2.1 90 = σ.2.2.1 90 := h.2.2.1 90 (fun e => absurd (hR _ e) (by decide))
  have r91 : τ.2.2.1 91 = σ.2.2.1 91 := h.2.2.1 91 (fun e => absurd (hR _ e) (by decide))
  exact ⟨fun k z => h.1 k (fun e => z (hF k e)), fun k _ _ => h.2.1 k, fun k _ _ z => h.2.2.1 k (fun e => z (hR k e)), h.2.2.2, fun k _ => ⟨by rw [r91], fun i _ => by rw [r90]⟩⟩
theorem frW_N {l : List Nat} {σ τ : rS} (h : frN l σ τ) (hl : ∀ k, k ∈ l → k ∈ pyL) : frW σ τ := ⟨fun k _ => by rw [h.1], fun k _ _ => by rw [h.2.1], fun k z1 z2 _ => h.2.2.1 k z1 z2, fun k j => by rw [h.2.2.2.1], fun k z => h.2.2.2.2 k (fun e => z (hl k e))⟩
theorem frW_0 {σ : rS} {k : Nat} {x : Int32} (hk : k ∈ pyF) : frW σ (siU σ k x) := ⟨fun q z => if_neg (fun e => z (by rw [e]; exact hk)), fun _ _ _ => rfl, fun _ _ _ _ => rfl, fun _ _ => rfl, fun _ _ => ⟨rfl, fun _ _ => rfl⟩⟩
theorem frW_l {σ : rS} {x : Int64} : frW σ (slU σ 110 x) := ⟨fun _ _ => rfl, fun k z _ => if_neg z, fun _ _ _ _ => rfl, fun _ _ => rfl, fun _ _ => ⟨rfl, fun _ _ => rfl⟩⟩
theorem frW_1 {σ : rS} {i : Nat} {x : Int32} : frW σ (riU σ 111 i x) := ⟨fun _ _ => rfl, fun _ _ _ => rfl, fun k _ _ z => ri3 (fun e => z (by rw [e]; decide)), fun _ _ => rfl, fun _ _ => ⟨by rw [ri3 (by decide)], fun _ _ => by rw [ri3 (by decide)]⟩⟩
theorem frW_d {σ τ : rS} (h : drF σ τ) : frW σ τ := ⟨fun k _ => by rw [h.1], fun k _ z => h.2.1 k z, fun k _ _ _ => by rw [h.2.2], fun k j => by rw [h.2.2], fun k _ => ⟨by rw [h.2.2], fun i _ => by rw [h.2.2]⟩⟩
theorem rI_W {σ τ : rS} {B T : Int32} (h : rI σ B T) (f : frW σ τ) : rI τ B T := rI_gen h (fun k hk => f.1 k ((by decide : ∀ k, k ∈ [15, 16, 17, 18, 19, 40, 41, 42] → k ∉ pyF) k hk)) (fun k hk => f.2.2.1 k ((by decide : ∀ k, k ∈ [5, 7, 20, 22, 23, 24, 25, 26, 27, 28, 29, 30, 31, 32, 33, 34, 35, 36, 37, 38, 39, 43, 44] → k ≠ 90) k hk) ((by decide : ∀ k, k ∈ [5, 7, 20, 22, 23, 24, 25, 26, 27, 28, 29, 30, 31, 32, 33, 34, 35, 36, 37, 38, 39, 43, 44] → k ≠ 91) k hk) ((by decide : ∀ k, k ∈ [5, 7, 20, 22, 23, 24, 25, 26, 27, 28, 29, 30, 31, 32, 33, 34, 35, 36, 37, 38, 39, 43, 44] → k ∉ pyR) k hk))
theorem exP_W {σ τ : rS} (h : exP σ) (f : frW σ τ) : exP τ := exP_o h (fun k hk => f.1 k (by rcases hk with z | z | z | z <;> rw [z] <;> decide)) (fun k hk => f.2.2.1 k (by omega) (by omega) (by rcases hk with z | z | z | z | z | z | z | z <;> rw [z] <;> decide))
theorem nu90 {σ τ : rS} {k : Nat} (h0 : τ.2.2.1 90 = σ.2.2.1 90) (h1 : τ.2.2.1 91 = σ.2.2.1 91) : (numO σ k → numO τ k) ∧ nV τ k = nV σ k ∧ nL τ k = nL σ k := by
  have l : nL τ k = nL σ k := by unfold nL; rw [h1]
  refine ⟨fun h => ?_, ?_, l⟩
  · unfold numO at *
    rw [l, h0, h1]
    exact h
  · unfold nV
    rw [l, h0]
/-- the chance of a run so far -/
def pyN (σ : rS) : Prop := numO σ 17 ∧ numO σ 18 ∧ 0 < nV σ 18 ∧ nL σ 17 ≤ 4 * (σ.1 109).toNatClampNeg + 4 ∧ nL σ 18 ≤ 4 * (σ.1 109).toNatClampNeg + 4
def pyQ (σ : rS) : Prop := numO σ 17 ∧ numO σ 18 ∧ 0 < nV σ 18 ∧ nL σ 17 + 1 < 40000 ∧ nL σ 18 + 1 < 40000
theorem pyN_r {σ τ : rS} (h : pyN σ) (h0 : τ.2.2.1 90 = σ.2.2.1 90) (h1 : τ.2.2.1 91 = σ.2.2.1 91) (h2 : τ.1 109 = σ.1 109) : pyN τ := by
  have a := nu90 (k := 17) h0 h1
  have b := nu90 (k := 18) h0 h1
  unfold pyN
  rw [a.2.2, b.2.2, b.2.1, h2]
  exact ⟨a.1 h.1, b.1 h.2.1, h.2.2⟩
theorem pyQ_r {σ τ : rS} (h : pyQ σ) (h0 : τ.2.2.1 90 = σ.2.2.1 90) (h1 : τ.2.2.1 91 = σ.2.2.1 91) : pyQ τ := by
  have a := nu90 (k := 17) h0 h1
  have b := nu90 (k := 18) h0 h1
  unfold pyQ
  rw [a.2.2, b.2.2, b.2.1]
  exact ⟨a.1 h.1, b.1 h.2.1, h.2.2⟩
theorem pyN_G {F R : List Nat} {σ τ : rS} (h : pyN σ) (f : frG F R σ τ) (h0 : 90 ∉ R) (h1 : 91 ∉ R) (h2 : 109 ∉ F) : pyN τ := pyN_r h (f.2.2.1 90 h0) (f.2.2.1 91 h1) (f.1 109 h2)
theorem pyQ_N {σ : rS} (h : pyN σ) (h1 : σ.1 109 ≤ 2000) : pyQ σ := by
  have n : (σ.1 109).toNatClampNeg ≤ 2000 := cn_le (y := 2000) rfl h1
  have a := h.2.2.2.1
  have b := h.2.2.2.2
  exact ⟨h.1, h.2.1, h.2.2.1, by omega, by omega⟩
theorem py_1 {x : Int32} (h0 : 0 ≤ x) (h1 : x ≤ 2000) : x ≤ x + 1 ∧ x + 1 ≤ x + 1 ∧ x < 1000000 := by grind
theorem py_2 {x y : Int32} (h0 : 0 ≤ x) (h : x < y) (hy : y ≤ 200) : x + 1 ≤ y := by grind
theorem draws_c {C : rCx} (hC : cOK C) (B T : Int32) {σ : rS}  {Q : Int32 → rS → Prop} (hp : rI σ B T ∧ csF σ ∧ plV (σ.1 67) ∧ oW σ ∧ pyN σ ∧ 0 ≤ σ.1 109 ∧ σ.1 109 ≤ 2000 ∧ 0 ≤ σ.1 104 ∧ σ.1 104 ≤ 200 ∧ (σ.1 113 = 0 → σ.1 109 ≤ σ.1 104)) (h : ∀ (v : Int32) (σ' : rS), (frW σ σ' ∧ pyN σ' ∧ σ.1 109 ≤ σ'.1 109 ∧ σ'.1 109 ≤ σ.1 109 + 1 ∧ (σ.1 113 = 0 → σ'.1 109 ≤ σ.1 104) ∧ ((v = 5 ∧ σ'.1 108 = σ.1 108 - 1 ∧ σ'.1 109 = σ.1 109) ∨ (σ'.1 108 = σ.1 108 ∧ ((v = 0 ∧ csF σ') ∨ v = 1 ∨ v = 2)))) → Q v σ') : cI C 4 m_draws [.ref (co C)] σ Q := by
  refine m_draws_run hC ?_
  unfold w_draws_0
  obtain ⟨hI, cF, pV, W, N, n0, n1, u0, u1, ule⟩ := hp
  have n2000 : (σ.1 109).toNatClampNeg ≤ 2000 := cn_le (y := 2000) rfl n1
  have p1' := py_1 n0 n1
  have ns := cn_succ n0 p1'.2.2
  refine drawn_c hC  ?_ (fun r1 σ_2 q3 => ?_)
  · clear h; exact ⟨W, n0, u0, u1, ule⟩  -- p1
  refine ⟨fun c4 => ?_, fun c4 => ?_⟩
  · skip
    refine ⟨fun c5 => ?_, fun c5 => ?_⟩
    · skip
      intro σ_6 hσ_6
      refine ⟨ib_64.mpr ?_, ?_⟩
      · clear h; have r := (q3.2.resolve_left c4).resolve_left c5
        exact ⟨r.1, Int32.lt_of_lt_of_le r.2.1 W.2.1⟩
      refine set_c hC  ?_ (fun σ_7 q8 => ?_)
      · clear h; have r := (q3.2.resolve_left c4).resolve_left c5
        have e6 : σ_6.2.2 = σ.2.2 := by rw [hσ_6]; exact q3.1.2.2
        have w8 := W.2.2.1 r1.toNatClampNeg (cn_lt r.1 r.2.1)
        rw [e6]; exact ⟨by decide, by decide, l64_0 (Int32.toInt_toInt64 _) (t0 w8.1)⟩
      simp only [kn] at q8
      have r := (q3.2.resolve_left c4).resolve_left c5
      have e6 : σ_6.2.2 = σ.2.2 := by rw [hσ_6]; exact q3.1.2.2
      have f6 : ∀ k, k ≠ 109 → σ_6.1 k = σ.1 k := fun k hk => by
        rw [hσ_6]
        show (if k = 109 then _ else σ_2.1 k) = _
        rw [if_neg hk, q3.1.1]
      have g6 : σ_6.1 109 = σ.1 109 + 1 := by
        rw [hσ_6]
        show σ_2.1 109 + 1 = _
        rw [q3.1.1]
      have F6 : frW σ σ_6 := by rw [hσ_6]; exact frW_tr (frW_d q3.1) (frW_0 (by decide))
      have a17 := nu90 (k := 17) (σ := σ) (τ := σ_6) (by rw [e6]) (by rw [e6])
      have a18 := nu90 (k := 18) (σ := σ) (τ := σ_6) (by rw [e6]) (by rw [e6])
      have o17 := a17.1 N.1
      have o18 := a18.1 N.2.1
      have w8 := W.2.2.1 r1.toNatClampNeg (cn_lt r.1 r.2.1)
      have b17 := nV_fr q8.1 (k := 17) (by decide) o17
      refine times_c hC  ?_ (fun σ_9 q10 => ?_)
      · clear h; simp only [kn, kn2]
        exact ⟨by decide, by decide, by decide, by decide, by decide, by decide, by decide, by decide, b17.1, q8.2.1, by have := q8.2.2.2; have := b17.2.2; have := a17.2.2; have := N.2.2.2.1; omega⟩
      simp only [kn, kn2] at q10
      refine copy_v hC  ?_ (fun σ_11 q12 => ?_)
      · clear h; simp only [kn, kn2]; exact ⟨by decide, by decide, by decide, by decide, by decide, q10.2.1⟩  -- p5
      simp only [kn, kn2] at q12
      have e11 : σ_11.1 = σ_6.1 := by rw [q12.1.1, q10.1.1, q8.1.1]
      refine set_c hC  ?_ (fun σ_13 q14 => ?_)
      · clear h; rw [e11, f6 66 (by decide)]
        exact ⟨by decide, by decide, l64_0 (Int32.toInt_toInt64 _) (t0 (Int32.le_of_lt W.2.2.2.2.1))⟩
      simp only [kn] at q14
      rw [e11, f6 66 (by decide), Int32.toInt_toInt64] at q14
      have b18 := nV_fr q8.1 (k := 18) (by decide) o18
      have c18 := nV_fr q10.1 (k := 18) (by decide) b18.1
      have d18 := nV_fr q12.1 (k := 18) (by decide) c18.1
      have x18 := nV_fr q14.1 (k := 18) (by decide) d18.1
      have p66 : 0 < (σ.1 66).toInt.toNat := by
        have z := Int32.lt_iff_toInt_lt.mp W.2.2.2.2.1
        rw [Int32.toInt_zero] at z
        omega
      refine times_c hC  ?_ (fun σ_15 q16 => ?_)
      · clear h; simp only [kn, kn2]
        exact ⟨by decide, by decide, by decide, by decide, by decide, by decide, by decide, by decide, x18.1, q14.2.1, by have := q14.2.2.2; have := x18.2.2; have := d18.2.2; have := c18.2.2; have := b18.2.2; have := a18.2.2; have := N.2.2.2.2; omega⟩
      simp only [kn, kn2] at q16
      refine copy_v hC  ?_ (fun σ_17 q18 => ?_)
      · clear h; simp only [kn, kn2]; exact ⟨by decide, by decide, by decide, by decide, by decide, q16.2.1⟩  -- p8
      simp only [kn, kn2] at q18
      have e17 : σ_17.1 = σ_6.1 := by rw [q18.1.1, q16.1.1, q14.1.1, e11]
      have F17 : frW σ σ_17 := frW_tr F6 (frW_tr (frW_N q8.1 (sub_of rfl)) (frW_tr (frW_N q10.1 (sub_of rfl)) (frW_tr (frW_N q12.1 (sub_of rfl)) (frW_tr (frW_N q14.1 (sub_of rfl)) (frW_tr (frW_N q16.1 (sub_of rfl)) (frW_N q18.1 (sub_of rfl)))))))
      have r17 : ∀ k, k ≠ 90 → k ≠ 91 → σ_17.2.2.1 k = σ.2.2.1 k := fun k z1 z2 => by rw [q18.1.2.2.1 k z1 z2, q16.1.2.2.1 k z1 z2, q14.1.2.2.1 k z1 z2, q12.1.2.2.1 k z1 z2, q10.1.2.2.1 k z1 z2, q8.1.2.2.1 k z1 z2, e6]
      have y17 := nV_fr q18.1 (k := 17) (by decide) (nV_fr q16.1 (k := 17) (by decide) (nV_fr q14.1 (k := 17) (by decide) q12.2.1).1).1
      have y17l : nL σ_17 17 = nL σ_11 17 := by rw [y17.2.2, (nV_fr q16.1 (k := 17) (by decide) (nV_fr q14.1 (k := 17) (by decide) q12.2.1).1).2.2, (nV_fr q14.1 (k := 17) (by decide) q12.2.1).2.2]
      have N17 : pyN σ_17 := by
        unfold pyN
        rw [e17, g6, ns]
        refine ⟨y17.1, q18.2.1, ?_, ?_, ?_⟩
        · rw [q18.2.2.1, q16.2.2.1, q14.2.2.1, x18.2.1, d18.2.1, c18.2.1, b18.2.1, a18.2.1]
          exact Nat.mul_pos N.2.2.1 p66
        · have := q12.2.2.2
          have := q10.2.2.2
          have := q8.2.2.2
          have := b17.2.2
          have := a17.2.2
          have := N.2.2.2.1
          omega
        · have := q18.2.2.2
          have := q16.2.2.2
          have := q14.2.2.2
          have := x18.2.2
          have := d18.2.2
          have := c18.2.2
          have := b18.2.2
          have := a18.2.2
          have := N.2.2.2.2
          omega
      refine get_c hC B T ?_ (fun r19 σ_20 q21 => ?_)
      · clear h; exact ⟨rI_W hI F17, csF_o cF (r17 59 (by decide) (by decide)) (r17 30 (by decide) (by decide)) (by rw [e17]; exact f6 19 (by decide)) (by rw [e17]; exact f6 58 (by decide)), by rw [e17, f6 67 (by decide)]; exact pV, r.1, Int32.lt_of_lt_of_le r.2.1 W.2.1⟩  -- p9
      refine h _ _ ?_
      · clear h; have e9 : σ_20.1 109 = σ.1 109 + 1 := by rw [q21.1.1 109 (by decide), e17, g6]
        refine ⟨frW_tr F17 (frW_G q21.1 (sub_of rfl) (sub_of rfl)), pyN_G N17 q21.1 (by decide) (by decide) (by decide), by rw [e9]; exact p1'.1, by rw [e9]; exact Int32.le_refl _, fun z => by rw [e9]; exact py_2 n0 (r.2.2 z) u1, Or.inr ⟨by rw [q21.1.1 108 (by decide), e17]; exact f6 108 (by decide), ?_⟩⟩
        rcases q21.2 with z | z
        · exact Or.inl z
        · exact Or.inr (Or.inl z)
    · skip
      refine fail_c hC  (fun r22 σ_23 q24 => ?_)
      refine h _ _ ?_
      · clear h; have e2 : σ_23.2 = σ_2.2 := q24.1.2
        have G : frG [61] [] σ_2 σ_23 := frG_61 q24.1 (by decide)
        have e9 : σ_23.1 109 = σ.1 109 := by rw [G.1 109 (by decide), q3.1.1]
        exact ⟨frW_tr (frW_d q3.1) (frW_G G (sub_of rfl) (sub_of rfl)), pyN_r N (by rw [e2, q3.1.2.2]) (by rw [e2, q3.1.2.2]) e9, by rw [e9]; exact Int32.le_refl _, by rw [e9]; exact p1'.1, fun z => by rw [e9]; exact ule z, Or.inr ⟨by rw [G.1 108 (by decide), q3.1.1], Or.inr (Or.inr q24.2)⟩⟩
  · skip
    intro σ_25 hσ_25
    refine h _ _ ?_
    · clear h; have e9 : σ_25.1 109 = σ.1 109 := by
        rw [hσ_25]
        show σ_2.1 109 = _
        rw [q3.1.1]
      have e8 : σ_25.1 108 = σ.1 108 - 1 := by
        rw [hσ_25]
        show σ_2.1 108 - 1 = _
        rw [q3.1.1]
      have e2 : σ_25.2.2 = σ.2.2 := by rw [hσ_25]; exact q3.1.2.2
      exact ⟨by rw [hσ_25]; exact frW_tr (frW_d q3.1) (frW_0 (by decide)), pyN_r N (by rw [e2]) (by rw [e2]) e9, by rw [e9]; exact Int32.le_refl _, by rw [e9]; exact p1'.1, fun z => by rw [e9]; exact ule z, Or.inl ⟨rfl, e8, e9⟩⟩

theorem chooses_c {C : rCx} (hC : cOK C) (B T : Int32) {σ : rS}  {Q : Int32 → rS → Prop} (hp : rI σ B T ∧ csF σ ∧ plV (σ.1 67) ∧ exP σ) (h : ∀ (v : Int32) (σ' : rS), (frG [58, 61] [57, 59, 60, 84] σ σ' ∧ ((v = 0 ∧ csF σ') ∨ v = 1)) → Q v σ') : cI C 4 m_chooses [.ref (co C)] σ Q := by
  refine m_chooses_run hC ?_
  unfold w_chooses_0
  obtain ⟨hI, cF, pV, hP⟩ := hp
  have hj15 : ∀ (s0 : Int32) (τ : rS), (frG [] [84] σ τ ∧ (s0 = -1 ∨ (0 ≤ s0 ∧ s0 < σ.1 70))) → w_chooses_15 C Q  s0 τ := by
    rintro y15_s0 τ15 j15
    unfold w_chooses_15
    obtain ⟨F, k⟩ := j15
    have I15 := rI_W hI (frW_G F (sub_of rfl) (sub_of rfl))
    have C15 := csF_o cF (F.2.2.1 59 (by decide)) (F.2.2.1 30 (by decide)) (F.1 19 (by decide)) (F.1 58 (by decide))
    have P15 : plV (τ15.1 67) := by rw [F.1 67 (by decide)]; exact pV
    refine ⟨fun c1 => ?_, fun c1 => ?_⟩
    · skip
      refine ⟨ib_1000.mpr ?_, ?_⟩
      · clear h; have q := k.resolve_left c1
        exact ⟨q.1, Int32.lt_of_lt_of_le q.2 hP.1.1.2⟩
      refine get_c hC B T ?_ (fun r2 σ_3 q4 => ?_)
      · clear h; have q := k.resolve_left c1
        have z := hP.2.2.1 y15_s0 q.1 q.2
        have st := hP.1.2.2.2.1 y15_s0 q.1 q.2
        refine ⟨I15, C15, P15, ?_⟩
        rw [F.2.2.1 83 (by decide)]
        by_cases e : rd σ 81 y15_s0 = 0
        · have z1 := z.1 e
          rw [rd] at z1
          rw [z1]
          decide
        · have z2 := z.2 e
          have l := st.2.2.2.2 e
          exact ⟨z2.1, Int32.lt_of_lt_of_le z2.2 (Int32.le_trans l (by decide))⟩
      refine h _ _ ?_
      · clear h; exact ⟨frG_tr (frG_mono F (sub_of rfl) (sub_of rfl)) (frG_mono q4.1 (sub_of rfl) (sub_of rfl)), q4.2⟩  -- q3
    · skip
      refine get_c hC B T ?_ (fun r5 σ_6 q7 => ?_)
      · clear h; exact ⟨I15, C15, P15, by decide, by decide⟩  -- p4
      refine h _ _ ?_
      · clear h; exact ⟨frG_tr (frG_mono F (sub_of rfl) (sub_of rfl)) (frG_mono q7.1 (sub_of rfl) (sub_of rfl)), q7.2⟩  -- q5
  refine ⟨fun c8 => ?_, fun c8 => ?_⟩
  · skip
    refine hj15 _ _ ?_
    · clear h; exact ⟨frG_refl, Or.inl rfl⟩  -- k6
  · skip
    refine stateNow_c hC  ?_ (fun r9 σ_10 q11 => ?_)
    · clear h; exact ⟨cF, hP.1.1.1, hP.1.1.2⟩  -- p7
    refine hj15 _ _ ?_
    · clear h; exact ⟨q11.1, q11.2.2⟩  -- k8
