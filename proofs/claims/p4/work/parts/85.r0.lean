set_option maxHeartbeats 1600000
/-! the reference: fractions by their values -/
def fQ (σ : rS) (n d : Nat) : Rat := mkRat (nV σ n) (nV σ d)
/-- the numbers n and d hold the fraction q in its lowest terms -/
def hR (σ : rS) (n d : Nat) (q : Rat) : Prop := numO σ n ∧ numO σ d ∧ (nV σ n : Int) = q.num ∧ nV σ d = q.den
theorem hR_q {σ : rS} {n d : Nat} {q : Rat} (h : hR σ n d q) : fQ σ n d = q ∧ 0 < nV σ d := by
  unfold fQ
  rw [h.2.2.1, h.2.2.2]
  exact ⟨Rat.mkRat_self q, Nat.pos_of_ne_zero q.den_nz⟩
theorem hR_red {σ τ : rS} {n d : Nat} (hn : numO τ n) (hd : numO τ d) (z : 0 < nV σ d) (en : nV τ n = nV σ n / Nat.gcd (nV σ n) (nV σ d)) (ed : nV τ d = nV σ d / Nat.gcd (nV σ n) (nV σ d)) : hR τ n d (fQ σ n d) := by
  have z2 : ¬ nV σ d = 0 := by omega
  refine ⟨hn, hd, ?_, ?_⟩
  · unfold fQ
    rw [Rat.num_mkRat, if_neg z2, en, Int.natAbs_natCast, Nat.gcd_comm, Int.natCast_ediv]
  · unfold fQ
    rw [Rat.den_mkRat, if_neg z2, ed, Int.natAbs_natCast, Nat.gcd_comm]
theorem hR_fr {l : List Nat} {σ τ : rS} {n d : Nat} {q : Rat} (f : frN l σ τ) (hn : n ∉ l) (hd : d ∉ l) (h : hR σ n d q) : hR τ n d q := by
  have a := nV_fr f hn h.1
  have b := nV_fr f hd h.2.1
  exact ⟨a.1, b.1, by rw [a.2.1]; exact h.2.2.1, by rw [b.2.1]; exact h.2.2.2⟩
/-- as frN, and the sum's sign -/
def frS (l : List Nat) (σ τ : rS) : Prop := (∀ k, k ≠ 92 → τ.1 k = σ.1 k) ∧ τ.2.1 = σ.2.1 ∧ (∀ k, k ≠ 90 → k ≠ 91 → τ.2.2.1 k = σ.2.2.1 k) ∧ τ.2.2.2 = σ.2.2.2 ∧ ∀ k, k ∉ l → τ.2.2.1 91 k = σ.2.2.1 91 k ∧ ∀ i, i < 40000 → τ.2.2.1 90 (40000 * k + i) = σ.2.2.1 90 (40000 * k + i)
theorem frS_of {l : List Nat} {σ τ : rS} (h : frN l σ τ) : frS l σ τ := ⟨fun k _ => by rw [h.1], h.2⟩
theorem frS_tr {l : List Nat} {σ τ υ : rS} (h : frS l σ τ) (g : frS l τ υ) : frS l σ υ := ⟨fun k z => (g.1 k z).trans (h.1 k z), g.2.1.trans h.2.1, fun k z1 z2 => (g.2.2.1 k z1 z2).trans (h.2.2.1 k z1 z2), g.2.2.2.1.trans h.2.2.2.1, fun k z => ⟨(g.2.2.2.2 k z).1.trans (h.2.2.2.2 k z).1, fun i hi => ((g.2.2.2.2 k z).2 i hi).trans ((h.2.2.2.2 k z).2 i hi)⟩⟩
theorem frS_mono {l m : List Nat} {σ τ : rS} (h : frS l σ τ) (hl : ∀ k, k ∈ l → k ∈ m) : frS m σ τ := ⟨h.1, h.2.1, h.2.2.1, h.2.2.2.1, fun k z => h.2.2.2.2 k (fun e => z (hl k e))⟩
theorem frS_N {l : List Nat} {σ τ : rS} (h : frS l σ τ) : frN l (τ.1, σ.2) τ := ⟨rfl, h.2⟩
theorem frS_92 {l : List Nat} {σ : rS} {x : Int32} : frS l σ (siU σ 92 x) := ⟨fun k z => by show (if k = 92 then x else σ.1 k) = σ.1 k; rw [if_neg z], rfl, fun _ _ _ => rfl, rfl, fun _ _ => ⟨rfl, fun _ _ => rfl⟩⟩
theorem nV_frS {l : List Nat} {σ τ : rS} {k : Nat} (f : frS l σ τ) (hk : k ∉ l) (h : numO σ k) : numO τ k ∧ nV τ k = nV σ k ∧ nL τ k = nL σ k := nV_fr (σ := (τ.1, σ.2)) (frS_N f) hk h
theorem hR_frS {l : List Nat} {σ τ : rS} {n d : Nat} {q : Rat} (f : frS l σ τ) (hn : n ∉ l) (hd : d ∉ l) (h : hR σ n d q) : hR τ n d q := hR_fr (σ := (τ.1, σ.2)) (frS_N f) hn hd h
theorem nV_92 {σ : rS} {x : Int32} {k : Nat} : nV (siU σ 92 x) k = nV σ k ∧ (numO (siU σ 92 x) k ↔ numO σ k) ∧ nL (siU σ 92 x) k = nL σ k := ⟨rfl, Iff.rfl, rfl⟩
theorem l1_n {x : Int64} (h : 0 < x) : 0 ≤ x ∧ 0 < x.toInt.toNat ∧ (x.toInt.toNat : Int) = x.toInt := by
  have a := Int64.lt_iff_toInt_lt.mp h
  rw [Int64.toInt_zero] at a
  exact ⟨Int64.le_of_lt h, by omega, by omega⟩
/-- the sum: its sign, and the numbers 4 and 5 -/
def hS (σ : rS) (p : Rat) : Prop := ∃ q, hR σ 4 5 q ∧ ((σ.1 92 = 1 ∧ p = q) ∨ (σ.1 92 = -1 ∧ p = -q))
theorem hR_0 {σ : rS} {n d : Nat} (hn : numO σ n) (hd : numO σ d) (zn : nV σ n = 0) (zd : nV σ d = 1) : hR σ n d 0 := ⟨hn, hd, by rw [zn]; rfl, by rw [zd]; rfl⟩
theorem kn : (0 : Int32).toNatClampNeg = 0 ∧ (1 : Int32).toNatClampNeg = 1 ∧ (2 : Int32).toNatClampNeg = 2 ∧ (3 : Int32).toNatClampNeg = 3 ∧ (4 : Int32).toNatClampNeg = 4 ∧ (5 : Int32).toNatClampNeg = 5 ∧ (6 : Int32).toNatClampNeg = 6 ∧ (7 : Int32).toNatClampNeg = 7 ∧ (8 : Int32).toNatClampNeg = 8 ∧ (9 : Int32).toNatClampNeg = 9 ∧ (10 : Int32).toNatClampNeg = 10 ∧ (11 : Int32).toNatClampNeg = 11 ∧ (12 : Int32).toNatClampNeg = 12 ∧ (13 : Int32).toNatClampNeg = 13 ∧ (14 : Int32).toNatClampNeg = 14 := ⟨rfl, rfl, rfl, rfl, rfl, rfl, rfl, rfl, rfl, rfl, rfl, rfl, rfl, rfl, rfl⟩
theorem sub_of {l m : List Nat} (h : l.all (fun k => m.contains k) = true) : ∀ k, k ∈ l → k ∈ m := fun k hk => List.contains_iff_mem.mp (List.all_eq_true.mp h k hk)
theorem fQ_mul {σ τ : rS} {n d m e : Nat} {x y : Nat} (h1 : nV τ n = nV σ m * x) (h2 : nV τ d = nV σ e * y) : fQ τ n d = fQ σ m e * mkRat (x : Int) y := by
  unfold fQ
  rw [h1, h2, Rat.mkRat_mul_mkRat, Int.natCast_mul]
theorem clearSum_c {C : rCx} (hC : cOK C)  {σ : rS}  {Q : rS → Prop} (h : ∀ (σ' : rS), (frS [4, 5] σ σ' ∧ hS σ' 0) → Q σ') : cV C 1 m_clearSum [.ref (co C)] σ Q := by
  refine m_clearSum_run hC ?_
  unfold w_clearSum_0
  refine set_c hC  ?_ (fun σ_1 q2 => ?_)
  · clear h; decide  -- p1
  simp only [kn] at q2
  refine set_c hC  ?_ (fun σ_3 q4 => ?_)
  · clear h; decide  -- p2
  simp only [kn] at q4
  have g4 := nV_fr q4.1 (k := 4) (by decide) q2.2.1
  intro σ_5 hσ_5
  refine h _ ?_
  · clear h; rw [hσ_5]
    refine ⟨frS_tr (frS_of (frN_mono q2.1 (sub_of rfl))) (frS_tr (frS_of (frN_mono q4.1 (sub_of rfl))) frS_92), 0, hR_0 (nV_92.2.1.mpr g4.1) (nV_92.2.1.mpr q4.2.1) ?_ ?_, Or.inl ⟨rfl, rfl⟩⟩
    · rw [nV_92.1, g4.2.1, q2.2.2.1]; rfl
    · rw [nV_92.1, q4.2.2.1]; rfl

theorem scale_c {C : rCx} (hC : cOK C)  {σ : rS} {a1 : Int64} {a3 : Int64} {Q : rS → Prop} (hp : numO σ 6 ∧ numO σ 7 ∧ 0 < nV σ 7 ∧ 0 ≤ a1 ∧ 0 < a3 ∧ nL σ 6 + 5 < 40000 ∧ nL σ 7 + 5 < 40000) (h : ∀ (σ' : rS), (frN [0, 1, 2, 3, 6, 7, 8, 9] σ σ' ∧ hR σ' 6 7 (fQ σ 6 7 * mkRat a1.toInt a3.toInt.toNat)) → Q σ') : cV C 4 m_scale [.ref (co C), .long a1, .long a3] σ Q := by
  refine m_scale_run hC ?_
  unfold w_scale_0
  obtain ⟨h6, h7, hz, p0, p1, l6, l7⟩ := hp
  have c3 := l1_n p1
  refine set_c hC  ?_ (fun σ_1 q2 => ?_)
  · clear h; exact ⟨by decide, by decide, p0⟩  -- p1
  simp only [kn] at q2
  have g6 := nV_fr q2.1 (k := 6) (by decide) h6
  have g7 := nV_fr q2.1 (k := 7) (by decide) h7
  refine times_c hC  ?_ (fun σ_3 q4 => ?_)
  · clear h; simp only [kn]
    exact ⟨by decide, by decide, by decide, by decide, by decide, by decide, by decide, by decide, g6.1, q2.2.1, by omega⟩
  simp only [kn] at q4
  have k7 := nV_fr q4.1 (k := 7) (by decide) g7.1
  refine copy_v hC  ?_ (fun σ_5 q6 => ?_)
  · clear h; simp only [kn]
    exact ⟨by decide, by decide, by decide, by decide, by decide, q4.2.1⟩
  simp only [kn] at q6
  have m7 := nV_fr q6.1 (k := 7) (by decide) k7.1
  refine set_c hC  ?_ (fun σ_7 q8 => ?_)
  · clear h; exact ⟨by decide, by decide, c3.1⟩  -- p4
  simp only [kn] at q8
  have n7 := nV_fr q8.1 (k := 7) (by decide) m7.1
  have n6 := nV_fr q8.1 (k := 6) (by decide) q6.2.1
  refine times_c hC  ?_ (fun σ_9 q10 => ?_)
  · clear h; simp only [kn]
    exact ⟨by decide, by decide, by decide, by decide, by decide, by decide, by decide, by decide, n7.1, q8.2.1, by omega⟩
  simp only [kn] at q10
  have o6 := nV_fr q10.1 (k := 6) (by decide) n6.1
  refine copy_v hC  ?_ (fun σ_11 q12 => ?_)
  · clear h; simp only [kn]
    exact ⟨by decide, by decide, by decide, by decide, by decide, q10.2.1⟩
  simp only [kn] at q12
  have r6 := nV_fr q12.1 (k := 6) (by decide) o6.1
  have v6 : nV σ_11 6 = nV σ 6 * a1.toInt.toNat := by rw [r6.2.1, o6.2.1, n6.2.1, q6.2.2.1, q4.2.2.1, g6.2.1, q2.2.2.1]
  have v7 : nV σ_11 7 = nV σ 7 * a3.toInt.toNat := by rw [q12.2.2.1, q10.2.2.1, n7.2.1, m7.2.1, k7.2.1, g7.2.1, q8.2.2.1]
  have z7 : 0 < nV σ_11 7 := by rw [v7]; exact Nat.mul_pos hz c3.2.1
  refine reduce_c hC  ?_ (fun σ_13 q14 => ?_)
  · clear h; simp only [kn]
    exact ⟨by decide, by decide, by decide, by decide, by decide, r6.1, q12.2.1, z7, by omega, by omega⟩
  simp only [kn] at q14
  refine h _ ?_
  · clear h; have a0 := Int64.le_iff_toInt_le.mp p0
    rw [Int64.toInt_zero] at a0
    have e := fQ_mul v6 v7
    rw [show ((a1.toInt.toNat : Nat) : Int) = a1.toInt by omega] at e
    rw [← e]
    refine ⟨?_, hR_red q14.2.1 q14.2.2.1 z7 q14.2.2.2.1 q14.2.2.2.2⟩
    exact frN_tr (frN_mono q2.1 (sub_of rfl)) (frN_tr (frN_mono q4.1 (sub_of rfl)) (frN_tr (frN_mono q6.1 (sub_of rfl)) (frN_tr (frN_mono q8.1 (sub_of rfl)) (frN_tr (frN_mono q10.1 (sub_of rfl)) (frN_tr (frN_mono q12.1 (sub_of rfl)) (frN_mono q14.1 (sub_of rfl)))))))
