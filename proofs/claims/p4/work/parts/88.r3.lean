set_option maxHeartbeats 1600000
/-! the reference: products of kept fractions -/
/-- numbers of a list, the sum's sign and the kept fractions from place u below v differ -/
def frK (l : List Nat) (u v : Nat) (σ τ : rS) : Prop := (∀ k, k ≠ 92 → τ.1 k = σ.1 k) ∧ τ.2.1 = σ.2.1 ∧ (∀ j, j ≠ 90 → j ≠ 91 → j ≠ 93 → τ.2.2.1 j = σ.2.2.1 j) ∧ τ.2.2.2 = σ.2.2.2 ∧ (∀ k, k ∉ l → τ.2.2.1 91 k = σ.2.2.1 91 k ∧ ∀ i, i < 40000 → τ.2.2.1 90 (40000 * k + i) = σ.2.2.1 90 (40000 * k + i)) ∧ ∀ i, (i < u ∨ v ≤ i) → τ.2.2.1 93 i = σ.2.2.1 93 i
theorem frK_refl {l : List Nat} {u v : Nat} {σ : rS} : frK l u v σ σ := ⟨fun _ _ => rfl, rfl, fun _ _ _ _ => rfl, rfl, fun _ _ => ⟨rfl, fun _ _ => rfl⟩, fun _ _ => rfl⟩
theorem frK_tr {l : List Nat} {u v : Nat} {σ τ υ : rS} (h : frK l u v σ τ) (g : frK l u v τ υ) : frK l u v σ υ := ⟨fun k z => (g.1 k z).trans (h.1 k z), g.2.1.trans h.2.1, fun k z1 z2 z3 => (g.2.2.1 k z1 z2 z3).trans (h.2.2.1 k z1 z2 z3), g.2.2.2.1.trans h.2.2.2.1, fun k z => ⟨(g.2.2.2.2.1 k z).1.trans (h.2.2.2.2.1 k z).1, fun i hi => ((g.2.2.2.2.1 k z).2 i hi).trans ((h.2.2.2.2.1 k z).2 i hi)⟩, fun i z => (g.2.2.2.2.2 i z).trans (h.2.2.2.2.2 i z)⟩
theorem frK_S {l m : List Nat} {u v : Nat} {σ τ : rS} (h : frS l σ τ) (hl : ∀ k, k ∈ l → k ∈ m) : frK m u v σ τ := ⟨h.1, h.2.1, fun j z1 z2 _ => h.2.2.1 j z1 z2, h.2.2.2.1, fun k z => h.2.2.2.2 k (fun e => z (hl k e)), fun i _ => by rw [h.2.2.1 93 (by decide) (by decide)]⟩
theorem frK_N {l m : List Nat} {u v : Nat} {σ τ : rS} (h : frN l σ τ) (hl : ∀ k, k ∈ l → k ∈ m) : frK m u v σ τ := frK_S (frS_of h) hl
theorem frK_R {m : List Nat} {u v : Nat} {σ τ : rS} (h : frR 93 u v σ τ) : frK m u v σ τ := ⟨fun k _ => by rw [h.1], h.2.1, fun j _ _ z3 => h.2.2.1 j z3, h.2.2.2.1, fun k _ => ⟨by rw [h.2.2.1 91 (by decide)], fun i _ => by rw [h.2.2.1 90 (by decide)]⟩, h.2.2.2.2⟩
theorem frK_w {l m : List Nat} {u v x y : Nat} {σ τ : rS} (h : frK l u v σ τ) (hl : ∀ k, k ∈ l → k ∈ m) (h1 : x ≤ u) (h2 : v ≤ y) : frK m x y σ τ := ⟨h.1, h.2.1, h.2.2.1, h.2.2.2.1, fun k z => h.2.2.2.2.1 k (fun e => z (hl k e)), fun i z => h.2.2.2.2.2 i (by omega)⟩
/-- the slot a holds the fraction q in its lowest terms -/
def hL (σ : rS) (a : Nat) (q : Rat) : Prop := slN σ 93 (260 * a) 129 ∧ slN σ 93 (260 * a + 130) 129 ∧ (slV σ 93 (260 * a) : Int) = q.num ∧ slV σ 93 (260 * a + 130) = q.den
theorem sl_e {σ τ : rS} {c : Nat} (h : ∀ i, c ≤ i → i < c + 130 → τ.2.2.1 93 i = σ.2.2.1 93 i) (hs : slN σ 93 c 129) : slN τ 93 c 129 ∧ slV τ 93 c = slV σ 93 c := by
  have e := h c (by omega) (by omega)
  have l : (σ.2.2.1 93 c).toNatClampNeg ≤ 129 := (cn_li hs.1 (by decide)).mp hs.2.1
  exact gO_c hs e hs.2.1 (fun i hi => h _ (by omega) (by omega))
theorem hL_e {σ τ : rS} {a : Nat} {q : Rat} (h : ∀ i, 260 * a ≤ i → i < 260 * a + 260 → τ.2.2.1 93 i = σ.2.2.1 93 i) (hs : hL σ a q) : hL τ a q := by
  have x := sl_e (τ := τ) (fun i h1 h2 => h i h1 (by omega)) hs.1
  have y := sl_e (τ := τ) (fun i h1 h2 => h i (by omega) (by omega)) hs.2.1
  exact ⟨x.1, y.1, by rw [x.2]; exact hs.2.2.1, by rw [y.2]; exact hs.2.2.2⟩
theorem hL_K {l : List Nat} {u v : Nat} {σ τ : rS} {a : Nat} {q : Rat} (f : frK l u v σ τ) (ho : 260 * a + 260 ≤ u ∨ v ≤ 260 * a) (hs : hL σ a q) : hL τ a q := hL_e (fun i h1 h2 => f.2.2.2.2.2 i (by omega)) hs
theorem hL_N {l : List Nat} {σ τ : rS} {a : Nat} {q : Rat} (f : frN l σ τ) (hs : hL σ a q) : hL τ a q := hL_e (fun i _ _ => by rw [f.2.2.1 93 (by decide) (by decide)]) hs
theorem hL_S {l : List Nat} {σ τ : rS} {a : Nat} {q : Rat} (f : frS l σ τ) (hs : hL σ a q) : hL τ a q := hL_e (fun i _ _ => by rw [f.2.2.1 93 (by decide) (by decide)]) hs
/-- both sides of a fraction have at most 129 places -/
def fit (q : Rat) : Prop := q.num.natAbs < 65536 ^ 129 ∧ q.den < 65536 ^ 129
theorem fit_L {σ : rS} {n d : Nat} {q : Rat} (h : hR σ n d q) (f : fit q) : nL σ n ≤ 129 ∧ nL σ d ≤ 129 := by
  refine ⟨nL_lt h.1 ?_, nL_lt h.2.1 ?_⟩
  · have := f.1
    rw [← h.2.2.1, Int.natAbs_natCast] at this
    exact this
  · rw [h.2.2.2]; exact f.2
theorem hL_of {σ τ : rS} {n d a : Nat} {q : Rat} (h : hR σ n d q) (s1 : slN τ 93 (260 * a) 129) (s2 : slN τ 93 (260 * a + 130) 129) (v1 : slV τ 93 (260 * a) = nV σ n) (v2 : slV τ 93 (260 * a + 130) = nV σ d) : hL τ a q := ⟨s1, s2, by rw [v1]; exact h.2.2.1, by rw [v2]; exact h.2.2.2⟩
theorem hR_of {σ τ : rS} {n d a : Nat} {q : Rat} (h : hL σ a q) (o1 : numO τ n) (o2 : numO τ d) (v1 : nV τ n = slV σ 93 (260 * a)) (v2 : nV τ d = slV σ 93 (260 * a + 130)) : hR τ n d q := ⟨o1, o2, by rw [v1]; exact h.2.2.1, by rw [v2]; exact h.2.2.2⟩
def sQ (σ : rS) (a : Nat) : Rat := mkRat (slV σ 93 (260 * a)) (slV σ 93 (260 * a + 130))
theorem hL_q {σ : rS} {a : Nat} {q : Rat} (h : hL σ a q) : sQ σ a = q := by
  unfold sQ
  rw [h.2.2.1, h.2.2.2]
  exact Rat.mkRat_self q
theorem hL_z {σ : rS} {a : Nat} {q : Rat} (h : hL σ a q) : σ.2.2.1 93 (260 * a) = 0 ↔ q = 0 := by
  have key : slV σ 93 (260 * a) = 0 ↔ σ.2.2.1 93 (260 * a) = 0 := by
    constructor
    · intro z
      rcases h.1.2.2.2 with e | ⟨t, e1, e2⟩
      · exact cn_inj h.1.1 (by decide) e
      · unfold slV at z
        rw [e1, dv_s] at z
        have := Nat.mul_le_mul_right (65536 ^ t) (Nat.one_le_iff_ne_zero.mpr e2)
        have := Nat.pow_pos (n := t) (show 0 < 65536 by decide)
        omega
    · intro z
      unfold slV
      rw [z]
      rfl
  rw [← key, ← Rat.num_eq_zero, ← h.2.2.1]
  omega
theorem hR_nn {σ : rS} {n d : Nat} {q : Rat} (h : hR σ n d q) : 0 ≤ q := Rat.num_nonneg.mp (by rw [← h.2.2.1]; omega)
theorem hL_nn {σ : rS} {a : Nat} {q : Rat} (h : hL σ a q) : 0 ≤ q := Rat.num_nonneg.mp (by rw [← h.2.2.1]; omega)
theorem hS_nn {σ : rS} {p : Rat} (h : hS σ p) (hp : 0 ≤ p) : hR σ 4 5 p := by
  obtain ⟨q, hq, z | z⟩ := h
  · rw [z.2]; exact hq
  · have n := hR_nn hq
    rw [z.2] at hp
    have e := Rat.nonneg_antisymm n hp
    rw [z.2, e, Rat.neg_zero]
    rw [e] at hq
    exact hq
theorem mk_inv {a b : Nat} : mkRat (b : Int) a = (mkRat (a : Int) b)⁻¹ := by
  rw [← Rat.divInt_ofNat, ← Rat.divInt_ofNat, Rat.inv_divInt]
def ziq (σ : rS) (a : Int32) : Rat := if a = -1 then 1 else (sQ σ a.toNatClampNeg)⁻¹
theorem red_le {a g : Nat} : a / g ≤ a := Nat.div_le_self a g
theorem sx0 {a : Int32} (h0 : 0 ≤ a) (h1 : a < 2176) : (0 ≤ 260 * a ∧ 260 * a < 566000) ∧ (260 * a).toNatClampNeg = 260 * a.toNatClampNeg := by
  have s := sx1 h0 h1 (j := 0) (by decide) (by decide)
  rw [Int32.add_zero] at s
  exact s
theorem den0 {q : Rat} : 0 < q.den := Nat.pos_of_ne_zero q.den_nz
theorem keepSmall_c {C : rCx} (hC : cOK C)  {σ : rS} {a1 : Int32} {a2 : Int64} {a4 : Int64} {Q : rS → Prop} (hp : 0 ≤ a1 ∧ a1 < 2176 ∧ 0 ≤ a2 ∧ 0 < a4) (h : ∀ (σ' : rS), (frK [0, 1, 2, 3, 6, 7] (260 * a1.toNatClampNeg) (260 * a1.toNatClampNeg + 260) σ σ' ∧ hL σ' a1.toNatClampNeg (mkRat a2.toInt a4.toInt.toNat)) → Q σ') : cV C 4 m_keepSmall [.ref (co C), .int a1, .long a2, .long a4] σ Q := by
  refine m_keepSmall_run hC ?_
  unfold w_keepSmall_0
  obtain ⟨h0, h1, p0, p1⟩ := hp
  have c4 := l1_n p1
  refine set_c hC  ?_ (fun σ_1 q2 => ?_)
  · clear h; exact ⟨by decide, by decide, p0⟩  -- p1
  simp only [kn] at q2
  refine set_c hC  ?_ (fun σ_3 q4 => ?_)
  · clear h; exact ⟨by decide, by decide, c4.1⟩  -- p2
  simp only [kn] at q4
  have g6 := nV_fr q4.1 (k := 6) (by decide) q2.2.1
  have z7 : 0 < nV σ_3 7 := by rw [q4.2.2.1]; exact c4.2.1
  refine reduce_c hC  ?_ (fun σ_5 q6 => ?_)
  · clear h; simp only [kn]
    exact ⟨by decide, by decide, by decide, by decide, by decide, g6.1, q4.2.1, z7, by have := q2.2.2.2; omega, by have := q4.2.2.2; omega⟩
  simp only [kn] at q6
  have R := hR_red q6.2.1 q6.2.2.1 z7 q6.2.2.2.1 q6.2.2.2.2
  have L6 := nL_mono q6.2.1 g6.1 (by rw [q6.2.2.2.1]; exact red_le)
  have L7 := nL_mono q6.2.2.1 q4.2.1 (by rw [q6.2.2.2.2]; exact red_le)
  refine keepIn_c hC  ?_ (fun σ_7 q8 => ?_)
  · clear h; simp only [kn]
    exact ⟨h0, h1, by decide, by decide, by decide, by decide, R.1, R.2.1, by have := q2.2.2.2; omega, by have := q4.2.2.2; omega⟩
  refine h _ ?_
  · clear h; simp only [kn] at q8
    have a0 := Int64.le_iff_toInt_le.mp p0
    rw [Int64.toInt_zero] at a0
    have e : fQ σ_3 6 7 = mkRat a2.toInt a4.toInt.toNat := by
      unfold fQ
      rw [g6.2.1, q2.2.2.1, q4.2.2.1, show ((a2.toInt.toNat : Nat) : Int) = a2.toInt by omega]
    rw [e] at R
    exact ⟨frK_tr (frK_N q2.1 (sub_of rfl)) (frK_tr (frK_N q4.1 (sub_of rfl)) (frK_tr (frK_N q6.1 (sub_of rfl)) (frK_R q8.1))), hL_of R q8.2.1 q8.2.2.1 q8.2.2.2.1 q8.2.2.2.2⟩

theorem takeTimes_c {C : rCx} (hC : cOK C)  {σ : rS} {a1 : Int32} {Q : rS → Prop} (hp : (a1 = -1 ∨ (0 ≤ a1 ∧ a1 < 2176 ∧ hL σ a1.toNatClampNeg (sQ σ a1.toNatClampNeg))) ∧ hR σ 6 7 (fQ σ 6 7) ∧ nL σ 6 + 200 < 40000 ∧ nL σ 7 + 200 < 40000) (h : ∀ (σ' : rS), (frN [0, 1, 2, 3, 6, 7, 11, 12, 13, 14] σ σ' ∧ hR σ' 6 7 (fQ σ 6 7 * (if a1 = -1 then 1 else sQ σ a1.toNatClampNeg))) → Q σ') : cV C 4 m_takeTimes [.ref (co C), .int a1] σ Q := by
  refine m_takeTimes_run hC ?_
  unfold w_takeTimes_0
  obtain ⟨ha, hr, l6, l7⟩ := hp
  refine ⟨fun c1 => ?_, fun c1 => ?_⟩
  · skip
    refine load_c hC  ?_ (fun σ_2 q3 => ?_)
    · clear h; rcases ha with z | z
      · exact absurd z c1
      · exact ⟨z.1, z.2.1, by decide, by decide, by decide, by decide, by decide, z.2.2.1, z.2.2.2.1⟩
    simp only [kn] at q3
    have T : hL σ a1.toNatClampNeg (sQ σ a1.toNatClampNeg) := by
      rcases ha with z | z
      · exact absurd z c1
      · exact z.2.2
    have g6 := nV_fr q3.1 (k := 6) (by decide) hr.1
    have g7 := nV_fr q3.1 (k := 7) (by decide) hr.2.1
    have A3 := q3.2.2.2.2.2.1
    have A4 := q3.2.2.2.2.2.2
    refine times_c hC  ?_ (fun σ_4 q5 => ?_)
    · clear h; simp only [kn]
      exact ⟨by decide, by decide, by decide, by decide, by decide, by decide, by decide, by decide, g6.1, q3.2.1, by omega⟩
    simp only [kn] at q5
    have h7 := nV_fr q5.1 (k := 7) (by decide) g7.1
    have h12 := nV_fr q5.1 (k := 12) (by decide) q3.2.2.1
    have A1 := q5.2.2.2
    refine times_c hC  ?_ (fun σ_6 q7 => ?_)
    · clear h; simp only [kn]
      exact ⟨by decide, by decide, by decide, by decide, by decide, by decide, by decide, by decide, h7.1, h12.1, by omega⟩
    simp only [kn] at q7
    have i13 := nV_fr q7.1 (k := 13) (by decide) q5.2.1
    have A2 := q7.2.2.2
    refine copy_v hC  ?_ (fun σ_8 q9 => ?_)
    · clear h; simp only [kn]
      exact ⟨by decide, by decide, by decide, by decide, by decide, i13.1⟩
    simp only [kn] at q9
    have j14 := nV_fr q9.1 (k := 14) (by decide) q7.2.1
    refine copy_v hC  ?_ (fun σ_10 q11 => ?_)
    · clear h; simp only [kn]
      exact ⟨by decide, by decide, by decide, by decide, by decide, j14.1⟩
    simp only [kn] at q11
    have k6 := nV_fr q11.1 (k := 6) (by decide) q9.2.1
    have v6 : nV σ_10 6 = nV σ 6 * slV σ 93 (260 * a1.toNatClampNeg) := by rw [k6.2.1, q9.2.2.1, i13.2.1, q5.2.2.1, g6.2.1, q3.2.2.2.1]
    have v7 : nV σ_10 7 = nV σ 7 * slV σ 93 (260 * a1.toNatClampNeg + 130) := by rw [q11.2.2.1, j14.2.1, q7.2.2.1, h7.2.1, g7.2.1, h12.2.1, q3.2.2.2.2.1]
    have z7 : 0 < nV σ_10 7 := by rw [v7, T.2.2.2]; exact Nat.mul_pos (hR_q hr).2 den0
    have A5 := q9.2.2.2
    have A6 := q11.2.2.2
    refine reduce_c hC  ?_ (fun σ_12 q13 => ?_)
    · clear h; simp only [kn]
      exact ⟨by decide, by decide, by decide, by decide, by decide, k6.1, q11.2.1, z7, by omega, by omega⟩
    simp only [kn] at q13
    refine h _ ?_
    · clear h; have R := hR_red q13.2.1 q13.2.2.1 z7 q13.2.2.2.1 q13.2.2.2.2
      rw [fQ_mul v6 v7] at R
      rw [if_neg c1]
      refine ⟨?_, R⟩
      exact frN_tr (frN_mono q3.1 (sub_of rfl)) (frN_tr (frN_mono q5.1 (sub_of rfl)) (frN_tr (frN_mono q7.1 (sub_of rfl)) (frN_tr (frN_mono q9.1 (sub_of rfl)) (frN_tr (frN_mono q11.1 (sub_of rfl)) (frN_mono q13.1 (sub_of rfl))))))
  · skip
    refine h _ ?_
    · clear h; refine ⟨frN_refl, ?_⟩
      rw [if_pos c1, Rat.mul_one]
      exact hr

theorem addProduct_c {C : rCx} (hC : cOK C)  {σ : rS} {a1 : Int32} {a2 : Int32} {a3 : Int32} {a4 : Int32} {Q : rS → Prop} (hp : 0 ≤ a1 ∧ a1 < 2176 ∧ 0 ≤ a2 ∧ a2 < 2176 ∧ 0 ≤ a3 ∧ a3 < 2176 ∧ (a4 = -1 ∨ (0 ≤ a4 ∧ a4 < 2176 ∧ hL σ a4.toNatClampNeg (sQ σ a4.toNatClampNeg) ∧ sQ σ a4.toNatClampNeg ≠ 0)) ∧ hL σ a1.toNatClampNeg (sQ σ a1.toNatClampNeg) ∧ hL σ a2.toNatClampNeg (sQ σ a2.toNatClampNeg) ∧ hL σ a3.toNatClampNeg (sQ σ a3.toNatClampNeg) ∧ fit (sQ σ a1.toNatClampNeg + sQ σ a2.toNatClampNeg * sQ σ a3.toNatClampNeg * ziq σ a4)) (h : ∀ (σ' : rS), (frK [0, 1, 2, 3, 4, 5, 6, 7, 8, 9, 10, 11, 12, 13, 14] (260 * a1.toNatClampNeg) (260 * a1.toNatClampNeg + 260) σ σ' ∧ hL σ' a1.toNatClampNeg (sQ σ a1.toNatClampNeg + sQ σ a2.toNatClampNeg * sQ σ a3.toNatClampNeg * ziq σ a4)) → Q σ') : cV C 5 m_addProduct [.ref (co C), .int a1, .int a2, .int a3, .int a4] σ Q := by
  refine m_addProduct_run hC ?_
  unfold w_addProduct_0
  obtain ⟨h0, h1, h2, h3, h4, h5, hz, t1, t2, t3, ft⟩ := hp
  have hj133 : ∀ (l1 : Int32) (τ : rS), (l1 = a1 ∧ frN [6, 7, 11, 12, 13, 14] σ τ ∧ numO τ 6 ∧ numO τ 7 ∧ 0 < nV τ 7 ∧ nL τ 6 ≤ 600 ∧ nL τ 7 ≤ 600 ∧ fQ τ 6 7 = sQ σ a2.toNatClampNeg * sQ σ a3.toNatClampNeg * ziq σ a4) → w_addProduct_133 C Q  l1 τ := by
    rintro y133_1 τ133 j133
    unfold w_addProduct_133
    obtain ⟨e1, F, o6, o7, z7, m6, m7, X⟩ := j133
    refine reduce_c hC  ?_ (fun σ_1 q2 => ?_)
    · clear h; simp only [kn]
      exact ⟨by decide, by decide, by decide, by decide, by decide, o6, o7, z7, by omega, by omega⟩
    simp only [kn] at q2
    have R := hR_red q2.2.1 q2.2.2.1 z7 q2.2.2.2.1 q2.2.2.2.2
    rw [X] at R
    have L6 := nL_mono q2.2.1 o6 (by rw [q2.2.2.2.1]; exact red_le)
    have L7 := nL_mono q2.2.2.1 o7 (by rw [q2.2.2.2.2]; exact red_le)
    have S1 : hL σ_1 a1.toNatClampNeg (sQ σ a1.toNatClampNeg) := hL_N q2.1 (hL_N F t1)
    refine load_c hC  ?_ (fun σ_3 q4 => ?_)
    · clear h; rw [e1]
      exact ⟨h0, h1, by decide, by decide, by decide, by decide, by decide, S1.1, S1.2.1⟩
    rw [e1] at q4
    simp only [kn] at q4
    have U : hR σ_3 4 5 (sQ σ a1.toNatClampNeg) := hR_of S1 q4.2.1 q4.2.2.1 q4.2.2.2.1 q4.2.2.2.2.1
    have V := hR_fr q4.1 (by decide) (by decide) R
    have G6 := nV_fr q4.1 (k := 6) (by decide) R.1
    have G7 := nV_fr q4.1 (k := 7) (by decide) R.2.1
    have A4 := q4.2.2.2.2.2.1
    have A5 := q4.2.2.2.2.2.2
    intro σ_5 hσ_5
    refine add_c hC  ?_ (fun σ_6 q7 => ?_)
    · clear h; rw [hσ_5]
      exact ⟨Or.inl rfl, Or.inl rfl, U.1, U.2.1, V.1, V.2.1, (hR_q U).2, (hR_q V).2, by show nL σ_3 4 + nL σ_3 7 + 3 < 40000; omega, by show nL σ_3 6 + nL σ_3 5 + 3 < 40000; omega, by show nL σ_3 5 + nL σ_3 7 + 3 < 40000; omega⟩
    have W : hR σ_6 4 5 (sQ σ a1.toNatClampNeg + sQ σ a2.toNatClampNeg * sQ σ a3.toNatClampNeg * ziq σ a4) := by
      refine hS_nn ?_ (Rat.add_nonneg (hL_nn t1) (hR_nn R))
      have q8 := q7.2
      rw [hσ_5] at q8
      have e : sgq ((siU σ_3 92 1).1 92) (fQ (siU σ_3 92 1) 4 5) + sgq 1 (fQ (siU σ_3 92 1) 6 7) = sQ σ a1.toNatClampNeg + sQ σ a2.toNatClampNeg * sQ σ a3.toNatClampNeg * ziq σ a4 := by
        show sgq 1 (fQ σ_3 4 5) + sgq 1 (fQ σ_3 6 7) = _
        rw [sgq_1, sgq_1, (hR_q U).1, (hR_q V).1]
      rw [e] at q8
      exact q8
    have FT := fit_L W ft
    refine keepIn_c hC  ?_ (fun σ_8 q9 => ?_)
    · clear h; rw [e1]
      simp only [kn]
      exact ⟨h0, h1, by decide, by decide, by decide, by decide, W.1, W.2.1, FT.1, FT.2⟩
    refine h _ ?_
    · clear h; rw [e1] at q9
      simp only [kn] at q9
      refine ⟨?_, hL_of W q9.2.1 q9.2.2.1 q9.2.2.2.1 q9.2.2.2.2⟩
      exact frK_tr (frK_N F (sub_of rfl)) (frK_tr (frK_N q2.1 (sub_of rfl)) (frK_tr (frK_N q4.1 (sub_of rfl)) (frK_tr (τ := σ_5) (frK_S (l := []) (by rw [hσ_5]; exact frS_92) (sub_of rfl)) (frK_tr (frK_S q7.1 (sub_of rfl)) (frK_R q9.1)))))
  refine ⟨ib_566000.mpr ?_, ?_⟩
  · clear h; exact (sx0 h2 h3).1  -- b6
  refine ⟨fun c10 => ?_, fun c10 => ?_⟩
  · skip
    refine h _ ?_
    · clear h; rw [(sx0 h2 h3).2] at c10
      refine ⟨frK_refl, ?_⟩
      rw [(hL_z t2).mp c10, Rat.zero_mul, Rat.zero_mul, Rat.add_zero]
      exact t1
  · skip
    refine ⟨ib_566000.mpr ?_, ?_⟩
    · clear h; exact (sx0 h4 h5).1  -- b8
    refine ⟨fun c11 => ?_, fun c11 => ?_⟩
    · skip
      refine load_c hC  ?_ (fun σ_12 q13 => ?_)
      · clear h; exact ⟨h2, h3, by decide, by decide, by decide, by decide, by decide, t2.1, t2.2.1⟩  -- p9
      simp only [kn] at q13
      have u3 := hL_N q13.1 t3
      have r93 : σ_12.2.2.1 93 = σ.2.2.1 93 := q13.1.2.2.1 93 (by decide) (by decide)
      have sv : ∀ c, slV σ_12 93 c = slV σ 93 c := fun c => by unfold slV; rw [r93]
      have A1 := q13.2.2.2.2.2.1
      have A2 := q13.2.2.2.2.2.2
      refine load_c hC  ?_ (fun σ_14 q15 => ?_)
      · clear h; exact ⟨h4, h5, by decide, by decide, by decide, by decide, by decide, u3.1, u3.2.1⟩  -- p10
      simp only [kn] at q15
      have A6 := nV_fr q15.1 (k := 6) (by decide) q13.2.1
      have A7 := nV_fr q15.1 (k := 7) (by decide) q13.2.2.1
      have A3 := q15.2.2.2.2.2.1
      have A4 := q15.2.2.2.2.2.2
      refine times_c hC  ?_ (fun σ_16 q17 => ?_)
      · clear h; simp only [kn]
        exact ⟨by decide, by decide, by decide, by decide, by decide, by decide, by decide, by decide, A6.1, q15.2.1, by omega⟩
      simp only [kn] at q17
      have B7 := nV_fr q17.1 (k := 7) (by decide) A7.1
      have B12 := nV_fr q17.1 (k := 12) (by decide) q15.2.2.1
      have B1 := q17.2.2.2
      refine times_c hC  ?_ (fun σ_18 q19 => ?_)
      · clear h; simp only [kn]
        exact ⟨by decide, by decide, by decide, by decide, by decide, by decide, by decide, by decide, B7.1, B12.1, by omega⟩
      simp only [kn] at q19
      have C13 := nV_fr q19.1 (k := 13) (by decide) q17.2.1
      have B2 := q19.2.2.2
      refine copy_v hC  ?_ (fun σ_20 q21 => ?_)
      · clear h; simp only [kn]
        exact ⟨by decide, by decide, by decide, by decide, by decide, C13.1⟩
      simp only [kn] at q21
      have D14 := nV_fr q21.1 (k := 14) (by decide) q19.2.1
      have B3 := q21.2.2.2
      refine copy_v hC  ?_ (fun σ_22 q23 => ?_)
      · clear h; simp only [kn]
        exact ⟨by decide, by decide, by decide, by decide, by decide, D14.1⟩
      simp only [kn] at q23
      have E6 := nV_fr q23.1 (k := 6) (by decide) q21.2.1
      have B4 := q23.2.2.2
      have v6 : nV σ_22 6 = slV σ 93 (260 * a2.toNatClampNeg) * slV σ 93 (260 * a3.toNatClampNeg) := by rw [E6.2.1, q21.2.2.1, C13.2.1, q17.2.2.1, A6.2.1, q13.2.2.2.1, q15.2.2.2.1, sv]
      have v7 : nV σ_22 7 = slV σ 93 (260 * a2.toNatClampNeg + 130) * slV σ 93 (260 * a3.toNatClampNeg + 130) := by rw [q23.2.2.1, D14.2.1, q19.2.2.1, B7.2.1, A7.2.1, B12.2.1, q13.2.2.2.2.1, q15.2.2.2.2.1, sv]
      have z7 : 0 < nV σ_22 7 := by rw [v7, t2.2.2.2, t3.2.2.2]; exact Nat.mul_pos den0 den0
      have FF : frN [6, 7, 11, 12, 13, 14] σ σ_22 := frN_tr (frN_mono q13.1 (sub_of rfl)) (frN_tr (frN_mono q15.1 (sub_of rfl)) (frN_tr (frN_mono q17.1 (sub_of rfl)) (frN_tr (frN_mono q19.1 (sub_of rfl)) (frN_tr (frN_mono q21.1 (sub_of rfl)) (frN_mono q23.1 (sub_of rfl))))))
      have XX : fQ σ_22 6 7 = sQ σ a2.toNatClampNeg * sQ σ a3.toNatClampNeg := by unfold fQ sQ; rw [v6, v7, Rat.mkRat_mul_mkRat, Int.natCast_mul]
      have M6 : nL σ_22 6 ≤ 258 := by omega
      have M7 : nL σ_22 7 ≤ 258 := by omega
      refine ⟨fun c24 => ?_, fun c24 => ?_⟩
      · skip
        refine hj133 _ _ ?_
        · clear h; refine ⟨rfl, FF, E6.1, q23.2.1, z7, by omega, by omega, ?_⟩
          unfold ziq
          rw [XX, if_pos c24, Rat.mul_one]
      · skip
        refine load_c hC  ?_ (fun σ_25 q26 => ?_)
        · clear h; rcases hz with z | z
          · exact absurd z c24
          · have u4 := hL_N FF z.2.2.1
            exact ⟨z.1, z.2.1, by decide, by decide, by decide, by decide, by decide, u4.1, u4.2.1⟩
        simp only [kn] at q26
        have T : hL σ a4.toNatClampNeg (sQ σ a4.toNatClampNeg) ∧ sQ σ a4.toNatClampNeg ≠ 0 := by
          rcases hz with z | z
          · exact absurd z c24
          · exact z.2.2
        have Y : hR σ_25 11 12 (sQ σ a4.toNatClampNeg) := hR_of (hL_N FF T.1) q26.2.1 q26.2.2.1 q26.2.2.2.1 q26.2.2.2.2.1
        have y11 : 0 < nV σ_25 11 := Nat.pos_of_ne_zero (fun z => T.2 (Rat.num_eq_zero.mp (by rw [← Y.2.2.1, z]; rfl)))
        have G6 := nV_fr q26.1 (k := 6) (by decide) E6.1
        have G7 := nV_fr q26.1 (k := 7) (by decide) q23.2.1
        have A8 := q26.2.2.2.2.2.1
        have A9 := q26.2.2.2.2.2.2
        refine times_c hC  ?_ (fun σ_27 q28 => ?_)
        · clear h; simp only [kn]
          exact ⟨by decide, by decide, by decide, by decide, by decide, by decide, by decide, by decide, G6.1, q26.2.2.1, by omega⟩
        simp only [kn] at q28
        have H7 := nV_fr q28.1 (k := 7) (by decide) G7.1
        have H11 := nV_fr q28.1 (k := 11) (by decide) q26.2.1
        have B5 := q28.2.2.2
        refine times_c hC  ?_ (fun σ_29 q30 => ?_)
        · clear h; simp only [kn]
          exact ⟨by decide, by decide, by decide, by decide, by decide, by decide, by decide, by decide, H7.1, H11.1, by omega⟩
        simp only [kn] at q30
        have I13 := nV_fr q30.1 (k := 13) (by decide) q28.2.1
        have B6 := q30.2.2.2
        refine copy_v hC  ?_ (fun σ_31 q32 => ?_)
        · clear h; simp only [kn]
          exact ⟨by decide, by decide, by decide, by decide, by decide, I13.1⟩
        simp only [kn] at q32
        have J14 := nV_fr q32.1 (k := 14) (by decide) q30.2.1
        have B8 := q32.2.2.2
        refine copy_v hC  ?_ (fun σ_33 q34 => ?_)
        · clear h; simp only [kn]
          exact ⟨by decide, by decide, by decide, by decide, by decide, J14.1⟩
        simp only [kn] at q34
        have K6 := nV_fr q34.1 (k := 6) (by decide) q32.2.1
        have B9 := q34.2.2.2
        have w6 : nV σ_33 6 = nV σ_22 6 * nV σ_25 12 := by rw [K6.2.1, q32.2.2.1, I13.2.1, q28.2.2.1, G6.2.1]
        have w7 : nV σ_33 7 = nV σ_22 7 * nV σ_25 11 := by rw [q34.2.2.1, J14.2.1, q30.2.2.1, H7.2.1, G7.2.1, H11.2.1]
        refine hj133 _ _ ?_
        · clear h; refine ⟨rfl, ?_, K6.1, q34.2.1, by rw [w7]; exact Nat.mul_pos z7 y11, by omega, by omega, ?_⟩
          · exact frN_tr FF (frN_tr (frN_mono q26.1 (sub_of rfl)) (frN_tr (frN_mono q28.1 (sub_of rfl)) (frN_tr (frN_mono q30.1 (sub_of rfl)) (frN_tr (frN_mono q32.1 (sub_of rfl)) (frN_mono q34.1 (sub_of rfl))))))
          · unfold ziq
            rw [fQ_mul w6 w7, XX, if_neg c24, mk_inv, ← (hR_q Y).1]
            rfl
    · skip
      refine h _ ?_
      · clear h; rw [(sx0 h4 h5).2] at c11
        refine ⟨frK_refl, ?_⟩
        rw [(hL_z t3).mp c11, Rat.mul_zero, Rat.zero_mul, Rat.add_zero]
        exact t1
