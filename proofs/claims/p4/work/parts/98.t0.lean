set_option maxHeartbeats 1600000
/-! the reference: a ring folded -/
theorem ixs {a b : Int32} (a0 : 0 ≤ a) (a1 : a < 32) (b0 : 0 ≤ b) (b1 : b < 32) : (0 ≤ 32 * a + b ∧ 32 * a + b < 2176) ∧ (32 * a + b).toNatClampNeg = 32 * a.toNatClampNeg + b.toNatClampNeg ∧ a.toNatClampNeg < 32 ∧ b.toNatClampNeg < 32 := by
  have x := t0 a0
  have y := Int32.lt_iff_toInt_lt.mp a1
  have z := t0 b0
  have w := Int32.lt_iff_toInt_lt.mp b1
  rw [show (32 : Int32).toInt = 32 from rfl] at y w
  have e : (32 * a).toInt = 32 * a.toInt := by
    rw [Int32.toInt_mul, show (32 : Int32).toInt = 32 from rfl]
    exact Int.bmod_eq_of_le (by omega) (by omega)
  have p : 0 ≤ 32 * a := Int32.le_iff_toInt_le.mpr (by rw [e, Int32.toInt_zero]; omega)
  have f := i_add p b0 (by omega)
  have q : 0 ≤ 32 * a + b := Int32.le_iff_toInt_le.mpr (by rw [f, Int32.toInt_zero]; omega)
  have c1 := cn_int a0
  have c2 := cn_int b0
  have c3 := cn_int q
  exact ⟨⟨q, Int32.lt_iff_toInt_lt.mpr (by rw [f, show (2176 : Int32).toInt = 2176 from rfl]; omega)⟩, by omega, by omega, by omega⟩
theorem ixc {c a : Int32} (c0 : 0 ≤ c) (c1 : c ≤ 1088) (a0 : 0 ≤ a) (a1 : a < 32) : (0 ≤ c + a ∧ c + a < 2176) ∧ (c + a).toNatClampNeg = c.toNatClampNeg + a.toNatClampNeg ∧ a.toNatClampNeg < 32 := by
  have x := t0 a0
  have y := Int32.lt_iff_toInt_lt.mp a1
  have z := t0 c0
  have w := ti c1
  rw [show (32 : Int32).toInt = 32 from rfl] at y
  rw [show (1088 : Int32).toInt = 1088 from rfl] at w
  have f := i_add c0 a0 (by omega)
  have q : 0 ≤ c + a := Int32.le_iff_toInt_le.mpr (by rw [f, Int32.toInt_zero]; omega)
  have k1 := cn_int a0
  have k2 := cn_int c0
  have k3 := cn_int q
  exact ⟨⟨q, Int32.lt_iff_toInt_lt.mpr (by rw [f, show (2176 : Int32).toInt = 2176 from rfl]; omega)⟩, by omega, by omega⟩
theorem ks : (1024 : Int32).toNatClampNeg = 1024 ∧ (1056 : Int32).toNatClampNeg = 1056 ∧ (1088 : Int32).toNatClampNeg = 1088 := ⟨rfl, rfl, rfl⟩
/-- the stage at which an entry is left behind -/
def stF (m n i j : Nat) : Nat := if j = m then min n (m - 1 - i) else min n (m - 1 - max i j)
/-- the slots of a ring: entries at their stages, what leaves the states taken out -/
def fdJ (τ : rS) (P : Nat → Nat → Rat) (m : Nat) (F : Nat → Nat → Nat) (k : Nat) : Prop := (∀ i j, i < m → j < m → hL τ (32 * i + j) (elN P m (F i j) i j)) ∧ (∀ i, i < m → hL τ (1024 + i) (elN P m (F i m) i m)) ∧ ∀ l, k ≤ l → l < m → hL τ (1056 + l) (elS (elN P m (m - 1 - l)) m l)
/-- on the way through the rows: before row i, in it before column j -/
def stG (m n i j : Nat) : Nat → Nat → Nat := fun r c => if r < m - 1 - n ∧ (c < m - 1 - n ∨ c = m) ∧ (r < i ∨ (r = i ∧ c < j)) then n + 1 else stF m n r c
theorem stG_0 {m n r c : Nat} : stG m n 0 0 r c = stF m n r c := by
  unfold stG
  rw [if_neg (by omega)]
theorem stG_e {m n r c : Nat} (hn : n < m) (hr : r < m) (hc : c < m ∨ c = m) : stG m n (m - 1 - n) 0 r c = stF m (n + 1) r c := by
  unfold stG stF
  split
  · split <;> omega
  · split <;> omega
theorem stG_r {m n i r c : Nat} (hi : i < m - 1 - n) (hc : c < m ∨ c = m) : stG m n (i + 1) 0 r c = if r = i ∧ c = m then n + 1 else stG m n i (m - 1 - n) r c := by
  unfold stG
  by_cases e : r = i ∧ c = m
  · rw [if_pos (by omega), if_pos e]
  · rw [if_neg e]
    by_cases q : r < m - 1 - n ∧ (c < m - 1 - n ∨ c = m) ∧ (r < i + 1 ∨ (r = i + 1 ∧ c < 0))
    · rw [if_pos q, if_pos (by omega)]
    · rw [if_neg q, if_neg (by omega)]
theorem stG_c {m n i j r c : Nat} (hi : i < m - 1 - n) (hj : j < m - 1 - n) : stG m n i (j + 1) r c = if r = i ∧ c = j then n + 1 else stG m n i j r c := by
  unfold stG
  by_cases e : r = i ∧ c = j
  · rw [if_pos (by omega), if_pos e]
  · rw [if_neg e]
    by_cases q : r < m - 1 - n ∧ (c < m - 1 - n ∨ c = m) ∧ (r < i ∨ (r = i ∧ c < j + 1))
    · rw [if_pos q, if_pos (by omega)]
    · rw [if_neg q, if_neg (by omega)]
theorem fdJ_e {σ τ : rS} {P : Nat → Nat → Rat} {m k : Nat} {F : Nat → Nat → Nat} (h : τ.2.2.1 93 = σ.2.2.1 93) (J : fdJ σ P m F k) : fdJ τ P m F k := ⟨fun i j hi hj => hL_e (fun _ _ _ => by rw [h]) (J.1 i j hi hj), fun i hi => hL_e (fun _ _ _ => by rw [h]) (J.2.1 i hi), fun l h1 h2 => hL_e (fun _ _ _ => by rw [h]) (J.2.2 l h1 h2)⟩
theorem fdJ_F {τ : rS} {P : Nat → Nat → Rat} {m k : Nat} {F G : Nat → Nat → Nat} (J : fdJ τ P m F k) (h : ∀ i j, i < m → (j < m ∨ j = m) → G i j = F i j) : fdJ τ P m G k := ⟨fun i j hi hj => by rw [h i j hi (Or.inl hj)]; exact J.1 i j hi hj, fun i hi => by rw [h i m hi (Or.inr rfl)]; exact J.2.1 i hi, J.2.2⟩
theorem fdJ_k {l : List Nat} {σ τ : rS} {P : Nat → Nat → Rat} {m k : Nat} {F : Nat → Nat → Nat} (hm : m ≤ 32) (f : frK l (260 * (1056 + k)) (260 * (1056 + k) + 260) σ τ) (J : fdJ σ P m F (k + 1)) (hn : hL τ (1056 + k) (elS (elN P m (m - 1 - k)) m k)) : fdJ τ P m F k := by
  refine ⟨fun i j hi hj => hL_K f (by omega) (J.1 i j hi hj), fun i hi => hL_K f (by omega) (J.2.1 i hi), fun l h1 h2 => ?_⟩
  by_cases e : l = k
  · rw [e]; exact hn
  · exact hL_K f (by omega) (J.2.2 l (by omega) h2)
theorem fdJ_u {l : List Nat} {σ τ : rS} {P : Nat → Nat → Rat} {m k n i j : Nat} {F G : Nat → Nat → Nat} (hm : m ≤ 32) (hi : i < m) (hj : j < m) (f : frK l (260 * (32 * i + j)) (260 * (32 * i + j) + 260) σ τ) (J : fdJ σ P m F k) (hn : hL τ (32 * i + j) (elN P m (n + 1) i j)) (hG : ∀ r c, r < m → (c < m ∨ c = m) → G r c = if r = i ∧ c = j then n + 1 else F r c) : fdJ τ P m G k := by
  refine ⟨fun r c hr hc => ?_, fun r hr => ?_, fun l h1 h2 => hL_K f (by omega) (J.2.2 l h1 h2)⟩
  · rw [hG r c hr (Or.inl hc)]
    by_cases e : r = i ∧ c = j
    · rw [if_pos e, e.1, e.2]; exact hn
    · rw [if_neg e]; exact hL_K f (by omega) (J.1 r c hr hc)
  · rw [hG r m hr (Or.inr rfl), if_neg (by omega)]
    exact hL_K f (by omega) (J.2.1 r hr)
theorem fdJ_o {l : List Nat} {σ τ : rS} {P : Nat → Nat → Rat} {m k n i : Nat} {F G : Nat → Nat → Nat} (hm : m ≤ 32) (hi : i < m) (f : frK l (260 * (1024 + i)) (260 * (1024 + i) + 260) σ τ) (J : fdJ σ P m F k) (hn : hL τ (1024 + i) (elN P m (n + 1) i m)) (hG : ∀ r c, r < m → (c < m ∨ c = m) → G r c = if r = i ∧ c = m then n + 1 else F r c) : fdJ τ P m G k := by
  refine ⟨fun r c hr hc => ?_, fun r hr => ?_, fun l h1 h2 => hL_K f (by omega) (J.2.2 l h1 h2)⟩
  · rw [hG r c hr (Or.inl hc), if_neg (by omega)]
    exact hL_K f (by omega) (J.1 r c hr hc)
  · rw [hG r m hr (Or.inr rfl)]
    by_cases e : r = i
    · rw [if_pos ⟨e, rfl⟩, e]; exact hn
    · rw [if_neg (by omega)]; exact hL_K f (by omega) (J.2.1 r hr)
theorem stG_n {m n i j : Nat} (hn : n < m) (hi : i < m - 1 - n) (hj : j ≤ m - 1 - n) : stG m n i j i j = n ∧ stG m n i j i (m - 1 - n) = n ∧ (∀ c, (c ≤ m - 1 - n ∨ c = m) → stG m n i j (m - 1 - n) c = n) ∧ stG m n i j i m = n := by
  unfold stG stF
  refine ⟨?_, ?_, fun c hc => ?_, ?_⟩
  · rw [if_neg (by omega), if_neg (by omega)]; omega
  · rw [if_neg (by omega), if_neg (by omega)]; omega
  · rw [if_neg (by omega)]
    split <;> omega
  · rw [if_neg (by omega), if_pos rfl]; omega
theorem stF_k {m n c : Nat} (hn : n < m) (hc : c ≤ m - 1 - n ∨ c = m) : stF m n (m - 1 - n) c = n := by
  unfold stF
  split <;> omega
theorem fit_neg {q : Rat} (h : fit q) : fit (-q) := ⟨by rw [Rat.neg_num, Int.natAbs_neg]; exact h.1, h.2⟩
theorem hS_N {l : List Nat} {σ τ : rS} {p : Rat} (f : frN l σ τ) (h4 : 4 ∉ l) (h5 : 5 ∉ l) (h : hS σ p) : hS τ p := by
  obtain ⟨q, hq, w⟩ := h
  exact ⟨q, hR_fr f h4 h5 hq, by rw [f.1]; exact w⟩
theorem add_pre {σ : rS} {p q : Rat} (h : hS σ p) (g : hR σ 6 7 q) (fp : fit p) (fq : fit q) : ((1 : Int32) = 1 ∨ (1 : Int32) = -1) ∧ (σ.1 92 = 1 ∨ σ.1 92 = -1) ∧ numO σ 4 ∧ numO σ 5 ∧ numO σ 6 ∧ numO σ 7 ∧ 0 < nV σ 5 ∧ 0 < nV σ 7 ∧ nL σ 4 + nL σ 7 + 3 < 40000 ∧ nL σ 6 + nL σ 5 + 3 < 40000 ∧ nL σ 5 + nL σ 7 + 3 < 40000 := by
  obtain ⟨r, hr, w⟩ := h
  have fr : fit r := by
    rcases w with z | z
    · rw [← z.2]; exact fp
    · have := fit_neg fp
      rwa [z.2, Rat.neg_neg] at this
  have a := fit_L hr fr
  have b := fit_L g fq
  exact ⟨Or.inl rfl, w.imp (fun z => z.1) (fun z => z.1), hr.1, hr.2.1, g.1, g.2.1, (hR_q hr).2, (hR_q g).2, by omega, by omega, by omega⟩
theorem hS_add {σ : rS} {p q : Rat} (h : hS σ p) (g : hR σ 6 7 q) : sgq (σ.1 92) (fQ σ 4 5) + sgq 1 (fQ σ 6 7) = p + q := by
  obtain ⟨r, hr, w⟩ := h
  rw [sgq_1, (hR_q g).1, (hR_q hr).1]
  rcases w with z | z
  · rw [z.1, z.2, sgq_1]
  · rw [z.1, z.2, sgq_m]
theorem fd_k {x s : Int32} (h : ¬ x < 0) (p0 : 0 ≤ x + 1) (p1 : x + 1 ≤ s) (s1 : s ≤ 32) : 0 ≤ x ∧ x < 32 ∧ x < 1000000 ∧ x + -1 + 1 = x ∧ x < x + 1 ∧ x ≤ s := by grind
theorem fd_u {k n : Int32} (k0 : 0 ≤ k) (h : ¬ n ≤ k) (n1 : n < 32) : 0 ≤ k + 1 ∧ k + 1 ≤ n ∧ 0 ≤ n - (k + 1) ∧ n - (k + 1) < n - k ∧ k < 32 ∧ k < 1000000 ∧ k < n := by grind
theorem s1s {s : Int32} : s - 1 + 1 = s := by grind
theorem fd_e {x s : Int32} (h : x < 0) (p0 : 0 ≤ x + 1) (p1 : x + 1 ≤ s) (s1 : s ≤ 32) : x + 1 = 0 := by grind
theorem fit_0 : fit 0 := ⟨Nat.lt_trans (by decide : 0 < 2 ^ 0) (pw129 (k := 0) (by decide)), pw129 (k := 0) (by decide)⟩
theorem ziq_p {σ : rS} {a : Int32} (h : 0 ≤ a) : ziq σ a = (sQ σ a.toNatClampNeg)⁻¹ := if_neg (fun z => by rw [z] at h; exact absurd h (by decide))
theorem el_st {P : Nat → Nat → Rat} {m k i j : Nat} (hk : k < m) : elN P m (m - 1 - k + 1) i j = elN P m (m - 1 - k) i j + elN P m (m - 1 - k) i k * elN P m (m - 1 - k) k j * (elS (elN P m (m - 1 - k)) m k)⁻¹ := by
  have e : elN P m (m - 1 - k + 1) i j = elN P m (m - 1 - k) i j + elN P m (m - 1 - k) i (m - 1 - (m - 1 - k)) * elN P m (m - 1 - k) (m - 1 - (m - 1 - k)) j * (elS (elN P m (m - 1 - k)) m (m - 1 - (m - 1 - k)))⁻¹ := rfl
  rwa [show m - 1 - (m - 1 - k) = k by omega] at e
theorem foldRing_c {C : rCx} (hC : cOK C) {P : Nat → Nat → Rat} {T : Nat → Nat} {K : Nat → Nat → Int} {m : Nat} {σ : rS}  {Q : rS → Prop} (hp : 0 < σ.1 100 ∧ σ.1 100 ≤ 32 ∧ m = (σ.1 100).toNatClampNeg ∧ Mk P m m ∧ whl P m T K ∧ fdJ σ P m (stF m 0) m) (h : ∀ (σ' : rS), (frK [0, 1, 2, 3, 4, 5, 6, 7, 8, 9, 10, 11, 12, 13, 14] 0 (260 * 1088) σ σ' ∧ fdJ σ' P m (stF m m) 0) → Q σ') : cV C 6 m_foldRing [.ref (co C)] σ Q := by
  refine m_foldRing_run hC ?_
  unfold w_foldRing_0
  obtain ⟨h0, h1, hm, M, hw, J0⟩ := hp
  have hm2 : m ≤ 32 := by rw [hm]; exact cn_le (y := 32) rfl h1
  have s0 : 0 ≤ σ.1 100 := Int32.le_of_lt h0
  intro x1 hx1
  unfold w_foldRing_7
  refine ⟨fun n l1 τ => n = (l1 + 1).toNatClampNeg ∧ (frK [0, 1, 2, 3, 4, 5, 6, 7, 8, 9, 10, 11, 12, 13, 14] 0 (260 * 1088) σ τ ∧ 0 ≤ l1 + 1 ∧ l1 + 1 ≤ σ.1 100 ∧ fdJ τ P m (stF m (m - (l1 + 1).toNatClampNeg)) (l1 + 1).toNatClampNeg), ⟨_, rfl, ?_⟩, ?_⟩
  · clear h; have e : x1 + 1 = σ.1 100 := by rw [hx1]; exact s1s
    rw [e, ← hm, Nat.sub_self]
    exact ⟨frK_refl, s0, Int32.le_refl _, J0⟩
  rintro n7 x7_1 σ7 ⟨hn7, i7⟩
  refine ⟨fun c2 => ?_, fun c2 => ?_⟩
  · skip
    refine h _ ?_
    · clear h; obtain ⟨F, p0, p1, J⟩ := i7
      rw [fd_e c2 p0 p1 h1] at J
      exact ⟨F, J⟩
  · skip
    refine clearSum_c hC  (fun σ_3 q4 => ?_)
    obtain ⟨F7, p0, p1, J⟩ := i7
    have dk := fd_k c2 p0 p1 h1
    have cs := cn_succ dk.1 dk.2.2.1
    have km : x7_1.toNatClampNeg < m := by
      have z := (cn_li p0 s0).mp p1
      rw [cs, ← hm] at z
      omega
    rw [cs, show m - (x7_1.toNatClampNeg + 1) = m - 1 - x7_1.toNatClampNeg by omega] at J
    have kk : m - 1 - (m - 1 - x7_1.toNatClampNeg) = x7_1.toNatClampNeg := by omega
    have o := ixc (c := 1024) (by decide) (by decide) dk.1 dk.2.1
    have o2 : (1024 + x7_1).toNatClampNeg = 1024 + x7_1.toNatClampNeg := o.2.1
    have oS := ixc (c := 1056) (by decide) (by decide) dk.1 dk.2.1
    have oS2 : (1056 + x7_1).toNatClampNeg = 1056 + x7_1.toNatClampNeg := oS.2.1
    have fk : ∀ c, (c ≤ x7_1.toNatClampNeg ∨ c = m) → stF m (m - 1 - x7_1.toNatClampNeg) x7_1.toNatClampNeg c = m - 1 - x7_1.toNatClampNeg := fun c hc => by
      have z := stF_k (m := m) (n := m - 1 - x7_1.toNatClampNeg) (c := c) (by omega) (by omega)
      rwa [kk] at z
    have J3 := fdJ_e (τ := σ_3) (q4.1.2.2.1 93 (by decide) (by decide)) J
    have HO : hL σ_3 (1024 + x7_1.toNatClampNeg) (elN P m (m - 1 - x7_1.toNatClampNeg) x7_1.toNatClampNeg m) := by
      have z := J3.2.1 x7_1.toNatClampNeg km
      rwa [fk m (Or.inr rfl)] at z
    have Q1 := Mk_n M (n := m - 1 - x7_1.toNatClampNeg) (by omega)
    rw [show m - (m - 1 - x7_1.toNatClampNeg) = x7_1.toNatClampNeg + 1 by omega] at Q1
    have Sp := (Mk_S Q1).1
    refine load_c hC  ?_ (fun σ_5 q6 => ?_)
    · clear h; exact ⟨o.1.1, o.1.2, by decide, by decide, by decide, by decide, by decide, by rw [o2]; exact HO.1, by rw [o2]; exact HO.2.1⟩  -- p3
    rw [o2] at q6
    simp only [kn] at q6
    have U := hR_of HO q6.2.1 q6.2.2.1 q6.2.2.2.1 q6.2.2.2.2.1
    have S5 := hS_N q6.1 (by decide) (by decide) q4.2
    refine add_c hC  ?_ (fun σ_7 q8 => ?_)
    · clear h; exact add_pre S5 U fit_0 (F1f (n := m - 1 - x7_1.toNatClampNeg) M hw hm2 (by omega) (Or.inr rfl))  -- p4
    rw [hS_add S5 U, Rat.zero_add] at q8
    have F8 : frK [0, 1, 2, 3, 4, 5, 6, 7, 8, 9, 10, 11, 12, 13, 14] 0 (260 * 1088) σ σ_7 := frK_tr F7 (frK_tr (frK_S q4.1 (sub_of rfl)) (frK_tr (frK_N q6.1 (sub_of rfl)) (frK_S q8.1 (sub_of rfl))))
    unfold w_foldRing_35
    refine ⟨fun n l1 l2 τ => n = (l1 - l2).toNatClampNeg ∧ (l1 = x7_1 ∧ frK [0, 1, 2, 3, 4, 5, 6, 7, 8, 9, 10, 11, 12, 13, 14] 0 (260 * 1088) σ τ ∧ 0 ≤ l2 ∧ l2 ≤ l1 ∧ fdJ τ P m (stF m (m - 1 - x7_1.toNatClampNeg)) (x7_1.toNatClampNeg + 1) ∧ hS τ (elN P m (m - 1 - x7_1.toNatClampNeg) x7_1.toNatClampNeg m + smQ (elN P m (m - 1 - x7_1.toNatClampNeg) x7_1.toNatClampNeg) l2.toNatClampNeg)), ⟨_, rfl, ?_⟩, ?_⟩
    · clear h; refine ⟨rfl, F8, by decide, dk.1, fdJ_e (q8.1.2.2.1 93 (by decide) (by decide)) (fdJ_e (q6.1.2.2.1 93 (by decide) (by decide)) J3), ?_⟩
      show hS σ_7 (_ + 0)
      rw [Rat.add_zero]
      exact q8.2
    rintro n35 x35_1 x35_2 σ35 ⟨hn35, i35⟩
    obtain ⟨e1, F, l0, l1, J5, S⟩ := i35
    have W : x35_1 ≤ x35_2 → hR σ35 4 5 (elS (elN P m (m - 1 - x7_1.toNatClampNeg)) m x7_1.toNatClampNeg) ∧ nL σ35 4 ≤ 129 ∧ nL σ35 5 ≤ 129 := fun c9 => by
      have ek : x35_2 = x7_1 := by rw [← e1]; exact Int32.le_antisymm l1 c9
      rw [ek] at S
      have w := hS_nn S (Rat.le_of_lt Sp)
      exact ⟨w, fit_L w (F2 (n := m - 1 - x7_1.toNatClampNeg) M hw hm2 (by omega) (by omega))⟩
    refine ⟨fun c9 => ?_, fun c9 => ?_⟩
    · skip
      refine keepIn_c hC  ?_ (fun σ_10 q11 => ?_)
      · clear h; rw [e1] at c9 ⊢
        simp only [kn]
        have w := W (by rw [e1]; exact c9)
        exact ⟨oS.1.1, oS.1.2, by decide, by decide, by decide, by decide, w.1.1, w.1.2.1, w.2.1, w.2.2⟩
      rw [e1, oS2] at q11
      simp only [kn] at q11
      have w := W c9
      have J10 := fdJ_k hm2 (frK_R (m := [0, 1, 2, 3, 4, 5, 6, 7, 8, 9, 10, 11, 12, 13, 14]) q11.1) J5 (hL_of w.1 q11.2.1 q11.2.2.1 q11.2.2.2.1 q11.2.2.2.2)
      unfold w_foldRing_78
      refine ⟨fun n l1 l2 τ => n = (l1 - l2).toNatClampNeg ∧ (l1 = x7_1 ∧ frK [0, 1, 2, 3, 4, 5, 6, 7, 8, 9, 10, 11, 12, 13, 14] 0 (260 * 1088) σ τ ∧ 0 ≤ l2 ∧ l2 ≤ l1 ∧ fdJ τ P m (stG m (m - 1 - x7_1.toNatClampNeg) l2.toNatClampNeg 0) x7_1.toNatClampNeg), ⟨_, rfl, ?_⟩, ?_⟩
      · clear h; exact ⟨e1, frK_tr F (frK_w (frK_R (m := [0, 1, 2, 3, 4, 5, 6, 7, 8, 9, 10, 11, 12, 13, 14]) q11.1) (fun k hk => hk) (Nat.zero_le _) (by omega)), by decide, by rw [e1]; exact dk.1, fdJ_F J10 (fun i j _ _ => stG_0)⟩  -- j7
      rintro n78 x78_1 x78_2 σ78 ⟨hn78, i78⟩
      obtain ⟨g1, G, r0, r1, JG⟩ := i78
      refine ⟨fun c12 => ?_, fun c12 => ?_⟩
      · skip
        intro x13 hx13
        refine ⟨_, cn_lt2 hn7 ?_ ?_, rfl, ?_⟩
        · clear h; rw [hx13, g1, dk.2.2.2.1]; exact dk.1  -- d8
        · clear h; rw [hx13, g1, dk.2.2.2.1]; exact dk.2.2.2.2.1  -- d9
        · clear h; rw [hx13, g1, dk.2.2.2.1]
          have ek : x78_2 = x7_1 := by rw [← g1]; exact Int32.le_antisymm r1 c12
          rw [ek] at JG
          refine ⟨G, dk.1, dk.2.2.2.2.2, fdJ_F JG (fun i j hi hj => ?_)⟩
          have e := stG_e (m := m) (n := m - 1 - x7_1.toNatClampNeg) (r := i) (c := j) (by omega) hi hj
          rw [kk] at e
          rw [e, show m - 1 - x7_1.toNatClampNeg + 1 = m - x7_1.toNatClampNeg by omega]
      · skip
        unfold w_foldRing_85
        refine ⟨fun n l1 l2 l3 τ => n = (l1 - l3).toNatClampNeg ∧ (l1 = x7_1 ∧ l2 = x78_2 ∧ frK [0, 1, 2, 3, 4, 5, 6, 7, 8, 9, 10, 11, 12, 13, 14] 0 (260 * 1088) σ τ ∧ 0 ≤ l3 ∧ l3 ≤ l1 ∧ fdJ τ P m (stG m (m - 1 - x7_1.toNatClampNeg) x78_2.toNatClampNeg l3.toNatClampNeg) x7_1.toNatClampNeg), ⟨_, rfl, ?_⟩, ?_⟩
        · clear h; exact ⟨g1, rfl, G, by decide, by rw [g1]; exact dk.1, JG⟩  -- j11
        rintro n85 x85_1 x85_2 x85_3 σ85 ⟨hn85, i85⟩
        obtain ⟨f1, f2, H, t0', t1, JH⟩ := i85
        rw [g1] at c12
        have u := fd_u r0 c12 dk.2.1
        have iu : x78_2.toNatClampNeg < x7_1.toNatClampNeg := cn_lt r0 u.2.2.2.2.2.2
        have jl : x85_3.toNatClampNeg ≤ x7_1.toNatClampNeg := (cn_li t0' dk.1).mp (by rw [← f1]; exact t1)
        have sG := stG_n (m := m) (n := m - 1 - x7_1.toNatClampNeg) (i := x78_2.toNatClampNeg) (j := x85_3.toNatClampNeg) (by omega) (by omega) (by omega)
        rw [kk] at sG
        have Aik : hL σ85 (32 * x78_2.toNatClampNeg + x7_1.toNatClampNeg) (elN P m (m - 1 - x7_1.toNatClampNeg) x78_2.toNatClampNeg x7_1.toNatClampNeg) := by
          have z := JH.1 x78_2.toNatClampNeg x7_1.toNatClampNeg (by omega) km
          rwa [sG.2.1] at z
        have Akm : hL σ85 (1024 + x7_1.toNatClampNeg) (elN P m (m - 1 - x7_1.toNatClampNeg) x7_1.toNatClampNeg m) := by
          have z := JH.2.1 x7_1.toNatClampNeg km
          rwa [sG.2.2.1 m (Or.inr rfl)] at z
        have AS := JH.2.2 x7_1.toNatClampNeg (Nat.le_refl _) km
        have Aim : hL σ85 (1024 + x78_2.toNatClampNeg) (elN P m (m - 1 - x7_1.toNatClampNeg) x78_2.toNatClampNeg m) := by
          have z := JH.2.1 x78_2.toNatClampNeg (by omega)
          rwa [sG.2.2.2] at z
        have oi := ixc (c := 1024) (by decide) (by decide) r0 u.2.2.2.2.1
        have oi2 : (1024 + x78_2).toNatClampNeg = 1024 + x78_2.toNatClampNeg := oi.2.1
        have xik := ixs r0 u.2.2.2.2.1 dk.1 dk.2.1
        have Sn : elS (elN P m (m - 1 - x7_1.toNatClampNeg)) m x7_1.toNatClampNeg ≠ 0 := by grind
        refine ⟨fun c14 => ?_, fun c14 => ?_⟩
        · skip
          refine addProduct_c hC  ?_ (fun σ_15 q16 => ?_)
          · clear h; rw [f1, f2, ziq_p oS.1.1, oi2, xik.2.1, o2, oS2, hL_q Aim, hL_q Aik, hL_q Akm, hL_q AS, ← el_st km]
            exact ⟨oi.1.1, oi.1.2, xik.1.1, xik.1.2, o.1.1, o.1.2, Or.inr ⟨oS.1.1, oS.1.2, AS, Sn⟩, Aim, Aik, Akm, F1f M hw hm2 (by omega) (Or.inr rfl)⟩
          rw [f1, f2, ziq_p oS.1.1, oi2, xik.2.1, o2, oS2, hL_q Aim, hL_q Aik, hL_q Akm, hL_q AS, ← el_st km] at q16
          intro x17 hx17
          refine ⟨_, cn_lt2 hn78 ?_ ?_, rfl, ?_⟩
          · clear h; rw [hx17, f1, f2]; exact u.2.2.1  -- d13
          · clear h; rw [hx17, f1, f2, g1]; exact u.2.2.2.1  -- d14
          · clear h; rw [hx17, f1, f2, cn_succ r0 u.2.2.2.2.2.1]
            have ek : x85_3 = x7_1 := by rw [← f1]; exact Int32.le_antisymm t1 c14
            rw [ek] at JH
            refine ⟨rfl, frK_tr H (frK_w q16.1 (fun k hk => hk) (Nat.zero_le _) (by omega)), u.1, u.2.1, fdJ_o hm2 (by omega) q16.1 JH q16.2 (fun r c hr hc => ?_)⟩
            have z := stG_r (m := m) (n := m - 1 - x7_1.toNatClampNeg) (i := x78_2.toNatClampNeg) (r := r) (c := c) (by omega) hc
            rwa [kk] at z
        · skip
          rw [f1] at c14
          have w := fd_u t0' c14 dk.2.1
          have ju : x85_3.toNatClampNeg < x7_1.toNatClampNeg := cn_lt t0' w.2.2.2.2.2.2
          have Aij : hL σ85 (32 * x78_2.toNatClampNeg + x85_3.toNatClampNeg) (elN P m (m - 1 - x7_1.toNatClampNeg) x78_2.toNatClampNeg x85_3.toNatClampNeg) := by
            have z := JH.1 x78_2.toNatClampNeg x85_3.toNatClampNeg (by omega) (by omega)
            rwa [sG.1] at z
          have Akj : hL σ85 (32 * x7_1.toNatClampNeg + x85_3.toNatClampNeg) (elN P m (m - 1 - x7_1.toNatClampNeg) x7_1.toNatClampNeg x85_3.toNatClampNeg) := by
            have z := JH.1 x7_1.toNatClampNeg x85_3.toNatClampNeg km (by omega)
            rwa [sG.2.2.1 _ (Or.inl (by omega))] at z
          have xij := ixs r0 u.2.2.2.2.1 t0' w.2.2.2.2.1
          have xkj := ixs dk.1 dk.2.1 t0' w.2.2.2.2.1
          refine addProduct_c hC  ?_ (fun σ_18 q19 => ?_)
          · clear h; rw [f1, f2, ziq_p oS.1.1, xij.2.1, xik.2.1, xkj.2.1, oS2, hL_q Aij, hL_q Aik, hL_q Akj, hL_q AS, ← el_st km]
            exact ⟨xij.1.1, xij.1.2, xik.1.1, xik.1.2, xkj.1.1, xkj.1.2, Or.inr ⟨oS.1.1, oS.1.2, AS, Sn⟩, Aij, Aik, Akj, F1f M hw hm2 (by omega) (Or.inl (by omega))⟩
          rw [f1, f2, ziq_p oS.1.1, xij.2.1, xik.2.1, xkj.2.1, oS2, hL_q Aij, hL_q Aik, hL_q Akj, hL_q AS, ← el_st km] at q19
          intro x20 hx20
          refine ⟨_, cn_lt2 hn85 ?_ ?_, rfl, ?_⟩
          · clear h; rw [hx20, f1]; exact w.2.2.1  -- d17
          · clear h; rw [hx20, f1]; exact w.2.2.2.1  -- d18
          · clear h; rw [hx20, f1, cn_succ t0' w.2.2.2.2.2.1]
            refine ⟨rfl, f2, frK_tr H (frK_w q19.1 (fun k hk => hk) (Nat.zero_le _) (by omega)), w.1, w.2.1, fdJ_u hm2 (by omega) (by omega) q19.1 JH q19.2 (fun r c _ _ => stG_c (by omega) (by omega))⟩
    · skip
      rw [e1] at c9
      have u := fd_u l0 c9 dk.2.1
      have iu : x35_2.toNatClampNeg < x7_1.toNatClampNeg := cn_lt l0 u.2.2.2.2.2.2
      have xki := ixs dk.1 dk.2.1 l0 u.2.2.2.2.1
      have Aki : hL σ35 (32 * x7_1.toNatClampNeg + x35_2.toNatClampNeg) (elN P m (m - 1 - x7_1.toNatClampNeg) x7_1.toNatClampNeg x35_2.toNatClampNeg) := by
        have z := J5.1 x7_1.toNatClampNeg x35_2.toNatClampNeg km (by omega)
        rwa [fk _ (Or.inl (by omega))] at z
      refine load_c hC  ?_ (fun σ_21 q22 => ?_)
      · clear h; rw [e1]
        exact ⟨xki.1.1, xki.1.2, by decide, by decide, by decide, by decide, by decide, by rw [xki.2.1]; exact Aki.1, by rw [xki.2.1]; exact Aki.2.1⟩
      rw [e1, xki.2.1] at q22
      simp only [kn] at q22
      have U2 := hR_of Aki q22.2.1 q22.2.2.1 q22.2.2.2.1 q22.2.2.2.2.1
      have S2 := hS_N q22.1 (by decide) (by decide) S
      refine add_c hC  ?_ (fun σ_23 q24 => ?_)
      · clear h; exact add_pre S2 U2 (F2 (n := m - 1 - x7_1.toNatClampNeg) M hw hm2 (by omega) (by omega)) (F1f (n := m - 1 - x7_1.toNatClampNeg) M hw hm2 (by omega) (Or.inl (by omega)))  -- p21
      rw [hS_add S2 U2] at q24
      intro x25 hx25
      refine ⟨_, cn_lt2 hn35 ?_ ?_, rfl, ?_⟩
      · clear h; rw [hx25, e1]; exact u.2.2.1  -- d22
      · clear h; rw [hx25, e1]; exact u.2.2.2.1  -- d23
      · clear h; rw [hx25, e1, cn_succ l0 u.2.2.2.2.2.1, smQ_s, ← Rat.add_assoc]
        exact ⟨rfl, frK_tr F (frK_tr (frK_N q22.1 (sub_of rfl)) (frK_S q24.1 (sub_of rfl))), u.1, u.2.1, fdJ_e (q24.1.2.2.1 93 (by decide) (by decide)) (fdJ_e (q22.1.2.2.1 93 (by decide) (by decide)) J5), q24.2⟩
