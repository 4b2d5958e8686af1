set_option maxHeartbeats 1600000
/-! the class: Solver's eliminate -/
/-- on the way: rows below row, and of row the columns below col, are done -/
def eN9 (M : Nat → Nat → Nat) (m p q row col : Nat) : Nat → Nat → Nat := fun i j => if (p < i ∧ p < j ∧ (j < m ∨ j = 32)) ∧ (i < row ∨ (i = row ∧ ((j < m ∧ j < col) ∨ (j = 32 ∧ m < col)))) then nB9 M p q i j else M i j
theorem eN9_s {M : Nat → Nat → Nat} {m p q row col at9 : Nat} (hm : m ≤ 32) (h1 : p < row) (h2 : p < col) (h3 : (col < m ∧ at9 = col) ∨ (col = m ∧ at9 = 32)) : (fun i j => if i = row ∧ j = at9 then nB9 M p q row at9 else eN9 M m p q row col i j) = eN9 M m p q row (col + 1) := by
  funext i j
  unfold eN9
  by_cases z : i = row ∧ j = at9
  · obtain ⟨z1, z2⟩ := z
    subst z1
    subst z2
    rw [if_pos ⟨rfl, rfl⟩, if_pos (by omega)]
  · rw [if_neg z]
    by_cases w : (p < i ∧ p < j ∧ (j < m ∨ j = 32)) ∧ (i < row ∨ (i = row ∧ ((j < m ∧ j < col) ∨ (j = 32 ∧ m < col))))
    · rw [if_pos w, if_pos (by omega)]
    · rw [if_neg w, if_neg (by omega)]
theorem eN9_r {M : Nat → Nat → Nat} {m p q row : Nat} (hm : m ≤ 32) (h1 : p < row) (h2 : p < m) : eN9 M m p q row (m + 1) = eN9 M m p q (row + 1) (p + 1) := by
  funext i j
  unfold eN9
  by_cases w : (p < i ∧ p < j ∧ (j < m ∨ j = 32)) ∧ (i < row ∨ (i = row ∧ ((j < m ∧ j < m + 1) ∨ (j = 32 ∧ m < m + 1))))
  · rw [if_pos w, if_pos (by omega)]
  · rw [if_neg w, if_neg (by omega)]
theorem eN9_0 {M : Nat → Nat → Nat} {m p q : Nat} (h : p + 1 ≤ m) : eN9 M m p q (p + 1) (p + 1) = M := by
  funext i j
  unfold eN9
  rw [if_neg (by omega)]
theorem eN9_z {M : Nat → Nat → Nat} {m p q : Nat} (h : p + 1 ≤ m) : eN9 M m p q m (p + 1) = eM9 M m p q := by
  funext i j
  unfold eN9 eM9
  by_cases w : (p < i ∧ i < m) ∧ p < j ∧ (j < m ∨ j = 32)
  · rw [if_pos w, if_pos (by omega)]
  · rw [if_neg w, if_neg (by omega)]
theorem eN9_o {M : Nat → Nat → Nat} {m p q row col i j : Nat} (h : i ≤ p ∨ j ≤ p ∨ (row < i) ∨ (i = row ∧ ((j < m ∧ col ≤ j) ∨ (j = 32 ∧ m ≤ 32 ∧ col ≤ m)))) : eN9 M m p q row col i j = M i j := by
  unfold eN9
  rw [if_neg (by omega)]
/-- sizes -/
theorem el_b9 {M : Nat → Nat → Nat} {m p q X i j : Nat} (hm : m ≤ 32) (H : bz9 M m p q X 8000000) (hX : X ≤ pB9 1520) (h1 : p ≤ i) (h2 : i < m) (h3 : (p ≤ j ∧ j < m) ∨ j = 32) : M i j < pB9 (cB9 j) := by
  unfold cB9
  by_cases z : j = 32
  · rw [if_pos z, z]
    obtain ⟨H1, _, H3, _⟩ := H
    have a := H3 i h1 h2
    have b : q * 2 ^ p * X ≤ 8000000 ^ 32 * 2 ^ 32 * pB9 1520 := Nat.mul_le_mul (Nat.mul_le_mul (Nat.le_trans H1 (Nat.pow_le_pow_right (by decide) (by omega))) (Nat.pow_le_pow_right (by decide) (by omega))) hX
    have c : 8000000 ^ 32 * 2 ^ 32 < pB9 26 := by unfold pB9; decide
    have d : 8000000 ^ 32 * 2 ^ 32 * pB9 1520 < pB9 26 * pB9 1520 := Nat.mul_lt_mul_of_pos_right c pB9_p
    rw [← pB9_a] at d
    exact Nat.lt_of_le_of_lt (Nat.le_trans a b) (Nat.lt_of_lt_of_le d (pB9_l (by decide)))
  · rw [if_neg z]
    have hj : p ≤ j ∧ j < m := by omega
    have a := bz9_e H h1 h2 hj.1 hj.2
    exact Nat.lt_of_le_of_lt (Nat.le_trans a.1 a.2) (dp_9 (by omega))
theorem el_n9 {M : Nat → Nat → Nat} {m p q X i j : Nat} (hm : m ≤ 32) (H : bz9 M m p q X 8000000) (hX : X ≤ pB9 1520) (h1 : p < i) (h2 : i < m) (h3 : (p < j ∧ j < m) ∨ j = 32) : nB9 M p q i j < pB9 (cB9 j) := by
  have S := bz9_s hm (by omega) H
  have e : eM9 M m p q i j = nB9 M p q i j := by
    unfold eM9
    rw [if_pos (by omega)]
  rw [← e]
  exact el_b9 hm S hX (by omega) h2 (by omega)
def elJ9 (ρ : Nat → Nat) (κ τ : zS) (a : Nat) (M : Nat → Nat → Nat) (m p q row col : Nat) : Prop := (zF (soF ρ elR9 (zR κ soCalc a)) κ τ ∧ nmI ρ τ ∧ soI ρ τ a) ∧ clI9 ρ τ a m (eN9 M m p q row col)
def aT9 (m col : Nat) : Nat := if col = m then 32 else col
def nA9 (M : Nat → Nat → Nat) (p i j : Nat) : Nat := if i = j then M p p * M i j - M i p * M p j else M p p * M i j + M i p * M p j
theorem nA9_b {M : Nat → Nat → Nat} {m p q X i j : Nat} (hm : m ≤ 32) (H : bz9 M m p q X 8000000) (hX : X ≤ pB9 1520) (h1 : p < i) (h2 : i < m) (h3 : (p < j ∧ j < m) ∨ j = 32) : M p p * M i j < pB9 1984 ∧ M i p * M p j < pB9 1984 ∧ nA9 M p i j < pB9 2100 ∧ (M p p < pB9 24 ∧ M i p < pB9 24 ∧ M i j < pB9 1960 ∧ M p j < pB9 1960) := by
  have a1 := el_b9 hm H hX (i := p) (j := p) (by omega) (by omega) (by omega)
  have a2 := el_b9 hm H hX (i := i) (j := j) (by omega) h2 (by omega)
  have a3 := el_b9 hm H hX (i := i) (j := p) (by omega) h2 (by omega)
  have a4 := el_b9 hm H hX (i := p) (j := j) (by omega) (by omega) (by omega)
  have e1 : cB9 p = 24 := by unfold cB9; rw [if_neg (by omega)]
  rw [e1] at a1 a3
  have l : cB9 j ≤ 1960 := by unfold cB9; split <;> decide
  have b2 := Nat.lt_of_lt_of_le a2 (pB9_l l)
  have b4 := Nat.lt_of_lt_of_le a4 (pB9_l l)
  have c1 : M p p * M i j < pB9 24 * pB9 1960 := Nat.mul_lt_mul'' a1 b2
  have c2 : M i p * M p j < pB9 24 * pB9 1960 := Nat.mul_lt_mul'' a3 b4
  rw [← pB9_a, show (24 + 1960 : Nat) = 1984 from rfl] at c1 c2
  refine ⟨c1, c2, ?_, a1, a3, b2, b4⟩
  have d : pB9 1984 + pB9 1984 ≤ pB9 2100 := by
    have r : 2 ≤ pB9 116 := by unfold pB9; decide
    rw [show (2100 : Nat) = 1984 + 116 from rfl, pB9_a, ← Nat.mul_two]
    exact Nat.mul_le_mul_left _ r
  unfold nA9
  split <;> omega
theorem cl_eq9 {ρ : Nat → Nat} {κ : zS} {a m : Nat} {M M' : Nat → Nat → Nat} (K : clI9 ρ κ a m M) (h : ∀ i j, i < m → (j < m ∨ j = 32) → M i j = M' i j) : clI9 ρ κ a m M' := ⟨K.1, fun i j hi hj => ⟨(K.2 i j hi hj).1, (K.2 i j hi hj).2.1, (K.2 i j hi hj).2.2.trans (h i j hi hj)⟩⟩
theorem aT9_c {m col : Nat} (h : col ≤ m) : (col < m ∧ aT9 m col = col) ∨ (col = m ∧ aT9 m col = 32) := by
  unfold aT9
  by_cases z : col = m
  · right; rw [if_pos z]; exact ⟨z, rfl⟩
  · left; rw [if_neg z]; exact ⟨by omega, rfl⟩
theorem nu_00 {κ : zS} {w c : Nat} (I : nuI κ w c) (h : (zI κ nuLength w).toInt ≤ 0) : nuN κ w = 0 := (nuK_z I).1 (by
  have a := nuK_i I.1
  omega)
theorem So_eliminate_c {C : zC} {n0 : Nat} {a0 : Nat} {a1 : Int32} {a2 : Int32} {κ : zS} {Q : zS → Prop} (W : zW C n0 κ) (Ta0 : zT κ a0 = 12) (ρ : Nat → Nat) (M9 : Nat → Nat → Nat) (m9 q9 X9 : Nat) (hp : (nmI ρ κ ∧ soI ρ κ a0) ∧ clI9 ρ κ a0 m9 M9 ∧ (m9 ≤ 32 ∧ a2.toInt = (m9 : Int)) ∧ (0 ≤ a1.toInt ∧ a1.toInt + 1 < m9) ∧ ((a1 = 0 → q9 = 1) ∧ (¬ a1 = 0 → q9 = M9 (a1.toNatClampNeg - 1) (a1.toNatClampNeg - 1))) ∧ bz9 M9 m9 a1.toNatClampNeg q9 X9 8000000 ∧ X9 ≤ pB9 1520) (h : ∀ (κ' : zS), ((zF (soF ρ elR9 (zR κ soCalc a0)) κ κ' ∧ nmI ρ κ' ∧ soI ρ κ' a0) ∧ clI9 ρ κ' a0 m9 (eM9 M9 m9 a1.toNatClampNeg q9)) → Q κ') : zRun C 4 mSo_eliminate [.ref a0, .int a1, .int a2] κ (oV Q noX) := by
  refine So_eliminate_run W Ta0 ?_
  replace W := W.lo (Nat.le_trans W.1.2.1 W.1.2.2) (Nat.le_refl (zn κ))
  unfold w_So_eliminate_0
  obtain ⟨⟨N0, S0⟩, K0, ⟨hm, m2⟩, p1, ⟨q0, q1⟩, H, hX⟩ := hp
  have kn := cnk p1.1
  have i1 := cn1 p1.1 (by omega)
  have h7 := S0.1.2.2.2.2.1
  have h6 := S0.1.2.2.2.1
  intro T1
  refine So_cell_c2 W T1  ?_ (fun r2 q4 => ?_)
  · exact ⟨K0.1, ⟨p1.1, by omega⟩, ⟨p1.1, by omega⟩, (K0.2 _ _ (by omega) (Or.inl (by omega))).1⟩  -- p1
  intro W5
  intro M6
  intro T7
  intro x8 hx8
  unfold w_So_eliminate_12
  refine ⟨fun n l0 l1 l2 l3 l4 τ => n = (a2.toInt - l4.toInt).toNat ∧ (a0 = l0 ∧ a1 = l1 ∧ a2 = l2 ∧ elJ9 ρ κ τ a0 M9 m9 a1.toNatClampNeg q9 l4.toNatClampNeg (a1.toNatClampNeg + 1) ∧ (a1.toInt < l4.toInt ∧ l4.toInt ≤ a2.toInt) ∧ l3 = cU9 κ a0 a1.toNatClampNeg a1.toNatClampNeg), ⟨_, rfl, ?_⟩, ?_⟩
  · refine ⟨rfl, rfl, rfl, ⟨⟨zF.rf, N0, S0⟩, ?_⟩, ⟨by rw [hx8, i1.2]; omega, by rw [hx8, i1.2]; omega⟩, q4⟩
    rw [hx8, i1.1, eN9_0 (by omega)]
    exact K0
  rintro n12 _ _ _ x12_3 x12_4 κ12 W12 T12_0 T12_1 ⟨hn12, rfl, rfl, rfl, i12⟩
  obtain ⟨⟨⟨Z1, N1, S1⟩, K1⟩, l1, l3⟩ := i12
  have kr := cnk (x := x12_4) (by omega)
  refine ⟨fun c9 => ?_, fun c9 => ?_⟩
  · skip
    refine h _ ?_
    · rw [lei] at c9
      have e : x12_4.toNatClampNeg = m9 := by omega
      rw [e, eN9_z (by omega)] at K1
      exact ⟨⟨Z1, N1, S1⟩, K1⟩
  · skip
    intro T10
    refine So_cell_c2 W12 T10  ?_ (fun r11 q13 => ?_)
    · rw [lei] at c9
      exact ⟨K1.1, ⟨by omega, by omega⟩, ⟨p1.1, by omega⟩, (K1.2 _ _ (by omega) (Or.inl (by omega))).1⟩
    intro W14
    intro M15
    intro T16
    intro x17 hx17
    unfold w_So_eliminate_32
    refine ⟨fun n l0 l1 l2 l3 l4 l5 l6 τ => n = (a2.toInt + 1 - l6.toInt).toNat ∧ (a0 = l0 ∧ a1 = l1 ∧ a2 = l2 ∧ elJ9 ρ κ τ a0 M9 m9 a1.toNatClampNeg q9 l4.toNatClampNeg l6.toNatClampNeg ∧ (a1.toInt < l4.toInt ∧ l4.toInt < a2.toInt ∧ x12_4 = l4) ∧ (a1.toInt < l6.toInt ∧ l6.toInt ≤ a2.toInt + 1) ∧ l3 = cU9 κ a0 a1.toNatClampNeg a1.toNatClampNeg ∧ l5 = cU9 κ a0 l4.toNatClampNeg a1.toNatClampNeg), ⟨_, rfl, ?_⟩, ?_⟩
    · rw [lei] at c9
      rw [(so_rw9 W Ta0 Z1).2.2.2] at q13
      refine ⟨rfl, rfl, rfl, ⟨⟨Z1, N1, S1⟩, ?_⟩, ⟨l1.1, by omega, rfl⟩, ⟨by rw [hx17, i1.2]; omega, by rw [hx17, i1.2]; omega⟩, l3, q13⟩
      rw [hx17, i1.1]
      exact K1
    rintro n32 _ _ _ x32_3 x32_4 x32_5 x32_6 κ32 W32 T32_0 T32_1 T32_2 ⟨hn32, rfl, rfl, rfl, i32⟩
    obtain ⟨J2, ⟨l41, l42, l43⟩, l6, e3, e5⟩ := i32
    subst l43
    have kc := cnk (x := x32_6) (by omega)
    have ix := cn1 (x := x32_6) (by omega) (by omega)
    have hj169 : ∀ (l0 : Nat) (l1 : Int32) (l2 : Int32) (l3 : Nat) (l4 : Int32) (l5 : Nat) (l6 : Int32) (l8 : Nat) (τ : zS), zW C (zn κ) τ → zT τ l0 = 12 → zT τ l3 = 8 → zT τ l5 = 8 → zT τ l8 = 8 → (a0 = l0 ∧ a1 = l1 ∧ a2 = l2 ∧ elJ9 ρ κ τ a0 M9 m9 a1.toNatClampNeg q9 l4.toNatClampNeg l6.toNatClampNeg ∧ (a1.toInt < l4.toInt ∧ l4.toInt < a2.toInt ∧ x12_4 = l4) ∧ (a1.toInt < l6.toInt ∧ l6.toInt ≤ a2.toInt ∧ x32_6 = l6) ∧ (l3 = cU9 κ a0 a1.toNatClampNeg a1.toNatClampNeg ∧ l5 = cU9 κ a0 l4.toNatClampNeg a1.toNatClampNeg) ∧ l8 = cU9 κ a0 l4.toNatClampNeg (aT9 m9 l6.toNatClampNeg) ∧ nuN τ (zR κ soSum a0) = nA9 M9 a1.toNatClampNeg l4.toNatClampNeg (aT9 m9 l6.toNatClampNeg)) → w_So_eliminate_169 C (zn κ) Q (fun (l0' : Nat) (l1' : Int32) (l2' : Int32) (l3' : Nat) (l4' : Int32) (τ : zS) => ∃ k < n12, (fun (n : Nat) (l0 : Nat) (l1 : Int32) (l2 : Int32) (l3 : Nat) (l4 : Int32) (τ : zS) => n = (a2.toInt - l4.toInt).toNat ∧ (a0 = l0 ∧ a1 = l1 ∧ a2 = l2 ∧ elJ9 ρ κ τ a0 M9 m9 a1.toNatClampNeg q9 l4.toNatClampNeg (a1.toNatClampNeg + 1) ∧ (a1.toInt < l4.toInt ∧ l4.toInt ≤ a2.toInt) ∧ l3 = cU9 κ a0 a1.toNatClampNeg a1.toNatClampNeg)) k l0' l1' l2' l3' l4' τ) (fun (l0' : Nat) (l1' : Int32) (l2' : Int32) (l3' : Nat) (l4' : Int32) (l5' : Nat) (l6' : Int32) (τ : zS) => ∃ k < n32, (fun (n : Nat) (l0 : Nat) (l1 : Int32) (l2 : Int32) (l3 : Nat) (l4 : Int32) (l5 : Nat) (l6 : Int32) (τ : zS) => n = (a2.toInt + 1 - l6.toInt).toNat ∧ (a0 = l0 ∧ a1 = l1 ∧ a2 = l2 ∧ elJ9 ρ κ τ a0 M9 m9 a1.toNatClampNeg q9 l4.toNatClampNeg l6.toNatClampNeg ∧ (a1.toInt < l4.toInt ∧ l4.toInt < a2.toInt ∧ x12_4 = l4) ∧ (a1.toInt < l6.toInt ∧ l6.toInt ≤ a2.toInt + 1) ∧ l3 = cU9 κ a0 a1.toNatClampNeg a1.toNatClampNeg ∧ l5 = cU9 κ a0 l4.toNatClampNeg a1.toNatClampNeg)) k l0' l1' l2' l3' l4' l5' l6' τ) l0 l1 l2 l3 l4 l5 l6 l8 τ := by
      rintro _ _ _ y169_3 y169_4 y169_5 y169_6 y169_8 τ169 W169 T169_0 T169_1 T169_2 T169_3 ⟨rfl, rfl, rfl, j169⟩
      unfold w_So_eliminate_169
      intro T18
      intro T19
      obtain ⟨⟨⟨Z2, N2, S2⟩, K2⟩, ⟨r1, r2, er⟩, ⟨c1, c2, ec⟩, ⟨f3, f5⟩, f8, V⟩ := j169
      subst er
      subst ec
      have hat := aT9_c (m := m9) (col := x32_6.toNatClampNeg) (by omega)
      have U := (so_rw9 W Ta0 Z2).2.2.2
      have es : zR τ169 soSum a0 = (zR κ soSum a0) := (soF_r9 Z2 (by decide)).1
      have ec0 : zR τ169 soCalc a0 = (zR κ soCalc a0) := (soF_r9 Z2 (by decide)).1
      have B := nA9_b hm H hX (i := x12_4.toNatClampNeg) (j := aT9 m9 x32_6.toNatClampNeg) (by omega) (by omega) (by omega)
      have B2 := el_n9 hm H hX (i := x12_4.toNatClampNeg) (j := aT9 m9 x32_6.toNatClampNeg) (by omega) (by omega) (by omega)
      refine So_shrink_c W169 T18 T19 ρ (eN9 M9 m9 a1.toNatClampNeg q9 x12_4.toNatClampNeg x32_6.toNatClampNeg) m9 x12_4.toNatClampNeg (aT9 m9 x32_6.toNatClampNeg) q9 ?_ (fun κ_20 q21 => ?_)
      · rw [es, V]
        refine ⟨⟨N2, S2⟩, K2, ⟨hm, by omega, by omega⟩, by rw [f8, U], ⟨p1.1, by omega⟩, ⟨q0, fun z => ?_⟩, B.2.2.1, B2⟩
        rw [eN9_o (by omega)]
        exact q1 z
      intro W22
      intro M23
      intro x24 hx24
      refine ⟨_, ?_, rfl, ?_⟩
      · rw [hn32, hx24, ix.2]; omega  -- d7
      · rw [ec0, es, V] at q21
        obtain ⟨⟨Zs, Ns, Ss⟩, Ks⟩ := q21
        have Ks2 : clI9 ρ κ_20 a0 m9 (fun i j => if i = x12_4.toNatClampNeg ∧ j = aT9 m9 x32_6.toNatClampNeg then nB9 M9 a1.toNatClampNeg q9 x12_4.toNatClampNeg (aT9 m9 x32_6.toNatClampNeg) else eN9 M9 m9 a1.toNatClampNeg q9 x12_4.toNatClampNeg x32_6.toNatClampNeg i j) := Ks
        rw [eN9_s hm (by omega) (by omega) hat] at Ks2
        refine ⟨rfl, rfl, rfl, ⟨⟨Z2.tr Zs, Ns, Ss⟩, ?_⟩, ⟨r1, r2, rfl⟩, ⟨by rw [hx24, ix.2]; omega, by rw [hx24, ix.2]; omega⟩, f3, f5⟩
        rw [hx24, ix.1]
        exact Ks2
    have hj111 : ∀ (l0 : Nat) (l1 : Int32) (l2 : Int32) (l3 : Nat) (l4 : Int32) (l5 : Nat) (l6 : Int32) (l7 : Int32) (l8 : Nat) (l9 : Nat) (l10 : Int32) (τ : zS), zW C (zn κ) τ → zT τ l0 = 12 → zT τ l3 = 8 → zT τ l5 = 8 → zT τ l8 = 8 → zT τ l9 = 8 → (a0 = l0 ∧ a1 = l1 ∧ a2 = l2 ∧ elJ9 ρ κ τ a0 M9 m9 a1.toNatClampNeg q9 l4.toNatClampNeg l6.toNatClampNeg ∧ (a1.toInt < l4.toInt ∧ l4.toInt < a2.toInt ∧ x12_4 = l4) ∧ (a1.toInt < l6.toInt ∧ l6.toInt ≤ a2.toInt ∧ x32_6 = l6) ∧ (l3 = cU9 κ a0 a1.toNatClampNeg a1.toNatClampNeg ∧ l5 = cU9 κ a0 l4.toNatClampNeg a1.toNatClampNeg) ∧ l7.toInt = (aT9 m9 l6.toNatClampNeg : Int) ∧ (l8 = cU9 κ a0 l4.toNatClampNeg (aT9 m9 l6.toNatClampNeg) ∧ l9 = cU9 κ a0 a1.toNatClampNeg (aT9 m9 l6.toNatClampNeg)) ∧ (l10 = 0 → M9 l4.toNatClampNeg a1.toNatClampNeg * M9 a1.toNatClampNeg (aT9 m9 l6.toNatClampNeg) = 0)) → w_So_eliminate_111 C (zn κ) Q (fun (l0' : Nat) (l1' : Int32) (l2' : Int32) (l3' : Nat) (l4' : Int32) (τ : zS) => ∃ k < n12, (fun (n : Nat) (l0 : Nat) (l1 : Int32) (l2 : Int32) (l3 : Nat) (l4 : Int32) (τ : zS) => n = (a2.toInt - l4.toInt).toNat ∧ (a0 = l0 ∧ a1 = l1 ∧ a2 = l2 ∧ elJ9 ρ κ τ a0 M9 m9 a1.toNatClampNeg q9 l4.toNatClampNeg (a1.toNatClampNeg + 1) ∧ (a1.toInt < l4.toInt ∧ l4.toInt ≤ a2.toInt) ∧ l3 = cU9 κ a0 a1.toNatClampNeg a1.toNatClampNeg)) k l0' l1' l2' l3' l4' τ) (fun (l0' : Nat) (l1' : Int32) (l2' : Int32) (l3' : Nat) (l4' : Int32) (l5' : Nat) (l6' : Int32) (τ : zS) => ∃ k < n32, (fun (n : Nat) (l0 : Nat) (l1 : Int32) (l2 : Int32) (l3 : Nat) (l4 : Int32) (l5 : Nat) (l6 : Int32) (τ : zS) => n = (a2.toInt + 1 - l6.toInt).toNat ∧ (a0 = l0 ∧ a1 = l1 ∧ a2 = l2 ∧ elJ9 ρ κ τ a0 M9 m9 a1.toNatClampNeg q9 l4.toNatClampNeg l6.toNatClampNeg ∧ (a1.toInt < l4.toInt ∧ l4.toInt < a2.toInt ∧ x12_4 = l4) ∧ (a1.toInt < l6.toInt ∧ l6.toInt ≤ a2.toInt + 1) ∧ l3 = cU9 κ a0 a1.toNatClampNeg a1.toNatClampNeg ∧ l5 = cU9 κ a0 l4.toNatClampNeg a1.toNatClampNeg)) k l0' l1' l2' l3' l4' l5' l6' τ) l0 l1 l2 l3 l4 l5 l6 l7 l8 l9 l10 τ := by
      rintro _ _ _ y111_3 y111_4 y111_5 y111_6 y111_7 y111_8 y111_9 y111_10 τ111 W111 T111_0 T111_1 T111_2 T111_3 T111_4 ⟨rfl, rfl, rfl, j111⟩
      unfold w_So_eliminate_111
      intro T25
      intro T26
      intro T27
      obtain ⟨⟨⟨Z2, N2, S2⟩, K2⟩, ⟨r1, r2, er⟩, ⟨c1, c2, ec⟩, ⟨f3, f5⟩, f7, ⟨f8, f9⟩, fl⟩ := j111
      subst er
      subst ec
      have hat := aT9_c (m := m9) (col := x32_6.toNatClampNeg) (by omega)
      have U := (so_rw9 W Ta0 Z2).2.2.2
      have es : zR τ111 soSum a0 = (zR κ soSum a0) := (soF_r9 Z2 (by decide)).1
      have et : zR τ111 soTerm a0 = (zR κ soTerm a0) := (soF_r9 Z2 (by decide)).1
      have ec0 : zR τ111 soCalc a0 = (zR κ soCalc a0) := (soF_r9 Z2 (by decide)).1
      have B := nA9_b hm H hX (i := x12_4.toNatClampNeg) (j := aT9 m9 x32_6.toNatClampNeg) (by omega) (by omega) (by omega)
      have k0 := K2.2 a1.toNatClampNeg a1.toNatClampNeg (by omega) (Or.inl (by omega))
      have k1 := K2.2 x12_4.toNatClampNeg (aT9 m9 x32_6.toNatClampNeg) (by omega) (by omega)
      have k2 := K2.2 x12_4.toNatClampNeg a1.toNatClampNeg (by omega) (Or.inl (by omega))
      have k3 := K2.2 a1.toNatClampNeg (aT9 m9 x32_6.toNatClampNeg) (by omega) (by omega)
      have g0 := cl_g9 N2 K2 (i := a1.toNatClampNeg) (j := a1.toNatClampNeg) (by omega) (Or.inl (by omega))
      have g1 := cl_g9 N2 K2 (i := x12_4.toNatClampNeg) (j := aT9 m9 x32_6.toNatClampNeg) (by omega) (by omega)
      have g2 := cl_g9 N2 K2 (i := x12_4.toNatClampNeg) (j := a1.toNatClampNeg) (by omega) (Or.inl (by omega))
      have g3 := cl_g9 N2 K2 (i := a1.toNatClampNeg) (j := aT9 m9 x32_6.toNatClampNeg) (by omega) (by omega)
      rw [U] at k0 k1 k2 k3 g0 g1 g2 g3
      rw [eN9_o (by omega)] at k0 k1 k2 k3
      rw [← f3] at k0 g0
      rw [← f8] at k1 g1
      rw [← f5] at k2 g2
      rw [← f9] at k3 g3
      have gs := nm_g N2 (w := (zR κ soSum a0)) h7 (Or.inl ⟨by decide, by decide⟩) (by decide)
      have gt := nm_g N2 (w := (zR κ soTerm a0)) h6 (Or.inl ⟨by decide, by decide⟩) (by decide)
      have x0 := nuK_lt g0.2.2.1 (k := 24) (by rw [k0.2.2]; exact B.2.2.2.1)
      have x1 := nuK_lt g1.2.2.1 (k := 1960) (by rw [k1.2.2]; exact B.2.2.2.2.2.1)
      have x2 := nuK_lt g2.2.2.1 (k := 24) (by rw [k2.2.2]; exact B.2.2.2.2.1)
      have x3 := nuK_lt g3.2.2.1 (k := 1960) (by rw [k3.2.2]; exact B.2.2.2.2.2.2)
      refine Nu_product_c W111 T25 T26 T27 6500 30000000 30000000 ?_ (fun κ_28 q29 => ?_)
      · rw [es]
        exact ⟨gs.2.2, ⟨g0.2.2.1, g1.2.2.1⟩, ⟨ro_n h7 k0.2.1 (by omega), ro_n h7 k1.2.1 (by omega)⟩, by omega, by decide⟩
      rw [es, k0.2.2, k1.2.2] at q29
      obtain ⟨F1, I1, V1⟩ := q29
      have Zf1 : zF (soF ρ (fun r => r = 7) (zR κ soCalc a0)) τ111 κ_28 := soF_1 h7 F1
      have N28 : nmI ρ κ_28 := nm_1 W111 N2 F1 (by rw [h7]; exact I1)
      have S28 : soI ρ κ_28 a0 := so_1 W111 T111_0 S2 F1
      have K28 := cl_f9 W111 T111_0 N2 Zf1 (fun r h z => by omega) K2
      have Z28 : zF (soF ρ elR9 (zR κ soCalc a0)) κ κ_28 := Z2.tr (soF_m (fun r z => Or.inl (by omega)) Zf1)
      have T28 : zT κ_28 a0 = 12 := F1.t T111_0 (by decide)
      have es28 : zR κ_28 soSum a0 = (zR κ soSum a0) := (soF_r9 Z28 (by decide)).1
      have et28 : zR κ_28 soTerm a0 = (zR κ soTerm a0) := (soF_r9 Z28 (by decide)).1
      have t3 : zT κ_28 y111_3 = 8 := F1.t T111_1 (by decide)
      have t5 : zT κ_28 y111_5 = 8 := F1.t T111_2 (by decide)
      have t8 : zT κ_28 y111_8 = 8 := F1.t T111_3 (by decide)
      intro W30
      intro M31
      refine ⟨fun c32 => ?_, fun c32 => ?_⟩
      · skip
        refine hj169 _ _ _ _ _ _ _ _ _ W30 ?_ ?_ ?_ ?_ ?_
        · assumption  -- t10
        · assumption  -- t11
        · assumption  -- t12
        · assumption  -- t13
        · refine ⟨rfl, rfl, rfl, ⟨⟨Z28, N28, S28⟩, K28⟩, ⟨r1, r2, rfl⟩, ⟨c1, c2, rfl⟩, ⟨f3, f5⟩, f8, ?_⟩
          rw [V1]
          unfold nA9
          rw [fl c32]
          split <;> rfl
      · skip
        intro T33
        intro T34
        intro T35
        have n2 := soF_B (c := 30000000) W111 T111_2 Zf1 (by rw [k2.2.1]; omega)
        have n3 := soF_B (c := 30000000) W111 T111_4 Zf1 (by rw [k3.2.1]; omega)
        have nt := soF_B (c := 6500) (w := (zR κ soTerm a0)) W111 (by rw [← et]; exact ty_soTerm W111 T111_0) Zf1 (by rw [h6]; decide)
        have x28 := nuK_lt I1 (k := 1984) (by rw [V1]; exact B.1)
        have gt28 := nm_g N28 (w := (zR κ soTerm a0)) h6 (Or.inl ⟨by decide, by decide⟩) (by decide)
        refine Nu_product_c W30 T33 T34 T35 6500 30000000 30000000 ?_ (fun κ_36 q37 => ?_)
        · rw [et28, n2.2.2, n3.2.2]
          exact ⟨gt28.2.2, ⟨n2.1 g2.2.2.1, n3.1 g3.2.2.1⟩, ⟨ro_n h6 k2.2.1 (by omega), ro_n h6 k3.2.1 (by omega)⟩, by omega, by decide⟩
        rw [et28, n2.2.1, n3.2.1, k2.2.2, k3.2.2] at q37
        obtain ⟨F2, I2, V2⟩ := q37
        have Zf2 : zF (soF ρ (fun r => r = 6) (zR κ soCalc a0)) κ_28 κ_36 := soF_1 h6 F2
        have N36 : nmI ρ κ_36 := nm_1 W30 N28 F2 (by rw [h6]; exact I2)
        have S36 : soI ρ κ_36 a0 := so_1 W30 T28 S28 F2
        have K36 := cl_f9 W30 T28 N28 Zf2 (fun r h z => by omega) K28
        have Z36 : zF (soF ρ elR9 (zR κ soCalc a0)) κ κ_36 := Z28.tr (soF_m (fun r z => Or.inl (by omega)) Zf2)
        have T36 : zT κ_36 a0 = 12 := F2.t T28 (by decide)
        have es36 : zR κ_36 soSum a0 = (zR κ soSum a0) := (soF_r9 Z36 (by decide)).1
        have et36 : zR κ_36 soTerm a0 = (zR κ soTerm a0) := (soF_r9 Z36 (by decide)).1
        have ns := soF_B (c := 6500) (w := (zR κ soSum a0)) W30 (by rw [← es28]; exact ty_soSum W30 T28) Zf2 (by rw [h7]; decide)
        have x36 := nuK_lt I2 (k := 1984) (by rw [V2]; exact B.2.1)
        have u3 : zT κ_36 y111_3 = 8 := F2.t t3 (by decide)
        have u5 : zT κ_36 y111_5 = 8 := F2.t t5 (by decide)
        have u8 : zT κ_36 y111_8 = 8 := F2.t t8 (by decide)
        intro W38
        intro M39
        refine ⟨fun c40 => ?_, fun c40 => ?_⟩
        · skip
          intro T41
          intro T42
          refine Nu_plus_c W38 T41 T42 6500 30000000 ?_ (fun κ_43 q44 => ?_)
          · rw [es36, et36, ns.2.2]
            exact ⟨ns.1 I1, nuI_mono (by decide) I2, ro_n h7 h6 (by decide), ⟨by omega, by omega⟩, by decide⟩
          intro W45
          intro M46
          refine hj169 _ _ _ _ _ _ _ _ _ W45 ?_ ?_ ?_ ?_ ?_
          · exact M46.1 _ _ (Or.inr (by decide)) T36  -- t17
          · exact M46.1 _ _ (Or.inr (by decide)) u3  -- t18
          · exact M46.1 _ _ (Or.inr (by decide)) u5  -- t19
          · exact M46.1 _ _ (Or.inr (by decide)) u8  -- t20
          · rw [es36, et36, ns.2.1, V1, V2] at q44
            obtain ⟨F3, I3, V3⟩ := q44
            have Zf3 : zF (soF ρ (fun r => r = 7) (zR κ soCalc a0)) κ_36 κ_43 := soF_1 h7 F3
            refine ⟨rfl, rfl, rfl, ⟨⟨Z36.tr (soF_m (fun r z => Or.inl (by omega)) Zf3), nm_1 W38 N36 F3 (by rw [h7]; exact I3), so_1 W38 T36 S36 F3⟩, cl_f9 W38 T36 N36 Zf3 (fun r h z => by omega) K36⟩, ⟨r1, r2, rfl⟩, ⟨c1, c2, rfl⟩, ⟨f3, f5⟩, f8, ?_⟩
            rw [V3]
            unfold nA9
            rw [if_neg (fun z => c40 (Int32.toInt.inj (by rw [f7, ← z]; exact kr)))]
        · skip
          intro T47
          intro T48
          refine Nu_minus_c W38 T47 T48 6500 30000000 ?_ (fun κ_49 q50 => ?_)
          · rw [es36, et36, ns.2.1, V1, V2]
            have ea : aT9 m9 x32_6.toNatClampNeg = x12_4.toNatClampNeg := by rw [c40] at f7; omega
            refine ⟨ns.1 I1, nuI_mono (by decide) I2, ro_n h7 h6 (by decide), ?_⟩
            rw [ea]
            exact (dom_9 (q := q9) (fun j a b => (H.2.1 j a b).1) (by omega) (by omega)).2
          intro W51
          intro M52
          refine hj169 _ _ _ _ _ _ _ _ _ W51 ?_ ?_ ?_ ?_ ?_
          · exact M52.1 _ _ (Or.inr (by decide)) T36  -- t23
          · exact M52.1 _ _ (Or.inr (by decide)) u3  -- t24
          · exact M52.1 _ _ (Or.inr (by decide)) u5  -- t25
          · exact M52.1 _ _ (Or.inr (by decide)) u8  -- t26
          · rw [es36, et36, ns.2.1, V1, V2] at q50
            obtain ⟨F3, I3, V3⟩ := q50
            have Zf3 : zF (soF ρ (fun r => r = 7) (zR κ soCalc a0)) κ_36 κ_49 := soF_1 h7 F3
            refine ⟨rfl, rfl, rfl, ⟨⟨Z36.tr (soF_m (fun r z => Or.inl (by omega)) Zf3), nm_1 W38 N36 F3 (by rw [h7]; exact I3), so_1 W38 T36 S36 F3⟩, cl_f9 W38 T36 N36 Zf3 (fun r h z => by omega) K36⟩, ⟨r1, r2, rfl⟩, ⟨c1, c2, rfl⟩, ⟨f3, f5⟩, f8, ?_⟩
            rw [V3]
            unfold nA9
            rw [if_pos (by rw [c40] at f7; omega)]
    have hj93 : ∀ (l0 : Nat) (l1 : Int32) (l2 : Int32) (l3 : Nat) (l4 : Int32) (l5 : Nat) (l6 : Int32) (l7 : Int32) (l8 : Nat) (l9 : Nat) (s0 : Int32) (τ : zS), zW C (zn κ) τ → zT τ l0 = 12 → zT τ l3 = 8 → zT τ l5 = 8 → zT τ l8 = 8 → zT τ l9 = 8 → (a0 = l0 ∧ a1 = l1 ∧ a2 = l2 ∧ elJ9 ρ κ τ a0 M9 m9 a1.toNatClampNeg q9 l4.toNatClampNeg l6.toNatClampNeg ∧ (a1.toInt < l4.toInt ∧ l4.toInt < a2.toInt ∧ x12_4 = l4) ∧ (a1.toInt < l6.toInt ∧ l6.toInt ≤ a2.toInt ∧ x32_6 = l6) ∧ (l3 = cU9 κ a0 a1.toNatClampNeg a1.toNatClampNeg ∧ l5 = cU9 κ a0 l4.toNatClampNeg a1.toNatClampNeg) ∧ l7.toInt = (aT9 m9 l6.toNatClampNeg : Int) ∧ (l8 = cU9 κ a0 l4.toNatClampNeg (aT9 m9 l6.toNatClampNeg) ∧ l9 = cU9 κ a0 a1.toNatClampNeg (aT9 m9 l6.toNatClampNeg)) ∧ (s0 = 0 → M9 l4.toNatClampNeg a1.toNatClampNeg * M9 a1.toNatClampNeg (aT9 m9 l6.toNatClampNeg) = 0)) → w_So_eliminate_93 C (zn κ) Q (fun (l0' : Nat) (l1' : Int32) (l2' : Int32) (l3' : Nat) (l4' : Int32) (τ : zS) => ∃ k < n12, (fun (n : Nat) (l0 : Nat) (l1 : Int32) (l2 : Int32) (l3 : Nat) (l4 : Int32) (τ : zS) => n = (a2.toInt - l4.toInt).toNat ∧ (a0 = l0 ∧ a1 = l1 ∧ a2 = l2 ∧ elJ9 ρ κ τ a0 M9 m9 a1.toNatClampNeg q9 l4.toNatClampNeg (a1.toNatClampNeg + 1) ∧ (a1.toInt < l4.toInt ∧ l4.toInt ≤ a2.toInt) ∧ l3 = cU9 κ a0 a1.toNatClampNeg a1.toNatClampNeg)) k l0' l1' l2' l3' l4' τ) (fun (l0' : Nat) (l1' : Int32) (l2' : Int32) (l3' : Nat) (l4' : Int32) (l5' : Nat) (l6' : Int32) (τ : zS) => ∃ k < n32, (fun (n : Nat) (l0 : Nat) (l1 : Int32) (l2 : Int32) (l3 : Nat) (l4 : Int32) (l5 : Nat) (l6 : Int32) (τ : zS) => n = (a2.toInt + 1 - l6.toInt).toNat ∧ (a0 = l0 ∧ a1 = l1 ∧ a2 = l2 ∧ elJ9 ρ κ τ a0 M9 m9 a1.toNatClampNeg q9 l4.toNatClampNeg l6.toNatClampNeg ∧ (a1.toInt < l4.toInt ∧ l4.toInt < a2.toInt ∧ x12_4 = l4) ∧ (a1.toInt < l6.toInt ∧ l6.toInt ≤ a2.toInt + 1) ∧ l3 = cU9 κ a0 a1.toNatClampNeg a1.toNatClampNeg ∧ l5 = cU9 κ a0 l4.toNatClampNeg a1.toNatClampNeg)) k l0' l1' l2' l3' l4' l5' l6' τ) l0 l1 l2 l3 l4 l5 l6 l7 l8 l9 s0 τ := by
      rintro _ _ _ y93_3 y93_4 y93_5 y93_6 y93_7 y93_8 y93_9 y93_s0 τ93 W93 T93_0 T93_1 T93_2 T93_3 T93_4 ⟨rfl, rfl, rfl, j93⟩
      unfold w_So_eliminate_93
      refine ⟨fun c53 => ?_, fun c53 => ?_⟩
      · skip
        refine hj111 _ _ _ _ _ _ _ _ _ _ _ _ W93 ?_ ?_ ?_ ?_ ?_ ?_
        · assumption  -- t28
        · assumption  -- t29
        · assumption  -- t30
        · assumption  -- t31
        · assumption  -- t32
        · exact ⟨rfl, rfl, rfl, j93⟩  -- k33
      · skip
        refine ⟨fun c54 => ?_, fun c54 => ?_⟩
        · skip
          refine hj111 _ _ _ _ _ _ _ _ _ _ _ _ W93 ?_ ?_ ?_ ?_ ?_ ?_
          · assumption  -- t34
          · assumption  -- t35
          · assumption  -- t36
          · assumption  -- t37
          · assumption  -- t38
          · exact ⟨rfl, rfl, rfl, j93⟩  -- k39
        · skip
          intro x55 hx55
          obtain ⟨⟨⟨Z2, N2, S2⟩, K2⟩, ⟨r1, r2, er⟩, ⟨c1, c2, ec⟩, ⟨f3, f5⟩, f7, ⟨f8, f9⟩, fl⟩ := j93
          subst er
          subst ec
          refine ⟨_, ?_, rfl, ?_⟩
          · rw [hn32, hx55, ix.2]; omega  -- d40
          · have hat := aT9_c (m := m9) (col := x32_6.toNatClampNeg) (by omega)
            have U := (so_rw9 W Ta0 Z2).2.2.2
            have k1 := K2.2 x12_4.toNatClampNeg (aT9 m9 x32_6.toNatClampNeg) (by omega) (by omega)
            have g1 := cl_g9 N2 K2 (i := x12_4.toNatClampNeg) (j := aT9 m9 x32_6.toNatClampNeg) (by omega) (by omega)
            rw [U, ← f8] at k1 g1
            have z := nu_00 g1.2.2.1 (by rw [c53]; exact Int.le_refl _)
            rw [k1.2.2] at z
            refine ⟨rfl, rfl, rfl, ⟨⟨Z2, N2, S2⟩, ?_⟩, ⟨r1, r2, rfl⟩, ⟨by rw [hx55, ix.2]; omega, by rw [hx55, ix.2]; omega⟩, f3, f5⟩
            rw [hx55, ix.1, ← eN9_s hm (by omega) (by omega) hat]
            refine cl_eq9 K2 (fun i j _ _ => ?_)
            by_cases y : i = x12_4.toNatClampNeg ∧ j = aT9 m9 x32_6.toNatClampNeg
            · rw [if_pos y, y.1, y.2, z]
              rw [eN9_o (by omega)] at z
              unfold nB9
              rw [z, fl c54, Nat.mul_zero]
              split <;> rw [Nat.zero_div]
            · rw [if_neg y]
    have hj51 : ∀ (l0 : Nat) (l1 : Int32) (l2 : Int32) (l3 : Nat) (l4 : Int32) (l5 : Nat) (l6 : Int32) (s0 : Int32) (τ : zS), zW C (zn κ) τ → zT τ l0 = 12 → zT τ l3 = 8 → zT τ l5 = 8 → (a0 = l0 ∧ a1 = l1 ∧ a2 = l2 ∧ elJ9 ρ κ τ a0 M9 m9 a1.toNatClampNeg q9 l4.toNatClampNeg l6.toNatClampNeg ∧ (a1.toInt < l4.toInt ∧ l4.toInt < a2.toInt ∧ x12_4 = l4) ∧ (a1.toInt < l6.toInt ∧ l6.toInt ≤ a2.toInt ∧ x32_6 = l6) ∧ (l3 = cU9 κ a0 a1.toNatClampNeg a1.toNatClampNeg ∧ l5 = cU9 κ a0 l4.toNatClampNeg a1.toNatClampNeg) ∧ s0.toInt = (aT9 m9 l6.toNatClampNeg : Int)) → w_So_eliminate_51 C (zn κ) Q (fun (l0' : Nat) (l1' : Int32) (l2' : Int32) (l3' : Nat) (l4' : Int32) (τ : zS) => ∃ k < n12, (fun (n : Nat) (l0 : Nat) (l1 : Int32) (l2 : Int32) (l3 : Nat) (l4 : Int32) (τ : zS) => n = (a2.toInt - l4.toInt).toNat ∧ (a0 = l0 ∧ a1 = l1 ∧ a2 = l2 ∧ elJ9 ρ κ τ a0 M9 m9 a1.toNatClampNeg q9 l4.toNatClampNeg (a1.toNatClampNeg + 1) ∧ (a1.toInt < l4.toInt ∧ l4.toInt ≤ a2.toInt) ∧ l3 = cU9 κ a0 a1.toNatClampNeg a1.toNatClampNeg)) k l0' l1' l2' l3' l4' τ) (fun (l0' : Nat) (l1' : Int32) (l2' : Int32) (l3' : Nat) (l4' : Int32) (l5' : Nat) (l6' : Int32) (τ : zS) => ∃ k < n32, (fun (n : Nat) (l0 : Nat) (l1 : Int32) (l2 : Int32) (l3 : Nat) (l4 : Int32) (l5 : Nat) (l6 : Int32) (τ : zS) => n = (a2.toInt + 1 - l6.toInt).toNat ∧ (a0 = l0 ∧ a1 = l1 ∧ a2 = l2 ∧ elJ9 ρ κ τ a0 M9 m9 a1.toNatClampNeg q9 l4.toNatClampNeg l6.toNatClampNeg ∧ (a1.toInt < l4.toInt ∧ l4.toInt < a2.toInt ∧ x12_4 = l4) ∧ (a1.toInt < l6.toInt ∧ l6.toInt ≤ a2.toInt + 1) ∧ l3 = cU9 κ a0 a1.toNatClampNeg a1.toNatClampNeg ∧ l5 = cU9 κ a0 l4.toNatClampNeg a1.toNatClampNeg)) k l0' l1' l2' l3' l4' l5' l6' τ) l0 l1 l2 l3 l4 l5 l6 s0 τ := by
      rintro _ _ _ y51_3 y51_4 y51_5 y51_6 y51_s0 τ51 W51 T51_0 T51_1 T51_2 ⟨rfl, rfl, rfl, j51⟩
      unfold w_So_eliminate_51
      intro T56
      obtain ⟨⟨⟨Z2, N2, S2⟩, K2⟩, ⟨r1, r2, er⟩, ⟨c1, c2, ec⟩, ⟨f3, f5⟩, f7⟩ := j51
      subst er
      subst ec
      have hat := aT9_c (m := m9) (col := x32_6.toNatClampNeg) (by omega)
      have U := (so_rw9 W Ta0 Z2).2.2.2
      have ks := cnk (x := y51_s0) (by omega)
      have e7 : y51_s0.toNatClampNeg = aT9 m9 x32_6.toNatClampNeg := by omega
      refine So_cell_c2 W51 T56  ?_ (fun r57 q59 => ?_)
      · rw [e7]
        exact ⟨K2.1, ⟨by omega, by omega⟩, ⟨by omega, by omega⟩, (K2.2 _ _ (by omega) (by omega)).1⟩
      intro W60
      intro M61
      intro T62
      intro T63
      refine So_cell_c2 W60 T63  ?_ (fun r64 q66 => ?_)
      · rw [e7]
        exact ⟨K2.1, ⟨p1.1, by omega⟩, ⟨by omega, by omega⟩, (K2.2 _ _ (by omega) (by omega)).1⟩
      intro W67
      intro M68
      intro T69
      rw [e7, U] at q59 q66
      have k2 := K2.2 x12_4.toNatClampNeg a1.toNatClampNeg (by omega) (Or.inl (by omega))
      have k3 := K2.2 a1.toNatClampNeg (aT9 m9 x32_6.toNatClampNeg) (by omega) (by omega)
      have g2 := cl_g9 N2 K2 (i := x12_4.toNatClampNeg) (j := a1.toNatClampNeg) (by omega) (Or.inl (by omega))
      have g3 := cl_g9 N2 K2 (i := a1.toNatClampNeg) (j := aT9 m9 x32_6.toNatClampNeg) (by omega) (by omega)
      rw [U] at k2 k3 g2 g3
      rw [eN9_o (by omega)] at k2 k3
      rw [← f5] at k2 g2
      rw [← q66] at k3 g3
      refine ⟨fun c70 => ?_, fun c70 => ?_⟩
      · skip
        refine hj93 _ _ _ _ _ _ _ _ _ _ _ _ W67 ?_ ?_ ?_ ?_ ?_ ?_
        · assumption  -- t44
        · assumption  -- t45
        · assumption  -- t46
        · assumption  -- t47
        · assumption  -- t48
        · refine ⟨rfl, rfl, rfl, ⟨⟨Z2, N2, S2⟩, K2⟩, ⟨r1, r2, rfl⟩, ⟨c1, c2, rfl⟩, ⟨f3, f5⟩, f7, ⟨q59, q66⟩, fun _ => ?_⟩
          rw [lei, t0i] at c70
          have z := nu_00 g2.2.2.1 c70
          rw [k2.2.2] at z
          rw [z, Nat.zero_mul]
      · skip
        refine ⟨fun c71 => ?_, fun c71 => ?_⟩
        · skip
          refine hj93 _ _ _ _ _ _ _ _ _ _ _ _ W67 ?_ ?_ ?_ ?_ ?_ ?_
          · assumption  -- t50
          · assumption  -- t51
          · assumption  -- t52
          · assumption  -- t53
          · assumption  -- t54
          · refine ⟨rfl, rfl, rfl, ⟨⟨Z2, N2, S2⟩, K2⟩, ⟨r1, r2, rfl⟩, ⟨c1, c2, rfl⟩, ⟨f3, f5⟩, f7, ⟨q59, q66⟩, fun _ => ?_⟩
            rw [lei, t0i] at c71
            have z := nu_00 g3.2.2.1 c71
            rw [k3.2.2] at z
            rw [z, Nat.mul_zero]
        · skip
          refine hj93 _ _ _ _ _ _ _ _ _ _ _ _ W67 ?_ ?_ ?_ ?_ ?_ ?_
          · assumption  -- t56
          · assumption  -- t57
          · assumption  -- t58
          · assumption  -- t59
          · assumption  -- t60
          · exact ⟨rfl, rfl, rfl, ⟨⟨Z2, N2, S2⟩, K2⟩, ⟨r1, r2, rfl⟩, ⟨c1, c2, rfl⟩, ⟨f3, f5⟩, f7, ⟨q59, q66⟩, fun z => absurd z (by decide)⟩  -- k61
    refine ⟨fun c72 => ?_, fun c72 => ?_⟩
    · skip
      intro x73 hx73
      refine ⟨_, ?_, rfl, ?_⟩
      · rw [lti] at c72
        have iy := cn1 (x := x12_4) (by omega) (by omega)
        rw [hn12, hx73, iy.2]; omega
      · rw [lti] at c72
        have iy := cn1 (x := x12_4) (by omega) (by omega)
        obtain ⟨⟨Z2, N2, S2⟩, K2⟩ := J2
        refine ⟨rfl, rfl, rfl, ⟨⟨Z2, N2, S2⟩, ?_⟩, ⟨by rw [hx73, iy.2]; omega, by rw [hx73, iy.2]; omega⟩, e3⟩
        have e : x32_6.toNatClampNeg = m9 + 1 := by omega
        rw [e, eN9_r hm (by omega) (by omega)] at K2
        rw [hx73, iy.1]
        exact K2
    · skip
      refine ⟨fun c74 => ?_, fun c74 => ?_⟩
      · skip
        refine hj51 _ _ _ _ _ _ _ _ _ W32 ?_ ?_ ?_ ?_
        · assumption  -- t64
        · assumption  -- t65
        · assumption  -- t66
        · rw [lti] at c72
          rw [lei] at c74
          refine ⟨rfl, rfl, rfl, J2, ⟨l41, l42, rfl⟩, ⟨l6.1, by omega, rfl⟩, ⟨e3, e5⟩, ?_⟩
          unfold aT9
          rw [if_pos (by omega)]
          rfl
      · skip
        refine hj51 _ _ _ _ _ _ _ _ _ W32 ?_ ?_ ?_ ?_
        · assumption  -- t68
        · assumption  -- t69
        · assumption  -- t70
        · rw [lti] at c72
          rw [lei] at c74
          refine ⟨rfl, rfl, rfl, J2, ⟨l41, l42, rfl⟩, ⟨l6.1, by omega, rfl⟩, ⟨e3, e5⟩, ?_⟩
          unfold aT9
          rw [if_neg (by omega)]
          exact kc.symm
