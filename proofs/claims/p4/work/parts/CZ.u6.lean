set_option maxHeartbeats 1600000
/-! the class: Solver's putBack -/
def gE9 (r : Nat) : Nat := 6 * (31 - r) + 23 * (496 - r * (r + 1) / 2)
theorem gE9_s : ∀ r, r < 31 → gE9 r = gE9 (r + 1) + (6 + 23 * (r + 1)) := by decide
theorem gE9_0 : gE9 0 = 11594 := by decide
theorem pb_b9 {S E r k : Nat} (hk : k ≤ 31) (hr : r < 31) (h : S ≤ E + k * (8000000 ^ (r + 1) * (E * 2 ^ gE9 (r + 1)))) : S ≤ E * 2 ^ gE9 r := by
  have e : 2 ^ gE9 r = 2 ^ gE9 (r + 1) * (2 ^ 6 * 2 ^ (23 * (r + 1))) := by rw [gE9_s r hr, Nat.pow_add, Nat.pow_add]
  have d : 8000000 ^ (r + 1) ≤ 2 ^ (23 * (r + 1)) := by
    rw [Nat.pow_mul]
    exact Nat.pow_le_pow_left (by decide) _
  have p1 : 0 < 8000000 ^ (r + 1) := Nat.pow_pos (by decide)
  have p2 : 0 < 2 ^ gE9 (r + 1) := Nat.pow_pos (by decide)
  generalize 8000000 ^ (r + 1) = A at *
  generalize 2 ^ gE9 (r + 1) = B at *
  generalize 2 ^ (23 * (r + 1)) = C at *
  have t : E ≤ A * (E * B) := by
    rw [← Nat.mul_assoc, Nat.mul_comm A E, Nat.mul_assoc]
    exact Nat.le_mul_of_pos_right _ (Nat.mul_pos p1 p2)
  have t2 : k * (A * (E * B)) ≤ 31 * (A * (E * B)) := Nat.mul_le_mul_right _ hk
  have t3 : A * (E * B) ≤ C * (E * B) := Nat.mul_le_mul_right _ d
  have e2 : E * (B * (2 ^ 6 * C)) = 64 * (C * (E * B)) := by
    rw [show (2 : Nat) ^ 6 = 64 from rfl]
    simp only [Nat.mul_assoc, Nat.mul_comm, Nat.mul_left_comm]
  rw [e, e2]
  omega
theorem gE9_m {E r : Nat} (h : r < 31) : E * 2 ^ gE9 (r + 1) ≤ E * 2 ^ gE9 r := Nat.mul_le_mul_left _ (Nat.pow_le_pow_right (by decide) (by rw [gE9_s r h]; omega))
theorem gE9_z {r : Nat} (h : r ≤ 31) : gE9 r ≤ gE9 0 := by
  unfold gE9
  have a : 6 * (31 - r) ≤ 6 * (31 - 0) := by omega
  have b : 23 * (496 - r * (r + 1) / 2) ≤ 23 * (496 - 0 * (0 + 1) / 2) := by omega
  omega
theorem dm_9 {x : Int32} (h : 0 ≤ x.toInt) : (x + -1).toInt = x.toInt - 1 := by
  have tm : (-1 : Int32).toInt = -1 := rfl
  have hi := ihi x
  have q := add_i (x := x) (y := -1) (by rw [tm]; omega) (by rw [tm]; omega)
  rw [tm] at q
  omega
theorem So_putBack_c {C : zC} {n0 : Nat} {a0 : Nat} {a1 : Int32} {a2 : Nat} {κ : zS} {Q : zS → Prop} (W : zW C n0 κ) (Ta0 : zT κ a0 = 12) (Ta2 : zT κ a2 = 8) (ρ : Nat → Nat) (M9 : Nat → Nat → Nat) (m9 E9 : Nat) (hp : (nmI ρ κ ∧ soI ρ κ a0) ∧ clI9 ρ κ a0 m9 M9 ∧ (1 ≤ m9 ∧ m9 ≤ 32 ∧ a1.toInt = (m9 : Int)) ∧ a2 = cU9 κ a0 (m9 - 1) (m9 - 1) ∧ (∀ r c, r < m9 → r ≤ c → c < m9 → M9 r c ≤ 8000000 ^ (r + 1)) ∧ (∀ r, r < m9 → M9 r 32 * 8000000 ^ 32 ≤ E9) ∧ E9 * 2 ^ gE9 0 < pB9 1960) (h : ∀ (κ' : zS), ((zF (soF ρ elR9 (zR κ soCalc a0)) κ κ' ∧ nmI ρ κ' ∧ soI ρ κ' a0) ∧ ∃ M' : Nat → Nat → Nat, clI9 ρ κ' a0 m9 M' ∧ (∀ i j, j ≠ 32 → M' i j = M9 i j) ∧ ∀ i, i < m9 → M' i 32 < pB9 1960) → Q κ') : zRun C 4 mSo_putBack [.ref a0, .int a1, .ref a2] κ (oV Q noX) := by
  refine So_putBack_run W Ta0 Ta2 ?_
  replace W := W.lo (Nat.le_trans W.1.2.1 W.1.2.2) (Nat.le_refl (zn κ))
  unfold w_So_putBack_0
  obtain ⟨⟨N0, S0⟩, K0, ⟨m1, hm, m2⟩, ha, b1, b2, b3⟩ := hp
  have h7 := S0.1.2.2.2.2.1
  have h6 := S0.1.2.2.2.1
  have t32 : (32 : Int32).toNatClampNeg = 32 := by decide
  have t2 : (2 : Int32).toInt = 2 := rfl
  have tm : (-1 : Int32).toInt = -1 := rfl
  have pD : 0 < 8000000 ^ 32 := Nat.pow_pos (by decide)
  have bE : ∀ r, r < m9 → M9 r 32 ≤ E9 := fun r hr => Nat.le_trans (Nat.le_mul_of_pos_right _ pD) (b2 r hr)
  have cA : M9 (m9 - 1) (m9 - 1) ≤ 8000000 ^ 32 := Nat.le_trans (b1 _ _ (by omega) (Nat.le_refl _) (by omega)) (Nat.pow_le_pow_right (by decide) (by omega))
  intro x1 hx1
  have hx : x1.toInt = a1.toInt - 2 := by
    have q := sub_i (x := a1) (y := 2) (by rw [t2]; omega) (by rw [t2]; omega)
    rw [t2] at q
    rw [hx1]
    exact q
  unfold w_So_putBack_4
  refine ⟨fun n l0 l1 l2 l3 τ => n = (l3.toInt + 1).toNat ∧ (a0 = l0 ∧ a1 = l1 ∧ a2 = l2 ∧ (zF (soF ρ elR9 (zR κ soCalc a0)) κ τ ∧ nmI ρ τ ∧ soI ρ τ a0) ∧ (-1 ≤ l3.toInt ∧ l3.toInt + 1 < m9) ∧ ∃ M' : Nat → Nat → Nat, clI9 ρ τ a0 m9 M' ∧ (∀ i j, j ≠ 32 → M' i j = M9 i j) ∧ (∀ i : Nat, (i : Int) ≤ l3.toInt → M' i 32 = M9 i 32) ∧ ∀ i : Nat, l3.toInt < (i : Int) → i < m9 → M' i 32 ≤ E9 * 2 ^ gE9 (l3.toInt + 1).toNat), ⟨_, rfl, ?_⟩, ?_⟩
  · refine ⟨rfl, rfl, rfl, ⟨zF.rf, N0, S0⟩, ⟨by omega, by omega⟩, M9, K0, fun _ _ _ => rfl, fun _ _ => rfl, fun i h1 h2 => ?_⟩
    exact Nat.le_trans (bE i h2) (Nat.le_mul_of_pos_right _ (Nat.pow_pos (by decide)))
  rintro n4 _ _ _ x4_3 κ4 W4 T4_0 T4_1 ⟨hn4, rfl, rfl, rfl, i4⟩
  obtain ⟨⟨Z1, N1, S1⟩, l1, M1, K1, e1, e2, e3⟩ := i4
  refine ⟨fun c2 => ?_, fun c2 => ?_⟩
  · skip
    refine h _ ?_
    · rw [lti, t0i] at c2
      refine ⟨⟨Z1, N1, S1⟩, M1, K1, e1, fun i hi => ?_⟩
      have q := e3 i (by omega) hi
      rw [show (x4_3.toInt + 1).toNat = 0 by omega] at q
      exact Nat.lt_of_le_of_lt q b3
  · skip
    intro T3
    rw [lti, t0i] at c2
    have c2' : 0 ≤ x4_3.toInt := by omega
    have kr := cnk (x := x4_3) (by omega)
    have er : (x4_3.toInt + 1).toNat = x4_3.toNatClampNeg + 1 := by omega
    have U1 := (so_rw9 W Ta0 Z1).2.2.2
    refine So_cell_c2 W4 T3  ?_ (fun r4 q6 => ?_)
    · rw [t32]
      exact ⟨K1.1, ⟨by omega, by omega⟩, ⟨by decide, by decide⟩, (K1.2 _ _ (by omega) (Or.inr rfl)).1⟩
    intro W7
    intro M8
    intro T9
    intro T10
    intro T11
    intro T12
    rw [t32, U1] at q6
    have es1 : zR κ4 soSum a0 = (zR κ soSum a0) := (soF_r9 Z1 (by decide)).1
    have ec1 : zR κ4 soCalc a0 = (zR κ soCalc a0) := (soF_r9 Z1 (by decide)).1
    have kA := K1.2 (m9 - 1) (m9 - 1) (by omega) (Or.inl (by omega))
    have gA := cl_g9 N1 K1 (i := m9 - 1) (j := m9 - 1) (by omega) (Or.inl (by omega))
    have kR := K1.2 x4_3.toNatClampNeg 32 (by omega) (Or.inr rfl)
    have gR := cl_g9 N1 K1 (i := x4_3.toNatClampNeg) (j := 32) (by omega) (Or.inr rfl)
    rw [U1, ← ha, e1 _ _ (by omega)] at kA
    rw [U1, ← ha] at gA
    rw [U1, ← q6, e2 _ (by omega)] at kR
    rw [U1, ← q6] at gR
    have gs1 := nm_g N1 (w := (zR κ soSum a0)) h7 (Or.inl ⟨by decide, by decide⟩) (by decide)
    have xA := nuK_lt gA.2.2.1 (k := 24) (by rw [kA.2.2]; exact Nat.lt_of_le_of_lt cA (dp_9 (by decide)))
    have xE : E9 < pB9 1960 := Nat.lt_of_le_of_lt (Nat.le_mul_of_pos_right _ (Nat.pow_pos (by decide))) b3
    have xR := nuK_lt gR.2.2.1 (k := 1960) (by rw [kR.2.2]; exact Nat.lt_of_le_of_lt (bE _ (by omega)) xE)
    refine Nu_product_c W7 T10 T11 T12 6500 30000000 30000000 ?_ (fun κ_13 q14 => ?_)
    · rw [es1]
      exact ⟨gs1.2.2, ⟨gA.2.2.1, gR.2.2.1⟩, ⟨ro_n h7 kA.2.1 (by omega), ro_n h7 kR.2.1 (by omega)⟩, by omega, by decide⟩
    intro W15
    intro M16
    intro x17 hx17
    rw [es1, kA.2.2, kR.2.2] at q14
    obtain ⟨F1, I1, V1⟩ := q14
    have Zf1 : zF (soF ρ (fun r => r = 7) (zR κ soCalc a0)) κ4 κ_13 := soF_1 h7 F1
    have N13 : nmI ρ κ_13 := nm_1 W4 N1 F1 (by rw [h7]; exact I1)
    have S13 : soI ρ κ_13 a0 := so_1 W4 T4_0 S1 F1
    have K13 := cl_f9 W4 T4_0 N1 Zf1 (fun r h z => by omega) K1
    have Z13 : zF (soF ρ elR9 (zR κ soCalc a0)) κ κ_13 := Z1.tr (soF_m (fun r z => Or.inl (by omega)) Zf1)
    have ix := cn1 (x := x4_3) (by omega) (by omega)
    unfold w_So_putBack_32
    refine ⟨fun n l0 l1 l2 l3 l4 l5 τ => n = (a1.toInt - l5.toInt).toNat ∧ (a0 = l0 ∧ a1 = l1 ∧ a2 = l2 ∧ (zF (soF ρ elR9 (zR κ soCalc a0)) κ τ ∧ nmI ρ τ ∧ soI ρ τ a0) ∧ x4_3 = l3 ∧ (l3.toInt < l5.toInt ∧ l5.toInt ≤ a1.toInt) ∧ clI9 ρ τ a0 m9 M1 ∧ l4 = cU9 κ a0 l3.toNatClampNeg 32 ∧ nuN τ (zR κ soSum a0) ≤ E9 + (l5.toInt - l3.toInt - 1).toNat * (8000000 ^ (l3.toNatClampNeg + 1) * (E9 * 2 ^ gE9 (l3.toNatClampNeg + 1)))), ⟨_, rfl, ?_⟩, ?_⟩
    · refine ⟨rfl, rfl, rfl, ⟨Z13, N13, S13⟩, rfl, ⟨by rw [hx17, ix.2]; omega, by rw [hx17, ix.2]; omega⟩, K13, q6, ?_⟩
      refine Nat.le_trans ?_ (Nat.le_add_right _ _)
      rw [V1, Nat.mul_comm]
      exact Nat.le_trans (Nat.mul_le_mul_left _ cA) (b2 _ (by omega))
    rintro n32 _ _ _ x32_3 x32_4 x32_5 κ32 W32 T32_0 T32_1 T32_2 ⟨hn32, rfl, rfl, rfl, i32⟩
    obtain ⟨⟨Z2, N2, S2⟩, el, l5, K2, f4, VS⟩ := i32
    subst el
    have kc := cnk (x := x32_5) (by omega)
    have U2 := (so_rw9 W Ta0 Z2).2.2.2
    have es2 : zR κ32 soSum a0 = (zR κ soSum a0) := (soF_r9 Z2 (by decide)).1
    have et2 : zR κ32 soTerm a0 = (zR κ soTerm a0) := (soF_r9 Z2 (by decide)).1
    have ec2 : zR κ32 soCalc a0 = (zR κ soCalc a0) := (soF_r9 Z2 (by decide)).1
    have bS := pb_b9 (by omega) (by omega) VS
    have lS : nuN κ32 (zR κ soSum a0) < pB9 1960 := Nat.lt_of_le_of_lt (Nat.le_trans bS (Nat.mul_le_mul_left _ (Nat.pow_le_pow_right (by decide) (gE9_z (by omega))))) b3
    have gs2 := nm_g N2 (w := (zR κ soSum a0)) h7 (Or.inl ⟨by decide, by decide⟩) (by decide)
    have kS := nuK_lt gs2.1 lS
    have k32 := K2.2 x4_3.toNatClampNeg 32 (by omega) (Or.inr rfl)
    have g32 := cl_g9 N2 K2 (i := x4_3.toNatClampNeg) (j := 32) (by omega) (Or.inr rfl)
    rw [U2, ← f4] at k32 g32
    refine ⟨fun c18 => ?_, fun c18 => ?_⟩
    · skip
      intro T19
      refine So_cell_c2 W32 T19  ?_ (fun r20 q22 => ?_)
      · rw [lei] at c18
        exact ⟨K2.1, ⟨by omega, by omega⟩, ⟨by omega, by omega⟩, (K2.2 _ _ (by omega) (Or.inl (by omega))).1⟩
      intro W23
      intro M24
      intro T25
      intro T26
      intro T27
      intro T28
      rw [U2] at q22
      have kp := K2.2 x4_3.toNatClampNeg x4_3.toNatClampNeg (by omega) (Or.inl (by omega))
      have gp := cl_g9 N2 K2 (i := x4_3.toNatClampNeg) (j := x4_3.toNatClampNeg) (by omega) (Or.inl (by omega))
      rw [U2, ← q22] at kp gp
      have ci := so_ca N2 S2
      unfold caI caN caK at ci
      have o1 := (caS_n (so_o S2 (w := zR κ32 soSum a0) S2.1.2.2.2.2.1 (by decide))).1
      have o2 := (caS_n (so_o S2 kp.2.1 (by omega))).1
      refine Ca_divide_c W23 T26 T27 T28 6500 ?_ (fun κ_29 q30 => ?_)
      · rw [es2] at o1 ⊢
        exact ⟨⟨ci.2.1.1, ci.2.1.2.1, ci.2.1.2.2.1⟩, ⟨gs2.2.1, gp.2.2.1⟩, ci.1.1, o1, o2, by omega, by decide⟩
      have D := nm_d (a := a0) W32 T32_0 N2 S2 q30
      have Zd0 : zF (soF ρ (fun r => r = 10) (zR κ32 soCalc a0)) κ32 κ_29 := soF_p (fun b z => S2.2.2.1 b ((show b = _ ∨ b = _ ∨ b = _ from z).elim Or.inl (fun z => z.elim (fun y => Or.inr (Or.inl y)) (fun y => Or.inr (Or.inr (Or.inl y)))))) q30.1
      rw [es2] at q30
      obtain ⟨DZ, ⟨DQ, DV⟩, _, _⟩ := q30
      have K29 := cl_f9 W32 T32_0 N2 Zd0 (fun r h z => by omega) K2
      have eU := (so_rw9 W32 T32_0 Zd0).2.2.2 x4_3.toNatClampNeg 32
      rw [U2, ← f4] at eU
      have T29 : zT κ_29 a0 = 12 := Zd0.t T32_0 (by decide)
      have g29 := cl_g9 D.1 K29 (i := x4_3.toNatClampNeg) (j := 32) (by omega) (Or.inr rfl)
      have ec29 : zR κ_29 soCalc a0 = zR κ32 soCalc a0 := (soF_r9 Zd0 (by decide)).1
      have eq29 : zR κ_29 caQuotient (zR κ_29 soCalc a0) = zR κ32 caQuotient (zR κ32 soCalc a0) := by rw [ec29, (soF_r9 Zd0 (f := caQuotient) (by decide)).1]
      have lQ : nuN κ_29 (zR κ32 caQuotient (zR κ32 soCalc a0)) ≤ nuN κ32 (zR κ soSum a0) := by rw [DV]; exact Nat.div_le_self _ _
      have kQ := nuK_lt DQ (k := 1960) (Nat.lt_of_le_of_lt lQ lS)
      have rq := S2.2.2.1 (zR κ32 caQuotient (zR κ32 soCalc a0)) (Or.inl rfl)
      have cp : capR (1000000 + (33 * x4_3.toNatClampNeg + 32)) = 3000 := by rw [cap_c9 (by omega) (Nat.le_refl _)]; rfl
      rw [eU, cp] at g29
      intro W31
      intro M32
      intro T33
      intro T34
      refine Nu_copy_c W31 T33 T34 3000 6500 ?_ (fun κ_35 q36 => ?_)
      · rw [eq29]
        exact ⟨g29.2.1.1.2.1, DQ.1, ro_n k32.2.1 rq (by omega), by omega, by decide⟩
      intro W37
      intro M38
      intro x39 hx39
      rw [eq29] at q36
      obtain ⟨Fc, Bc, Vc, Kc, Zc⟩ := q36
      rw [← eU] at Fc Bc Vc Zc
      have w := cl_w9 W31 T29 D.1 D.2 hm (i0 := x4_3.toNatClampNeg) (j0 := 32) (by omega) (Or.inr rfl) K29 Fc (by rw [cp]; exact ⟨Bc, Zc DQ.2⟩) Vc
      rw [ec29, ec2] at w
      have hx : x39.toInt = x4_3.toInt - 1 := by rw [hx39]; exact dm_9 c2'
      refine ⟨_, ?_, rfl, ?_⟩
      · rw [hn4, hx]; omega  -- d9
      · rw [ec2] at Zd0
        refine ⟨rfl, rfl, rfl, ⟨(Z2.tr (soF_m (fun r z => Or.inl (by omega)) Zd0)).tr w.1.1, w.1.2⟩, ⟨by omega, by omega⟩, _, w.2, fun i j hj => ?_, fun i hi => ?_, fun i h1 h2 => ?_⟩
        · rw [if_neg (by omega)]
          exact e1 i j hj
        · rw [if_neg (by omega)]
          exact e2 i (by omega)
        · have eg : (x39.toInt + 1).toNat = x4_3.toNatClampNeg := by omega
          rw [eg]
          by_cases z : i = x4_3.toNatClampNeg
          · rw [if_pos ⟨z, rfl⟩]
            exact Nat.le_trans (by rw [← ec2]; exact lQ) bS
          · rw [if_neg (by omega)]
            have q := e3 i (by omega) h2
            rw [er] at q
            exact Nat.le_trans q (gE9_m (by omega))
    · skip
      intro T40
      rw [lei] at c18
      have iy := cn1 (x := x32_5) (by omega) (by omega)
      refine So_cell_c2 W32 T40  ?_ (fun r41 q43 => ?_)
      · exact ⟨K2.1, ⟨by omega, by omega⟩, ⟨by omega, by omega⟩, (K2.2 _ _ (by omega) (Or.inl (by omega))).1⟩  -- p11
      intro W44
      intro M45
      intro T46
      refine ⟨fun c47 => ?_, fun c47 => ?_⟩
      · skip
        intro x48 hx48
        refine ⟨_, ?_, rfl, ?_⟩
        · rw [hn32, hx48, iy.2]; omega  -- d12
        · refine ⟨rfl, rfl, rfl, ⟨Z2, N2, S2⟩, rfl, ⟨by rw [hx48, iy.2]; omega, by rw [hx48, iy.2]; omega⟩, K2, f4, ?_⟩
          exact Nat.le_trans VS (Nat.add_le_add_left (Nat.mul_le_mul_right _ (by rw [hx48, iy.2]; omega)) _)
      · skip
        intro T49
        refine So_cell_c2 W44 T49  ?_ (fun r50 q52 => ?_)
        · exact ⟨K2.1, ⟨by omega, by omega⟩, ⟨by omega, by omega⟩, (K2.2 _ _ (by omega) (Or.inl (by omega))).1⟩  -- p14
        intro W53
        intro M54
        intro T55
        intro T56
        refine So_cell_c2 W53 T56  ?_ (fun r57 q59 => ?_)
        · rw [t32]
          exact ⟨K2.1, ⟨by omega, by omega⟩, ⟨by decide, by decide⟩, (K2.2 _ _ (by omega) (Or.inr rfl)).1⟩
        intro W60
        intro M61
        intro T62
        intro T63
        intro T64
        intro T65
        rw [U2] at q52
        rw [t32, U2] at q59
        have ka := K2.2 x4_3.toNatClampNeg x32_5.toNatClampNeg (by omega) (Or.inl (by omega))
        have ga := cl_g9 N2 K2 (i := x4_3.toNatClampNeg) (j := x32_5.toNatClampNeg) (by omega) (Or.inl (by omega))
        have kb := K2.2 x32_5.toNatClampNeg 32 (by omega) (Or.inr rfl)
        have gb := cl_g9 N2 K2 (i := x32_5.toNatClampNeg) (j := 32) (by omega) (Or.inr rfl)
        rw [U2, ← q52, e1 _ _ (by omega)] at ka
        rw [U2, ← q52] at ga
        rw [U2, ← q59] at kb gb
        have va := b1 x4_3.toNatClampNeg x32_5.toNatClampNeg (by omega) (by omega) (by omega)
        have vb := e3 x32_5.toNatClampNeg (by omega) (by omega)
        rw [er] at vb
        have vb2 : M1 x32_5.toNatClampNeg 32 < pB9 1960 := Nat.lt_of_le_of_lt (Nat.le_trans vb (Nat.mul_le_mul_left _ (Nat.pow_le_pow_right (by decide) (gE9_z (by omega))))) b3
        have va2 : M9 x4_3.toNatClampNeg x32_5.toNatClampNeg < pB9 24 := Nat.lt_of_le_of_lt va (dp_9 (by omega))
        have xa := nuK_lt ga.2.2.1 (k := 24) (by rw [ka.2.2]; exact va2)
        have xb := nuK_lt gb.2.2.1 (k := 1960) (by rw [kb.2.2]; exact vb2)
        have gt2 := nm_g N2 (w := (zR κ soTerm a0)) h6 (Or.inl ⟨by decide, by decide⟩) (by decide)
        refine Nu_product_c W60 T63 T64 T65 6500 30000000 30000000 ?_ (fun κ_66 q67 => ?_)
        · rw [et2]
          exact ⟨gt2.2.2, ⟨ga.2.2.1, gb.2.2.1⟩, ⟨ro_n h6 ka.2.1 (by omega), ro_n h6 kb.2.1 (by omega)⟩, by omega, by decide⟩
        rw [et2, ka.2.2, kb.2.2] at q67
        obtain ⟨F2, I2, V2⟩ := q67
        have Zf2 : zF (soF ρ (fun r => r = 6) (zR κ soCalc a0)) κ32 κ_66 := soF_1 h6 F2
        have N66 : nmI ρ κ_66 := nm_1 W32 N2 F2 (by rw [h6]; exact I2)
        have S66 : soI ρ κ_66 a0 := so_1 W32 T32_0 S2 F2
        have K66 := cl_f9 W32 T32_0 N2 Zf2 (fun r h z => by omega) K2
        have Z66 : zF (soF ρ elR9 (zR κ soCalc a0)) κ κ_66 := Z2.tr (soF_m (fun r z => Or.inl (by omega)) Zf2)
        have T66 : zT κ_66 a0 = 12 := F2.t T32_0 (by decide)
        have es66 : zR κ_66 soSum a0 = (zR κ soSum a0) := (soF_r9 Z66 (by decide)).1
        have et66 : zR κ_66 soTerm a0 = (zR κ soTerm a0) := (soF_r9 Z66 (by decide)).1
        have ns := soF_B (c := 6500) (w := (zR κ soSum a0)) W32 (by rw [← es2]; exact ty_soSum W32 T32_0) Zf2 (by rw [h7]; decide)
        have vt : M9 x4_3.toNatClampNeg x32_5.toNatClampNeg * M1 x32_5.toNatClampNeg 32 < pB9 24 * pB9 1960 := Nat.mul_lt_mul'' va2 vb2
        rw [← pB9_a] at vt
        have x66 := nuK_lt I2 (k := 1984) (by rw [V2]; exact vt)
        intro W68
        intro M69
        intro T70
        intro T71
        refine Nu_plus_c W68 T70 T71 6500 30000000 ?_ (fun κ_72 q73 => ?_)
        · rw [es66, et66, ns.2.2]
          exact ⟨ns.1 gs2.1, nuI_mono (by decide) I2, ro_n h7 h6 (by decide), ⟨by omega, by omega⟩, by decide⟩
        intro W74
        intro M75
        intro x76 hx76
        refine ⟨_, ?_, rfl, ?_⟩
        · rw [hn32, hx76, iy.2]; omega  -- d18
        · rw [es66, et66, ns.2.1, V2] at q73
          obtain ⟨F3, I3, V3⟩ := q73
          have Zf3 : zF (soF ρ (fun r => r = 7) (zR κ soCalc a0)) κ_66 κ_72 := soF_1 h7 F3
          refine ⟨rfl, rfl, rfl, ⟨Z66.tr (soF_m (fun r z => Or.inl (by omega)) Zf3), nm_1 W68 N66 F3 (by rw [h7]; exact I3), so_1 W68 T66 S66 F3⟩, rfl, ⟨by rw [hx76, iy.2]; omega, by rw [hx76, iy.2]; omega⟩, cl_f9 W68 T66 N66 Zf3 (fun r h z => by omega) K66, f4, ?_⟩
          have en : (x76.toInt - x4_3.toInt - 1).toNat = (x32_5.toInt - x4_3.toInt - 1).toNat + 1 := by rw [hx76, iy.2]; omega
          rw [V3, en, Nat.add_mul, Nat.one_mul, ← Nat.add_assoc]
          exact Nat.add_le_add VS (Nat.mul_le_mul va vb)
