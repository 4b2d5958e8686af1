section
set_option maxHeartbeats 1600000
/-! the class: Odds' rowsAgree -/
theorem nw_s9 {C : zC} {n0 a n P w r : Nat} {ρ : Nat → Nat} {κ κ' : zS} (W : zW C n0 κ) (Ta : zT κ a = 9) (A : agI9 ρ κ a n P) (hw : ρ w = r) (hr : r < 100 ∨ 2000000 ≤ r) (h1 : r ≠ 1) (Z : zF (nuF w) κ κ') (I : nuI κ' w (capR r)) (hl : r = 8 → nuN κ' w < pB9 4000) : agI9 ρ κ' a n P ∧ (∀ f, f / 100 = 9 ∨ f / 100 = 12 → ∀ b, zR κ' f b = zR κ f b) ∧ (∀ v, zT κ v = 8 → ρ v ≠ r → nuN κ' v = nuN κ v) ∧ zQ κ' (zR κ odEdges a) = zQ κ (zR κ odEdges a) ∧ ∀ ca, zF (soF ρ (fun x => x = r) ca) κ κ' := by
  have ts := ty_odSolver W Ta
  have Z1 : ∀ ca, zF (soF ρ (fun x => x = r) ca) κ κ' := fun ca => soF_1 hw Z
  have nu : ∀ v, zT κ v = 8 → ρ v ≠ r → nuN κ' v = nuN κ v := fun v tv hv => (soF_B (c := 0) W tv (Z1 0) hv).2.1
  have S := A.1.2
  have e1 : ρ (zR κ soWhole (zR κ odSolver a)) = 1 := S.1.1
  have e8 : ρ (zR κ soLess (zR κ odSolver a)) = 8 := S.1.2.2.2.2.2.1
  have hL : nuN κ' (zR κ soLess (zR κ odSolver a)) < pB9 4000 := by
    by_cases z : r = 8
    · by_cases y : zR κ soLess (zR κ odSolver a) = w
      · rw [y]; exact hl z
      · have n8 := nu_z (y := zR κ soLess (zR κ odSolver a)) W (ty_soLess W ts) Z (fun q => y q.1) (fun q => y q.1)
        rw [(nuB_z (c := 0) W (ty_soLess W ts) Z (fun q => y q.1) (fun q => y q.1)).2.2.1]
        exact A.2.2.2.1.2
    · rw [nu _ (ty_soLess W ts) (by rw [e8]; exact fun q => z q.symm)]
      exact A.2.2.2.1.2
  have G := ag_so9 W Ta (R := fun x => x = r) (fun x h2 h3 z => by omega) (ag_d9 A) (Z1 _) ⟨nm_1 W A.1.1 Z (by rw [hw]; exact I), so_1 W ts S Z⟩ (by rw [nu _ (ty_soWhole W ts) (by rw [e1]; exact fun q => h1 q.symm)]; exact A.2.2.2.1.1) hL
  exact ⟨G.1, G.2.1, nu, G.2.2, Z1⟩
theorem ed_k9 {C : zC} {n0 a n P m : Nat} {ρ : Nat → Nat} {κ κ' : zS} (W : zW C n0 κ) (Ta : zT κ a = 9) (A : agI9 ρ κ a n P) (hm : m ≤ 31) (er : zR κ' odEdges a = zR κ odEdges a) (eq : zQ κ' (zR κ odEdges a) = zQ κ (zR κ odEdges a)) (nu : ∀ v, zT κ v = 8 → 2000000 ≤ ρ v → nuN κ' v = nuN κ v) (E : edG9 κ a m) : edG9 κ' a m := fun j hj => by
  obtain ⟨u, hu, hb⟩ := E j hj
  have tu := W.2.2.2.1 _ _ _ (ty_odEdges W Ta) hu
  have ru := A.2.2.2.2.1 j u (by omega) hu
  exact ⟨u, by rw [er, eq]; exact hu, by rw [nu u tu (by omega)]; exact hb⟩
theorem tc_s9 {C : zC} {n0 a n P : Nat} {ρ : Nat → Nat} {κ κ' : zS} (W : zW C n0 κ) (Ta : zT κ a = 9) (A : agI9 ρ κ a n P) (q : (zF (soF ρ tcR9 (zR κ odCalc a)) κ κ' ∧ nmI ρ κ' ∧ soI ρ κ' (zR κ odSolver a)) ∧ nuN κ' (zR κ soSum (zR κ odSolver a)) < pB9 1502 ∧ dz9 (nuN κ' (zR κ soWhole (zR κ odSolver a))) P ∧ nuN κ' (zR κ soLess (zR κ odSolver a)) < pB9 4000) : agI9 ρ κ' a n P ∧ (∀ f, f / 100 = 9 ∨ f / 100 = 12 → ∀ b, zR κ' f b = zR κ f b) ∧ (∀ m, m ≤ 31 → edG9 κ a m → edG9 κ' a m) ∧ nuN κ' (zR κ odHeld a) = nuN κ (zR κ odHeld a) := by
  obtain ⟨⟨Z, N⟩, B, D, L⟩ := q
  have G := ag_so9 W Ta (fun r h _ => tcR9_l r h) (ag_d9 A) Z N D L
  refine ⟨G.1, G.2.1, fun m hm E => ?_, ?_⟩
  · refine ed_k9 W Ta A hm (G.2.1 odEdges (by decide) a) G.2.2 (fun v tv hv => ?_) E
    exact (soF_B (c := 0) W tv Z (by unfold tcR9; omega)).2.1
  · exact (soF_B (c := 0) W (ty_odHeld W Ta) Z (by rw [A.2.1.2.1]; unfold tcR9; omega)).2.1
/-- frames of the comparison -/
def roF9 (ρ : Nat → Nat) (κ : zS) (a : Nat) : Nat → Nat → Prop := fun f b => soF ρ (fun r => r < 30 ∨ 2000000 ≤ r) (zR κ odCalc a) f b ∨ (f = odEdges ∧ b = a) ∨ zn κ ≤ b
def roG9 (ρ : Nat → Nat) (κ τ : zS) (a n P : Nat) (ρ' : Nat → Nat) : Prop := (∀ b, b < zn κ → ρ' b = ρ b) ∧ agI9 ρ' τ a n P ∧ zF (roF9 ρ κ a) κ τ ∧ (∀ f, f / 100 = 9 ∨ f / 100 = 12 → ∀ b c, zT κ b = c + 1 → zR τ f b = zR κ f b) ∧ zE9 κ τ a
theorem ro_so9 {C : zC} {n0 n1 a n P : Nat} {ρ ρ' : Nat → Nat} {R : Nat → Prop} {κ τ τ' : zS} (W : zW C n0 κ) (Ta : zT κ a = 9) (Wt : zW C n1 τ) (G : roG9 ρ κ τ a n P ρ') (Z : zF (soF ρ' R (zR τ odCalc a)) τ τ') (hR : ∀ r, R r → r < 30 ∨ 2000000 ≤ r) (A : agI9 ρ' τ' a n P) (e : ∀ f, f / 100 = 9 ∨ f / 100 = 12 → ∀ b, zR τ' f b = zR τ f b) : roG9 ρ κ τ' a n P ρ' := by
  obtain ⟨g1, g2, g3, g4, g5⟩ := G
  refine ⟨g1, A, g3.tr (Z.mono (fun f b z => ?_)), fun f hf b c hb => (e f hf b).trans (g4 f hf b c hb), g5.tr (zE_so9 Wt (g3.t Ta (by decide)) Z)⟩
  by_cases l : b < zn κ
  · left
    rcases z with z | z
    · rw [g1 b l] at z
      exact Or.inl ⟨hR _ z.1, z.2⟩
    · rw [g4 odCalc (by decide) a 8 Ta] at z
      exact Or.inr z
  · exact Or.inr (Or.inr (by omega))
theorem ro_e9 {C : zC} {n0 a n P : Nat} {ρ ρ' ρ'' : Nat → Nat} {κ τ τ' : zS} (W : zW C n0 κ) (G : roG9 ρ κ τ a n P ρ') (Z : zF (edF9 (zn τ) a) τ τ') (Kz : zE9 τ τ' a) (hr : ∀ b, b < zn τ → ρ'' b = ρ' b) (A : agI9 ρ'' τ' a n P) (er : zR τ' odEdges a = zR τ odEdges a) (e : ∀ f b c, zT τ b = c + 1 → f ≠ odEdges → zR τ' f b = zR τ f b) : roG9 ρ κ τ' a n P ρ'' := by
  obtain ⟨g1, g2, g3, g4, g5⟩ := G
  have mn := g3.2.2.2.2.2.2
  refine ⟨fun b hb => (hr b (by omega)).trans (g1 b hb), A, g3.tr (Z.mono (fun f b z => ?_)), fun f hf b c hb => ?_, g5.tr Kz⟩
  · rcases z with z | z
    · exact Or.inr (Or.inl z)
    · exact Or.inr (Or.inr (by omega))
  · rw [← g4 f hf b c hb]
    obtain ⟨c', hc'⟩ : ∃ c', zT τ b = c' + 1 := ⟨zT τ b - 1, by
      have q := (g3.2.2.2.2.2.1 b (by omega)).1
      omega⟩
    by_cases y : f = odEdges
    · by_cases w : b = a
      · rw [y, w]; exact er
      · exact Z.r (fun q => by
          have l := (W.2.1 b (by omega)).2
          rcases q with q | q
          · exact w q.2
          · omega)
    · exact e f b c' hc' y
theorem sq_9 {x y : Int} (h1 : 1 ≤ x) (h2 : x ≤ y) (h3 : y * x ≤ 1000) : x ≤ 31 := by
  by_cases z : x ≤ 31
  · exact z
  · have a : 32 * 32 ≤ y * x := Int.mul_le_mul (by omega) (by omega) (by omega) (by omega)
    omega
theorem ml_9 {x y z : Int} (h0 : 0 ≤ x) (h1 : x < y) (hz : 1 ≤ z) : 0 ≤ x * z ∧ x * z + z ≤ y * z := by
  have a : (x + 1) * z ≤ y * z := Int.mul_le_mul_of_nonneg_right (by omega) (by omega)
  rw [Int.add_mul, Int.one_mul] at a
  exact ⟨Int.mul_nonneg h0 (by omega), a⟩
theorem Od_rowsAgree_c {C : zC} {n0 : Nat} {a0 : Nat} {a1 : Int32} {a2 : Int32} {a3 : Int32} {κ : zS} {Q : Int32 → zS → Prop} (W : zW C n0 κ) (Ta0 : zT κ a0 = 9) (ρ : Nat → Nat) (n9 P9 : Nat) (hp : agD9 ρ κ a0 n9 P9 ∧ (0 < P9 ∧ P9 < pB9 1490) ∧ (0 ≤ a1.toInt ∧ 1 ≤ a3.toInt ∧ a3.toInt ≤ a2.toInt ∧ a1.toInt + a2.toInt * a3.toInt ≤ 1000)) (h : ∀ (v : Int32) (κ' : zS), (∃ ρ' : Nat → Nat, roG9 ρ κ κ' a0 n9 P9 ρ') → Q v κ') : zRun C 7 mOd_rowsAgree [.ref a0, .int a1, .int a2, .int a3] κ (oI Q noX) := by
  refine Od_rowsAgree_run W Ta0 ?_
  replace W := W.lo (Nat.le_trans W.1.2.1 W.1.2.2) (Nat.le_refl (zn κ))
  unfold w_Od_rowsAgree_0
  obtain ⟨A0, hP, b0, w1, tw, mm⟩ := hp
  have ts := ty_odSolver W Ta0
  have h1 := A0.1.2.1.1
  have g1 := nm_g A0.1.1 (w := (zR κ soWhole (zR κ odSolver a0))) h1 (Or.inl ⟨by decide, by decide⟩) (by decide)
  have w31 := sq_9 w1 tw (by omega)
  have pp : 0 ≤ a2.toInt * a3.toInt := Int.mul_nonneg (by omega) (by omega)
  have em : (a2 * a3).toInt = a2.toInt * a3.toInt := mul_i (by omega) (by omega)
  have ea : (a1 + a2 * a3).toInt = a1.toInt + a2.toInt * a3.toInt := by rw [add_i (by rw [em]; omega) (by rw [em]; omega), em]
  have m1 := ml_9 (x := 0) (y := a2.toInt) (z := a3.toInt) (by omega) (by omega) w1
  rw [Int.zero_mul] at m1
  have k3 := cnk (x := a3) (by omega)
  have b4 : pB9 1502 ≤ pB9 4000 := pB9_l (by decide)
  have o1 : (1 : Int64).toInt.toNat = 1 := rfl
  intro T1
  refine Nu_put_c W T1 6500 ?_ (fun κ_2 q3 => ?_)
  · exact ⟨by decide, g1.2.2⟩  -- p1
  intro W4
  intro M5
  obtain ⟨Fp, ⟨Rp, Np⟩, Ip, Vp⟩ := q3
  have Zp : zF (soF ρ (fun r => r = 1) (zR κ odCalc a0)) κ κ_2 := soF_1 h1 Fp
  have lp := (soF_B (c := 0) W (ty_soLess W ts) Zp (by rw [A0.1.2.1.2.2.2.2.2.1]; decide)).2.1
  have Gp := ag_so9 W Ta0 (R := fun r => r = 1) (fun r h2 h3 z => by omega) A0 Zp ⟨nm_1 W A0.1.1 Fp (by rw [h1]; exact Ip), so_1 W ts A0.1.2 Fp⟩ (by rw [Vp, o1]; exact Or.inr (Nat.one_dvd _)) (by rw [lp]; exact A0.2.2.2.1.2)
  unfold w_Od_rowsAgree_14
  refine ⟨fun n l0 l1 l2 l3 l4 τ => n = (a1.toInt + a2.toInt * a3.toInt - l4.toInt).toNat ∧ (a0 = l0 ∧ a1 = l1 ∧ a2 = l2 ∧ a3 = l3 ∧ (∃ ρ' : Nat → Nat, roG9 ρ κ τ a0 n9 P9 ρ') ∧ (0 ≤ l4.toInt ∧ l4.toInt ≤ a1.toInt + a2.toInt * a3.toInt)), ⟨_, rfl, ?_⟩, ?_⟩
  · exact ⟨rfl, rfl, rfl, rfl, ⟨ρ, fun _ _ => rfl, Gp.1, Zp.mono (fun f b z => Or.inl (z.elim (fun y => Or.inl ⟨Or.inl (by have q : ρ b = 1 := y.1; omega), y.2⟩) Or.inr)), fun f hf b c hb => Gp.2.1 f hf b, zE_so9 W Ta0 Zp⟩, b0, by omega⟩  -- j2
  rintro n14 _ _ _ _ x14_4 κ14 W14 T14_0 ⟨hn14, rfl, rfl, rfl, rfl, i14⟩
  obtain ⟨⟨ρ1, G1⟩, l40, l41⟩ := i14
  refine ⟨fun c6 => ?_, fun c6 => ?_⟩
  · skip
    unfold w_Od_rowsAgree_40
    refine ⟨fun n l0 l1 l2 l3 l4 τ => n = (a3.toInt - l4.toInt).toNat ∧ (a0 = l0 ∧ a1 = l1 ∧ a2 = l2 ∧ a3 = l3 ∧ (∃ ρ' : Nat → Nat, roG9 ρ κ τ a0 n9 P9 ρ' ∧ edG9 τ a0 l4.toNatClampNeg) ∧ (0 ≤ l4.toInt ∧ l4.toInt ≤ a3.toInt)), ⟨_, rfl, ?_⟩, ?_⟩
    · exact ⟨rfl, rfl, rfl, rfl, ⟨ρ1, G1, fun j hj => absurd hj (Nat.not_lt_zero _)⟩, by decide, by rw [t0i]; omega⟩  -- j3
    rintro n40 _ _ _ _ x40_4 κ40 W40 T40_0 ⟨hn40, rfl, rfl, rfl, rfl, i40⟩
    obtain ⟨⟨ρ2, G2, E2⟩, m40, m41⟩ := i40
    have k4 := cnk m40
    refine ⟨fun c7 => ?_, fun c7 => ?_⟩
    · skip
      unfold w_Od_rowsAgree_80
      refine ⟨fun n l0 l1 l2 l3 l4 τ => n = (a2.toInt - l4.toInt).toNat ∧ (a0 = l0 ∧ a1 = l1 ∧ a2 = l2 ∧ a3 = l3 ∧ (∃ ρ' : Nat → Nat, roG9 ρ κ τ a0 n9 P9 ρ' ∧ edG9 τ a0 a3.toNatClampNeg) ∧ (1 ≤ l4.toInt ∧ l4.toInt ≤ a2.toInt)), ⟨_, rfl, ?_⟩, ?_⟩
      · rw [lei] at c7
        rw [show x40_4.toNatClampNeg = a3.toNatClampNeg by omega] at E2
        exact ⟨rfl, rfl, rfl, rfl, ⟨ρ2, G2, E2⟩, by decide, by rw [t1i]; omega⟩
      rintro n80 _ _ _ _ x80_4 κ80 W80 T80_0 ⟨hn80, rfl, rfl, rfl, rfl, i80⟩
      obtain ⟨⟨ρ3, G3, E3⟩, r40, r41⟩ := i80
      refine ⟨fun c8 => ?_, fun c8 => ?_⟩
      · skip
        refine h _ _ ?_
        · exact ⟨ρ3, G3⟩  -- q5
      · skip
        intro x9 hx9
        intro T10
        rw [lei] at c8
        have ml := ml_9 (x := x80_4.toInt) (y := a2.toInt) (z := a3.toInt) (by omega) (by omega) w1
        have em9 : (x80_4 * a3).toInt = x80_4.toInt * a3.toInt := mul_i (by omega) (by omega)
        have e9 : x9.toInt = a1.toInt + x80_4.toInt * a3.toInt := by rw [hx9, add_i (by rw [em9]; omega) (by rw [em9]; omega), em9]
        have A3 := G3.2.1
        refine Od_throughCell_c W80 T10 ρ3 n9 P9 ?_ (fun κ_11 q12 => ?_)
        · exact ⟨A3.1, A3.2.1, hP, A3.2.2.1, ⟨by omega, by omega⟩, A3.2.2.2.1.1, A3.2.2.2.1.2⟩  -- p6
        have Q := tc_s9 W80 T80_0 A3 q12
        obtain ⟨A11, r11, ed11, hd11⟩ := Q
        have G11 := ro_so9 W Ta0 W80 G3 q12.1.1 (fun r z => by unfold tcR9 at z; omega) A11 r11
        have T11 : zT κ_11 a0 = 9 := q12.1.1.t T80_0 (by decide)
        have B11 := q12.2.1
        rw [← r11 soSum (by decide), ← r11 odSolver (by decide)] at B11
        have cp := cp_p9 (w := zR κ_11 odHeld a0) (v := zR κ_11 soSum (zR κ_11 odSolver a0)) A11.1.1 A11.2.1.2.1 A11.1.2.1.2.2.2.2.1 ⟨nmR_s9.2.1, by decide, by decide⟩ ⟨nmR_s9.1.2.1, by decide, by decide⟩ (by decide) (Nat.lt_of_lt_of_le B11 b4)
        intro W13
        intro M14
        intro T15
        intro T16
        refine Nu_copy_c W13 T15 T16 6500 6500 ?_ (fun κ_17 q18 => ?_)
        · exact cp  -- p7
        intro W19
        intro M20
        have gv := nm_g A11.1.1 (w := zR κ_11 soSum (zR κ_11 odSolver a0)) A11.1.2.1.2.2.2.2.1 nmR_s9.1.2.1 (by decide)
        have Q17 := nw_s9 W13 T11 A11 A11.2.1.2.1 (Or.inl (by decide)) (by decide) q18.1 ⟨q18.2.1, q18.2.2.2.2 gv.1.2⟩ (fun z => absurd z (by decide))
        obtain ⟨A17, r17, nu17, eq17, z17⟩ := Q17
        have G17 := ro_so9 W Ta0 W13 G11 (z17 _) (fun r z => Or.inl (by omega)) A17 r17
        have E17 := ed_k9 W13 T11 A11 (by omega) (r17 odEdges (by decide) a0) eq17 (fun v tv hv => nu17 v tv (by omega)) (ed11 _ (by omega) E3)
        have H17 : nuN κ_17 (zR κ_17 odHeld a0) < pB9 1502 := by
          rw [r17 odHeld (by decide), q18.2.2.1]
          exact B11
        have ix8 := cn1 (x := x80_4) (by omega) (by have := ihi a2; omega)
        unfold w_Od_rowsAgree_118
        refine ⟨fun n l0 l1 l2 l3 l4 l5 l6 τ => n = (a3.toInt - l6.toInt).toNat ∧ (a0 = l0 ∧ a1 = l1 ∧ a2 = l2 ∧ a3 = l3 ∧ (∃ ρ' : Nat → Nat, roG9 ρ κ τ a0 n9 P9 ρ' ∧ edG9 τ a0 a3.toNatClampNeg ∧ nuN τ (zR τ odHeld a0) < pB9 1502) ∧ (x80_4 = l4 ∧ x9 = l5) ∧ (1 ≤ l6.toInt ∧ l6.toInt ≤ a3.toInt)), ⟨_, rfl, ?_⟩, ?_⟩
        · exact ⟨rfl, rfl, rfl, rfl, ⟨ρ3, G17, E17, H17⟩, ⟨rfl, rfl⟩, by decide, by rw [t1i]; omega⟩  -- j8
        rintro n118 _ _ _ _ x118_4 x118_5 x118_6 κ118 W118 T118_0 ⟨hn118, rfl, rfl, rfl, rfl, i118⟩
        obtain ⟨⟨ρ4, G4, E4, H4⟩, ⟨rfl, rfl⟩, s60, s61⟩ := i118
        have k6 := cnk (x := x118_6) (by omega)
        refine ⟨fun c21 => ?_, fun c21 => ?_⟩
        · skip
          intro x22 hx22
          refine ⟨_, ?_, rfl, ?_⟩
          · rw [hn80, hx22, ix8.2]; omega  -- d9
          · exact ⟨rfl, rfl, rfl, rfl, ⟨ρ4, G4, E4⟩, by rw [hx22, ix8.2]; omega, by rw [hx22, ix8.2]; omega⟩  -- i10
        · skip
          intro T23
          rw [lei] at c21
          have A4 := G4.2.1
          have ei : (x9 + x118_6).toInt = x9.toInt + x118_6.toInt := add_i (by omega) (by omega)
          have ix := cn1 (x := x118_6) (by omega) (by omega)
          refine Od_throughCell_c W118 T23 ρ4 n9 P9 ?_ (fun κ_24 q25 => ?_)
          · exact ⟨A4.1, A4.2.1, hP, A4.2.2.1, ⟨by rw [ei]; omega, by rw [ei]; omega⟩, A4.2.2.2.1.1, A4.2.2.2.1.2⟩  -- p11
          have Q := tc_s9 W118 T118_0 A4 q25
          obtain ⟨A24, r24, ed24, hd24⟩ := Q
          have G24 := ro_so9 W Ta0 W118 G4 q25.1.1 (fun r z => by unfold tcR9 at z; omega) A24 r24
          have T24 : zT κ_24 a0 = 9 := q25.1.1.t T118_0 (by decide)
          have B24 := q25.2.1
          rw [← r24 soSum (by decide), ← r24 odSolver (by decide)] at B24
          have E24 := ed24 _ (by omega) E4
          have H24 : nuN κ_24 (zR κ_24 odHeld a0) < pB9 1502 := by
            rw [r24 odHeld (by decide), hd24]
            exact H4
          obtain ⟨u0, hu0, bu0⟩ := E24 0 (by omega)
          obtain ⟨u6, hu6, bu6⟩ := E24 x118_6.toNatClampNeg (by omega)
          have ru0 := A24.2.2.2.2.1 0 u0 (by decide) hu0
          have ru6 := A24.2.2.2.2.1 _ u6 (by omega) hu6
          have g7 := nm_g A24.1.1 (w := zR κ_24 soSum (zR κ_24 odSolver a0)) A24.1.2.1.2.2.2.2.1 nmR_s9.1.2.1 (by decide)
          have g8 := nm_g A24.1.1 (w := zR κ_24 soLess (zR κ_24 odSolver a0)) A24.1.2.1.2.2.2.2.2.1 nmR_s9.1.2.2 (by decide)
          have gu0 := nm_g A24.1.1 (w := u0) ru0 (Or.inr (Or.inr (Or.inr (Or.inr (Or.inr (Or.inr (by decide))))))) (by decide)
          have k7 := nuK_lt g7.1 B24
          have ku0 := nuK_lt gu0.1 bu0
          intro W26
          intro M27
          intro T28
          refine Od_edge_c2 W26 T28 u0 ?_ (fun r29 κ_30 q31 => ?_)
          · exact ⟨A24.2.2.1.1.2.2.2.2.2.2, by decide, hu0⟩  -- p12
          obtain ⟨ek, eu⟩ := q31
          subst ek
          subst eu
          intro W32
          intro M33
          intro T34
          intro T35
          intro T36
          intro T37
          refine Nu_product_c W32 T35 T36 T37 6500 30000000 30000000 ?_ (fun κ_38 q39 => ?_)
          · exact ⟨g8.2.2, ⟨nuI_mono (by decide) g7.1, nuI_mono (by decide) gu0.1⟩, ⟨ro_n A24.1.2.1.2.2.2.2.2.1 A24.1.2.1.2.2.2.2.1 (by decide), ro_n A24.1.2.1.2.2.2.2.2.1 ru0 (by decide)⟩, by omega, by decide⟩  -- p13
          have pl : nuN κ_38 (zR κ_24 soLess (zR κ_24 odSolver a0)) < pB9 4000 := by
            rw [q39.2.2]
            have q : nuN κ_24 (zR κ_24 soSum (zR κ_24 odSolver a0)) * nuN κ_24 r29 ≤ pB9 1502 * pB9 1502 := Nat.mul_le_mul (Nat.le_of_lt B24) (Nat.le_of_lt bu0)
            rw [← pB9_a] at q
            exact Nat.lt_of_le_of_lt q (pB9_s (by decide))
          have Q38 := nw_s9 W32 T24 A24 A24.1.2.1.2.2.2.2.2.1 (Or.inl (by decide)) (by decide) q39.1 q39.2.1 (fun _ => pl)
          obtain ⟨A38, r38, nu38, eq38, z38⟩ := Q38
          have G38 := ro_so9 W Ta0 W32 G24 (z38 _) (fun r z => Or.inl (by omega)) A38 r38
          have T38 : zT κ_38 a0 = 9 := q39.1.t T24 (by decide)
          have E38 := ed_k9 W26 T24 A24 (by omega) (r38 odEdges (by decide) a0) eq38 (fun v tv hv => nu38 v tv (by omega)) E24
          have th24 := ty_odHeld W26 T24
          have H38 : nuN κ_38 (zR κ_38 odHeld a0) < pB9 1502 := by
            rw [r38 odHeld (by decide), nu38 _ th24 (by rw [A24.2.1.2.1]; decide)]
            exact H24
          have tu6 := W26.2.2.2.1 _ _ _ (ty_odEdges W26 T24) hu6
          have bu6' : nuN κ_38 u6 < pB9 1502 := by rw [nu38 _ tu6 (by rw [ru6]; omega)]; exact bu6
          have hu6' : zQ κ_38 (zR κ_38 odEdges a0) x118_6.toNatClampNeg = some u6 := by rw [r38 odEdges (by decide), eq38]; exact hu6
          have g15 := nm_g A38.1.1 (w := zR κ_38 odHeld a0) A38.2.1.2.1 nmR_s9.2.1 (by decide)
          have g6 := nm_g A38.1.1 (w := zR κ_38 soTerm (zR κ_38 odSolver a0)) A38.1.2.1.2.2.2.1 nmR_s9.2.2 (by decide)
          have gu6 := nm_g A38.1.1 (w := u6) ru6 (Or.inr (Or.inr (Or.inr (Or.inr (Or.inr (Or.inr (by omega))))))) (by omega)
          have k15 := nuK_lt g15.1 H38
          have ku6 := nuK_lt gu6.1 bu6'
          intro W40
          intro M41
          intro T42
          refine Od_edge_c2 W40 T42 u6 ?_ (fun r43 κ_44 q45 => ?_)
          · exact ⟨A38.2.2.1.1.2.2.2.2.2.2, ⟨by omega, by omega⟩, hu6'⟩  -- p14
          obtain ⟨ek6, eu6⟩ := q45
          subst ek6
          subst eu6
          intro W46
          intro M47
          intro T48
          intro T49
          intro T50
          intro T51
          refine Nu_product_c W46 T49 T50 T51 6500 30000000 30000000 ?_ (fun κ_52 q53 => ?_)
          · exact ⟨g6.2.2, ⟨nuI_mono (by decide) g15.1, nuI_mono (show capR (2000000 + x118_6.toNatClampNeg) ≤ 30000000 by unfold capR; rw [if_neg (by omega), if_neg (by omega), if_neg (by omega)]; decide) gu6.1⟩, ⟨ro_n A38.1.2.1.2.2.2.1 A38.2.1.2.1 (by decide), ro_n A38.1.2.1.2.2.2.1 ru6 (by omega)⟩, by omega, by decide⟩  -- p15
          have Q52 := nw_s9 W46 T38 A38 A38.1.2.1.2.2.2.1 (Or.inl (by decide)) (by decide) q53.1 q53.2.1 (fun z => absurd z (by decide))
          obtain ⟨A52, r52, nu52, eq52, z52⟩ := Q52
          have G52 := ro_so9 W Ta0 W46 G38 (z52 _) (fun r z => Or.inl (by omega)) A52 r52
          have E52 := ed_k9 W46 T38 A38 (by omega) (r52 odEdges (by decide) a0) eq52 (fun v tv hv => nu52 v tv (by omega)) E38
          have H52 : nuN κ_52 (zR κ_52 odHeld a0) < pB9 1502 := by
            rw [r52 odHeld (by decide), nu52 _ (ty_odHeld W46 T38) (by rw [A38.2.1.2.1]; decide)]
            exact H38
          have c8' := nm_g A52.1.1 (w := zR κ_52 soLess (zR κ_52 odSolver a0)) A52.1.2.1.2.2.2.2.2.1 nmR_s9.1.2.2 (by decide)
          have c6' := nm_g A52.1.1 (w := zR κ_52 soTerm (zR κ_52 odSolver a0)) A52.1.2.1.2.2.2.1 nmR_s9.2.2 (by decide)
          intro W54
          intro M55
          intro T56
          intro T57
          refine Nu_compare_c W54 T56 T57 6500 6500 ?_ (fun r58 q60 => ?_)
          · exact ⟨c8'.1, c6'.1⟩  -- p16
          intro W61
          intro M62
          refine ⟨fun c63 => ?_, fun c63 => ?_⟩
          · skip
            intro x64 hx64
            refine ⟨_, ?_, rfl, ?_⟩
            · rw [hn118, hx64, ix.2]; omega  -- d17
            · exact ⟨rfl, rfl, rfl, rfl, ⟨ρ4, G52, E52, H52⟩, ⟨rfl, rfl⟩, by rw [hx64, ix.2]; omega, by rw [hx64, ix.2]; omega⟩  -- i18
          · skip
            refine h _ _ ?_
            · exact ⟨ρ4, G52⟩  -- q19
    · skip
      intro T65
      rw [lei] at c7
      have A2 := G2.2.1
      have ei : (a1 + x40_4).toInt = a1.toInt + x40_4.toInt := add_i (by omega) (by omega)
      have ix := cn1 (x := x40_4) (by omega) (by omega)
      refine Od_throughCell_c W40 T65 ρ2 n9 P9 ?_ (fun κ_66 q67 => ?_)
      · exact ⟨A2.1, A2.2.1, hP, A2.2.2.1, ⟨by rw [ei]; omega, by rw [ei]; omega⟩, A2.2.2.2.1.1, A2.2.2.2.1.2⟩  -- p20
      have Q := tc_s9 W40 T40_0 A2 q67
      obtain ⟨A66, r66, ed66, hd66⟩ := Q
      have G66 := ro_so9 W Ta0 W40 G2 q67.1.1 (fun r z => by unfold tcR9 at z; omega) A66 r66
      have T66 : zT κ_66 a0 = 9 := q67.1.1.t T40_0 (by decide)
      have B66 := q67.2.1
      rw [← r66 soSum (by decide), ← r66 odSolver (by decide)] at B66
      have E66 := ed66 _ (by omega) E2
      intro W68
      intro M69
      intro T70
      refine Od_edge_c W68 T70 ρ2 n9 P9 ?_ (fun r71 κ_72 q73 => ?_)
      · exact ⟨A66, m40, by omega⟩  -- p21
      have ts66 := ty_odSolver W68 T66
      obtain ⟨⟨Z72, Kz72⟩, ⟨ρ5, h5, A72, rv⟩, hq, ⟨er72, ok72⟩, rr72, nn72⟩ := q73
      have G72 := ro_e9 W G66 Z72 Kz72 h5 A72 er72 rr72
      have T72 : zT κ_72 a0 = 9 := Z72.t T66 (by decide)
      have B72 : nuN κ_72 (zR κ_72 soSum (zR κ_72 odSolver a0)) < pB9 1502 := by
        rw [rr72 odSolver a0 8 T66 (by decide), rr72 soSum _ 11 ts66 (by decide), nn72 _ (ty_soSum W68 ts66)]
        exact B66
      have gv := nm_g A72.1.1 (w := zR κ_72 soSum (zR κ_72 odSolver a0)) A72.1.2.1.2.2.2.2.1 nmR_s9.1.2.1 (by decide)
      have ge := nm_g A72.1.1 (w := r71) rv (Or.inr (Or.inr (Or.inr (Or.inr (Or.inr (Or.inr (by omega))))))) (by omega)
      have cpe : capR (2000000 + x40_4.toNatClampNeg) = 3000 := by
        unfold capR
        rw [if_neg (by omega), if_neg (by omega), if_neg (by omega)]
      rw [cpe] at ge
      have kv := nuK_lt gv.1 B72
      intro W74
      intro M75
      intro T76
      intro T77
      intro T78
      refine Nu_copy_c W74 T77 T78 3000 6500 ?_ (fun κ_79 q80 => ?_)
      · exact ⟨ge.2.2, gv.1.1, ro_n rv A72.1.2.1.2.2.2.2.1 (by omega), by omega, by decide⟩  -- p22
      intro W81
      intro M82
      intro x83 hx83
      have Q79 := nw_s9 W74 T72 A72 rv (Or.inr (by omega)) (by omega) q80.1 (by rw [cpe]; exact ⟨q80.2.1, q80.2.2.2.2 gv.1.2⟩) (fun z => by omega)
      obtain ⟨A79, r79, nu79, eq79, z79⟩ := Q79
      have G79 := ro_so9 W Ta0 W74 G72 (z79 _) (fun r z => Or.inr (by omega)) A79 r79
      have E79 : edG9 κ_79 a0 (x40_4.toNatClampNeg + 1) := fun j hj => by
        by_cases z : j = x40_4.toNatClampNeg
        · refine ⟨r71, ?_, ?_⟩
          · rw [r79 odEdges (by decide), eq79, er72, z]; exact hq
          · rw [q80.2.2.1]; exact B72
        · obtain ⟨u, hu, hb⟩ := E66 j (by omega)
          have tu := W68.2.2.2.1 _ _ _ (ty_odEdges W68 T66) hu
          have hu2 := ok72 j u hu
          have ru := A72.2.2.2.2.1 j u (by omega) (by rw [er72]; exact hu2)
          refine ⟨u, ?_, ?_⟩
          · rw [r79 odEdges (by decide), eq79, er72]; exact hu2
          · rw [nu79 u (Z72.t tu (by decide)) (by omega), nn72 u tu]
            exact hb
      refine ⟨_, ?_, rfl, ?_⟩
      · rw [hn40, hx83, ix.2]; omega  -- d23
      · exact ⟨rfl, rfl, rfl, rfl, ⟨ρ5, G79, by rw [hx83, ix.1]; exact E79⟩, by rw [hx83, ix.2]; omega, by rw [hx83, ix.2]; omega⟩  -- i24
  · skip
    intro T84
    rw [lei, ea] at c6
    have A1 := G1.2.1
    have ix := cn1 (x := x14_4) (by omega) (by omega)
    refine Od_throughCell_c W14 T84 ρ1 n9 P9 ?_ (fun κ_85 q86 => ?_)
    · exact ⟨A1.1, A1.2.1, hP, A1.2.2.1, ⟨l40, by omega⟩, A1.2.2.2.1.1, A1.2.2.2.1.2⟩  -- p25
    intro W87
    intro M88
    intro x89 hx89
    have Q := tc_s9 W14 T14_0 A1 q86
    obtain ⟨A85, r85, ed85, hd85⟩ := Q
    have G85 := ro_so9 W Ta0 W14 G1 q86.1.1 (fun r z => by unfold tcR9 at z; omega) A85 r85
    refine ⟨_, ?_, rfl, ?_⟩
    · rw [hn14, hx89, ix.2]; omega  -- d26
    · exact ⟨rfl, rfl, rfl, rfl, ⟨ρ1, G85⟩, by rw [hx89, ix.2]; omega, by rw [hx89, ix.2]; omega⟩  -- i27

end
section
set_option maxHeartbeats 1600000
/-! the class: Odds' tablesAgree -/
/-- as roG9, whatever the whole is -/
def roH9 (ρ : Nat → Nat) (κ τ : zS) (a n P : Nat) (ρ' : Nat → Nat) : Prop := (∀ b, b < zn κ → ρ' b = ρ b) ∧ agD9 ρ' τ a n P ∧ zF (roF9 ρ κ a) κ τ ∧ (∀ f, f / 100 = 9 ∨ f / 100 = 12 → ∀ b c, zT κ b = c + 1 → zR τ f b = zR κ f b) ∧ zE9 κ τ a
theorem ro_h9 {ρ : Nat → Nat} {κ τ : zS} {a n P : Nat} {ρ' : Nat → Nat} (G : roG9 ρ κ τ a n P ρ') : roH9 ρ κ τ a n P ρ' := ⟨G.1, ag_d9 G.2.1, G.2.2⟩
theorem ro_t9 {C : zC} {n0 a n P : Nat} {ρ ρ' ρ'' : Nat → Nat} {κ τ τ' : zS} (W : zW C n0 κ) (Ta : zT κ a = 9) (G : roH9 ρ κ τ a n P ρ') (H : roG9 ρ' τ τ' a n P ρ'') : roG9 ρ κ τ' a n P ρ'' := by
  obtain ⟨g1, g2, g3, g4, g5⟩ := G
  obtain ⟨h1, h2, h3, h4, h5⟩ := H
  have mn := g3.2.2.2.2.2.2
  refine ⟨fun b hb => (h1 b (by omega)).trans (g1 b hb), h2, g3.tr (h3.mono (fun f b z => ?_)), fun f hf b c hb => ?_, g5.tr h5⟩
  · by_cases l : b < zn κ
    · rcases z with z | z | z
      · left
        rcases z with z | z
        · rw [g1 b l] at z
          exact Or.inl z
        · rw [g4 odCalc (by decide) a 8 Ta] at z
          exact Or.inr z
      · exact Or.inr (Or.inl z)
      · omega
    · exact Or.inr (Or.inr (by omega))
  · obtain ⟨c', hc'⟩ : ∃ c', zT τ b = c' + 1 := ⟨zT τ b - 1, by
      have q := (g3.2.2.2.2.2.1 b (by omega)).1
      omega⟩
    exact (h4 f hf b c' hc').trans (g4 f hf b c hb)
/-- what the comparison leaves alone -/
theorem ro_n9 {C : zC} {n0 a f b c : Nat} {ρ : Nat → Nat} {κ : zS} (W : zW C n0 κ) (T : zT κ b = c + 1) (hf : f / 100 ≠ 8 ∧ f / 100 ≠ 11 ∧ f / 100 ≠ 4) (he : f ≠ odEdges) : ¬ roF9 ρ κ a f b := fun z => by
  have l := (W.2.1 b (by omega)).2
  rcases z with z | z | z
  · rcases z with ⟨_, z | z | z⟩ | ⟨_, z | z | z | z⟩ <;> (rw [z] at hf; revert hf; decide)
  · exact he z.1
  · omega
theorem ro_k9 {C : zC} {n0 a n P : Nat} {ρ ρ' : Nat → Nat} {κ τ : zS} (W : zW C n0 κ) (Ta : zT κ a = 9) (G : roH9 ρ κ τ a n P ρ') : (zR τ odGroups a = zR κ odGroups a ∧ pV9 τ (zR κ odGroups a) = pV9 κ (zR κ odGroups a) ∧ zI τ hoTotal (zR κ odGroups a) = zI κ hoTotal (zR κ odGroups a) ∧ (hoI κ (zR κ odGroups a) 3000 3 8192 → hoI τ (zR κ odGroups a) 3000 3 8192)) ∧ ∀ f, zr f = some 20 → f / 100 = 9 → zR τ f a = zR κ f a ∧ zA τ (zR τ f a) = zA κ (zR κ f a) ∧ zN τ (zR τ f a) = zN κ (zR κ f a) := by
  have Tg := ty_odGroups W Ta
  obtain ⟨g1, g2, g3, g4, g5⟩ := G
  have n6 : ∀ f, f / 100 = 6 → ¬ roF9 ρ κ a f (zR κ odGroups a) := fun f hf => ro_n9 W Tg ⟨by omega, by omega, by omega⟩ (fun y => by rw [y] at hf; exact absurd hf (by decide))
  have w6 : ∀ f, zr f = some 20 → f / 100 = 6 → zR τ f (zR κ odGroups a) = zR κ f (zR κ odGroups a) ∧ zA τ (zR κ f (zR κ odGroups a)) = zA κ (zR κ f (zR κ odGroups a)) ∧ zN τ (zR κ f (zR κ odGroups a)) = zN κ (zR κ f (zR κ odGroups a)) := fun f h1 h2 => by
    have r := g3.r (n6 f h2)
    have w := (g3.row W h1 (by decide) (Tg.trans h2.symm) (n6 f h2)).1
    rw [r] at w
    exact ⟨r, w, g3.l (W.r h1 (Tg.trans h2.symm))⟩
  have t : zI τ hoTotal (zR κ odGroups a) = zI κ hoTotal (zR κ odGroups a) := g3.i (n6 hoTotal (by decide))
  refine ⟨⟨g4 odGroups (by decide) a 8 Ta, ?_, t, fun H => ?_⟩, fun f h1 h3 => ?_⟩
  · have s := w6 hoStarts (by decide +kernel) (by decide)
    have p := w6 hoPool (by decide +kernel) (by decide)
    funext x i
    unfold pV9
    rw [t, s.1, p.1, s.2.1, p.2.1]
  · refine hoI_f H (fun f hf => g3.i (n6 f hf)) (fun f hf => ?_)
    have q : zr f = some 20 ∧ f / 100 = 6 := by rcases hf with rfl | rfl | rfl <;> decide +kernel
    exact w6 f q.1 q.2
  · have hne : f ≠ odEdges := fun y => by rw [y] at h1; exact absurd h1 (by decide +kernel)
    have T9 : zT κ a = f / 100 := Ta.trans h3.symm
    have n := ro_n9 (a := a) (ρ := ρ) W Ta (f := f) ⟨by omega, by omega, by omega⟩ hne
    have r := g3.r n
    refine ⟨r, (g3.row W h1 (by decide) T9 n).1, ?_⟩
    rw [r]
    exact g3.l (W.r h1 T9)
theorem mn_9 {l r : Int32} (l0 : 0 ≤ l.toInt) (r0 : 0 ≤ r.toInt) (h : ¬ (if r < l then r else l) ≤ (1 : Int32)) : 1 ≤ (if r < l then r else l).toInt ∧ (if r < l then r else l).toInt ≤ (if l < r then r else l).toInt ∧ (if l < r then r else l).toInt * (if r < l then r else l).toInt = l.toInt * r.toInt := by
  rw [lei, t1i] at h
  by_cases a : r < l
  · have b : ¬ l < r := by rw [lti] at a ⊢; omega
    rw [if_pos a] at h ⊢
    rw [if_neg b]
    rw [lti] at a
    exact ⟨by omega, by omega, rfl⟩
  · rw [if_neg a] at h ⊢
    by_cases b : l < r
    · rw [if_pos b]
      rw [lti] at b
      exact ⟨by omega, by omega, Int.mul_comm _ _⟩
    · rw [if_neg b]
      rw [lti] at a b
      have e : l.toInt = r.toInt := by omega
      exact ⟨by omega, by omega, by rw [← e]⟩
theorem Od_tablesAgree_c {C : zC} {n0 : Nat} {a0 : Nat} {κ : zS} {Q : Int32 → zS → Prop} (W : zW C n0 κ) (Ta0 : zT κ a0 = 9) (ρ : Nat → Nat) (n9 P9 : Nat) (hp : agD9 ρ κ a0 n9 P9 ∧ (0 < P9 ∧ P9 < pB9 1490) ∧ (grI9 κ a0 ∧ gI9 κ a0 1000 1000) ∧ (∃ c : Int, c ≤ 1000 ∧ plC9 κ κ a0 ((zI κ hoTotal (zR κ odGroups a0)).toInt) c)) (h : ∀ (v : Int32) (κ' : zS), (nb v ∧ ∃ ρ' : Nat → Nat, roH9 ρ κ κ' a0 n9 P9 ρ') → Q v κ') : zRun C 8 mOd_tablesAgree [.ref a0] κ (oI Q noX) := by
  refine Od_tablesAgree_run W Ta0 ?_
  replace W := W.lo (Nat.le_trans W.1.2.1 W.1.2.2) (Nat.le_refl (zn κ))
  unfold w_Od_tablesAgree_0
  obtain ⟨A0, hP, ⟨G0, I0⟩, c9, hc, pl⟩ := hp
  have tM := G0.1.1.2.1
  have L0 := A0.2.2.1.1
  unfold w_Od_tablesAgree_2
  refine ⟨fun n l0 l1 τ => n = ((zI κ hoTotal (zR κ odGroups a0)).toInt - l1.toInt).toNat ∧ (a0 = l0 ∧ (∃ ρ' : Nat → Nat, roH9 ρ κ τ a0 n9 P9 ρ') ∧ (0 ≤ l1.toInt ∧ l1.toInt ≤ (zI κ hoTotal (zR κ odGroups a0)).toInt)), ⟨_, rfl, ?_⟩, ?_⟩
  · exact ⟨rfl, ⟨ρ, fun _ _ => rfl, A0, zF.rf, fun _ _ _ _ _ => rfl, zE9.rf⟩, by decide, by rw [t0i]; exact tM.1⟩  -- j1
  rintro n2 _ x2_1 κ2 W2 T2_0 ⟨hn2, rfl, i2⟩
  obtain ⟨⟨ρ1, G1⟩, l10, l11⟩ := i2
  obtain ⟨⟨eg, pv, tt, hI⟩, rw9⟩ := ro_k9 W Ta0 G1
  have wl := rw9 odLefts (by decide +kernel) (by decide)
  have wr := rw9 odRights (by decide +kernel) (by decide)
  have wb := rw9 odBases (by decide +kernel) (by decide)
  have k1 := cnk l10
  refine ⟨fun c1 => ?_, fun c1 => ?_⟩
  · skip
    refine h _ _ ?_
    · exact ⟨nb_1, ρ1, G1⟩  -- q2
  · skip
    intro T2
    rw [lei, eg, tt] at c1
    have ix := cn1 (x := x2_1) l10 (by omega)
    refine Ho_part_c2 W2 T2 3000 3 8192 ?_ (fun r3 q5 => ?_)
    · rw [eg]
      exact ⟨hI G0.1.1, Or.inr (Or.inr ⟨rfl, rfl, rfl⟩)⟩
    intro W6
    intro M7
    rw [eg, pv] at q5
    refine ⟨fun c8 => ?_, fun c8 => ?_⟩
    · skip
      intro x9 hx9
      refine ⟨_, ?_, rfl, ?_⟩
      · rw [hn2, hx9, ix.2]; omega  -- d4
      · exact ⟨rfl, ⟨ρ1, G1⟩, by rw [hx9, ix.2]; omega, by rw [hx9, ix.2]; omega⟩  -- i5
    · skip
      refine ⟨?_, ?_⟩
      · rw [inb_iff, wl.2.2, L0.1]; omega  -- b6
      refine ⟨?_, ?_⟩
      · rw [inb_iff, wr.2.2, L0.2.1]; omega  -- b7
      intro x10 hx10
      rw [wl.2.1, wr.2.1] at hx10
      have tag : pV9 κ (zR κ odGroups a0) x2_1 0 = 0 := by rw [← q5]; exact c8
      obtain ⟨⟨a1l, a2l⟩, a1r, a2r⟩ := (I0 x2_1 l10 (by omega)).1 tag
      have pq := pl x2_1 l10 (by omega) tag
      refine ⟨fun c11 => ?_, fun c11 => ?_⟩
      · skip
        intro x12 hx12
        refine ⟨_, ?_, rfl, ?_⟩
        · rw [hn2, hx12, ix.2]; omega  -- d8
        · exact ⟨rfl, ⟨ρ1, G1⟩, by rw [hx12, ix.2]; omega, by rw [hx12, ix.2]; omega⟩  -- i9
      · skip
        refine ⟨?_, ?_⟩
        · rw [inb_iff, wb.2.2, L0.2.2.1]; omega  -- b10
        refine ⟨?_, ?_⟩
        · rw [inb_iff, wl.2.2, L0.1]; omega  -- b11
        refine ⟨?_, ?_⟩
        · rw [inb_iff, wr.2.2, L0.2.1]; omega  -- b12
        intro T13
        refine Od_rowsAgree_c W6 T13 ρ1 n9 P9 ?_ (fun r14 κ_15 q16 => ?_)
        · rw [hx10] at c11 ⊢
          have m := mn_9 a1l a1r c11
          rw [wb.2.1, wl.2.1, wr.2.1]
          exact ⟨G1.2.1, hP, pq.1, m.1, m.2.1, by rw [m.2.2]; omega⟩
        intro W17
        intro M18
        obtain ⟨ρ2, G2⟩ := q16
        have G3 := ro_h9 (ro_t9 W Ta0 G1 G2)
        refine ⟨fun c19 => ?_, fun c19 => ?_⟩
        · skip
          intro x20 hx20
          refine ⟨_, ?_, rfl, ?_⟩
          · rw [hn2, hx20, ix.2]; omega  -- d14
          · exact ⟨rfl, ⟨ρ2, G3⟩, by rw [hx20, ix.2]; omega, by rw [hx20, ix.2]; omega⟩  -- i15
        · skip
          refine h _ _ ?_
          · exact ⟨nb_0, ρ2, G3⟩  -- q16

end
