set_option maxHeartbeats 1600000
/-! the class: Odds' placeTables, linkCells -/
theorem pr_9 {x y m : Int} (x0 : 0 ≤ x) (x1 : x ≤ m) (y0 : 0 ≤ y) (y1 : y ≤ m) : 0 ≤ x * y ∧ x * y ≤ m * m := ⟨Int.mul_nonneg x0 y0, Int.mul_le_mul x1 y1 y0 (by omega)⟩
/-- tables have their places -/
def plC9 (κ τ : zS) (a : Nat) (b c : Int) : Prop := ∀ x : Int32, 0 ≤ x.toInt → x.toInt < b → pV9 κ (zR κ odGroups a) x 0 = 0 → 0 ≤ (zA τ (zR κ odBases a) x.toNatClampNeg).toInt ∧ (zA τ (zR κ odBases a) x.toNatClampNeg).toInt + (zA κ (zR κ odLefts a) x.toNatClampNeg).toInt * (zA κ (zR κ odRights a) x.toNatClampNeg).toInt ≤ c
theorem Od_placeTables_c {C : zC} {n0 : Nat} {a0 : Nat} {a1 : Int32} {κ : zS} {Q : Int32 → zS → Prop} (W : zW C n0 κ) (Ta0 : zT κ a0 = 9)  (hp : (grI9 κ a0 ∧ tbL9 κ a0 ∧ gI9 κ a0 1000 1000) ∧ (0 ≤ a1.toInt ∧ a1.toInt ≤ 1000)) (h : ∀ (v : Int32) (κ' : zS), ((zF (oneF odBases a0) κ κ' ∧ rwE9 κ κ') ∧ 0 ≤ v.toInt ∧ (v.toInt ≤ a1.toInt → plC9 κ κ' a0 ((zI κ hoTotal (zR κ odGroups a0)).toInt) v.toInt)) → Q v κ') : zRun C 2 mOd_placeTables [.ref a0, .int a1] κ (oI Q noX) := by
  refine Od_placeTables_run W Ta0 ?_
  replace W := W.lo (Nat.le_trans W.1.2.1 W.1.2.2) (Nat.le_refl (zn κ))
  unfold w_Od_placeTables_0
  obtain ⟨⟨G0, L0, I0⟩, p0, p1⟩ := hp
  have Tg := ty_odGroups W Ta0
  have tM := G0.1.1.2.1
  unfold w_Od_placeTables_4
  refine ⟨fun n l0 l1 l2 l3 τ => n = ((zI κ hoTotal (zR κ odGroups a0)).toInt - l3.toInt).toNat ∧ (a0 = l0 ∧ a1 = l1 ∧ (zF (oneF odBases a0) κ τ ∧ rwE9 κ τ) ∧ (0 ≤ l2.toInt ∧ l2.toInt ≤ 1001000) ∧ (0 ≤ l3.toInt ∧ l3.toInt ≤ (zI κ hoTotal (zR κ odGroups a0)).toInt) ∧ plC9 κ τ a0 l3.toInt l2.toInt), ⟨_, rfl, ?_⟩, ?_⟩
  · exact ⟨rfl, rfl, ⟨zF.rf, rfl, rfl, rfl⟩, by decide, ⟨by decide, by rw [t0i]; exact tM.1⟩, fun x x0 x1 => by rw [t0i] at x1; omega⟩  -- j1
  rintro n4 _ _ x4_2 x4_3 κ4 W4 T4_0 ⟨hn4, rfl, rfl, i4⟩
  obtain ⟨⟨Z1, R1, N1, I1⟩, l2, l3, D1⟩ := i4
  have k3 := cnk l3.1
  have V1 := ho_t9 W Tg Z1 (fun f b z => by rw [z.1]; decide)
  have wl := Z1.row W (f := odLefts) (t := 20) (by decide +kernel) (by decide) Ta0 (fun z => absurd z.1 (by decide))
  have wr := Z1.row W (f := odRights) (t := 20) (by decide +kernel) (by decide) Ta0 (fun z => absurd z.1 (by decide))
  rw [R1] at wl wr
  refine ⟨fun c1 => ?_, fun c1 => ?_⟩
  · skip
    refine h _ _ ?_
    · rw [lei, R1, V1.2.2.2.1] at c1
      exact ⟨⟨Z1, R1, N1, I1⟩, l2.1, fun _ x x0 x1 => D1 x x0 (by omega)⟩
  · skip
    rw [lei, R1, V1.2.2.2.1] at c1
    refine ⟨fun c2 => ?_, fun c2 => ?_⟩
    · skip
      refine h _ _ ?_
      · rw [lti] at c2
        exact ⟨⟨Z1, R1, N1, I1⟩, l2.1, fun z => by omega⟩
    · skip
      intro T3
      rw [lti] at c2
      have ix := cn1 (x := x4_3) l3.1 (by omega)
      refine Ho_part_c2 W4 T3 3000 3 8192 ?_ (fun r4 q6 => ?_)
      · rw [R1]
        exact ⟨V1.2.2.2.2 _ _ _ G0.1.1, Or.inr (Or.inr ⟨rfl, rfl, rfl⟩)⟩
      intro W7
      intro M8
      rw [R1, V1.2.2.1] at q6
      refine ⟨fun c9 => ?_, fun c9 => ?_⟩
      · skip
        intro x10 hx10
        refine ⟨_, ?_, rfl, ?_⟩
        · rw [hn4, hx10, ix.2]; omega  -- d5
        · refine ⟨rfl, rfl, ⟨Z1, R1, N1, I1⟩, l2, ⟨by rw [hx10, ix.2]; omega, by rw [hx10, ix.2]; omega⟩, fun x x0 x1 xt => ?_⟩
          rw [hx10, ix.2] at x1
          by_cases z : x.toInt = x4_3.toInt
          · rw [Int32.toInt_inj.mp z] at xt
            rw [xt] at q6
            exact absurd q6 c9
          · exact D1 x x0 (by omega) xt
      · skip
        refine ⟨?_, ?_⟩
        · rw [inb_iff, R1, N1, L0.2.2.1]; omega  -- b7
        intro κ_11 hκ_11
        intro W12
        rw [R1] at hκ_11
        have r11 : zR κ_11 = zR κ := by rw [hκ_11]; exact R1
        have n11 : zN κ_11 = zN κ := by rw [hκ_11]; exact N1
        have nlb := od_ow9 W Ta0 (f := odLefts) (g := odBases) (by decide +kernel) (by decide +kernel) (by decide) (by decide) (by decide)
        have nrb := od_ow9 W Ta0 (f := odRights) (g := odBases) (by decide +kernel) (by decide +kernel) (by decide) (by decide) (by decide)
        have xl : zA κ_11 (zR κ odLefts a0) = zA κ (zR κ odLefts a0) := by
          rw [hκ_11]
          exact (if_neg nlb).trans wl.1
        have xr : zA κ_11 (zR κ odRights a0) = zA κ (zR κ odRights a0) := by
          rw [hκ_11]
          exact (if_neg nrb).trans wr.1
        have xb : zA κ_11 (zR κ odBases a0) = upd (zA κ4 (zR κ odBases a0)) x4_3.toNatClampNeg x4_2 := by
          rw [hκ_11]
          exact if_pos rfl
        have tag : pV9 κ (zR κ odGroups a0) x4_3 0 = 0 := by rw [← q6]; exact c9
        obtain ⟨⟨a1l, a2l⟩, a1r, a2r⟩ := (I0 x4_3 l3.1 (by omega)).1 tag
        have pp := pr_9 a1l a2l a1r a2r
        refine ⟨?_, ?_⟩
        · rw [inb_iff, r11, n11, L0.1]; omega  -- b8
        refine ⟨?_, ?_⟩
        · rw [inb_iff, r11, n11, L0.2.1]; omega  -- b9
        intro x13 hx13
        intro x14 hx14
        rw [r11, xl, xr] at hx13
        have em : (zA κ (zR κ odLefts a0) x4_3.toNatClampNeg * zA κ (zR κ odRights a0) x4_3.toNatClampNeg).toInt = (zA κ (zR κ odLefts a0) x4_3.toNatClampNeg).toInt * (zA κ (zR κ odRights a0) x4_3.toNatClampNeg).toInt := mul_i (by omega) (by omega)
        have ea : x13.toInt = x4_2.toInt + (zA κ (zR κ odLefts a0) x4_3.toNatClampNeg).toInt * (zA κ (zR κ odRights a0) x4_3.toNatClampNeg).toInt := by rw [hx13, add_i (by rw [em]; omega) (by rw [em]; omega), em]
        have o4 := W4.o (show zr odBases = some 20 by decide +kernel) (by decide) T4_0
        rw [R1] at o4
        have Z11 : zF (oneF odBases a0) κ κ_11 := Z1.tr (by rw [hκ_11]; exact zF_ua (by rw [o4]; exact ⟨rfl, rfl⟩))
        refine ⟨_, ?_, rfl, ?_⟩
        · rw [hn4, hx14, ix.2]; omega  -- d10
        · refine ⟨rfl, rfl, ⟨Z11, r11, n11, by rw [hκ_11]; exact I1⟩, ⟨by rw [ea]; omega, by rw [ea]; omega⟩, ⟨by rw [hx14, ix.2]; omega, by rw [hx14, ix.2]; omega⟩, fun x x0 x1 xt => ?_⟩
          rw [hx14, ix.2] at x1
          rw [xb, ea]
          unfold upd
          have kx := cnk x0
          by_cases z : x.toInt = x4_3.toInt
          · rw [Int32.toInt_inj.mp z, if_pos rfl]
            exact ⟨l2.1, Int.le_refl _⟩
          · rw [if_neg (by omega)]
            have d := D1 x x0 (by omega) xt
            exact ⟨d.1, by omega⟩
