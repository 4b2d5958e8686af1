set_option maxHeartbeats 1600000
/-! the class: Hoard's enter -/
def enS (κ κ' : zS) (a0 : Nat) (a2 a3 v : Int32) : Prop := κ' = κ ∨ ((zI κ' hoTotal a0).toInt = (zI κ hoTotal a0).toInt + 1 ∧ v.toInt = (zI κ hoTotal a0).toInt ∧ (zI κ hoTotal a0).toInt < a3.toInt ∧ (∀ k, k ≤ ((zI κ hoTotal a0).toInt).toNat → (zA κ' (zR κ' hoStarts a0) k).toInt = (zA κ (zR κ hoStarts a0) k).toInt) ∧ (zA κ' (zR κ' hoStarts a0) (((zI κ hoTotal a0).toInt).toNat + 1)).toInt = (zA κ (zR κ hoStarts a0) (((zI κ hoTotal a0).toInt).toNat)).toInt + a2.toInt)
def enJ (κ τ : zS) (a0 a1 M D S : Nat) (a2 a3 l4 l5 : Int32) : Prop := (0 ≤ l4.toInt ∧ l4.toInt < S) ∧ hoA κ a0 M D S ∧ ((zI κ hoTotal a0).toInt < M ∧ (zI κ hoTotal a0).toInt < a3.toInt ∧ a2.toInt ≤ D ∧ a2.toInt ≤ zN κ a1) ∧ l5.toInt = (zA κ (zR κ hoStarts a0) (((zI κ hoTotal a0).toInt).toNat)).toInt ∧ zF (hoF a0) κ τ ∧ zI τ = zI κ ∧ (zR τ hoStarts a0 = zR κ hoStarts a0 ∧ zR τ hoTable a0 = zR κ hoTable a0) ∧ (zA τ (zR κ hoStarts a0) = zA κ (zR κ hoStarts a0) ∧ zA τ (zR κ hoTable a0) = zA κ (zR κ hoTable a0)) ∧ (l5.toInt + a2.toInt ≤ (zN τ (zR τ hoPool a0)) ∧ 16 ≤ (zN τ (zR τ hoPool a0)) ∧ (zN τ (zR τ hoPool a0)) ≤ M * D)
theorem ow_ne {C : zC} {n0 f g a b t u : Nat} {κ : zS} (W : zW C n0 κ) (hf : zr f = some t) (ht : 20 ≤ t) (ha : zT κ a = f / 100) (hg : zr g = some u) (hu : 20 ≤ u) (hb : zT κ b = g / 100) (h : f ≠ g) : zR κ f a ≠ zR κ g b := fun e => by
  have o1 := W.o hf ht ha
  have o2 := W.o hg hu hb
  rw [e, o2] at o1
  exact h (congrArg Prod.fst o1).symm
/-- the last steps of enter -/
theorem en_q {C : zC} {n0 : Nat} {κ τ κ1 κ3 κ5 κ7 : zS} {a0 a1 M D S : Nat} {a2 a3 l4 l5 : Int32} (W : zW C n0 κ) (T : zT κ a0 = 6) (Wt : zW C n0 τ) (H : hoI κ a0 M D S) (P : hoP M D S) (h2 : 0 ≤ a2.toInt) (J : enJ κ τ a0 a1 M D S a2 a3 l4 l5) (e1 : κ1 = uc τ a1 (zR τ hoPool a0) 0 l5.toNatClampNeg a2.toNatClampNeg) (e3 : κ3 = ui κ1 hoTotal a0 (zI κ1 hoTotal a0 + 1)) (e5 : κ5 = ua κ3 (zR κ3 hoStarts a0) (zI κ3 hoTotal a0).toNatClampNeg (l5 + a2)) (e7 : κ7 = ua κ5 (zR κ5 hoTable a0) l4.toNatClampNeg (zI κ5 hoTotal a0)) : zF (hoF a0) κ κ7 ∧ hoI κ7 a0 M D S ∧ -1 ≤ (zI κ7 hoTotal a0 - 1).toInt ∧ (zI κ7 hoTotal a0 - 1).toInt < (zI κ7 hoTotal a0).toInt ∧ enS κ κ7 a0 a2 a3 (zI κ7 hoTotal a0 - 1) := by
  obtain ⟨⟨j0, j1⟩, A, ⟨jM, j3, jD, -⟩, jl, F, jI, ⟨jS, jT⟩, ⟨aS, aT⟩, jp1, jp2, jp3⟩ := J
  have B := hoP_b P
  have Tt : zT τ a0 = 6 := F.t T (by decide)
  have b0 := H.2.1.1
  have k4 := cnk j0
  have l0 : 0 ≤ l5.toInt := by rw [jl]; exact hoA_0 A (Nat.le_refl _)
  have nSP : zR τ hoStarts a0 ≠ zR τ hoPool a0 := ow_ne Wt (by decide +kernel : zr hoStarts = some 20) (by decide) Tt (by decide +kernel : zr hoPool = some 20) (by decide) Tt (by decide)
  have nTP : zR τ hoTable a0 ≠ zR τ hoPool a0 := ow_ne Wt (by decide +kernel : zr hoTable = some 20) (by decide) Tt (by decide +kernel : zr hoPool = some 20) (by decide) Tt (by decide)
  have nST : zR τ hoStarts a0 ≠ zR τ hoTable a0 := ow_ne Wt (by decide +kernel : zr hoStarts = some 20) (by decide) Tt (by decide +kernel : zr hoTable = some 20) (by decide) Tt (by decide)
  have i3 : zI κ3 hoTotal a0 = zI κ hoTotal a0 + 1 := by
    rw [e3]
    refine (if_pos ⟨rfl, rfl⟩).trans ?_
    rw [e1]
    show zI τ hoTotal a0 + 1 = _
    rw [jI]
  have t3 : (zI κ3 hoTotal a0).toInt = (zI κ hoTotal a0).toInt + 1 := by rw [i3, add_i (by rw [t1i]; omega) (by rw [t1i]; omega), t1i]
  have n3 : (zI κ3 hoTotal a0).toNatClampNeg = ((zI κ hoTotal a0).toInt).toNat + 1 := by
    have := cnk (x := zI κ3 hoTotal a0) (by omega)
    omega
  have i7 : zI κ7 = zI κ3 := by rw [e7, e5]; rfl
  have i5 : zI κ5 = zI κ3 := by rw [e5]; rfl
  have r3 : zR κ3 = zR τ := by rw [e3, e1]; rfl
  have r5 : zR κ5 = zR τ := by rw [e5]; exact r3
  have r7 : zR κ7 = zR τ := by rw [e7]; exact r5
  have m3 : zN κ3 = zN τ := by rw [e3, e1]; rfl
  have m7 : zN κ7 = zN τ := by rw [e7, e5]; exact m3
  have o3 : zO κ3 = zO τ := by rw [e3, e1]; rfl
  have o5 : zO κ5 = zO τ := by rw [e5]; exact o3
  have la : (l5 + a2).toInt = l5.toInt + a2.toInt := add_i (by omega) (by omega)
  have x3 : ∀ r, r ≠ zR τ hoPool a0 → zA κ3 r = zA τ r := fun r hr => by rw [e3, e1]; exact if_neg hr
  have x5 : zA κ5 (zR τ hoStarts a0) = upd (zA κ (zR κ hoStarts a0)) (((zI κ hoTotal a0).toInt).toNat + 1) (l5 + a2) := by
    rw [e5, r3, n3]
    refine (if_pos rfl).trans ?_
    have := x3 _ nSP
    rw [jS] at this
    show upd (zA κ3 (zR τ hoStarts a0)) _ _ = _
    rw [jS, this, aS]
  have x5t : zA κ5 (zR τ hoTable a0) = zA κ (zR κ hoTable a0) := by
    rw [e5, r3]
    refine (if_neg (Ne.symm nST)).trans ?_
    have := x3 _ nTP
    rw [jT] at this
    show zA κ3 (zR τ hoTable a0) = _
    rw [jT, this, aT]
  have x7s : zA κ7 (zR τ hoStarts a0) = upd (zA κ (zR κ hoStarts a0)) (((zI κ hoTotal a0).toInt).toNat + 1) (l5 + a2) := by
    rw [e7, r5]
    exact (if_neg nST).trans x5
  have x7t : zA κ7 (zR τ hoTable a0) = upd (zA κ (zR κ hoTable a0)) l4.toNatClampNeg (zI κ3 hoTotal a0) := by
    rw [e7, r5, i5]
    refine (if_pos rfl).trans ?_
    show upd (zA κ5 (zR τ hoTable a0)) _ _ = _
    rw [x5t]
  have F1 : zF (hoF a0) τ κ1 := by rw [e1]; exact zF_uc (by rw [ow_hoPool Wt Tt]; exact ⟨rfl, Or.inr (Or.inr (Or.inl rfl))⟩)
  have F3 : zF (hoF a0) κ1 κ3 := by rw [e3]; exact zF_ui ⟨rfl, Or.inr (Or.inr (Or.inr rfl))⟩
  have F5 : zF (hoF a0) κ3 κ5 := by rw [e5]; exact zF_ua (by rw [r3, o3, ow_hoStarts Wt Tt]; exact ⟨rfl, Or.inl rfl⟩)
  have F7 : zF (hoF a0) κ5 κ7 := by rw [e7]; exact zF_ua (by rw [r5, o5, ow_hoTable Wt Tt]; exact ⟨rfl, Or.inr (Or.inl rfl)⟩)
  have FF := (((F.tr F1).tr F3).tr F5).tr F7
  have t7 : (zI κ7 hoTotal a0).toInt = (zI κ hoTotal a0).toInt + 1 := by rw [i7]; exact t3
  have u7 : (zI κ7 hoTotal a0 - 1).toInt = (zI κ hoTotal a0).toInt := by rw [sub_i (by rw [t7, t1i]; omega) (by rw [t7, t1i]; omega), t7, t1i]; omega
  have s7 : ∀ k, (zA κ7 (zR κ7 hoStarts a0) k).toInt = if k = ((zI κ hoTotal a0).toInt).toNat + 1 then l5.toInt + a2.toInt else (zA κ (zR κ hoStarts a0) k).toInt := fun k => by
    rw [r7, x7s]
    show Int32.toInt (if k = _ then _ else _) = _
    by_cases z : k = ((zI κ hoTotal a0).toInt).toNat + 1
    · rw [if_pos z, if_pos z, la]
    · rw [if_neg z, if_neg z]
  have lS : zN τ (zR κ hoStarts a0) = zN κ (zR κ hoStarts a0) := F.l (ty_hoStarts W T)
  have lT : zN τ (zR κ hoTable a0) = zN κ (zR κ hoTable a0) := F.l (ty_hoTable W T)
  have A7 : hoA κ7 a0 M D S := by
    refine ⟨?_, ?_, ?_, fun k hk => ?_, ?_, fun j hj => ?_⟩
    · show zN κ7 (zR κ7 hoTable a0) = S
      rw [r7, m7, jT, lT]; exact A.1
    · show zN κ7 (zR κ7 hoStarts a0) = M + 1
      rw [r7, m7, jS, lS]; exact A.2.1
    · rw [s7, if_neg (by omega)]; exact A.2.2.1
    · rw [t7] at hk
      rw [s7, s7]
      by_cases z : k + 1 = ((zI κ hoTotal a0).toInt).toNat + 1
      · rw [if_neg (by omega), if_pos z]
        have z2 : k = ((zI κ hoTotal a0).toInt).toNat := by omega
        rw [z2, ← jl]
        omega
      · rw [if_neg (by omega), if_neg z]
        exact A.2.2.2.1 k (by omega)
    · rw [t7, s7, if_pos (by omega), r7, m7]
      exact jp1
    · have c : (zA κ7 (zR κ7 hoTable a0) j).toInt = if j = l4.toNatClampNeg then (zI κ hoTotal a0).toInt + 1 else (zA κ (zR κ hoTable a0) j).toInt := by
        rw [r7, x7t]
        show Int32.toInt (if j = _ then _ else _) = _
        by_cases z : j = l4.toNatClampNeg
        · rw [if_pos z, if_pos z, t3]
        · rw [if_neg z, if_neg z]
      rw [c, t7]
      have g := A.2.2.2.2.2 j hj
      split <;> omega
  refine ⟨FF, ⟨⟨?_, ?_, ?_⟩, ⟨by rw [t7]; omega, by rw [t7]; omega⟩, ?_, Or.inr A7⟩, by rw [u7]; omega, by rw [u7, t7]; omega, Or.inr ⟨t7, u7, j3, fun k hk => ?_, ?_⟩⟩
  · rw [FF.i (hoF_n (Or.inl rfl))]; exact H.1.1
  · rw [FF.i (hoF_n (Or.inr (Or.inl rfl)))]; exact H.1.2.1
  · rw [FF.i (hoF_n (Or.inr (Or.inr rfl)))]; exact H.1.2.2
  · show 16 ≤ zN κ7 (zR κ7 hoPool a0) ∧ zN κ7 (zR κ7 hoPool a0) ≤ M * D
    rw [r7, m7]; exact ⟨jp2, jp3⟩
  · rw [s7, if_neg (by omega)]
  · rw [s7, if_pos rfl, jl]
theorem wS_pool {n o : Nat} (h : o < n) (h6 : 6 ≤ o) (hc : (n = 142000 ∨ n = 35000 ∨ n = 9000) ∨ 2 * o ≤ n) : n + wS 605 o ≤ wS 605 n ∧ 4 + wC 605 o ≤ wC 605 n := by
  unfold wS wC
  simp only [if_neg (show ¬ (605 : Nat) = 0 by decide), if_true]
  constructor <;> (split <;> split <;> omega)
theorem Ho_enter_c {C : zC} {n0 : Nat} {a0 : Nat} {a1 : Nat} {a2 : Int32} {a3 : Int32} {κ : zS} {Q : Int32 → zS → Prop} (W : zW C n0 κ) (Ta0 : zT κ a0 = 6) (Ta1 : zT κ a1 = 20) (M D S : Nat) (hp : hoI κ a0 M D S ∧ hoP M D S ∧ 0 ≤ a2.toInt) (h : ∀ (v : Int32) (κ' : zS), (zF (hoF a0) κ κ' ∧ hoI κ' a0 M D S ∧ -1 ≤ v.toInt ∧ v.toInt < (zI κ' hoTotal a0).toInt ∧ enS κ κ' a0 a2 a3 v) → Q v κ') : zRun C 2 mHo_enter [.ref a0, .ref a1, .int a2, .int a3] κ (oI Q noX) := by
  refine Ho_enter_run W Ta0 Ta1 ?_
  replace W := W.lo (Nat.le_trans W.1.2.1 W.1.2.2) (Nat.le_refl (zn κ))
  unfold w_Ho_enter_0
  obtain ⟨H, P, h2⟩ := hp
  have B := hoP_b P
  have nN := W.n Ta1
  have pN := W.n (ty_hoPool W Ta0)
  have b0 := H.2.1.1
  have b1 := H.2.1.2
  have z1 : zF (hoF a0) κ κ ∧ hoI κ a0 M D S ∧ -1 ≤ (-1 : Int32).toInt ∧ (-1 : Int32).toInt < (zI κ hoTotal a0).toInt ∧ enS κ κ a0 a2 a3 (-1) := ⟨zF.rf, H, by decide, by rw [tmi]; omega, Or.inl rfl⟩
  have hj125 : ∀ (l0 : Nat) (l1 : Nat) (l2 : Int32) (l4 : Int32) (l5 : Int32) (τ : zS), zW C (zn κ) τ → zT τ l0 = 6 → zT τ l1 = 20 → (a0 = l0 ∧ a1 = l1 ∧ a2 = l2 ∧ enJ κ τ a0 a1 M D S a2 a3 l4 l5) → w_Ho_enter_125 C (zn κ) Q  l0 l1 l2 l4 l5 τ := by
    rintro _ _ _ y125_4 y125_5 τ125 W125 T125_0 T125_1 ⟨rfl, rfl, rfl, j125⟩
    unfold w_Ho_enter_125
    have J := j125
    obtain ⟨⟨j0, j1⟩, A, ⟨jM, j3, jD, jn⟩, jl, F, jI, ⟨jS, jT⟩, ⟨aS, aT⟩, jp1, jp2, jp3⟩ := j125
    have l0 : 0 ≤ y125_5.toInt := by rw [jl]; exact hoA_0 A (Nat.le_refl _)
    have k5 := cnk l0
    have k2 := cnk h2
    have lS : zN τ125 (zR κ hoStarts a0) = zN κ (zR κ hoStarts a0) := F.l (ty_hoStarts W Ta0)
    have lT : zN τ125 (zR κ hoTable a0) = zN κ (zR κ hoTable a0) := F.l (ty_hoTable W Ta0)
    have l1 : zN τ125 a1 = zN κ a1 := F.l Ta1
    refine ⟨?_, ?_⟩
    · refine ⟨by decide, by rw [lei, t0i]; exact l0, by rw [lei, t0i]; exact h2, ?_, ?_⟩
      · rw [l1]
        show 0 + a2.toNatClampNeg ≤ _
        omega
      · omega
    intro κ_1 hκ_1
    intro W2
    intro κ_3 hκ_3
    intro W4
    have i3 : zI κ_3 hoTotal a0 = zI κ hoTotal a0 + 1 := by
      rw [hκ_3]
      refine (if_pos ⟨rfl, rfl⟩).trans ?_
      rw [hκ_1]
      show zI τ125 hoTotal a0 + 1 = _
      rw [jI]
    have t3 : (zI κ_3 hoTotal a0).toInt = (zI κ hoTotal a0).toInt + 1 := by rw [i3, add_i (by rw [t1i]; omega) (by rw [t1i]; omega), t1i]
    have r3 : zR κ_3 = zR τ125 := by rw [hκ_3, hκ_1]; rfl
    have m3 : zN κ_3 = zN τ125 := by rw [hκ_3, hκ_1]; rfl
    refine ⟨?_, ?_⟩
    · rw [inb_iff, t3, r3, m3, jS, lS, show zN κ (zR κ hoStarts a0) = M + 1 from A.2.1]; omega  -- b2
    intro κ_5 hκ_5
    intro W6
    refine ⟨?_, ?_⟩
    · have r5 : zR κ_5 = zR τ125 := by rw [hκ_5]; exact r3
      have m5 : zN κ_5 = zN τ125 := by rw [hκ_5]; exact m3
      rw [inb_iff, r5, m5, jT, lT, show zN κ (zR κ hoTable a0) = S from A.1]; exact ⟨j0, j1⟩
    intro κ_7 hκ_7
    intro W8
    refine h _ _ ?_
    · exact en_q W Ta0 W125 H P h2 J hκ_1 hκ_3 hκ_5 hκ_7  -- q4
  refine ⟨fun c9 => ?_, fun c9 => ?_⟩
  · skip
    refine h _ _ ?_
    · exact z1  -- q5
  · skip
    have A := hoI_A H (Or.inr (fun e => c9 (by have e9 : zN κ (zR κ hoTable a0) = 0 := e; rw [e9]; rfl)))
    have tl : zN κ (zR κ hoTable a0) = S := A.1
    refine ⟨fun c10 => ?_, fun c10 => ?_⟩
    · skip
      intro T11
      intro T12
      refine Ho_slotOf_c W T11 T12 M D S ?_ (fun r13 q15 => ?_)
      · exact ⟨A, P, b0, b1, H.2.2.1.2, by rw [lei, ofn_i nN] at c10; exact c10⟩  -- p6
      intro W16
      intro M17
      have c2 : a2.toInt ≤ zN κ a1 := by rw [lei, ofn_i nN] at c10; exact c10
      refine ⟨?_, ?_⟩
      · rw [inb_iff, tl]; exact q15  -- b7
      refine ⟨fun c18 => ?_, fun c18 => ?_⟩
      · skip
        refine ⟨fun c19 => ?_, fun c19 => ?_⟩
        · skip
          refine h _ _ ?_
          · exact z1  -- q8
        · skip
          refine ⟨fun c20 => ?_, fun c20 => ?_⟩
          · skip
            refine h _ _ ?_
            · exact z1  -- q9
          · skip
            have d1 : (zI κ hoTotal a0).toInt < a3.toInt := by rw [lei] at c19; omega
            have d2 : (zI κ hoTotal a0).toInt < M := by rw [lei, H.1.1] at c20; omega
            have kt := cnk b0
            have kn : (zI κ hoTotal a0).toNatClampNeg = ((zI κ hoTotal a0).toInt).toNat := rfl
            refine ⟨fun c21 => ?_, fun c21 => ?_⟩
            · skip
              refine ⟨?_, ?_⟩
              · rw [inb_iff, show zN κ (zR κ hoStarts a0) = M + 1 from A.2.1]; omega  -- b10
              intro x22 hx22
              rw [kn] at hx22
              have d3 : a2.toInt ≤ D := by rw [lei, H.1.2.1] at c21; exact c21
              have f0 := hoA_0 A (Nat.le_refl ((zI κ hoTotal a0).toInt).toNat)
              have f1 : (zA κ (zR κ hoStarts a0) (((zI κ hoTotal a0).toInt).toNat)).toInt ≤ (((zI κ hoTotal a0).toInt).toNat : Int) * D := hoA_D A _ (Nat.le_refl _)
              have f2 := A.2.2.2.2.1
              have f3 := H.2.2.1
              have ex : x22.toInt = (zA κ (zR κ hoStarts a0) (((zI κ hoTotal a0).toInt).toNat)).toInt := by rw [hx22]
              have ea : (x22 + a2).toInt = x22.toInt + a2.toInt := add_i (by omega) (by omega)
              refine ⟨fun c23 => ?_, fun c23 => ?_⟩
              · skip
                refine hj125 _ _ _ _ _ _ W16 ?_ ?_ ?_
                · exact Ta0  -- t11
                · exact Ta1  -- t12
                · rw [lei, ea, ofn_i pN] at c23
                  exact ⟨rfl, rfl, rfl, q15, A, ⟨d2, d1, d3, c2⟩, ex, zF.rf, rfl, ⟨rfl, rfl⟩, ⟨rfl, rfl⟩, c23, f3.1, f3.2⟩
              · skip
                intro T24
                have c24 : (zN κ (zR κ hoPool a0) : Int) < x22.toInt + a2.toInt := by rw [lei, ea, ofn_i pN] at c23; omega
                have md : (zI κ hoMost a0 * zI κ hoWidest a0).toInt = (M : Int) * D := by rw [mul_i (by rw [H.1.1, H.1.2.1]; omega) (by rw [H.1.1, H.1.2.1]; omega), H.1.1, H.1.2.1]
                have mu : ((x22 + a2) * 2).toInt = (x22.toInt + a2.toInt) * 2 := by rw [mul_i (by rw [ea, t2i]; omega) (by rw [ea, t2i]; omega), ea, t2i]
                have up : x22.toInt + a2.toInt ≤ (M : Int) * D := by
                  have g : ((((zI κ hoTotal a0).toInt).toNat + 1 : Nat) : Int) * D ≤ (M : Int) * D := Int.mul_le_mul_of_nonneg_right (by omega) (Int.natCast_nonneg D)
                  have g2 : ((((zI κ hoTotal a0).toInt).toNat + 1 : Nat) : Int) * D = (((zI κ hoTotal a0).toInt).toNat : Int) * D + D := by rw [Int.natCast_add]; simp [Int.add_mul]
                  omega
                obtain ⟨nn, hnn⟩ : ∃ nn, nn = (if zI κ hoMost a0 * zI κ hoWidest a0 < (x22 + a2) * 2 then zI κ hoMost a0 * zI κ hoWidest a0 else (x22 + a2) * 2) := ⟨_, rfl⟩
                rw [← hnn]
                have nt : x22.toInt + a2.toInt ≤ nn.toInt ∧ nn.toInt ≤ (M : Int) * D ∧ (nn.toInt = (M : Int) * D ∨ nn.toInt = (x22.toInt + a2.toInt) * 2) := by
                  rw [hnn]
                  by_cases z : zI κ hoMost a0 * zI κ hoWidest a0 < (x22 + a2) * 2
                  · rw [if_pos z, md]; exact ⟨up, Int.le_refl _, Or.inl rfl⟩
                  · rw [if_neg z, mu]
                    rw [lti, md, mu] at z
                    exact ⟨by omega, by omega, Or.inr rfl⟩
                have kn9 := cnk (x := nn) (by omega)
                refine Ar_copyOf_c W16 T24  ?_ (fun r25 κ_26 q27 => ?_)
                · exact ⟨⟨by rw [lei, t0i]; omega, by omega⟩, fun e => by
                    have e9 := congrArg Int32.toInt e
                    rw [ofn_i pN] at e9
                    omega⟩
                intro W28
                intro M29
                intro T30
                refine ⟨?_, ?_⟩
                · rw [q27.1]; exact q27.2.2.1  -- b15
                intro κ_31 hκ_31
                intro W32
                have h9 : κ_31 = uo κ_26 hoPool a0 (zn κ) := by rw [hκ_31, q27.1]
                have hw := wS_pool (n := nn.toNatClampNeg) (o := zN κ (zR κ hoPool a0)) (by omega) (by omega) (by
                  rcases nt.2.2 with z | z
                  · left
                    have z2 : (nn.toNatClampNeg : Int) = (M * D : Nat) := by rw [kn9, z]; simp
                    have z3 : nn.toNatClampNeg = M * D := by omega
                    rw [z3]
                    rcases P with ⟨rfl, rfl, rfl⟩ | ⟨rfl, rfl, rfl⟩ | ⟨rfl, rfl, rfl⟩
                    · exact Or.inl rfl
                    · exact Or.inr (Or.inl rfl)
                    · exact Or.inr (Or.inr rfl)
                  · right; omega)
                have F9 : zF (hoF a0) κ κ_31 := zF_uo (t := 20) (n := nn.toNatClampNeg) (f := hoPool) (q := 20) W (by decide +kernel) (by decide) Ta0 (by decide) ⟨rfl, Or.inr (Or.inr (Or.inl rfl))⟩ q27.2.1 h9 hw.1 hw.2
                obtain ⟨g1, g2, g3, g4, g5, -⟩ := q27.2.1
                have gp : zN κ_31 (zR κ_31 hoPool a0) = nn.toNatClampNeg := by
                  have e : zR κ_31 hoPool a0 = zn κ := by rw [h9]; exact if_pos ⟨rfl, rfl⟩
                  rw [e, h9]
                  show zN κ_26 (zn κ) = _
                  rw [g2]; exact if_pos rfl
                refine hj125 _ _ _ _ _ _ W32 ?_ ?_ ?_
                · exact F9.t Ta0 (by decide)  -- t16
                · exact F9.t Ta1 (by decide)  -- t17
                · refine ⟨rfl, rfl, rfl, q15, A, ⟨d2, d1, d3, c2⟩, ex, F9, by rw [h9]; exact g3, ⟨?_, ?_⟩, ⟨?_, ?_⟩, ?_, ?_, ?_⟩
                  · rw [h9]; exact (uo_ne (by decide)).trans (by rw [g4])
                  · rw [h9]; exact (uo_ne (by decide)).trans (by rw [g4])
                  · rw [h9]; exact (g5 _ (W.nw (ty_hoStarts W Ta0))).1
                  · rw [h9]; exact (g5 _ (W.nw (ty_hoTable W Ta0))).1
                  · rw [gp]; omega
                  · rw [gp]; omega
                  · rw [gp]; omega
            · skip
              refine h _ _ ?_
              · exact z1  -- q19
      · skip
        refine ⟨?_, ?_⟩
        · rw [inb_iff, tl]; exact q15  -- b20
        refine h _ _ ?_
        · have z := A.2.2.2.2.2 r13.toNatClampNeg (by have := cnk q15.1; omega)
          have e : (zA κ (zR κ hoTable a0) r13.toNatClampNeg - 1).toInt = (zA κ (zR κ hoTable a0) r13.toNatClampNeg).toInt - 1 := by rw [sub_i (by rw [t1i]; omega) (by rw [t1i]; omega), t1i]
          exact ⟨zF.rf, H, by rw [e]; omega, by rw [e]; omega, Or.inl rfl⟩
    · skip
      refine h _ _ ?_
      · exact z1  -- q22
