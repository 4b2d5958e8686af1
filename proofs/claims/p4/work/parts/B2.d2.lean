set_option maxHeartbeats 1600000
/-! the class: Hoard's clear, copyTo -/
abbrev hoF (a0 : Nat) : Nat → Nat → Prop := fun f a => a = a0 ∧ (f = hoStarts ∨ f = hoTable ∨ f = hoPool ∨ f = hoTotal)
theorem hoF_n {a0 a f : Nat} (h : f = hoMost ∨ f = hoWidest ∨ f = hoSlots) : ¬ hoF a0 f a := by
  rintro ⟨-, q⟩
  rcases h with rfl | rfl | rfl <;> rcases q with q | q | q | q <;> exact absurd q (by decide)
theorem uo_ne {κ : zS} {f a r g b : Nat} (h : g ≠ f) : zR (uo κ f a r) g b = zR κ g b := if_neg (fun z => h z.1)
theorem Ho_clear_c {C : zC} {n0 : Nat} {a0 : Nat} {κ : zS} {Q : zS → Prop} (W : zW C n0 κ) (Ta0 : zT κ a0 = 6) (M D S : Nat) (hp : hoI κ a0 M D S ∧ hoP M D S) (h : ∀ (κ' : zS), (zF (hoF a0) κ κ' ∧ hoI κ' a0 M D S ∧ hoA κ' a0 M D S ∧ (zI κ' hoTotal a0).toInt = 0) → Q κ') : zRun C 1 mHo_clear [.ref a0] κ (oV Q noX) := by
  refine Ho_clear_run W Ta0 ?_
  replace W := W.lo (Nat.le_trans W.1.2.1 W.1.2.2) (Nat.le_refl (zn κ))
  unfold w_Ho_clear_0
  obtain ⟨H, P⟩ := hp
  have B := hoP_b P
  have hj30 : ∀ (l0 : Nat) (τ : zS), zW C (zn κ) τ → zT τ l0 = 6 → (a0 = l0 ∧ zF (hoF a0) κ τ ∧ (zN τ (zR τ hoTable a0)) = S ∧ (zN τ (zR τ hoStarts a0)) = M + 1 ∧ (zA τ (zR τ hoStarts a0) 0).toInt = 0 ∧ (zN τ (zR τ hoPool a0)) = (zN κ (zR κ hoPool a0))) → w_Ho_clear_30 C (zn κ) Q  l0 τ := by
    rintro _ τ30 W30 T30_0 ⟨rfl, j30⟩
    unfold w_Ho_clear_30
    intro T1
    refine Ar_fill_c W30 T1  (fun κ_2 q3 => ?_)
    intro W4
    intro M5
    intro κ_6 hκ_6
    intro W7
    refine h _ ?_
    · obtain ⟨F, tl, sl, s0, pl⟩ := j30
      have oT := ow_hoTable W30 T30_0
      have F2 : zF (hoF a0) τ30 κ_2 := by rw [q3]; exact zF_uf (by rw [oT]; exact ⟨rfl, Or.inr (Or.inl rfl)⟩)
      have F3 : zF (hoF a0) κ_2 κ_6 := by rw [hκ_6]; exact zF_ui ⟨rfl, Or.inr (Or.inr (Or.inr rfl))⟩
      have FF := (F.tr F2).tr F3
      have e6 : zI κ_6 hoTotal a0 = 0 := by rw [hκ_6]; exact if_pos ⟨rfl, rfl⟩
      have eR : zR κ_6 = zR τ30 := by rw [hκ_6, q3]; rfl
      have eN : zN κ_6 = zN τ30 := by rw [hκ_6, q3]; rfl
      have aT : zA κ_6 (zR τ30 hoTable a0) = fun k => if 0 ≤ k ∧ k < zN τ30 (zR τ30 hoTable a0) then 0 else zA τ30 (zR τ30 hoTable a0) k := by rw [hκ_6, q3]; exact if_pos rfl
      have ne : zR τ30 hoStarts a0 ≠ zR τ30 hoTable a0 := fun e => by
        have o1 := ow_hoStarts W30 T30_0
        rw [e, oT] at o1
        exact absurd (congrArg Prod.fst o1) (show ¬ (hoTable : Nat) = hoStarts by decide)
      have aS : zA κ_6 (zR τ30 hoStarts a0) = zA τ30 (zR τ30 hoStarts a0) := by rw [hκ_6, q3]; exact if_neg ne
      have t0 : (zI κ_6 hoTotal a0).toInt = 0 := by show (zI κ_6 hoTotal a0).toInt = 0; rw [e6]; rfl
      have s9 : (zA τ30 (zR τ30 hoStarts a0) 0).toInt = 0 := s0
      have t9 : zN τ30 (zR τ30 hoTable a0) = S := tl
      have A : hoA κ_6 a0 M D S := by
        refine ⟨?_, ?_, ?_, ?_, ?_, ?_⟩
        · show zN κ_6 (zR κ_6 hoTable a0) = S
          rw [eR, eN]; exact tl
        · show zN κ_6 (zR κ_6 hoStarts a0) = _
          rw [eR, eN]; exact sl
        · show (zA κ_6 (zR κ_6 hoStarts a0) 0).toInt = 0
          rw [eR, aS]; exact s0
        · intro k hk
          rw [t0] at hk
          exact absurd hk (Nat.not_lt_zero _)
        · rw [t0]
          show (zA κ_6 (zR κ_6 hoStarts a0) 0).toInt ≤ _
          rw [eR, aS, s9]; exact Int.natCast_nonneg _
        · intro j hj
          rw [t0]
          show 0 ≤ (zA κ_6 (zR κ_6 hoTable a0) j).toInt ∧ (zA κ_6 (zR κ_6 hoTable a0) j).toInt ≤ 0
          have e : zA κ_6 (zR κ_6 hoTable a0) j = 0 := by
            rw [eR, aT]
            exact if_pos ⟨Nat.zero_le _, by rw [t9]; exact hj⟩
          rw [e]
          decide
      refine ⟨FF, ⟨⟨?_, ?_, ?_⟩, ⟨by rw [t0]; decide, by rw [t0]; exact Int.natCast_nonneg _⟩, ?_, Or.inr A⟩, A, t0⟩
      · show (zI κ_6 hoMost a0).toInt = _
        rw [FF.i (hoF_n (Or.inl rfl))]; exact H.1.1
      · show (zI κ_6 hoWidest a0).toInt = _
        rw [FF.i (hoF_n (Or.inr (Or.inl rfl)))]; exact H.1.2.1
      · show (zI κ_6 hoSlots a0).toInt = _
        rw [FF.i (hoF_n (Or.inr (Or.inr rfl)))]; exact H.1.2.2
      · show 16 ≤ zN κ_6 (zR κ_6 hoPool a0) ∧ zN κ_6 (zR κ_6 hoPool a0) ≤ M * D
        rw [eR, eN]
        have p9 : zN τ30 (zR τ30 hoPool a0) = zN κ (zR κ hoPool a0) := pl
        rw [p9]; exact H.2.2.1
  refine ⟨fun c8 => ?_, fun c8 => ?_⟩
  · skip
    refine hj30 _ _ W ?_ ?_
    · exact Ta0  -- t2
    · have A := hoI_A H (Or.inr (fun e => c8 (by have e9 : zN κ (zR κ hoTable a0) = 0 := e; rw [e9]; rfl)))
      exact ⟨rfl, zF.rf, A.1, A.2.1, A.2.2.1, rfl⟩
  · skip
    have z0 : zN κ (zR κ hoTable a0) = 0 := by
      have e := congrArg Int32.toInt c8
      rw [ofn_i (W.n (ty_hoTable W Ta0)), t0i] at e
      omega
    have z1 : zN κ (zR κ hoStarts a0) = 1 := by
      rcases H.2.2.2 with q | q
      · exact q.2.1
      · have e : zN κ (zR κ hoTable a0) = S := q.1
        omega
    have eS : (zI κ hoSlots a0).toNatClampNeg = S := by
      show (zI κ hoSlots a0).toInt.toNat = S
      have e : (zI κ hoSlots a0).toInt = S := H.1.2.2
      omega
    refine ⟨?_, ?_⟩
    · refine ⟨?_, by rw [eS]; omega⟩
      rw [lei, t0i]
      have e : (zI κ hoSlots a0).toInt = S := H.1.2.2
      omega
    intro κ_9 hκ_9
    intro W10
    refine ⟨?_, ?_⟩
    · rw [hκ_9]; exact if_pos rfl  -- b5
    intro κ_11 hκ_11
    intro W12
    have eI : zI κ_11 hoMost a0 = zI κ hoMost a0 := by rw [hκ_11, hκ_9]; rfl
    have e0 : (zI κ hoMost a0).toInt = M := H.1.1
    have e1 : (zI κ_11 hoMost a0 + 1).toInt = M + 1 := by rw [eI, add_i (by rw [e0, t1i]; omega) (by rw [e0, t1i]; omega), e0, t1i]
    have e2 : (zI κ_11 hoMost a0 + 1).toNatClampNeg = M + 1 := by
      show (zI κ_11 hoMost a0 + 1).toInt.toNat = M + 1
      rw [e1]; omega
    refine ⟨?_, ?_⟩
    · exact ⟨by rw [lei, t0i, e1]; omega, by rw [e2]; omega⟩  -- b6
    intro κ_13 hκ_13
    intro W14
    refine ⟨?_, ?_⟩
    · rw [hκ_13]; exact if_pos rfl  -- b7
    intro κ_15 hκ_15
    intro W16
    rw [eS] at hκ_9
    rw [e2] at hκ_13
    have w0 := wS_le (f := hoTable) (n := S) (by decide) (by decide) (by decide)
    have w1 := wS_le (f := hoTable) (n := 0) (by decide) (by decide) (by decide)
    have w2 := wC_le (f := hoTable) (n := S) (by decide) (by decide) (by decide)
    have w3 := wC_le (f := hoTable) (n := 0) (by decide) (by decide) (by decide)
    have w4 := wS_le (f := hoStarts) (n := M + 1) (by decide) (by decide) (by decide)
    have w5 := wS_le (f := hoStarts) (n := 1) (by decide) (by decide) (by decide)
    have w6 := wC_le (f := hoStarts) (n := M + 1) (by decide) (by decide) (by decide)
    have w7 := wC_le (f := hoStarts) (n := 1) (by decide) (by decide) (by decide)
    have F1 : zF (hoF a0) κ κ_11 := zF_uo (t := 20) (n := S) (f := hoTable) (q := 20) W (by decide +kernel) (by decide) Ta0 (by decide) ⟨rfl, Or.inr (Or.inl rfl)⟩ (na_h hκ_9) hκ_11 (by rw [z0]; omega) (by rw [z0]; omega)
    have r1 : zR κ_11 hoStarts a0 = zR κ hoStarts a0 := by rw [hκ_11, hκ_9]; exact uo_ne (by decide)
    have z2 : zN κ_11 (zR κ_11 hoStarts a0) = 1 := by rw [r1, F1.l (ty_hoStarts W Ta0)]; exact z1
    have T11 := F1.t Ta0 (by decide)
    have F2 : zF (hoF a0) κ_11 κ_15 := zF_uo (t := 20) (n := M + 1) (f := hoStarts) (q := 20) W12 (by decide +kernel) (by decide) T11 (by decide) ⟨rfl, Or.inl rfl⟩ (na_h hκ_13) hκ_15 (by rw [z2]; omega) (by rw [z2]; omega)
    have FF := F1.tr F2
    refine hj30 _ _ W16 ?_ ?_
    · exact FF.t Ta0 (by decide)  -- t8
    · have n1 : zn κ_11 = zn κ + 1 := by rw [hκ_11, hκ_9]; rfl
      have rT : zR κ_15 hoTable a0 = zn κ := by
        rw [hκ_15, hκ_13]
        refine (uo_ne (by decide)).trans ?_
        rw [hκ_11]
        exact if_pos ⟨rfl, rfl⟩
      have rS : zR κ_15 hoStarts a0 = zn κ_11 := by rw [hκ_15]; exact if_pos ⟨rfl, rfl⟩
      have nT : zN κ_15 (zn κ) = S := by
        rw [hκ_15, hκ_13]
        refine (if_neg (by omega)).trans ?_
        rw [hκ_11, hκ_9]
        exact if_pos rfl
      have nS : zN κ_15 (zn κ_11) = M + 1 := by rw [hκ_15, hκ_13]; exact if_pos rfl
      have aS : zA κ_15 (zn κ_11) = fun _ => 0 := by rw [hκ_15, hκ_13]; exact if_pos rfl
      have rP : zR κ_15 hoPool a0 = zR κ hoPool a0 := by
        rw [hκ_15, hκ_13]
        refine (uo_ne (by decide)).trans ?_
        rw [hκ_11, hκ_9]
        show zR (uo (na κ 20 S) hoTable a0 (zn κ)) hoPool a0 = _
        exact uo_ne (by decide)
      refine ⟨rfl, FF, ?_, ?_, ?_, ?_⟩
      · show zN κ_15 (zR κ_15 hoTable a0) = S
        rw [rT]; exact nT
      · show zN κ_15 (zR κ_15 hoStarts a0) = M + 1
        rw [rS]; exact nS
      · show (zA κ_15 (zR κ_15 hoStarts a0) 0).toInt = 0
        rw [rS, aS]; rfl
      · show zN κ_15 (zR κ_15 hoPool a0) = zN κ (zR κ hoPool a0)
        rw [rP, FF.l (ty_hoPool W Ta0)]

theorem Ho_copyTo_c {C : zC} {n0 : Nat} {a0 : Nat} {a1 : Int32} {a2 : Nat} {κ : zS} {Q : zS → Prop} (W : zW C n0 κ) (Ta0 : zT κ a0 = 6) (Ta2 : zT κ a2 = 20) (M D S : Nat) (hp : hoI κ a0 M D S ∧ hoP M D S) (h : ∀ (κ' : zS), (κ' = κ ∨ ∃ i n, κ' = uc κ (zR κ hoPool a0) a2 i 0 n) → Q κ') : zRun C 1 mHo_copyTo [.ref a0, .int a1, .ref a2] κ (oV Q noX) := by
  refine Ho_copyTo_run W Ta0 Ta2 ?_
  replace W := W.lo (Nat.le_trans W.1.2.1 W.1.2.2) (Nat.le_refl (zn κ))
  unfold w_Ho_copyTo_0
  obtain ⟨H, P⟩ := hp
  have B := hoP_b P
  have nN := W.n Ta2
  intro T1
  refine Ho_lengthOf_c W T1 M D S ?_ (fun r2 q4 => ?_)
  · exact ⟨H, P⟩  -- p1
  intro W5
  intro M6
  intro x7 hx7
  refine ⟨fun c8 => ?_, fun c8 => ?_⟩
  · skip
    refine h _ ?_
    · exact Or.inl rfl  -- q2
  · skip
    have c9 : 0 < x7.toInt := by rw [lei, t0i] at c8; omega
    have m1 : x7.toInt ≤ r2.toInt ∧ x7.toInt ≤ zN κ a2 := by
      rw [hx7]
      by_cases z : Int32.ofNat (zN κ a2) < r2
      · rw [if_pos z, ofn_i nN]
        rw [lti, ofn_i nN] at z
        omega
      · rw [if_neg z]
        rw [lti, ofn_i nN] at z
        omega
    obtain ⟨k0, k1, ek⟩ := q4.2.2 (by omega)
    have k9 := cnk k0
    have tM := H.2.1.2
    have A := hoI_A H (Or.inl (by omega))
    have sl : zN κ (zR κ hoStarts a0) = M + 1 := A.2.1
    have a := hoA_0 A (k := a1.toNatClampNeg) (by omega)
    have t : (zA κ (zR κ hoStarts a0) (a1.toNatClampNeg + 1)).toInt ≤ zN κ (zR κ hoPool a0) := hoA_t A (k := a1.toNatClampNeg + 1) (by omega)
    refine ⟨?_, ?_⟩
    · rw [inb_iff, sl]; omega  -- b3
    refine ⟨?_, ?_⟩
    · have e1 : (zA κ (zR κ hoStarts a0) a1.toNatClampNeg).toInt = (zA κ (zR κ hoStarts a0) a1.toNatClampNeg).toInt := rfl
      refine ⟨by rw [lei, t0i, e1]; exact a, by decide, by rw [lei, t0i]; omega, ?_, ?_⟩
      · have u1 := cnk a
        have u2 := cnk (x := x7) (by omega)
        omega
      · have u2 := cnk (x := x7) (by omega)
        have u3 : (0 : Int32).toNatClampNeg = 0 := rfl
        omega
    intro κ_9 hκ_9
    intro W10
    refine h _ ?_
    · exact Or.inr ⟨_, _, hκ_9⟩  -- q5
