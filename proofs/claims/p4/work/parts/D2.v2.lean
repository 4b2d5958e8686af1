set_option maxHeartbeats 1600000
/-! the class: a ring's rows in the beginning -/
theorem kf_m9 {κ : zS} {w n c1 : Nat} (K : weKn κ w n) : ∀ {c2 : Nat}, c1 < c2 → (c2 : Int) < (zI κ weKnots w).toInt → (zA κ (zR κ weKnotFirsts w) (c1 + 1)).toInt ≤ (zA κ (zR κ weKnotFirsts w) c2).toInt := by
  intro c2
  induction c2 with
  | zero => intro h _; omega
  | succ c ih =>
    intro h h2
    by_cases z : c1 = c
    · rw [z]; exact Int.le_refl _
    · have a := ih (by omega) (by omega)
      have b := (K.2.1 c (by omega)).2.1
      omega
theorem ko_9 {κ : zS} {w n c i : Nat} (K : weKn κ w n) (hi : i < n) (hc : (c : Int) < (zI κ weKnots w).toInt) (h1 : (zA κ (zR κ weKnotFirsts w) c).toInt ≤ (i : Int)) (h2 : (i : Int) < (zA κ (zR κ weKnotFirsts w) (c + 1)).toInt) : (zA κ (zR κ weKnotOf w) (zA κ (zR κ weOrder w) i).toNatClampNeg).toInt = (c : Int) := by
  obtain ⟨_, ⟨b1, b2⟩, b3, b4⟩ := K.2.2.1 i hi
  have k := cnk b1
  by_cases z1 : (zA κ (zR κ weKnotOf w) (zA κ (zR κ weOrder w) i).toNatClampNeg).toNatClampNeg < c
  · have q := kf_m9 K z1 hc
    omega
  · by_cases z2 : c < (zA κ (zR κ weKnotOf w) (zA κ (zR κ weOrder w) i).toNatClampNeg).toNatClampNeg
    · have q := kf_m9 K z2 (by omega)
      omega
    · omega
theorem od_i9 {κ : zS} {w n i j : Nat} (K : weKn κ w n) (hi : i < n) (hj : j < n) (e : (zA κ (zR κ weOrder w) i).toNatClampNeg = (zA κ (zR κ weOrder w) j).toNatClampNeg) : i = j := inj_9 (n := n) (f := fun i => (zA κ (zR κ weOrder w) i).toNatClampNeg) (fun i hi => by
  have q := (K.2.2.1 i hi).1
  have k := cnk q.1
  omega) (fun s hs => by
  obtain ⟨i, h1, h2⟩ := K.2.2.2 s hs
  exact ⟨i, h1, h2⟩) i j hi hj e
/-- a ring's members -/
theorem rm_9 {κ : zS} {w n c m r s : Nat} {f9 : Nat} (K : weKn κ w n) (hc : (c : Int) < (zI κ weKnots w).toInt) (hf : (zA κ (zR κ weKnotFirsts w) c).toInt = (f9 : Int)) (hm : (zA κ (zR κ weKnotFirsts w) (c + 1)).toInt = (f9 : Int) + m) (hs : s < n) (hr : r < m) (e : zA κ (zR κ weKnotOf w) s = zA κ (zR κ weKnotOf w) (zA κ (zR κ weOrder w) (f9 + r)).toNatClampNeg) : ∃ j, j < m ∧ (zA κ (zR κ weOrder w) (f9 + j)).toNatClampNeg = s := by
  have a := K.2.1 c hc
  have k1 := ko_9 K (i := f9 + r) (by omega) hc (by omega) (by omega)
  obtain ⟨i, h1, h2⟩ := K.2.2.2 s hs
  obtain ⟨_, ⟨b1, b2⟩, b3, b4⟩ := K.2.2.1 i h1
  rw [h2, e] at b1 b3 b4
  have k := cnk b1
  have ec : (zA κ (zR κ weKnotOf w) (zA κ (zR κ weOrder w) (f9 + r)).toNatClampNeg).toNatClampNeg = c := by omega
  rw [ec] at b3 b4
  refine ⟨i - f9, by omega, ?_⟩
  rw [show f9 + (i - f9) = i by omega]
  exact h2
theorem on_9 {e : Int32} (h : 0 ≤ e.toInt) : Int32.ofNat e.toNatClampNeg = e := Int32.toInt.inj (by
  have k := cnk h
  have hi := ihi e
  rw [Int32.toInt_ofNat_of_lt (by omega)]
  omega)
theorem on_j9 {x y : Nat} (hx : x < 2147483648) (hy : y < 2147483648) (e : Int32.ofNat x = Int32.ofNat y) : x = y := by
  have q := congrArg Int32.toInt e
  rw [Int32.toInt_ofNat_of_lt (by omega), Int32.toInt_ofNat_of_lt (by omega)] at q
  omega
/-- all that may be taken of a state's nexts weighs no more than its divisor -/
theorem tk_9 {κ : zS} {a n s : Nat} (X : svX9 κ a n) (hs : s < n) : sgI (fun e => if zA κ (zR κ atChooses (zR κ soAtlas a)) s = 0 ∨ Int32.ofNat ((zA κ (zR κ atFirsts (zR κ soAtlas a)) s).toInt.toNat + e) = zA κ (zR κ atFirsts (zR κ soAtlas a)) s + zA κ (zR κ atPlan (zR κ soAtlas a)) s then (zA κ (zR κ atWeights (zR κ soAtlas a)) ((zA κ (zR κ atFirsts (zR κ soAtlas a)) s).toInt.toNat + e)).toInt else 0) ((zA κ (zR κ atFirsts (zR κ soAtlas a)) (s + 1)).toInt - (zA κ (zR κ atFirsts (zR κ soAtlas a)) s).toInt).toNat ≤ (dvA κ (zR κ soAtlas a) s).toInt := by
  obtain ⟨_, _, A, _⟩ := X
  obtain ⟨_, AL, _, _, A5, A6⟩ := A
  obtain ⟨⟨e1, e2, e3⟩, e4, e5, e6, e7⟩ := A6 s hs
  have l20 := AL.2.2
  unfold dvA
  by_cases z : zA κ (zR κ atChooses (zR κ soAtlas a)) s = 0
  · rw [if_pos z, ← e6 z]
    exact Int.le_of_eq (sgI_eq (fun e _ => if_pos (Or.inl z)))
  · rw [if_neg z]
    have q := sgI_le9 (f := fun e => if zA κ (zR κ atChooses (zR κ soAtlas a)) s = 0 ∨ Int32.ofNat ((zA κ (zR κ atFirsts (zR κ soAtlas a)) s).toInt.toNat + e) = zA κ (zR κ atFirsts (zR κ soAtlas a)) s + zA κ (zR κ atPlan (zR κ soAtlas a)) s then (zA κ (zR κ atWeights (zR κ soAtlas a)) ((zA κ (zR κ atFirsts (zR κ soAtlas a)) s).toInt.toNat + e)).toInt else 0) (g := fun e => if (zA κ (zR κ atFirsts (zR κ soAtlas a)) s + zA κ (zR κ atPlan (zR κ soAtlas a)) s).toNatClampNeg = (zA κ (zR κ atFirsts (zR κ soAtlas a)) s).toInt.toNat + e then 1 else 0) (n := ((zA κ (zR κ atFirsts (zR κ soAtlas a)) (s + 1)).toInt - (zA κ (zR κ atFirsts (zR κ soAtlas a)) s).toInt).toNat) (fun e he => by
      by_cases y : Int32.ofNat ((zA κ (zR κ atFirsts (zR κ soAtlas a)) s).toInt.toNat + e) = zA κ (zR κ atFirsts (zR κ soAtlas a)) s + zA κ (zR κ atPlan (zR κ soAtlas a)) s
      · have t : (zA κ (zR κ atFirsts (zR κ soAtlas a)) s + zA κ (zR κ atPlan (zR κ soAtlas a)) s).toNatClampNeg = (zA κ (zR κ atFirsts (zR κ soAtlas a)) s).toInt.toNat + e := by
          rw [← y]
          have o := Int32.toInt_ofNat_of_lt (n := (zA κ (zR κ atFirsts (zR κ soAtlas a)) s).toInt.toNat + e) (by omega)
          have k := cnk (x := Int32.ofNat ((zA κ (zR κ atFirsts (zR κ soAtlas a)) s).toInt.toNat + e)) (by omega)
          omega
        rw [if_pos (Or.inr y), if_pos t, e7 z _ (by omega) (by omega)]
        decide
      · rw [if_neg (fun w => w.elim z y)]
        split <;> decide)
    refine Int.le_trans q ?_
    have r := sgI_am9 (t := fun e => (zA κ (zR κ atFirsts (zR κ soAtlas a)) s).toInt.toNat + e) (m := ((zA κ (zR κ atFirsts (zR κ soAtlas a)) (s + 1)).toInt - (zA κ (zR κ atFirsts (zR κ soAtlas a)) s).toInt).toNat) (x := (zA κ (zR κ atFirsts (zR κ soAtlas a)) s + zA κ (zR κ atPlan (zR κ soAtlas a)) s).toNatClampNeg) (c := 1) (by decide) (fun i j _ _ h => by omega)
    exact r
theorem rg_d9 {κ : zS} {a n f9 m X : Nat} {M : Nat → Nat → Nat} (S : svX9 κ a n) (hm : f9 + m ≤ n) (F : ∀ i j, i < m → j < m → flV9 κ a n (zA κ (zR κ weOrder (zR κ soWeb a)) (f9 + i)).toNatClampNeg i f9 j (M i j)) (hX : ∀ i, i < m → M i 32 ≤ X) : bz9 M m 0 1 X 8000000 := by
  refine ⟨Nat.le_refl _, fun j _ hj => ?_, fun i _ hi => Nat.le_trans (hX i hi) (Nat.le_of_eq (Nat.one_mul X).symm), fun r c h => absurd h (Nat.not_lt_zero _), fun r h => absurd h (Nat.not_lt_zero _)⟩
  have oj := (S.2.1.2.2.1 (f9 + j) (by omega)).1
  have kj := cnk oj.1
  have dv := dv_9 S (k := (zA κ (zR κ weOrder (zR κ soWeb a)) (f9 + j)).toNatClampNeg) (by omega)
  have tk := tk_9 S (s := (zA κ (zR κ weOrder (zR κ soWeb a)) (f9 + j)).toNatClampNeg) (by omega)
  have ex := (S.2.2.1.2.2.2.2.2 (zA κ (zR κ weOrder (zR κ soWeb a)) (f9 + j)).toNatClampNeg (by omega))
  obtain ⟨⟨x1, x2, x3⟩, x4, _⟩ := ex
  have dg := (F j j hj hj).2 rfl
  have key : ∀ i e, i < m → gdE (lkD κ (zR κ soAtlas a) 1) (zA κ (zR κ atFirsts (zR κ soAtlas a))) n (zA κ (zR κ weOrder (zR κ soWeb a)) (f9 + i)).toNatClampNeg (zA κ (zR κ weOrder (zR κ soWeb a)) (f9 + j)) e → (e.toNatClampNeg - (zA κ (zR κ atFirsts (zR κ soAtlas a)) (zA κ (zR κ weOrder (zR κ soWeb a)) (f9 + j)).toNatClampNeg).toInt.toNat < ((zA κ (zR κ atFirsts (zR κ soAtlas a)) ((zA κ (zR κ weOrder (zR κ soWeb a)) (f9 + j)).toNatClampNeg + 1)).toInt - (zA κ (zR κ atFirsts (zR κ soAtlas a)) (zA κ (zR κ weOrder (zR κ soWeb a)) (f9 + j)).toNatClampNeg).toInt).toNat) ∧ (zA κ (zR κ atFirsts (zR κ soAtlas a)) (zA κ (zR κ weOrder (zR κ soWeb a)) (f9 + j)).toNatClampNeg).toInt.toNat + (e.toNatClampNeg - (zA κ (zR κ atFirsts (zR κ soAtlas a)) (zA κ (zR κ weOrder (zR κ soWeb a)) (f9 + j)).toNatClampNeg).toInt.toNat) = e.toNatClampNeg ∧ (zA κ (zR κ atChooses (zR κ soAtlas a)) (zA κ (zR κ weOrder (zR κ soWeb a)) (f9 + j)).toNatClampNeg = 0 ∨ Int32.ofNat e.toNatClampNeg = zA κ (zR κ atFirsts (zR κ soAtlas a)) (zA κ (zR κ weOrder (zR κ soWeb a)) (f9 + j)).toNatClampNeg + zA κ (zR κ atPlan (zR κ soAtlas a)) (zA κ (zR κ weOrder (zR κ soWeb a)) (f9 + j)).toNatClampNeg) ∧ (zA κ (zR κ atNumbers (zR κ soAtlas a)) e.toNatClampNeg).toInt.toNat = (zA κ (zR κ weOrder (zR κ soWeb a)) (f9 + i)).toNatClampNeg ∧ 0 ≤ (zA κ (zR κ atWeights (zR κ soAtlas a)) e.toNatClampNeg).toInt := fun i e hi g => by
    obtain ⟨_, ⟨g1, g2⟩, g3⟩ := g
    have e0 : 0 ≤ e.toInt := by omega
    have ke := cnk e0
    unfold lkD at g3
    by_cases z : (zA κ (zR κ atSorts (zR κ soAtlas a)) e.toNatClampNeg = 0 ∧ ((1 : Int32) = 0 ∨ zA κ (zR κ atChooses (zR κ soAtlas a)) (zA κ (zR κ weOrder (zR κ soWeb a)) (f9 + j)).toNatClampNeg = 0 ∨ Int32.ofNat e.toNatClampNeg = zA κ (zR κ atFirsts (zR κ soAtlas a)) (zA κ (zR κ weOrder (zR κ soWeb a)) (f9 + j)).toNatClampNeg + zA κ (zR κ atPlan (zR κ soAtlas a)) (zA κ (zR κ weOrder (zR κ soWeb a)) (f9 + j)).toNatClampNeg)) ∧ (zA κ (zR κ atNumbers (zR κ soAtlas a)) e.toNatClampNeg).toInt = ((zA κ (zR κ weOrder (zR κ soWeb a)) (f9 + i)).toNatClampNeg : Int)
    · refine ⟨by omega, by omega, ?_, by rw [z.2]; exact Int.toNat_natCast _, (x4 _ (by omega) (by omega)).2.2⟩
      rcases z.1.2 with y | y | y
      · exact absurd y (by decide)
      · exact Or.inl y
      · exact Or.inr y
    · rw [if_neg z] at g3
      exact absurd g3 (by decide)
  have cl := col_9 (m := m) (c := fun i => if i = j then (dvA κ (zR κ soAtlas a) (zA κ (zR κ weOrder (zR κ soWeb a)) (f9 + j)).toNatClampNeg).toInt - (M j j : Int) else (M i j : Int)) (t := fun i => (zA κ (zR κ weOrder (zR κ soWeb a)) (f9 + i)).toNatClampNeg) (g := fun e => (zA κ (zR κ atNumbers (zR κ soAtlas a)) ((zA κ (zR κ atFirsts (zR κ soAtlas a)) (zA κ (zR κ weOrder (zR κ soWeb a)) (f9 + j)).toNatClampNeg).toInt.toNat + e)).toInt.toNat) (w := fun e => if zA κ (zR κ atChooses (zR κ soAtlas a)) (zA κ (zR κ weOrder (zR κ soWeb a)) (f9 + j)).toNatClampNeg = 0 ∨ Int32.ofNat ((zA κ (zR κ atFirsts (zR κ soAtlas a)) (zA κ (zR κ weOrder (zR κ soWeb a)) (f9 + j)).toNatClampNeg).toInt.toNat + e) = zA κ (zR κ atFirsts (zR κ soAtlas a)) (zA κ (zR κ weOrder (zR κ soWeb a)) (f9 + j)).toNatClampNeg + zA κ (zR κ atPlan (zR κ soAtlas a)) (zA κ (zR κ weOrder (zR κ soWeb a)) (f9 + j)).toNatClampNeg then (zA κ (zR κ atWeights (zR κ soAtlas a)) ((zA κ (zR κ atFirsts (zR κ soAtlas a)) (zA κ (zR κ weOrder (zR κ soWeb a)) (f9 + j)).toNatClampNeg).toInt.toNat + e)).toInt else 0) (L := ((zA κ (zR κ atFirsts (zR κ soAtlas a)) ((zA κ (zR κ weOrder (zR κ soWeb a)) (f9 + j)).toNatClampNeg + 1)).toInt - (zA κ (zR κ atFirsts (zR κ soAtlas a)) (zA κ (zR κ weOrder (zR κ soWeb a)) (f9 + j)).toNatClampNeg).toInt).toNat) (fun e he => by
      split
      · exact (x4 _ (by omega) (by omega)).2.2
      · exact Int.le_refl _) (fun p q hp hq e => by
      have r := od_i9 S.2.1 (i := f9 + p) (j := f9 + q) (by omega) (by omega) e
      omega) (fun i hi => by
      by_cases z : i = j
      · rw [if_pos z]
        rcases dg with d | ⟨e, ge, d⟩
        · left; omega
        · right
          obtain ⟨k1, k2, k3, k4, k5⟩ := key j e hj ge
          refine ⟨_, k1, ?_, ?_⟩
          · rw [k2, if_pos k3]; omega
          · rw [k2, z]; exact k4
      · rw [if_neg z]
        rcases (F i j hi hj).1 (fun y => z y.symm) with d | ⟨e, ge, d⟩
        · left; rw [d]; rfl
        · right
          obtain ⟨k1, k2, k3, k4, k5⟩ := key i e hi ge
          refine ⟨_, k1, ?_, ?_⟩
          · rw [k2, if_pos k3]; exact d
          · rw [k2]; exact k4)
  have up := sgI_up (f := fun i => if 0 ≤ i ∧ i ≠ j then (M i j : Int) else 0) (g := fun i => if i = j then (dvA κ (zR κ soAtlas a) (zA κ (zR κ weOrder (zR κ soWeb a)) (f9 + j)).toNatClampNeg).toInt - (M j j : Int) else (M i j : Int)) (d := (dvA κ (zR κ soAtlas a) (zA κ (zR κ weOrder (zR κ soWeb a)) (f9 + j)).toNatClampNeg).toInt - (M j j : Int)) hj (fun i _ hne => by rw [if_neg hne, if_pos ⟨Nat.zero_le _, hne⟩]) (by rw [if_pos rfl, if_neg (fun y => y.2 rfl)]; omega)
  refine ⟨?_, ?_⟩
  · show sgI (fun i => if 0 ≤ i ∧ i ≠ j then (M i j : Int) else 0) m ≤ (M j j : Int)
    have le := Int.le_trans cl tk
    rw [up] at le
    omega
  · rcases dg with d | ⟨e, ge, d⟩
    · omega
    · have k5 := (key j e hj ge).2.2.2.2
      omega
