set_option maxHeartbeats 1600000
/-! the class: Solver's fillRow -/
/-- what a ring's row holds at a column -/
def flV9 (κ : zS) (a n k rw9 f9 j v : Nat) : Prop := (j ≠ rw9 → v = 0 ∨ ∃ e : Int32, gdE (lkD κ (zR κ soAtlas a) 1) (zA κ (zR κ atFirsts (zR κ soAtlas a))) n k (zA κ (zR κ weOrder (zR κ soWeb a)) (f9 + j)) e ∧ (v : Int) = (zA κ (zR κ atWeights (zR κ soAtlas a)) e.toNatClampNeg).toInt) ∧ (j = rw9 → (v : Int) = (dvA κ (zR κ soAtlas a) k).toInt ∨ ∃ e : Int32, gdE (lkD κ (zR κ soAtlas a) 1) (zA κ (zR κ atFirsts (zR κ soAtlas a))) n k (zA κ (zR κ weOrder (zR κ soWeb a)) (f9 + j)) e ∧ (v : Int) = (dvA κ (zR κ soAtlas a) k).toInt - (zA κ (zR κ atWeights (zR κ soAtlas a)) e.toNatClampNeg).toInt)
/-- a ring's members and their rows -/
def rmI9 (κ : zS) (a n f9 m : Nat) : Prop := (f9 + m ≤ n) ∧ (n ≤ (zN κ (zR κ soRows a))) ∧ (∀ r, r < m → (zA κ (zR κ soRows a) (zA κ (zR κ weOrder (zR κ soWeb a)) (f9 + r)).toNatClampNeg).toInt = (r : Int)) ∧ ∀ s r, s < n → r < m → zA κ (zR κ weKnotOf (zR κ soWeb a)) s = zA κ (zR κ weKnotOf (zR κ soWeb a)) (zA κ (zR κ weOrder (zR κ soWeb a)) (f9 + r)).toNatClampNeg → ∃ j, j < m ∧ (zA κ (zR κ weOrder (zR κ soWeb a)) (f9 + j)).toNatClampNeg = s
theorem dv_9 {κ : zS} {a n k : Nat} (X : svX9 κ a n) (hk : k < n) : 1 ≤ (dvA κ (zR κ soAtlas a) k).toInt ∧ (dvA κ (zR κ soAtlas a) k).toInt ≤ 8000000 := by
  obtain ⟨_, _, A, _⟩ := X
  obtain ⟨_, AL, _, _, A5, A6⟩ := A
  obtain ⟨_, _, e5, e6, _⟩ := A6 k hk
  unfold dvA
  by_cases z : zA κ (zR κ atChooses (zR κ soAtlas a)) k = 0
  · rw [if_pos z, ← e6 z]; exact e5
  · rw [if_neg z]; decide
theorem rr_9 {C : zC} {n0 a : Nat} {F : Nat → Nat → Prop} {κ τ : zS} (W : zW C n0 κ) (Ta : zT κ a = 12) (Z : zF F κ τ) (h : ¬ F soRows a) : zR τ soRows a = zR κ soRows a ∧ zA τ (zR κ soRows a) = zA κ (zR κ soRows a) := by
  have e := Z.r h
  have q := (Z.row W (f := soRows) (t := 20) (by decide +kernel) (by decide) Ta h).1
  rw [e] at q
  exact ⟨e, q⟩
/-- a cell takes a number -/
theorem cl_p9 {C : zC} {n0 a u i : Nat} {ρ : Nat → Nat} {κ τ : zS} (W : zW C n0 κ) (Ta : zT κ a = 12) (N : nmI ρ κ) (S : soI ρ κ a) (K : clK9 ρ κ a) (L : (zN κ (zR κ soCells a)) = 1056) (hi : i < 1056) (hu : zQ κ (zR κ soCells a) i = some u) (Z : zF (nuF u) κ τ) (J : nuI τ u (capR (1000000 + i))) : rgE9 ceR9 ρ κ τ a ρ := by
  have r := K i u hi hu
  exact rg_so9 W Ta K (Or.inr L) (soF_1 (R := ceR9) (by rw [r]; exact ⟨by omega, by omega⟩) Z) (fun _ h => h) ⟨nm_1 W N Z (by rw [r]; exact J), so_1 W Ta S Z⟩
theorem cl_c9 {ρ : Nat → Nat} {κ : zS} {a u i : Nat} (N : nmI ρ κ) (K : clK9 ρ κ a) (hi : i < 1056) (hu : zQ κ (zR κ soCells a) i = some u) : nuI κ u (capR (1000000 + i)) := by
  have r := K i u hi hu
  have q := N.1 u (by rw [r]; exact Or.inr (Or.inr (Or.inr (Or.inr (Or.inr (Or.inr (by omega)))))))
  rw [r] at q
  exact q.2.2 (by omega)
theorem So_fillRow_c {C : zC} {n0 : Nat} {a0 : Nat} {a1 : Int32} {a2 : Int32} {a3 : Int32} {κ : zS} {Q : zS → Prop} (W : zW C n0 κ) (Ta0 : zT κ a0 = 12) (ρ : Nat → Nat) (P9 : Nat → Nat → Prop) (M9 : Nat → Nat → Nat) (n9 f9 m9 : Nat) (hp : (nmI ρ κ ∧ soI ρ κ a0) ∧ clK9 ρ κ a0 ∧ ((zN κ (zR κ soCells a0)) = 0 ∨ (zN κ (zR κ soCells a0)) = 1056) ∧ svX9 κ a0 n9 ∧ rmI9 κ a0 n9 f9 m9 ∧ (m9 ≤ 32 ∧ a3.toInt = (m9 : Int)) ∧ (0 ≤ a2.toInt ∧ a2.toInt < m9) ∧ a1 = zA κ (zR κ weOrder (zR κ soWeb a0)) (f9 + a2.toNatClampNeg) ∧ clP9 κ a0 P9 M9) (h : ∀ (κ' : zS), ((∃ ρ' : Nat → Nat, rgE9 ceR9 ρ κ κ' a0 ρ') ∧ (zR κ' soRows a0 = zR κ soRows a0 ∧ zA κ' (zR κ soRows a0) = zA κ (zR κ soRows a0)) ∧ ∃ R : Nat → Nat, (∀ j, j < m9 → flV9 κ a0 n9 a1.toNatClampNeg a2.toNatClampNeg f9 j (R j)) ∧ clP9 κ' a0 (fun i j => P9 i j ∨ (i = a2.toNatClampNeg ∧ j < m9)) (fun i j => if i = a2.toNatClampNeg ∧ j < m9 then R j else M9 i j)) → Q κ') : zRun C 3 mSo_fillRow [.ref a0, .int a1, .int a2, .int a3] κ (oV Q noX) := by
  refine So_fillRow_run W Ta0 ?_
  replace W := W.lo (Nat.le_trans W.1.2.1 W.1.2.2) (Nat.le_refl (zn κ))
  unfold w_So_fillRow_0
  obtain ⟨⟨N0, S0⟩, CK0, L0, X0, RM, ⟨hm, m3⟩, p1, ha, Q0⟩ := hp
  have kn := cnk p1.1
  have hn9 := X0.1.2.1.2
  have ok := (X0.2.1.2.2.1 (f9 + a2.toNatClampNeg) (by have := RM.1; omega)).1
  rw [← ha] at ok
  have kk := cnk ok.1
  have r0 := bk_r9 X0 (t := a1.toNatClampNeg) (by omega)
  have i1 := cn1 ok.1 (by omega)
  have dv := dv_9 X0 (k := a1.toNatClampNeg) (by omega)
  unfold w_So_fillRow_3
  refine ⟨fun n l0 l1 l2 l3 l4 τ => n = (a3.toInt - l4.toInt).toNat ∧ (a0 = l0 ∧ a1 = l1 ∧ a2 = l2 ∧ a3 = l3 ∧ (∃ ρ' : Nat → Nat, rgE9 ceR9 ρ κ τ a0 ρ') ∧ (zR τ soRows a0 = zR κ soRows a0 ∧ zA τ (zR κ soRows a0) = zA κ (zR κ soRows a0)) ∧ (0 ≤ l4.toInt ∧ l4.toInt ≤ a3.toInt) ∧ clP9 τ a0 (fun i j => P9 i j ∨ (i = a2.toNatClampNeg ∧ j < l4.toNatClampNeg)) (fun i j => if i = a2.toNatClampNeg ∧ j < l4.toNatClampNeg then (if j = a2.toNatClampNeg then (dvA κ (zR κ soAtlas a0) a1.toNatClampNeg).toInt.toNat else 0) else M9 i j)), ⟨_, rfl, ?_⟩, ?_⟩
  · refine ⟨rfl, rfl, rfl, rfl, ⟨ρ, rg_09 ⟨N0, S0⟩ CK0 L0⟩, ⟨rfl, rfl⟩, ⟨by decide, by rw [t0i]; omega⟩, cp_m9 Q0 (fun i j z => ?_)⟩
    have z0 : ¬ j < (0 : Int32).toNatClampNeg := Nat.not_lt_zero j
    exact ⟨z.elim id (fun y => absurd y.2 z0), if_neg (fun y => z0 y.2)⟩
  rintro n3 _ _ _ _ x3_4 κ3 W3 T3_0 ⟨hn3, rfl, rfl, rfl, rfl, i3⟩
  obtain ⟨⟨ρ1, E1⟩, rr, l4, Q1⟩ := i3
  have kc := cnk l4.1
  have hj35 : ∀ (l0 : Nat) (l1 : Int32) (l2 : Int32) (l3 : Int32) (l4 : Int32) (s0 : Nat) (s1 : Int64) (τ : zS), zW C (zn κ) τ → zT τ l0 = 12 → zT τ s0 = 8 → (a0 = l0 ∧ a1 = l1 ∧ a2 = l2 ∧ a3 = l3 ∧ (∃ ρ' : Nat → Nat, rgE9 ceR9 ρ κ τ a0 ρ') ∧ (zR τ soRows a0 = zR κ soRows a0 ∧ zA τ (zR κ soRows a0) = zA κ (zR κ soRows a0)) ∧ (0 ≤ l4.toInt ∧ l4.toInt < a3.toInt ∧ x3_4 = l4) ∧ clP9 τ a0 (fun i j => P9 i j ∨ (i = a2.toNatClampNeg ∧ j < l4.toNatClampNeg)) (fun i j => if i = a2.toNatClampNeg ∧ j < l4.toNatClampNeg then (if j = a2.toNatClampNeg then (dvA κ (zR κ soAtlas a0) a1.toNatClampNeg).toInt.toNat else 0) else M9 i j) ∧ ((zN τ (zR τ soCells a0)) = 1056 ∧ zQ τ (zR τ soCells a0) (33 * a2.toNatClampNeg + l4.toNatClampNeg) = some s0) ∧ s1.toInt = (if l4.toNatClampNeg = a2.toNatClampNeg then (dvA κ (zR κ soAtlas a0) a1.toNatClampNeg).toInt else 0)) → w_So_fillRow_35 C (zn κ) Q (fun (l0' : Nat) (l1' : Int32) (l2' : Int32) (l3' : Int32) (l4' : Int32) (τ : zS) => ∃ k < n3, (fun (n : Nat) (l0 : Nat) (l1 : Int32) (l2 : Int32) (l3 : Int32) (l4 : Int32) (τ : zS) => n = (a3.toInt - l4.toInt).toNat ∧ (a0 = l0 ∧ a1 = l1 ∧ a2 = l2 ∧ a3 = l3 ∧ (∃ ρ' : Nat → Nat, rgE9 ceR9 ρ κ τ a0 ρ') ∧ (zR τ soRows a0 = zR κ soRows a0 ∧ zA τ (zR κ soRows a0) = zA κ (zR κ soRows a0)) ∧ (0 ≤ l4.toInt ∧ l4.toInt ≤ a3.toInt) ∧ clP9 τ a0 (fun i j => P9 i j ∨ (i = a2.toNatClampNeg ∧ j < l4.toNatClampNeg)) (fun i j => if i = a2.toNatClampNeg ∧ j < l4.toNatClampNeg then (if j = a2.toNatClampNeg then (dvA κ (zR κ soAtlas a0) a1.toNatClampNeg).toInt.toNat else 0) else M9 i j))) k l0' l1' l2' l3' l4' τ) l0 l1 l2 l3 l4 s0 s1 τ := by
    rintro _ _ _ _ y35_4 y35_s0 y35_s1 τ35 W35 T35_0 T35_1 ⟨rfl, rfl, rfl, rfl, j35⟩
    unfold w_So_fillRow_35
    intro T1
    obtain ⟨⟨ρ3, E3⟩, rr3, ⟨l31, l32, l33⟩, Q3, ⟨L3, U3⟩, V3⟩ := j35
    subst l33
    have kc3 := cnk l31
    have cI := cl_c9 E3.2.1.1 E3.2.2.1 (by omega) U3
    have s0 : 0 ≤ y35_s1.toInt ∧ y35_s1.toInt < 4611686018427387904 := by
      rw [V3]
      split <;> omega
    refine Nu_put_c W35 T1 (capR (1000000 + (33 * a2.toNatClampNeg + x3_4.toNatClampNeg))) ?_ (fun κ_2 q3 => ?_)
    · exact ⟨s0, cI.1.2.1⟩  -- p2
    intro W4
    intro M5
    intro x6 hx6
    obtain ⟨Fp, ⟨Rp, Np⟩, Ip, Vp⟩ := q3
    have Er := cl_p9 W35 T35_0 E3.2.1.1 E3.2.1.2 E3.2.2.1 L3 (by omega) U3 Fp Ip
    have t9 := cp_t9 W35 T35_0 U3
    have ix := cn1 (x := x3_4) (by omega) (by omega)
    have rz := rr_9 W35 T35_0 Fp (fun z => absurd z.2 (by decide))
    refine ⟨_, ?_, rfl, ?_⟩
    · rw [hn3, hx6, ix.2]; omega  -- d3
    · refine ⟨rfl, rfl, rfl, rfl, ⟨ρ3, rg_t9 W Ta0 E3 Er⟩, ⟨by rw [rz.1]; exact rr3.1, by rw [← rr3.1, rz.2, rr3.1]; exact rr3.2⟩, ⟨by rw [hx6, ix.2]; omega, by rw [hx6, ix.2]; omega⟩, ?_⟩
      rw [← t9.2.2] at Fp Vp U3
      have w := cp_w9 W35 T35_0 E3.2.2.1 L3 ⟨by omega, by omega⟩ U3 Fp Vp Q3
      refine cp_m9 w (fun i j z => ?_)
      rw [hx6, ix.1] at z ⊢
      by_cases e : i = a2.toNatClampNeg ∧ j = x3_4.toNatClampNeg
      · refine ⟨Or.inr e, ?_⟩
        rw [if_pos ⟨e.1, by omega⟩, if_pos e, V3, e.2]
        split
        · rfl
        · rfl
      · refine ⟨Or.inl (z.elim Or.inl (fun y => Or.inr ⟨y.1, by omega⟩)), ?_⟩
        rw [if_neg e]
        by_cases g : i = a2.toNatClampNeg ∧ j < x3_4.toNatClampNeg
        · rw [if_pos g, if_pos ⟨g.1, by omega⟩]
        · rw [if_neg g, if_neg (by omega)]
  have X3 := rg_x9 W Ta0 E1 X0
  have eb3 : zA κ3 (zR κ3 weBackFirsts (zR κ3 soWeb a0)) = zA κ (zR κ weBackFirsts (zR κ soWeb a0)) := by rw [X3.2.1]; exact (we_f9 W rgF9_fr E1.2.2.2.2 (ty_soWeb W Ta0) (f := weBackFirsts) (by decide)).2.1
  have r3 := bk_r9 X3.1 (t := a1.toNatClampNeg) (by omega)
  refine ⟨fun c7 => ?_, fun c7 => ?_⟩
  · skip
    refine ⟨?_, ?_⟩
    · rw [inb_iff]; omega  -- b5
    intro x8 hx8
    unfold w_So_fillRow_55
    refine ⟨fun n l0 l1 l2 l4 τ => n = ((zA κ (zR κ weBackFirsts (zR κ soWeb a0)) (a1.toNatClampNeg + 1)).toInt - l4.toInt).toNat ∧ (a0 = l0 ∧ a1 = l1 ∧ a2 = l2 ∧ (∃ ρ' : Nat → Nat, rgE9 ceR9 ρ κ τ a0 ρ') ∧ (zR τ soRows a0 = zR κ soRows a0 ∧ zA τ (zR κ soRows a0) = zA κ (zR κ soRows a0)) ∧ ((zA κ (zR κ weBackFirsts (zR κ soWeb a0)) a1.toNatClampNeg).toInt ≤ l4.toInt) ∧ ∃ R : Nat → Nat, (∀ j, j < m9 → flV9 κ a0 n9 a1.toNatClampNeg a2.toNatClampNeg f9 j (R j)) ∧ clP9 τ a0 (fun i j => P9 i j ∨ (i = a2.toNatClampNeg ∧ j < m9)) (fun i j => if i = a2.toNatClampNeg ∧ j < m9 then R j else M9 i j)), ⟨_, rfl, ?_⟩, ?_⟩
    · rw [lei] at c7
      have e4 : x3_4.toNatClampNeg = m9 := by omega
      rw [e4] at Q1
      refine ⟨rfl, rfl, rfl, ⟨ρ1, E1⟩, rr, by rw [hx8, eb3]; exact Int.le_refl _, fun j => if j = a2.toNatClampNeg then (dvA κ (zR κ soAtlas a0) a1.toNatClampNeg).toInt.toNat else 0, fun j _ => ⟨fun z => Or.inl (if_neg z), fun z => Or.inl ?_⟩, Q1⟩
      dsimp only
      rw [if_pos z]
      omega
    rintro n55 _ _ _ x55_4 κ55 W55 T55_0 ⟨hn55, rfl, rfl, rfl, i55⟩
    obtain ⟨⟨ρ5, E5⟩, rr5, l5, R5, fl5, Q5⟩ := i55
    have X5 := rg_x9 W Ta0 E5 X0
    have ew5 := fun f hf => we_f9 W rgF9_fr E5.2.2.2.2 (ty_soWeb W Ta0) (f := f) hf
    have eb : zA κ55 (zR κ55 weBackFirsts (zR κ55 soWeb a0)) = zA κ (zR κ weBackFirsts (zR κ soWeb a0)) := by rw [X5.2.1]; exact (ew5 weBackFirsts (by decide)).2.1
    have ek : zA κ55 (zR κ55 weKnotOf (zR κ55 soWeb a0)) = zA κ (zR κ weKnotOf (zR κ soWeb a0)) := by rw [X5.2.1]; exact (ew5 weKnotOf (by decide)).2.1
    have eo : zA κ55 (zR κ55 weSources (zR κ55 soWeb a0)) = zA κ (zR κ weSources (zR κ soWeb a0)) := by rw [X5.2.1]; exact (ew5 weSources (by decide)).2.1
    have ee : zA κ55 (zR κ55 weEdges (zR κ55 soWeb a0)) = zA κ (zR κ weEdges (zR κ soWeb a0)) := by rw [X5.2.1]; exact (ew5 weEdges (by decide)).2.1
    have eW : zA κ55 (zR κ55 atWeights (zR κ55 soAtlas a0)) = zA κ (zR κ atWeights (zR κ soAtlas a0)) := by rw [X5.2.2.1]; exact (at_f9 W rgF9_fr E5.2.2.2.2 (ty_soAtlas W Ta0) (f := atWeights) (by decide)).2.1
    have r5 := bk_r9 X5.1 (t := a1.toNatClampNeg) (by omega)
    refine ⟨?_, ?_⟩
    · rw [inb_iff, i1.2]; omega  -- b7
    refine ⟨fun c9 => ?_, fun c9 => ?_⟩
    · skip
      refine h _ ?_
      · exact ⟨⟨ρ5, E5⟩, rr5, R5, fl5, Q5⟩  -- q8
    · skip
      rw [i1.1, eb, lei] at c9
      have ix := cn1 (x := x55_4) (by omega) (by omega)
      have g5 := bk_g9 X5.1 (t := a1.toNatClampNeg) (b := x55_4) (by omega) (by rw [eb]; exact l5) (by rw [eb]; omega)
      have G0 := (bk_g9 X0 (t := a1.toNatClampNeg) (b := x55_4) (by omega) l5 (by omega)).2
      refine ⟨?_, ?_⟩
      · rw [inb_iff]; exact ⟨g5.1.1, g5.1.2.1⟩  -- b9
      intro x10 hx10
      have gs := g5.2.1
      rw [← hx10] at gs
      have ks := cnk gs.1
      refine ⟨?_, ?_⟩
      · rw [inb_iff]; omega  -- b10
      refine ⟨?_, ?_⟩
      · rw [inb_iff]; omega  -- b11
      refine ⟨fun c11 => ?_, fun c11 => ?_⟩
      · skip
        intro x12 hx12
        refine ⟨_, ?_, rfl, ?_⟩
        · rw [hn55, hx12, ix.2]; omega  -- d12
        · exact ⟨rfl, rfl, rfl, ⟨ρ5, E5⟩, rr5, by rw [hx12, ix.2]; omega, R5, fl5, Q5⟩  -- i13
      · skip
        refine ⟨?_, ?_⟩
        · rw [inb_iff]; exact ⟨g5.1.1, g5.1.2.2.1⟩  -- b14
        refine ⟨?_, ?_⟩
        · rw [inb_iff]; exact (eg_9 X5.1 g5.2).1  -- b15
        intro x13 hx13
        obtain ⟨j9, hj9, ej9⟩ := RM.2.2.2 x10.toNatClampNeg a2.toNatClampNeg (by omega) (by omega) (by rw [← ha, ← ek]; exact c11)
        have cv : (zA κ55 (zR κ55 soRows a0) x10.toNatClampNeg).toInt = (j9 : Int) := by
          have q := RM.2.2.1 j9 hj9
          rw [ej9] at q
          rw [rr5.1, rr5.2]
          exact q
        have cj : (zA κ55 (zR κ55 soRows a0) x10.toNatClampNeg).toNatClampNeg = j9 := by
          have q := cnk (x := zA κ55 (zR κ55 soRows a0) x10.toNatClampNeg) (by omega)
          omega
        have lr : zN κ55 (zR κ55 soRows a0) = zN κ (zR κ soRows a0) := by rw [rr5.1]; exact E5.2.2.2.2.l (ty_soRows W Ta0)
        have oj := (X0.2.1.2.2.1 (f9 + j9) (by have := RM.1; omega)).1
        have ox : zA κ (zR κ weOrder (zR κ soWeb a0)) (f9 + j9) = x10 := Int32.toInt.inj (by
          have q := cnk oj.1
          omega)
        have rm2 := RM.2.1
        rw [← eo, ← hx10, ← ee] at G0
        have q5 := Q5 a2.toNatClampNeg j9 (Or.inr ⟨rfl, hj9⟩)
        have w0 := (eg_9 X5.1 g5.2).2
        refine ⟨?_, ?_⟩
        · rw [inb_iff, lr]; omega  -- b16
        intro T14
        refine So_cell_c2 W55 T14  ?_ (fun r15 q17 => ?_)
        · rw [cj]
          exact ⟨q5.1, ⟨by omega, by omega⟩, ⟨by omega, by omega⟩, q5.2.2.1⟩
        intro W18
        intro M19
        intro T20
        rw [cj] at q17
        rw [← hx13] at w0
        have iw := ihi x13
        have e64 := Int32.toInt_toInt64 x13
        have cI := cl_c9 E5.2.1.1 E5.2.2.1 (i := 33 * a2.toNatClampNeg + j9) (by omega) q5.2.2.1
        rw [← q17] at cI
        have q5u := q5.2.2.1
        rw [eW] at hx13
        refine ⟨fun c21 => ?_, fun c21 => ?_⟩
        · skip
          intro T22
          refine Nu_put_c W18 T22 (capR (1000000 + (33 * a2.toNatClampNeg + j9))) ?_ (fun κ_23 q24 => ?_)
          · rw [e64]
            exact ⟨⟨w0, by omega⟩, cI.1.2.1⟩
          intro W25
          intro M26
          intro x27 hx27
          refine ⟨_, ?_, rfl, ?_⟩
          · rw [hn55, hx27, ix.2]; omega  -- d19
          · rw [e64] at q24
            obtain ⟨Fp, ⟨Rp, Np⟩, Ip, Vp⟩ := q24
            rw [q17] at Fp Ip Vp
            have Er := cl_p9 W55 T55_0 E5.2.1.1 E5.2.1.2 E5.2.2.1 q5.1 (by omega) q5u Fp Ip
            have rz := rr_9 W55 T55_0 Fp (fun z => absurd z.2 (by decide))
            have w := cp_w9 W55 T55_0 E5.2.2.1 q5.1 q5.2.1 q5u Fp Vp Q5
            refine ⟨rfl, rfl, rfl, ⟨ρ5, rg_t9 W Ta0 E5 Er⟩, ⟨by rw [rz.1]; exact rr5.1, by rw [← rr5.1, rz.2, rr5.1]; exact rr5.2⟩, by rw [hx27, ix.2]; omega, fun j => if j = j9 then x13.toInt.toNat else R5 j, fun j hj => ?_, cp_m9 w (fun i j z => ?_)⟩
            · dsimp only
              by_cases e : j = j9
              · rw [if_pos e, e]
                have ne : j9 ≠ a2.toNatClampNeg := fun y => c21 (by rw [← ox, y, ← ha])
                refine ⟨fun _ => Or.inr ⟨zA κ55 (zR κ55 weEdges (zR κ55 soWeb a0)) x55_4.toNatClampNeg, by rw [ox]; exact G0, by rw [← hx13]; omega⟩, fun y => absurd y ne⟩
              · rw [if_neg e]; exact fl5 j hj
            · dsimp only
              by_cases e : i = a2.toNatClampNeg ∧ j = j9
              · refine ⟨Or.inr e, ?_⟩
                rw [if_pos ⟨e.1, by omega⟩, if_pos e, if_pos e.2]
              · refine ⟨Or.inl z, ?_⟩
                rw [if_neg e]
                by_cases g : i = a2.toNatClampNeg ∧ j < m9
                · rw [if_pos g, if_pos g, if_neg (fun y => e ⟨g.1, y⟩)]
                · rw [if_neg g, if_neg g]
        · skip
          intro T28
          refine At_divisorOf_c W18 T28  ?_ (fun r29 q31 => ?_)
          · exact ⟨X5.1.2.2.1.1, ok.1, by omega⟩  -- p21
          intro W32
          intro M33
          intro T34
          have rd : r29 = dvA κ (zR κ soAtlas a0) a1.toNatClampNeg := by
            have q := q31
            rw [X5.2.2.1] at q
            exact q.trans (dvA_f9 W rgF9_fr E5.2.2.2.2 (ty_soAtlas W Ta0) _)
          have le := (ew_9 X0 G0).1
          rw [← hx13, c21, ← rd] at le
          have sb := sub_i (x := r29) (y := x13) (by rw [rd]; omega) (by rw [rd]; omega)
          have e65 := Int32.toInt_toInt64 (r29 - x13)
          have ir := ihi r29
          refine Nu_put_c W32 T34 (capR (1000000 + (33 * a2.toNatClampNeg + j9))) ?_ (fun κ_35 q36 => ?_)
          · rw [e65, sb]
            exact ⟨⟨by omega, by omega⟩, cI.1.2.1⟩
          intro W37
          intro M38
          intro x39 hx39
          refine ⟨_, ?_, rfl, ?_⟩
          · rw [hn55, hx39, ix.2]; omega  -- d23
          · rw [e65, sb] at q36
            obtain ⟨Fp, ⟨Rp, Np⟩, Ip, Vp⟩ := q36
            rw [q17] at Fp Ip Vp
            have Er := cl_p9 W55 T55_0 E5.2.1.1 E5.2.1.2 E5.2.2.1 q5.1 (by omega) q5u Fp Ip
            have rz := rr_9 W55 T55_0 Fp (fun z => absurd z.2 (by decide))
            have w := cp_w9 W55 T55_0 E5.2.2.1 q5.1 q5.2.1 q5u Fp Vp Q5
            have ej : j9 = a2.toNatClampNeg := by
              have q := RM.2.2.1 a2.toNatClampNeg (by omega)
              rw [← ha, ← c21] at q
              have q2 := cv
              rw [rr5.1, rr5.2] at q2
              omega
            refine ⟨rfl, rfl, rfl, ⟨ρ5, rg_t9 W Ta0 E5 Er⟩, ⟨by rw [rz.1]; exact rr5.1, by rw [← rr5.1, rz.2, rr5.1]; exact rr5.2⟩, by rw [hx39, ix.2]; omega, fun j => if j = j9 then (r29.toInt - x13.toInt).toNat else R5 j, fun j hj => ?_, cp_m9 w (fun i j z => ?_)⟩
            · dsimp only
              by_cases e : j = j9
              · rw [if_pos e, e]
                refine ⟨fun y => absurd ej y, fun _ => Or.inr ⟨zA κ55 (zR κ55 weEdges (zR κ55 soWeb a0)) x55_4.toNatClampNeg, by rw [ox]; exact G0, by rw [← hx13, ← rd]; omega⟩⟩
              · rw [if_neg e]; exact fl5 j hj
            · dsimp only
              by_cases e : i = a2.toNatClampNeg ∧ j = j9
              · refine ⟨Or.inr e, ?_⟩
                rw [if_pos ⟨e.1, by omega⟩, if_pos e, if_pos e.2]
              · refine ⟨Or.inl z, ?_⟩
                rw [if_neg e]
                by_cases g : i = a2.toNatClampNeg ∧ j < m9
                · rw [if_pos g, if_pos g, if_neg (fun y => e ⟨g.1, y⟩)]
                · rw [if_neg g, if_neg g]
  · skip
    intro T40
    rw [lei] at c7
    refine So_cell_c W3 T40 ρ1 ?_ (fun r41 κ_42 q43 => ?_)
    · exact ⟨E1.2.1, E1.2.2.1, E1.2.2.2.1.1, ⟨p1.1, by omega⟩, ⟨l4.1, by omega⟩⟩  -- p25
    obtain ⟨⟨Zc, Zk⟩, ⟨ρ2, h2, N2, K2⟩, L2, U2, O2⟩ := q43
    have E2 := rg_t9 W Ta0 E1 (rg_ce9 Zc h2 N2 K2 L2 Zk)
    have rz := rr_9 W3 T3_0 Zc (fun z => by
      rcases z with z | z
      · exact absurd z.1 (by decide)
      · have := (W3.2.1 a0 (by rw [T3_0]; decide)).2
        omega)
    have Q2 := (cp_ce9 W3 T3_0 Zc L2 O2 Q1).1
    have T2 : zT κ_42 a0 = 12 := Zc.t T3_0 (by decide)
    intro W44
    intro M45
    intro T46
    refine ⟨fun c47 => ?_, fun c47 => ?_⟩
    · skip
      refine hj35 _ _ _ _ _ _ _ _ W44 ?_ ?_ ?_
      · exact T2  -- t26
      · exact T46  -- t27
      · refine ⟨rfl, rfl, rfl, rfl, ⟨ρ2, E2⟩, ⟨by rw [rz.1]; exact rr.1, by rw [← rr.1, rz.2, rr.1]; exact rr.2⟩, ⟨l4.1, by omega, rfl⟩, Q2, ⟨L2, U2⟩, ?_⟩
        rw [if_neg (fun y => c47 (Int32.toInt.inj (by omega)))]
        rfl
    · skip
      intro T48
      have X2 := rg_x9 W Ta0 E2 X0
      refine At_divisorOf_c W44 T48  ?_ (fun r49 q51 => ?_)
      · exact ⟨X2.1.2.2.1.1, ok.1, by omega⟩  -- p29
      intro W52
      intro M53
      refine hj35 _ _ _ _ _ _ _ _ W52 ?_ ?_ ?_
      · exact T2  -- t30
      · exact T46  -- t31
      · refine ⟨rfl, rfl, rfl, rfl, ⟨ρ2, E2⟩, ⟨by rw [rz.1]; exact rr.1, by rw [← rr.1, rz.2, rr.1]; exact rr.2⟩, ⟨l4.1, by omega, rfl⟩, Q2, ⟨L2, U2⟩, ?_⟩
        rw [if_pos (by rw [c47]), Int32.toInt_toInt64]
        have q := q51
        rw [X2.2.2.1] at q
        have rd : r49 = dvA κ (zR κ soAtlas a0) a1.toNatClampNeg := q.trans (dvA_f9 W rgF9_fr E2.2.2.2.2 (ty_soAtlas W Ta0) _)
        rw [rd]
