section
set_option maxHeartbeats 1600000
/-! the class: a ring's row, by its values -/
abbrev od15 (κ : zS) (a i : Nat) : Nat := (zA κ (zR κ weOrder (zR κ soWeb a)) i).toNatClampNeg
abbrev kO15 (κ : zS) (a s : Nat) : Int32 := zA κ (zR κ weKnotOf (zR κ soWeb a)) s
/-- what the first n links back of t weigh that come from s -/
def bp15 (κ : zS) (a t s n : Nat) : Int := sZ15 (fun d => if bs15 κ a (bl15 κ a t + d) = s then bw15 κ a (bl15 κ a t + d) else 0) n
def bW15 (κ : zS) (a t s : Nat) : Int := bp15 κ a t s (bl15 κ a (t + 1) - bl15 κ a t)
theorem bp_s15 {κ : zS} {a t s n : Nat} : bp15 κ a t s (n + 1) = bp15 κ a t s n + (if bs15 κ a (bl15 κ a t + n) = s then bw15 κ a (bl15 κ a t + n) else 0) := rfl
theorem bp_z15 {κ : zS} {a t s n : Nat} (h : ∀ d, d < n → bs15 κ a (bl15 κ a t + d) ≠ s) : bp15 κ a t s n = 0 := sZ_015 (fun d hd => if_neg (h d hd))
/-- links back of t come from different states -/
def uB15 (κ : zS) (a t : Nat) : Prop := ∀ b c, bl15 κ a t ≤ b → b < bl15 κ a (t + 1) → bl15 κ a t ≤ c → c < bl15 κ a (t + 1) → bs15 κ a b = bs15 κ a c → b = c
theorem cV_p15 {κ : zS} {a i j : Nat} {P : Nat → Nat → Prop} {M : Nat → Nat → Nat} (Q : clP9 κ a P M) (h : P i j) : cV15 κ a i j = M i j := (Q i j h).2.2.2
theorem So_fillRow_q6 {C : zC} {n0 : Nat} {a0 : Nat} {a1 : Int32} {a2 : Int32} {a3 : Int32} {κ : zS} {Q : zS → Prop} (W : zW C n0 κ) (Ta0 : zT κ a0 = 12) (ρ : Nat → Nat) (P9 : Nat → Nat → Prop) (M9 : Nat → Nat → Nat) (n9 f9 m9 : Nat) (hU9 : uB15 κ a0 a1.toNatClampNeg) (hK9 : ∀ j, j < m9 → kO15 κ a0 (od15 κ a0 (f9 + j)) = kO15 κ a0 a1.toNatClampNeg) (hp : (nmI ρ κ ∧ soI ρ κ a0) ∧ clK9 ρ κ a0 ∧ ((zN κ (zR κ soCells a0)) = 0 ∨ (zN κ (zR κ soCells a0)) = 1056) ∧ svX9 κ a0 n9 ∧ rmI9 κ a0 n9 f9 m9 ∧ (m9 ≤ 32 ∧ a3.toInt = (m9 : Int)) ∧ (0 ≤ a2.toInt ∧ a2.toInt < m9) ∧ a1 = zA κ (zR κ weOrder (zR κ soWeb a0)) (f9 + a2.toNatClampNeg) ∧ clP9 κ a0 P9 M9) (h : ∀ (κ' : zS), (((∃ ρ' : Nat → Nat, rgE9 ceR9 ρ κ κ' a0 ρ') ∧ (zR κ' soRows a0 = zR κ soRows a0 ∧ zA κ' (zR κ soRows a0) = zA κ (zR κ soRows a0)) ∧ ∃ R : Nat → Nat, (∀ j, j < m9 → flV9 κ a0 n9 a1.toNatClampNeg a2.toNatClampNeg f9 j (R j)) ∧ clP9 κ' a0 (fun i j => P9 i j ∨ (i = a2.toNatClampNeg ∧ j < m9)) (fun i j => if i = a2.toNatClampNeg ∧ j < m9 then R j else M9 i j)) ∧ (∀ j, j < m9 → (j ≠ a2.toNatClampNeg → (cV15 κ' a0 a2.toNatClampNeg j : Int) = bW15 κ a0 a1.toNatClampNeg (od15 κ a0 (f9 + j))) ∧ (j = a2.toNatClampNeg → (cV15 κ' a0 a2.toNatClampNeg j : Int) = (dvA κ (zR κ soAtlas a0) a1.toNatClampNeg).toInt - bW15 κ a0 a1.toNatClampNeg (od15 κ a0 (f9 + j))))) → Q κ') : zRun C 3 mSo_fillRow [.ref a0, .int a1, .int a2, .int a3] κ (oV Q noX) := by
  refine So_fillRow_run W Ta0 ?_
  replace W := W.lo (Nat.le_trans W.1.2.1 W.1.2.2) (Nat.le_refl (zn κ))
  unfold w_So_fillRow_0
  obtain ⟨⟨N0, S0⟩, CK0, L0, X0, RM, ⟨hm, m3⟩, p1, ha, Q0⟩ := hp
  have kn := cnk p1.1
  have hn9 := X0.1.2.1.2
  have ok := (X0.2.1.2.2.1 (f9 + a2.toNatClampNeg) (by have := RM.1; omega)).1
  rw [← ha] at ok
  have kk := cnk ok.1
  have r0 := bk_r9 X0 (t := a1.toNatClampNeg) (by omega)
  have i1 := cn1 ok.1 (by omega)
  have dv := dv_9 X0 (k := a1.toNatClampNeg) (by omega)
  unfold w_So_fillRow_3
  refine ⟨fun n l0 l1 l2 l3 l4 τ => n = (a3.toInt - l4.toInt).toNat ∧ ((a0 = l0 ∧ a1 = l1 ∧ a2 = l2 ∧ a3 = l3 ∧ (∃ ρ' : Nat → Nat, rgE9 ceR9 ρ κ τ a0 ρ') ∧ (zR τ soRows a0 = zR κ soRows a0 ∧ zA τ (zR κ soRows a0) = zA κ (zR κ soRows a0)) ∧ (0 ≤ l4.toInt ∧ l4.toInt ≤ a3.toInt) ∧ clP9 τ a0 (fun i j => P9 i j ∨ (i = a2.toNatClampNeg ∧ j < l4.toNatClampNeg)) (fun i j => if i = a2.toNatClampNeg ∧ j < l4.toNatClampNeg then (if j = a2.toNatClampNeg then (dvA κ (zR κ soAtlas a0) a1.toNatClampNeg).toInt.toNat else 0) else M9 i j)) ∧ True), ⟨_, rfl, ?_⟩, ?_⟩
  · refine and_5 ?_ (fun o9 => trivial)  -- j1
    refine ⟨rfl, rfl, rfl, rfl, ⟨ρ, rg_09 ⟨N0, S0⟩ CK0 L0⟩, ⟨rfl, rfl⟩, ⟨by decide, by rw [t0i]; omega⟩, cp_m9 Q0 (fun i j z => ?_)⟩
    have z0 : ¬ j < (0 : Int32).toNatClampNeg := Nat.not_lt_zero j
    exact ⟨z.elim id (fun y => absurd y.2 z0), if_neg (fun y => z0 y.2)⟩
  rintro n3 _ _ _ _ x3_4 κ3 W3 T3_0 ⟨hn3, ⟨rfl, rfl, rfl, rfl, i3⟩, hE⟩
  obtain ⟨⟨ρ1, E1⟩, rr, l4, Q1⟩ := i3
  have kc := cnk l4.1
  have hj35 : ∀ (l0 : Nat) (l1 : Int32) (l2 : Int32) (l3 : Int32) (l4 : Int32) (s0 : Nat) (s1 : Int64) (τ : zS), zW C (zn κ) τ → zT τ l0 = 12 → zT τ s0 = 8 → ((a0 = l0 ∧ a1 = l1 ∧ a2 = l2 ∧ a3 = l3 ∧ (∃ ρ' : Nat → Nat, rgE9 ceR9 ρ κ τ a0 ρ') ∧ (zR τ soRows a0 = zR κ soRows a0 ∧ zA τ (zR κ soRows a0) = zA κ (zR κ soRows a0)) ∧ (0 ≤ l4.toInt ∧ l4.toInt < a3.toInt ∧ x3_4 = l4) ∧ clP9 τ a0 (fun i j => P9 i j ∨ (i = a2.toNatClampNeg ∧ j < l4.toNatClampNeg)) (fun i j => if i = a2.toNatClampNeg ∧ j < l4.toNatClampNeg then (if j = a2.toNatClampNeg then (dvA κ (zR κ soAtlas a0) a1.toNatClampNeg).toInt.toNat else 0) else M9 i j) ∧ ((zN τ (zR τ soCells a0)) = 1056 ∧ zQ τ (zR τ soCells a0) (33 * a2.toNatClampNeg + l4.toNatClampNeg) = some s0) ∧ s1.toInt = (if l4.toNatClampNeg = a2.toNatClampNeg then (dvA κ (zR κ soAtlas a0) a1.toNatClampNeg).toInt else 0)) ∧ True) → w_So_fillRow_35 C (zn κ) Q (fun (l0' : Nat) (l1' : Int32) (l2' : Int32) (l3' : Int32) (l4' : Int32) (τ : zS) => ∃ k < n3, (fun (n : Nat) (l0 : Nat) (l1 : Int32) (l2 : Int32) (l3 : Int32) (l4 : Int32) (τ : zS) => n = (a3.toInt - l4.toInt).toNat ∧ ((a0 = l0 ∧ a1 = l1 ∧ a2 = l2 ∧ a3 = l3 ∧ (∃ ρ' : Nat → Nat, rgE9 ceR9 ρ κ τ a0 ρ') ∧ (zR τ soRows a0 = zR κ soRows a0 ∧ zA τ (zR κ soRows a0) = zA κ (zR κ soRows a0)) ∧ (0 ≤ l4.toInt ∧ l4.toInt ≤ a3.toInt) ∧ clP9 τ a0 (fun i j => P9 i j ∨ (i = a2.toNatClampNeg ∧ j < l4.toNatClampNeg)) (fun i j => if i = a2.toNatClampNeg ∧ j < l4.toNatClampNeg then (if j = a2.toNatClampNeg then (dvA κ (zR κ soAtlas a0) a1.toNatClampNeg).toInt.toNat else 0) else M9 i j)) ∧ True)) k l0' l1' l2' l3' l4' τ) l0 l1 l2 l3 l4 s0 s1 τ := by
    rintro _ _ _ _ y35_4 y35_s0 y35_s1 τ35 W35 T35_0 T35_1 ⟨⟨rfl, rfl, rfl, rfl, j35⟩, hE⟩
    unfold w_So_fillRow_35
    intro T1
    obtain ⟨⟨ρ3, E3⟩, rr3, ⟨l31, l32, l33⟩, Q3, ⟨L3, U3⟩, V3⟩ := j35
    subst l33
    have kc3 := cnk l31
    have cI := cl_c9 E3.2.1.1 E3.2.2.1 (by omega) U3
    have s0 : 0 ≤ y35_s1.toInt ∧ y35_s1.toInt < 4611686018427387904 := by
      rw [V3]
      split <;> omega
    refine Nu_put_c W35 T1 (capR (1000000 + (33 * a2.toNatClampNeg + x3_4.toNatClampNeg))) ?_ (fun κ_2 q3 => ?_)
    · exact ⟨s0, cI.1.2.1⟩  -- p2
    intro W4
    intro M5
    intro x6 hx6
    obtain ⟨Fp, ⟨Rp, Np⟩, Ip, Vp⟩ := q3
    have Er := cl_p9 W35 T35_0 E3.2.1.1 E3.2.1.2 E3.2.2.1 L3 (by omega) U3 Fp Ip
    have t9 := cp_t9 W35 T35_0 U3
    have ix := cn1 (x := x3_4) (by omega) (by omega)
    have rz := rr_9 W35 T35_0 Fp (fun z => absurd z.2 (by decide))
    refine lp_b5 ?_ (fun d9 => ⟨rfl, ?_⟩)
    · rw [hn3, hx6, ix.2]; omega  -- d3
    · refine and_5 ?_ (fun o9 => trivial)  -- i4
      refine ⟨rfl, rfl, rfl, rfl, ⟨ρ3, rg_t9 W Ta0 E3 Er⟩, ⟨by rw [rz.1]; exact rr3.1, by rw [← rr3.1, rz.2, rr3.1]; exact rr3.2⟩, ⟨by rw [hx6, ix.2]; omega, by rw [hx6, ix.2]; omega⟩, ?_⟩
      rw [← t9.2.2] at Fp Vp U3
      have w := cp_w9 W35 T35_0 E3.2.2.1 L3 ⟨by omega, by omega⟩ U3 Fp Vp Q3
      refine cp_m9 w (fun i j z => ?_)
      rw [hx6, ix.1] at z ⊢
      by_cases e : i = a2.toNatClampNeg ∧ j = x3_4.toNatClampNeg
      · refine ⟨Or.inr e, ?_⟩
        rw [if_pos ⟨e.1, by omega⟩, if_pos e, V3, e.2]
        split
        · rfl
        · rfl
      · refine ⟨Or.inl (z.elim Or.inl (fun y => Or.inr ⟨y.1, by omega⟩)), ?_⟩
        rw [if_neg e]
        by_cases g : i = a2.toNatClampNeg ∧ j < x3_4.toNatClampNeg
        · rw [if_pos g, if_pos ⟨g.1, by omega⟩]
        · rw [if_neg g, if_neg (by omega)]
  have X3 := rg_x9 W Ta0 E1 X0
  have eb3 : zA κ3 (zR κ3 weBackFirsts (zR κ3 soWeb a0)) = zA κ (zR κ weBackFirsts (zR κ soWeb a0)) := by rw [X3.2.1]; exact (we_f9 W rgF9_fr E1.2.2.2.2 (ty_soWeb W Ta0) (f := weBackFirsts) (by decide)).2.1
  have r3 := bk_r9 X3.1 (t := a1.toNatClampNeg) (by omega)
  refine ⟨fun c7 => ?_, fun c7 => ?_⟩
  · skip
    refine ⟨?_, ?_⟩
    · rw [inb_iff]; omega  -- b5
    intro x8 hx8
    unfold w_So_fillRow_55
    refine ⟨fun n l0 l1 l2 l4 τ => n = ((zA κ (zR κ weBackFirsts (zR κ soWeb a0)) (a1.toNatClampNeg + 1)).toInt - l4.toInt).toNat ∧ ((a0 = l0 ∧ a1 = l1 ∧ a2 = l2 ∧ (∃ ρ' : Nat → Nat, rgE9 ceR9 ρ κ τ a0 ρ') ∧ (zR τ soRows a0 = zR κ soRows a0 ∧ zA τ (zR κ soRows a0) = zA κ (zR κ soRows a0)) ∧ ((zA κ (zR κ weBackFirsts (zR κ soWeb a0)) a1.toNatClampNeg).toInt ≤ l4.toInt) ∧ ∃ R : Nat → Nat, (∀ j, j < m9 → flV9 κ a0 n9 a1.toNatClampNeg a2.toNatClampNeg f9 j (R j)) ∧ clP9 τ a0 (fun i j => P9 i j ∨ (i = a2.toNatClampNeg ∧ j < m9)) (fun i j => if i = a2.toNatClampNeg ∧ j < m9 then R j else M9 i j)) ∧ l4.toInt ≤ (zA κ (zR κ weBackFirsts (zR κ soWeb a0)) (a1.toNatClampNeg + 1)).toInt ∧ ∀ j, j < m9 → (j ≠ a2.toNatClampNeg → (cV15 τ a0 a2.toNatClampNeg j : Int) = bp15 κ a0 a1.toNatClampNeg (od15 κ a0 (f9 + j)) (l4.toNatClampNeg - bl15 κ a0 a1.toNatClampNeg)) ∧ (j = a2.toNatClampNeg → (cV15 τ a0 a2.toNatClampNeg j : Int) = (dvA κ (zR κ soAtlas a0) a1.toNatClampNeg).toInt - bp15 κ a0 a1.toNatClampNeg (od15 κ a0 (f9 + j)) (l4.toNatClampNeg - bl15 κ a0 a1.toNatClampNeg))), ⟨_, rfl, ?_⟩, ?_⟩
    · refine and_5 ?_ (fun o9 => ?_)  -- j6
      · rw [lei] at c7
        have e4 : x3_4.toNatClampNeg = m9 := by omega
        rw [e4] at Q1
        refine ⟨rfl, rfl, rfl, ⟨ρ1, E1⟩, rr, by rw [hx8, eb3]; exact Int.le_refl _, fun j => if j = a2.toNatClampNeg then (dvA κ (zR κ soAtlas a0) a1.toNatClampNeg).toInt.toNat else 0, fun j _ => ⟨fun z => Or.inl (if_neg z), fun z => Or.inl ?_⟩, Q1⟩
        dsimp only
        rw [if_pos z]
        omega
      · rw [lei] at c7
        have e4 : x3_4.toNatClampNeg = m9 := by omega
        have e0 : x8.toNatClampNeg - bl15 κ a0 a1.toNatClampNeg = 0 := by rw [hx8, eb3]; exact Nat.sub_self _
        rw [e0]
        refine ⟨by rw [hx8, eb3]; exact r0.2.2.1, fun j hj => ?_⟩
        have q := cV_p15 (i := a2.toNatClampNeg) (j := j) Q1 (Or.inr ⟨rfl, by omega⟩)
        rw [if_pos ⟨rfl, by omega⟩] at q
        rw [q]
        refine ⟨fun z => by rw [if_neg z]; rfl, fun z => ?_⟩
        rw [if_pos z, Int.toNat_of_nonneg (by omega)]
        exact (Int.sub_zero _).symm
    rintro n55 _ _ _ x55_4 κ55 W55 T55_0 ⟨hn55, ⟨rfl, rfl, rfl, i55⟩, hE⟩
    obtain ⟨⟨ρ5, E5⟩, rr5, l5, R5, fl5, Q5⟩ := i55
    have X5 := rg_x9 W Ta0 E5 X0
    have ew5 := fun f hf => we_f9 W rgF9_fr E5.2.2.2.2 (ty_soWeb W Ta0) (f := f) hf
    have eb : zA κ55 (zR κ55 weBackFirsts (zR κ55 soWeb a0)) = zA κ (zR κ weBackFirsts (zR κ soWeb a0)) := by rw [X5.2.1]; exact (ew5 weBackFirsts (by decide)).2.1
    have ek : zA κ55 (zR κ55 weKnotOf (zR κ55 soWeb a0)) = zA κ (zR κ weKnotOf (zR κ soWeb a0)) := by rw [X5.2.1]; exact (ew5 weKnotOf (by decide)).2.1
    have eo : zA κ55 (zR κ55 weSources (zR κ55 soWeb a0)) = zA κ (zR κ weSources (zR κ soWeb a0)) := by rw [X5.2.1]; exact (ew5 weSources (by decide)).2.1
    have ee : zA κ55 (zR κ55 weEdges (zR κ55 soWeb a0)) = zA κ (zR κ weEdges (zR κ soWeb a0)) := by rw [X5.2.1]; exact (ew5 weEdges (by decide)).2.1
    have eW : zA κ55 (zR κ55 atWeights (zR κ55 soAtlas a0)) = zA κ (zR κ atWeights (zR κ soAtlas a0)) := by rw [X5.2.2.1]; exact (at_f9 W rgF9_fr E5.2.2.2.2 (ty_soAtlas W Ta0) (f := atWeights) (by decide)).2.1
    have r5 := bk_r9 X5.1 (t := a1.toNatClampNeg) (by omega)
    refine ⟨?_, ?_⟩
    · rw [inb_iff, i1.2]; omega  -- b7
    refine ⟨fun c9 => ?_, fun c9 => ?_⟩
    · skip
      refine h _ ?_
      · refine and_5 ?_ (fun o9 => ?_)  -- q8
        · exact ⟨⟨ρ5, E5⟩, rr5, R5, fl5, Q5⟩
        · rw [i1.1, eb, lei] at c9
          have kx := cnk (x := x55_4) (by omega)
          have kh := cnk (x := zA κ (zR κ weBackFirsts (zR κ soWeb a0)) (a1.toNatClampNeg + 1)) (by omega)
          have e : x55_4.toNatClampNeg - bl15 κ a0 a1.toNatClampNeg = bl15 κ a0 (a1.toNatClampNeg + 1) - bl15 κ a0 a1.toNatClampNeg := by
            have : bl15 κ a0 (a1.toNatClampNeg + 1) = (zA κ (zR κ weBackFirsts (zR κ soWeb a0)) (a1.toNatClampNeg + 1)).toNatClampNeg := rfl
            have := hE.1
            omega
          have q := hE.2
          rw [e] at q
          exact q
    · skip
      rw [i1.1, eb, lei] at c9
      have ix := cn1 (x := x55_4) (by omega) (by omega)
      have g5 := bk_g9 X5.1 (t := a1.toNatClampNeg) (b := x55_4) (by omega) (by rw [eb]; exact l5) (by rw [eb]; omega)
      have G0 := (bk_g9 X0 (t := a1.toNatClampNeg) (b := x55_4) (by omega) l5 (by omega)).2
      refine ⟨?_, ?_⟩
      · rw [inb_iff]; exact ⟨g5.1.1, g5.1.2.1⟩  -- b9
      intro x10 hx10
      have gs := g5.2.1
      rw [← hx10] at gs
      have ks := cnk gs.1
      refine ⟨?_, ?_⟩
      · rw [inb_iff]; omega  -- b10
      refine ⟨?_, ?_⟩
      · rw [inb_iff]; omega  -- b11
      refine ⟨fun c11 => ?_, fun c11 => ?_⟩
      · skip
        intro x12 hx12
        refine lp_b5 ?_ (fun d9 => ⟨rfl, ?_⟩)
        · rw [hn55, hx12, ix.2]; omega  -- d12
        · refine and_5 ?_ (fun o9 => ?_)  -- i13
          · exact ⟨rfl, rfl, rfl, ⟨ρ5, E5⟩, rr5, by rw [hx12, ix.2]; omega, R5, fl5, Q5⟩
          · have kx := cnk (x := x55_4) (by omega)
            have kl := cnk r0.2.1
            have bl : bl15 κ a0 a1.toNatClampNeg = (zA κ (zR κ weBackFirsts (zR κ soWeb a0)) a1.toNatClampNeg).toNatClampNeg := rfl
            have e : x12.toNatClampNeg - bl15 κ a0 a1.toNatClampNeg = (x55_4.toNatClampNeg - bl15 κ a0 a1.toNatClampNeg) + 1 := by rw [hx12, ix.1]; omega
            have e2 : bl15 κ a0 a1.toNatClampNeg + (x55_4.toNatClampNeg - bl15 κ a0 a1.toNatClampNeg) = x55_4.toNatClampNeg := by omega
            have ex : bs15 κ a0 x55_4.toNatClampNeg = x10.toNatClampNeg := by rw [hx10, eo]
            refine ⟨by rw [hx12, ix.2]; omega, fun j hj => ?_⟩
            rw [e, bp_s15, e2, if_neg (fun y => c11 (by rw [ek, ← ex, y]; exact hK9 j hj)), Int.add_zero]
            exact hE.2 j hj
      · skip
        refine ⟨?_, ?_⟩
        · rw [inb_iff]; exact ⟨g5.1.1, g5.1.2.2.1⟩  -- b14
        refine ⟨?_, ?_⟩
        · rw [inb_iff]; exact (eg_9 X5.1 g5.2).1  -- b15
        intro x13 hx13
        obtain ⟨j9, hj9, ej9⟩ := RM.2.2.2 x10.toNatClampNeg a2.toNatClampNeg (by omega) (by omega) (by rw [← ha, ← ek]; exact c11)
        have cv : (zA κ55 (zR κ55 soRows a0) x10.toNatClampNeg).toInt = (j9 : Int) := by
          have q := RM.2.2.1 j9 hj9
          rw [ej9] at q
          rw [rr5.1, rr5.2]
          exact q
        have cj : (zA κ55 (zR κ55 soRows a0) x10.toNatClampNeg).toNatClampNeg = j9 := by
          have q := cnk (x := zA κ55 (zR κ55 soRows a0) x10.toNatClampNeg) (by omega)
          omega
        have lr : zN κ55 (zR κ55 soRows a0) = zN κ (zR κ soRows a0) := by rw [rr5.1]; exact E5.2.2.2.2.l (ty_soRows W Ta0)
        have oj := (X0.2.1.2.2.1 (f9 + j9) (by have := RM.1; omega)).1
        have ox : zA κ (zR κ weOrder (zR κ soWeb a0)) (f9 + j9) = x10 := Int32.toInt.inj (by
          have q := cnk oj.1
          omega)
        have rm2 := RM.2.1
        rw [← eo, ← hx10, ← ee] at G0
        have q5 := Q5 a2.toNatClampNeg j9 (Or.inr ⟨rfl, hj9⟩)
        have w0 := (eg_9 X5.1 g5.2).2
        refine ⟨?_, ?_⟩
        · rw [inb_iff, lr]; omega  -- b16
        intro T14
        refine So_cell_c2 W55 T14  ?_ (fun r15 q17 => ?_)
        · rw [cj]
          exact ⟨q5.1, ⟨by omega, by omega⟩, ⟨by omega, by omega⟩, q5.2.2.1⟩
        intro W18
        intro M19
        intro T20
        rw [cj] at q17
        rw [← hx13] at w0
        have iw := ihi x13
        have e64 := Int32.toInt_toInt64 x13
        have cI := cl_c9 E5.2.1.1 E5.2.2.1 (i := 33 * a2.toNatClampNeg + j9) (by omega) q5.2.2.1
        rw [← q17] at cI
        have q5u := q5.2.2.1
        rw [eW] at hx13
        refine ⟨fun c21 => ?_, fun c21 => ?_⟩
        · skip
          intro T22
          refine Nu_put_c W18 T22 (capR (1000000 + (33 * a2.toNatClampNeg + j9))) ?_ (fun κ_23 q24 => ?_)
          · rw [e64]
            exact ⟨⟨w0, by omega⟩, cI.1.2.1⟩
          intro W25
          intro M26
          intro x27 hx27
          refine lp_b5 ?_ (fun d9 => ⟨rfl, ?_⟩)
          · rw [hn55, hx27, ix.2]; omega  -- d19
          · refine and_5 ?_ (fun o9 => ?_)  -- i20
            · rw [e64] at q24
              obtain ⟨Fp, ⟨Rp, Np⟩, Ip, Vp⟩ := q24
              rw [q17] at Fp Ip Vp
              have Er := cl_p9 W55 T55_0 E5.2.1.1 E5.2.1.2 E5.2.2.1 q5.1 (by omega) q5u Fp Ip
              have rz := rr_9 W55 T55_0 Fp (fun z => absurd z.2 (by decide))
              have w := cp_w9 W55 T55_0 E5.2.2.1 q5.1 q5.2.1 q5u Fp Vp Q5
              refine ⟨rfl, rfl, rfl, ⟨ρ5, rg_t9 W Ta0 E5 Er⟩, ⟨by rw [rz.1]; exact rr5.1, by rw [← rr5.1, rz.2, rr5.1]; exact rr5.2⟩, by rw [hx27, ix.2]; omega, fun j => if j = j9 then x13.toInt.toNat else R5 j, fun j hj => ?_, cp_m9 w (fun i j z => ?_)⟩
              · dsimp only
                by_cases e : j = j9
                · rw [if_pos e, e]
                  have ne : j9 ≠ a2.toNatClampNeg := fun y => c21 (by rw [← ox, y, ← ha])
                  refine ⟨fun _ => Or.inr ⟨zA κ55 (zR κ55 weEdges (zR κ55 soWeb a0)) x55_4.toNatClampNeg, by rw [ox]; exact G0, by rw [← hx13]; omega⟩, fun y => absurd y ne⟩
                · rw [if_neg e]; exact fl5 j hj
              · dsimp only
                by_cases e : i = a2.toNatClampNeg ∧ j = j9
                · refine ⟨Or.inr e, ?_⟩
                  rw [if_pos ⟨e.1, by omega⟩, if_pos e, if_pos e.2]
                · refine ⟨Or.inl z, ?_⟩
                  rw [if_neg e]
                  by_cases g : i = a2.toNatClampNeg ∧ j < m9
                  · rw [if_pos g, if_pos g, if_neg (fun y => e ⟨g.1, y⟩)]
                  · rw [if_neg g, if_neg g]
            · rw [e64] at q24
              obtain ⟨Fp, ⟨Rp, Np⟩, Ip, Vp⟩ := q24
              rw [q17] at Fp Ip Vp
              have w := cp_w9 W55 T55_0 E5.2.2.1 q5.1 q5.2.1 q5u Fp Vp Q5
              have kx := cnk (x := x55_4) (by omega)
              have kl := cnk r0.2.1
              have kh := cnk (x := zA κ (zR κ weBackFirsts (zR κ soWeb a0)) (a1.toNatClampNeg + 1)) (by omega)
              have bl : bl15 κ a0 a1.toNatClampNeg = (zA κ (zR κ weBackFirsts (zR κ soWeb a0)) a1.toNatClampNeg).toNatClampNeg := rfl
              have bh : bl15 κ a0 (a1.toNatClampNeg + 1) = (zA κ (zR κ weBackFirsts (zR κ soWeb a0)) (a1.toNatClampNeg + 1)).toNatClampNeg := rfl
              have e : x27.toNatClampNeg - bl15 κ a0 a1.toNatClampNeg = (x55_4.toNatClampNeg - bl15 κ a0 a1.toNatClampNeg) + 1 := by rw [hx27, ix.1]; omega
              have e2 : bl15 κ a0 a1.toNatClampNeg + (x55_4.toNatClampNeg - bl15 κ a0 a1.toNatClampNeg) = x55_4.toNatClampNeg := by omega
              have ex : bs15 κ a0 x55_4.toNatClampNeg = x10.toNatClampNeg := by rw [hx10, eo]
              have ewt : bw15 κ a0 x55_4.toNatClampNeg = x13.toInt := by rw [hx13, ee]
              have eo9 : od15 κ a0 (f9 + j9) = x10.toNatClampNeg := by rw [← ox]
              refine ⟨by rw [hx27, ix.2]; omega, fun j hj => ?_⟩
              have q := cV_p15 (i := a2.toNatClampNeg) (j := j) w (Or.inl (Or.inr ⟨rfl, hj⟩))
              have q0 := cV_p15 (i := a2.toNatClampNeg) (j := j) Q5 (Or.inr ⟨rfl, hj⟩)
              rw [if_pos ⟨rfl, hj⟩] at q0
              have h0 := hE.2 j hj
              rw [e, bp_s15, e2]
              by_cases z : j = j9
              · have ne : j9 ≠ a2.toNatClampNeg := fun y => c21 (by rw [← ox, y, ← ha])
                rw [if_pos ⟨rfl, z⟩] at q
                rw [z, if_pos (ex.trans eo9.symm), bp_z15 (fun d hd y => by
                  have u := hU9 (bl15 κ a0 a1.toNatClampNeg + d) x55_4.toNatClampNeg (by omega) (by omega) (by omega) (by omega) (by rw [y, eo9, ex])
                  omega), ewt]
                refine ⟨fun _ => ?_, fun y => absurd y ne⟩
                rw [← z, q, Int.toNat_of_nonneg w0, Int.zero_add]
              · rw [if_neg (fun y => z y.2), if_pos ⟨rfl, hj⟩] at q
                rw [if_neg (fun y => by
                  have u := od_i9 X0.2.1 (i := f9 + j) (j := f9 + j9) (by have := RM.1; omega) (by have := RM.1; omega) ((y.symm.trans ex).trans eo9.symm)
                  omega), Int.add_zero, q, ← q0]
                exact h0
        · skip
          intro T28
          refine At_divisorOf_c W18 T28  ?_ (fun r29 q31 => ?_)
          · exact ⟨X5.1.2.2.1.1, ok.1, by omega⟩  -- p21
          intro W32
          intro M33
          intro T34
          have rd : r29 = dvA κ (zR κ soAtlas a0) a1.toNatClampNeg := by
            have q := q31
            rw [X5.2.2.1] at q
            exact q.trans (dvA_f9 W rgF9_fr E5.2.2.2.2 (ty_soAtlas W Ta0) _)
          have le := (ew_9 X0 G0).1
          rw [← hx13, c21, ← rd] at le
          have sb := sub_i (x := r29) (y := x13) (by rw [rd]; omega) (by rw [rd]; omega)
          have e65 := Int32.toInt_toInt64 (r29 - x13)
          have ir := ihi r29
          refine Nu_put_c W32 T34 (capR (1000000 + (33 * a2.toNatClampNeg + j9))) ?_ (fun κ_35 q36 => ?_)
          · rw [e65, sb]
            exact ⟨⟨by omega, by omega⟩, cI.1.2.1⟩
          intro W37
          intro M38
          intro x39 hx39
          refine lp_b5 ?_ (fun d9 => ⟨rfl, ?_⟩)
          · rw [hn55, hx39, ix.2]; omega  -- d23
          · refine and_5 ?_ (fun o9 => ?_)  -- i24
            · rw [e65, sb] at q36
              obtain ⟨Fp, ⟨Rp, Np⟩, Ip, Vp⟩ := q36
              rw [q17] at Fp Ip Vp
              have Er := cl_p9 W55 T55_0 E5.2.1.1 E5.2.1.2 E5.2.2.1 q5.1 (by omega) q5u Fp Ip
              have rz := rr_9 W55 T55_0 Fp (fun z => absurd z.2 (by decide))
              have w := cp_w9 W55 T55_0 E5.2.2.1 q5.1 q5.2.1 q5u Fp Vp Q5
              have ej : j9 = a2.toNatClampNeg := by
                have q := RM.2.2.1 a2.toNatClampNeg (by omega)
                rw [← ha, ← c21] at q
                have q2 := cv
                rw [rr5.1, rr5.2] at q2
                omega
              refine ⟨rfl, rfl, rfl, ⟨ρ5, rg_t9 W Ta0 E5 Er⟩, ⟨by rw [rz.1]; exact rr5.1, by rw [← rr5.1, rz.2, rr5.1]; exact rr5.2⟩, by rw [hx39, ix.2]; omega, fun j => if j = j9 then (r29.toInt - x13.toInt).toNat else R5 j, fun j hj => ?_, cp_m9 w (fun i j z => ?_)⟩
              · dsimp only
                by_cases e : j = j9
                · rw [if_pos e, e]
                  refine ⟨fun y => absurd ej y, fun _ => Or.inr ⟨zA κ55 (zR κ55 weEdges (zR κ55 soWeb a0)) x55_4.toNatClampNeg, by rw [ox]; exact G0, by rw [← hx13, ← rd]; omega⟩⟩
                · rw [if_neg e]; exact fl5 j hj
              · dsimp only
                by_cases e : i = a2.toNatClampNeg ∧ j = j9
                · refine ⟨Or.inr e, ?_⟩
                  rw [if_pos ⟨e.1, by omega⟩, if_pos e, if_pos e.2]
                · refine ⟨Or.inl z, ?_⟩
                  rw [if_neg e]
                  by_cases g : i = a2.toNatClampNeg ∧ j < m9
                  · rw [if_pos g, if_pos g, if_neg (fun y => e ⟨g.1, y⟩)]
                  · rw [if_neg g, if_neg g]
            · rw [e65, sb] at q36
              obtain ⟨Fp, ⟨Rp, Np⟩, Ip, Vp⟩ := q36
              rw [q17] at Fp Ip Vp
              have w := cp_w9 W55 T55_0 E5.2.2.1 q5.1 q5.2.1 q5u Fp Vp Q5
              have ej : j9 = a2.toNatClampNeg := by
                have q := RM.2.2.1 a2.toNatClampNeg (by omega)
                rw [← ha, ← c21] at q
                have q2 := cv
                rw [rr5.1, rr5.2] at q2
                omega
              have kx := cnk (x := x55_4) (by omega)
              have kl := cnk r0.2.1
              have kh := cnk (x := zA κ (zR κ weBackFirsts (zR κ soWeb a0)) (a1.toNatClampNeg + 1)) (by omega)
              have bl : bl15 κ a0 a1.toNatClampNeg = (zA κ (zR κ weBackFirsts (zR κ soWeb a0)) a1.toNatClampNeg).toNatClampNeg := rfl
              have bh : bl15 κ a0 (a1.toNatClampNeg + 1) = (zA κ (zR κ weBackFirsts (zR κ soWeb a0)) (a1.toNatClampNeg + 1)).toNatClampNeg := rfl
              have e : x39.toNatClampNeg - bl15 κ a0 a1.toNatClampNeg = (x55_4.toNatClampNeg - bl15 κ a0 a1.toNatClampNeg) + 1 := by rw [hx39, ix.1]; omega
              have e2 : bl15 κ a0 a1.toNatClampNeg + (x55_4.toNatClampNeg - bl15 κ a0 a1.toNatClampNeg) = x55_4.toNatClampNeg := by omega
              have ex : bs15 κ a0 x55_4.toNatClampNeg = x10.toNatClampNeg := by rw [hx10, eo]
              have ewt : bw15 κ a0 x55_4.toNatClampNeg = x13.toInt := by rw [hx13, ee]
              have eo9 : od15 κ a0 (f9 + j9) = x10.toNatClampNeg := by rw [← ox]
              refine ⟨by rw [hx39, ix.2]; omega, fun j hj => ?_⟩
              have q := cV_p15 (i := a2.toNatClampNeg) (j := j) w (Or.inl (Or.inr ⟨rfl, hj⟩))
              have q0 := cV_p15 (i := a2.toNatClampNeg) (j := j) Q5 (Or.inr ⟨rfl, hj⟩)
              rw [if_pos ⟨rfl, hj⟩] at q0
              have h0 := hE.2 j hj
              rw [e, bp_s15, e2]
              by_cases z : j = j9
              · rw [if_pos ⟨rfl, z⟩] at q
                rw [z, if_pos (ex.trans eo9.symm), bp_z15 (fun d hd y => by
                  have u := hU9 (bl15 κ a0 a1.toNatClampNeg + d) x55_4.toNatClampNeg (by omega) (by omega) (by omega) (by omega) (by rw [y, eo9, ex])
                  omega), ewt]
                refine ⟨fun y => absurd ej y, fun _ => ?_⟩
                rw [← z, q, Int.toNat_of_nonneg (by omega), rd, Int.zero_add]
              · rw [if_neg (fun y => z y.2), if_pos ⟨rfl, hj⟩] at q
                rw [if_neg (fun y => by
                  have u := od_i9 X0.2.1 (i := f9 + j) (j := f9 + j9) (by have := RM.1; omega) (by have := RM.1; omega) ((y.symm.trans ex).trans eo9.symm)
                  omega), Int.add_zero, q, ← q0]
                exact h0
  · skip
    intro T40
    rw [lei] at c7
    refine So_cell_c W3 T40 ρ1 ?_ (fun r41 κ_42 q43 => ?_)
    · exact ⟨E1.2.1, E1.2.2.1, E1.2.2.2.1.1, ⟨p1.1, by omega⟩, ⟨l4.1, by omega⟩⟩  -- p25
    obtain ⟨⟨Zc, Zk⟩, ⟨ρ2, h2, N2, K2⟩, L2, U2, O2⟩ := q43
    have E2 := rg_t9 W Ta0 E1 (rg_ce9 Zc h2 N2 K2 L2 Zk)
    have rz := rr_9 W3 T3_0 Zc (fun z => by
      rcases z with z | z
      · exact absurd z.1 (by decide)
      · have := (W3.2.1 a0 (by rw [T3_0]; decide)).2
        omega)
    have Q2 := (cp_ce9 W3 T3_0 Zc L2 O2 Q1).1
    have T2 : zT κ_42 a0 = 12 := Zc.t T3_0 (by decide)
    intro W44
    intro M45
    intro T46
    refine ⟨fun c47 => ?_, fun c47 => ?_⟩
    · skip
      refine hj35 _ _ _ _ _ _ _ _ W44 ?_ ?_ ?_
      · exact T2  -- t26
      · exact T46  -- t27
      · refine and_5 ?_ (fun o9 => trivial)  -- k28
        refine ⟨rfl, rfl, rfl, rfl, ⟨ρ2, E2⟩, ⟨by rw [rz.1]; exact rr.1, by rw [← rr.1, rz.2, rr.1]; exact rr.2⟩, ⟨l4.1, by omega, rfl⟩, Q2, ⟨L2, U2⟩, ?_⟩
        rw [if_neg (fun y => c47 (Int32.toInt.inj (by omega)))]
        rfl
    · skip
      intro T48
      have X2 := rg_x9 W Ta0 E2 X0
      refine At_divisorOf_c W44 T48  ?_ (fun r49 q51 => ?_)
      · exact ⟨X2.1.2.2.1.1, ok.1, by omega⟩  -- p29
      intro W52
      intro M53
      refine hj35 _ _ _ _ _ _ _ _ W52 ?_ ?_ ?_
      · exact T2  -- t30
      · exact T46  -- t31
      · refine and_5 ?_ (fun o9 => trivial)  -- k32
        refine ⟨rfl, rfl, rfl, rfl, ⟨ρ2, E2⟩, ⟨by rw [rz.1]; exact rr.1, by rw [← rr.1, rz.2, rr.1]; exact rr.2⟩, ⟨l4.1, by omega, rfl⟩, Q2, ⟨L2, U2⟩, ?_⟩
        rw [if_pos (by rw [c47]), Int32.toInt_toInt64]
        have q := q51
        rw [X2.2.2.1] at q
        have rd : r49 = dvA κ (zR κ soAtlas a0) a1.toNatClampNeg := q.trans (dvA_f9 W rgF9_fr E2.2.2.2.2 (ty_soAtlas W Ta0) _)
        rw [rd]

end
section
set_option maxHeartbeats 1600000
/-! the class: putting back, by its values -/
theorem So_putBack_q6 {C : zC} {n0 : Nat} {a0 : Nat} {a1 : Int32} {a2 : Nat} {κ : zS} {Q : zS → Prop} (W : zW C n0 κ) (Ta0 : zT κ a0 = 12) (Ta2 : zT κ a2 = 8) (ρ : Nat → Nat) (M9 : Nat → Nat → Nat) (m9 E9 : Nat) (hp : (nmI ρ κ ∧ soI ρ κ a0) ∧ clI9 ρ κ a0 m9 M9 ∧ (1 ≤ m9 ∧ m9 ≤ 32 ∧ a1.toInt = (m9 : Int)) ∧ a2 = cU9 κ a0 (m9 - 1) (m9 - 1) ∧ (∀ r c, r < m9 → r ≤ c → c < m9 → M9 r c ≤ 8000000 ^ (r + 1)) ∧ (∀ r, r < m9 → M9 r 32 * 8000000 ^ 32 ≤ E9) ∧ E9 * 2 ^ gE9 0 < pB9 1960) (h : ∀ (κ' : zS), (((zF (soF ρ elR9 (zR κ soCalc a0)) κ κ' ∧ nmI ρ κ' ∧ soI ρ κ' a0) ∧ ∃ M' : Nat → Nat → Nat, clI9 ρ κ' a0 m9 M' ∧ (∀ i j, j ≠ 32 → M' i j = M9 i j) ∧ ∀ i, i < m9 → M' i 32 < pB9 1960) ∧ ((∀ i j, i < m9 → j < m9 → cV15 κ' a0 i j = M9 i j) ∧ cV15 κ' a0 (m9 - 1) 32 = M9 (m9 - 1) 32 ∧ ∀ r, r + 1 < m9 → pbE15 M9 (fun c => cV15 κ' a0 c 32) m9 r)) → Q κ') : zRun C 4 mSo_putBack [.ref a0, .int a1, .ref a2] κ (oV Q noX) := by
  refine So_putBack_run W Ta0 Ta2 ?_
  replace W := W.lo (Nat.le_trans W.1.2.1 W.1.2.2) (Nat.le_refl (zn κ))
  unfold w_So_putBack_0
  obtain ⟨⟨N0, S0⟩, K0, ⟨m1, hm, m2⟩, ha, b1, b2, b3⟩ := hp
  have h7 := S0.1.2.2.2.2.1
  have h6 := S0.1.2.2.2.1
  have t32 : (32 : Int32).toNatClampNeg = 32 := by decide
  have t2 : (2 : Int32).toInt = 2 := rfl
  have tm : (-1 : Int32).toInt = -1 := rfl
  have pD : 0 < 8000000 ^ 32 := Nat.pow_pos (by decide)
  have bE : ∀ r, r < m9 → M9 r 32 ≤ E9 := fun r hr => Nat.le_trans (Nat.le_mul_of_pos_right _ pD) (b2 r hr)
  have cA : M9 (m9 - 1) (m9 - 1) ≤ 8000000 ^ 32 := Nat.le_trans (b1 _ _ (by omega) (Nat.le_refl _) (by omega)) (Nat.pow_le_pow_right (by decide) (by omega))
  intro x1 hx1
  have hx : x1.toInt = a1.toInt - 2 := by
    have q := sub_i (x := a1) (y := 2) (by rw [t2]; omega) (by rw [t2]; omega)
    rw [t2] at q
    rw [hx1]
    exact q
  unfold w_So_putBack_4
  refine ⟨fun n l0 l1 l2 l3 τ => n = (l3.toInt + 1).toNat ∧ ((a0 = l0 ∧ a1 = l1 ∧ a2 = l2 ∧ (zF (soF ρ elR9 (zR κ soCalc a0)) κ τ ∧ nmI ρ τ ∧ soI ρ τ a0) ∧ (-1 ≤ l3.toInt ∧ l3.toInt + 1 < m9) ∧ ∃ M' : Nat → Nat → Nat, clI9 ρ τ a0 m9 M' ∧ (∀ i j, j ≠ 32 → M' i j = M9 i j) ∧ (∀ i : Nat, (i : Int) ≤ l3.toInt → M' i 32 = M9 i 32) ∧ ∀ i : Nat, l3.toInt < (i : Int) → i < m9 → M' i 32 ≤ E9 * 2 ^ gE9 (l3.toInt + 1).toNat) ∧ cV15 τ a0 (m9 - 1) 32 = M9 (m9 - 1) 32 ∧ ∀ r : Nat, l3.toInt < (r : Int) → r + 1 < m9 → pbE15 M9 (fun c => cV15 τ a0 c 32) m9 r), ⟨_, rfl, ?_⟩, ?_⟩
  · refine and_5 ?_ (fun o9 => ?_)  -- j1
    · refine ⟨rfl, rfl, rfl, ⟨zF.rf, N0, S0⟩, ⟨by omega, by omega⟩, M9, K0, fun _ _ _ => rfl, fun _ _ => rfl, fun i h1 h2 => ?_⟩
      exact Nat.le_trans (bE i h2) (Nat.le_mul_of_pos_right _ (Nat.pow_pos (by decide)))
    · exact ⟨cV_c15 K0 (by omega) (Or.inr rfl), fun r h1 h2 => by omega⟩
  rintro n4 _ _ _ x4_3 κ4 W4 T4_0 T4_1 ⟨hn4, ⟨rfl, rfl, rfl, i4⟩, hE⟩
  obtain ⟨⟨Z1, N1, S1⟩, l1, M1, K1, e1, e2, e3⟩ := i4
  refine ⟨fun c2 => ?_, fun c2 => ?_⟩
  · skip
    refine h _ ?_
    · refine and_5 ?_ (fun o9 => ?_)  -- q2
      · rw [lti, t0i] at c2
        refine ⟨⟨Z1, N1, S1⟩, M1, K1, e1, fun i hi => ?_⟩
        have q := e3 i (by omega) hi
        rw [show (x4_3.toInt + 1).toNat = 0 by omega] at q
        exact Nat.lt_of_le_of_lt q b3
      · rw [lti, t0i] at c2
        refine ⟨fun i j hi hj => ?_, hE.1, fun r hr => hE.2 r (by omega) hr⟩
        rw [cV_c15 K1 hi (Or.inl hj)]
        exact e1 i j (by omega)
  · skip
    intro T3
    rw [lti, t0i] at c2
    have c2' : 0 ≤ x4_3.toInt := by omega
    have kr := cnk (x := x4_3) (by omega)
    have er : (x4_3.toInt + 1).toNat = x4_3.toNatClampNeg + 1 := by omega
    have U1 := (so_rw9 W Ta0 Z1).2.2.2
    refine So_cell_c2 W4 T3  ?_ (fun r4 q6 => ?_)
    · rw [t32]
      exact ⟨K1.1, ⟨by omega, by omega⟩, ⟨by decide, by decide⟩, (K1.2 _ _ (by omega) (Or.inr rfl)).1⟩
    intro W7
    intro M8
    intro T9
    intro T10
    intro T11
    intro T12
    rw [t32, U1] at q6
    have es1 : zR κ4 soSum a0 = (zR κ soSum a0) := (soF_r9 Z1 (by decide)).1
    have ec1 : zR κ4 soCalc a0 = (zR κ soCalc a0) := (soF_r9 Z1 (by decide)).1
    have kA := K1.2 (m9 - 1) (m9 - 1) (by omega) (Or.inl (by omega))
    have gA := cl_g9 N1 K1 (i := m9 - 1) (j := m9 - 1) (by omega) (Or.inl (by omega))
    have kR := K1.2 x4_3.toNatClampNeg 32 (by omega) (Or.inr rfl)
    have gR := cl_g9 N1 K1 (i := x4_3.toNatClampNeg) (j := 32) (by omega) (Or.inr rfl)
    rw [U1, ← ha, e1 _ _ (by omega)] at kA
    rw [U1, ← ha] at gA
    rw [U1, ← q6, e2 _ (by omega)] at kR
    rw [U1, ← q6] at gR
    have gs1 := nm_g N1 (w := (zR κ soSum a0)) h7 (Or.inl ⟨by decide, by decide⟩) (by decide)
    have xA := nuK_lt gA.2.2.1 (k := 24) (by rw [kA.2.2]; exact Nat.lt_of_le_of_lt cA (dp_9 (by decide)))
    have xE : E9 < pB9 1960 := Nat.lt_of_le_of_lt (Nat.le_mul_of_pos_right _ (Nat.pow_pos (by decide))) b3
    have xR := nuK_lt gR.2.2.1 (k := 1960) (by rw [kR.2.2]; exact Nat.lt_of_le_of_lt (bE _ (by omega)) xE)
    refine Nu_product_c W7 T10 T11 T12 6500 30000000 30000000 ?_ (fun κ_13 q14 => ?_)
    · rw [es1]
      exact ⟨gs1.2.2, ⟨gA.2.2.1, gR.2.2.1⟩, ⟨ro_n h7 kA.2.1 (by omega), ro_n h7 kR.2.1 (by omega)⟩, by omega, by decide⟩
    intro W15
    intro M16
    intro x17 hx17
    rw [es1, kA.2.2, kR.2.2] at q14
    obtain ⟨F1, I1, V1⟩ := q14
    have Zf1 : zF (soF ρ (fun r => r = 7) (zR κ soCalc a0)) κ4 κ_13 := soF_1 h7 F1
    have N13 : nmI ρ κ_13 := nm_1 W4 N1 F1 (by rw [h7]; exact I1)
    have S13 : soI ρ κ_13 a0 := so_1 W4 T4_0 S1 F1
    have K13 := cl_f9 W4 T4_0 N1 Zf1 (fun r h z => by omega) K1
    have Z13 : zF (soF ρ elR9 (zR κ soCalc a0)) κ κ_13 := Z1.tr (soF_m (fun r z => Or.inl (by omega)) Zf1)
    have ix := cn1 (x := x4_3) (by omega) (by omega)
    unfold w_So_putBack_32
    refine ⟨fun n l0 l1 l2 l3 l4 l5 τ => n = (a1.toInt - l5.toInt).toNat ∧ ((a0 = l0 ∧ a1 = l1 ∧ a2 = l2 ∧ (zF (soF ρ elR9 (zR κ soCalc a0)) κ τ ∧ nmI ρ τ ∧ soI ρ τ a0) ∧ x4_3 = l3 ∧ (l3.toInt < l5.toInt ∧ l5.toInt ≤ a1.toInt) ∧ clI9 ρ τ a0 m9 M1 ∧ l4 = cU9 κ a0 l3.toNatClampNeg 32 ∧ nuN τ (zR κ soSum a0) ≤ E9 + (l5.toInt - l3.toInt - 1).toNat * (8000000 ^ (l3.toNatClampNeg + 1) * (E9 * 2 ^ gE9 (l3.toNatClampNeg + 1)))) ∧ M1 (m9 - 1) 32 = M9 (m9 - 1) 32 ∧ (∀ r : Nat, x4_3.toInt < (r : Int) → r + 1 < m9 → pbE15 M9 (fun c => M1 c 32) m9 r) ∧ nuN τ (zR κ soSum a0) = M9 (m9 - 1) (m9 - 1) * M9 x4_3.toNatClampNeg 32 + sN15 (fun c => M9 x4_3.toNatClampNeg c * M1 c 32) (x4_3.toNatClampNeg + 1) (l5.toNatClampNeg - (x4_3.toNatClampNeg + 1))), ⟨_, rfl, ?_⟩, ?_⟩
    · refine and_5 ?_ (fun o9 => ?_)  -- j5
      · refine ⟨rfl, rfl, rfl, ⟨Z13, N13, S13⟩, rfl, ⟨by rw [hx17, ix.2]; omega, by rw [hx17, ix.2]; omega⟩, K13, q6, ?_⟩
        refine Nat.le_trans ?_ (Nat.le_add_right _ _)
        rw [V1, Nat.mul_comm]
        exact Nat.le_trans (Nat.mul_le_mul_left _ cA) (b2 _ (by omega))
      · refine ⟨by rw [← cV_c15 K1 (i := m9 - 1) (by omega) (Or.inr rfl)]; exact hE.1, fun r h1 h2 => pb_c15 (by omega) (fun c _ h4 => cV_c15 K1 h4 (Or.inr rfl)) (hE.2 r h1 h2), ?_⟩
        rw [hx17, ix.1, Nat.sub_self, V1]
        rfl
    rintro n32 _ _ _ x32_3 x32_4 x32_5 κ32 W32 T32_0 T32_1 T32_2 ⟨hn32, ⟨rfl, rfl, rfl, i32⟩, hE⟩
    obtain ⟨⟨Z2, N2, S2⟩, el, l5, K2, f4, VS⟩ := i32
    subst el
    have kc := cnk (x := x32_5) (by omega)
    have U2 := (so_rw9 W Ta0 Z2).2.2.2
    have es2 : zR κ32 soSum a0 = (zR κ soSum a0) := (soF_r9 Z2 (by decide)).1
    have et2 : zR κ32 soTerm a0 = (zR κ soTerm a0) := (soF_r9 Z2 (by decide)).1
    have ec2 : zR κ32 soCalc a0 = (zR κ soCalc a0) := (soF_r9 Z2 (by decide)).1
    have bS := pb_b9 (by omega) (by omega) VS
    have lS : nuN κ32 (zR κ soSum a0) < pB9 1960 := Nat.lt_of_le_of_lt (Nat.le_trans bS (Nat.mul_le_mul_left _ (Nat.pow_le_pow_right (by decide) (gE9_z (by omega))))) b3
    have gs2 := nm_g N2 (w := (zR κ soSum a0)) h7 (Or.inl ⟨by decide, by decide⟩) (by decide)
    have kS := nuK_lt gs2.1 lS
    have k32 := K2.2 x4_3.toNatClampNeg 32 (by omega) (Or.inr rfl)
    have g32 := cl_g9 N2 K2 (i := x4_3.toNatClampNeg) (j := 32) (by omega) (Or.inr rfl)
    rw [U2, ← f4] at k32 g32
    refine ⟨fun c18 => ?_, fun c18 => ?_⟩
    · skip
      intro T19
      refine So_cell_c2 W32 T19  ?_ (fun r20 q22 => ?_)
      · rw [lei] at c18
        exact ⟨K2.1, ⟨by omega, by omega⟩, ⟨by omega, by omega⟩, (K2.2 _ _ (by omega) (Or.inl (by omega))).1⟩
      intro W23
      intro M24
      intro T25
      intro T26
      intro T27
      intro T28
      rw [U2] at q22
      have kp := K2.2 x4_3.toNatClampNeg x4_3.toNatClampNeg (by omega) (Or.inl (by omega))
      have gp := cl_g9 N2 K2 (i := x4_3.toNatClampNeg) (j := x4_3.toNatClampNeg) (by omega) (Or.inl (by omega))
      rw [U2, ← q22] at kp gp
      have ci := so_ca N2 S2
      unfold caI caN caK at ci
      have o1 := (caS_n (so_o S2 (w := zR κ32 soSum a0) S2.1.2.2.2.2.1 (by decide))).1
      have o2 := (caS_n (so_o S2 kp.2.1 (by omega))).1
      refine Ca_divide_c W23 T26 T27 T28 6500 ?_ (fun κ_29 q30 => ?_)
      · rw [es2] at o1 ⊢
        exact ⟨⟨ci.2.1.1, ci.2.1.2.1, ci.2.1.2.2.1⟩, ⟨gs2.2.1, gp.2.2.1⟩, ci.1.1, o1, o2, by omega, by decide⟩
      have D := nm_d (a := a0) W32 T32_0 N2 S2 q30
      have Zd0 : zF (soF ρ (fun r => r = 10) (zR κ32 soCalc a0)) κ32 κ_29 := soF_p (fun b z => S2.2.2.1 b ((show b = _ ∨ b = _ ∨ b = _ from z).elim Or.inl (fun z => z.elim (fun y => Or.inr (Or.inl y)) (fun y => Or.inr (Or.inr (Or.inl y)))))) q30.1
      rw [es2] at q30
      obtain ⟨DZ, ⟨DQ, DV⟩, _, _⟩ := q30
      have K29 := cl_f9 W32 T32_0 N2 Zd0 (fun r h z => by omega) K2
      have eU := (so_rw9 W32 T32_0 Zd0).2.2.2 x4_3.toNatClampNeg 32
      rw [U2, ← f4] at eU
      have T29 : zT κ_29 a0 = 12 := Zd0.t T32_0 (by decide)
      have g29 := cl_g9 D.1 K29 (i := x4_3.toNatClampNeg) (j := 32) (by omega) (Or.inr rfl)
      have ec29 : zR κ_29 soCalc a0 = zR κ32 soCalc a0 := (soF_r9 Zd0 (by decide)).1
      have eq29 : zR κ_29 caQuotient (zR κ_29 soCalc a0) = zR κ32 caQuotient (zR κ32 soCalc a0) := by rw [ec29, (soF_r9 Zd0 (f := caQuotient) (by decide)).1]
      have lQ : nuN κ_29 (zR κ32 caQuotient (zR κ32 soCalc a0)) ≤ nuN κ32 (zR κ soSum a0) := by rw [DV]; exact Nat.div_le_self _ _
      have kQ := nuK_lt DQ (k := 1960) (Nat.lt_of_le_of_lt lQ lS)
      have rq := S2.2.2.1 (zR κ32 caQuotient (zR κ32 soCalc a0)) (Or.inl rfl)
      have cp : capR (1000000 + (33 * x4_3.toNatClampNeg + 32)) = 3000 := by rw [cap_c9 (by omega) (Nat.le_refl _)]; rfl
      rw [eU, cp] at g29
      intro W31
      intro M32
      intro T33
      intro T34
      refine Nu_copy_c W31 T33 T34 3000 6500 ?_ (fun κ_35 q36 => ?_)
      · rw [eq29]
        exact ⟨g29.2.1.1.2.1, DQ.1, ro_n k32.2.1 rq (by omega), by omega, by decide⟩
      intro W37
      intro M38
      intro x39 hx39
      rw [eq29] at q36
      obtain ⟨Fc, Bc, Vc, Kc, Zc⟩ := q36
      rw [← eU] at Fc Bc Vc Zc
      have w := cl_w9 W31 T29 D.1 D.2 hm (i0 := x4_3.toNatClampNeg) (j0 := 32) (by omega) (Or.inr rfl) K29 Fc (by rw [cp]; exact ⟨Bc, Zc DQ.2⟩) Vc
      rw [ec29, ec2] at w
      have hx : x39.toInt = x4_3.toInt - 1 := by rw [hx39]; exact dm_9 c2'
      refine lp_b5 ?_ (fun d9 => ⟨rfl, ?_⟩)
      · rw [hn4, hx]; omega  -- d9
      · refine and_5 ?_ (fun o9 => ?_)  -- i10
        · rw [ec2] at Zd0
          refine ⟨rfl, rfl, rfl, ⟨(Z2.tr (soF_m (fun r z => Or.inl (by omega)) Zd0)).tr w.1.1, w.1.2⟩, ⟨by omega, by omega⟩, _, w.2, fun i j hj => ?_, fun i hi => ?_, fun i h1 h2 => ?_⟩
          · rw [if_neg (by omega)]
            exact e1 i j hj
          · rw [if_neg (by omega)]
            exact e2 i (by omega)
          · have eg : (x39.toInt + 1).toNat = x4_3.toNatClampNeg := by omega
            rw [eg]
            by_cases z : i = x4_3.toNatClampNeg
            · rw [if_pos ⟨z, rfl⟩]
              exact Nat.le_trans (by rw [← ec2]; exact lQ) bS
            · rw [if_neg (by omega)]
              have q := e3 i (by omega) h2
              rw [er] at q
              exact Nat.le_trans q (gE9_m (by omega))
        · have DV' := DV
          rw [ec2] at DV'
          obtain ⟨lx, e5, up, lo⟩ := px_15 c2' l1.2 (lei.mp c18) l5.2 m2 hx
          clear o9
          have lm : x4_3.toNatClampNeg < m9 := Nat.lt_of_lt_of_le lx (Nat.sub_le _ _)
          have kR2 : cV15 κ_35 a0 x4_3.toNatClampNeg 32 = nuN κ_29 (zR κ32 caQuotient (zR κ soCalc a0)) := by
            refine (cV_c15 w.2 (i := x4_3.toNatClampNeg) (j := 32) lm (Or.inr rfl)).trans ?_
            exact if_pos (show x4_3.toNatClampNeg = x4_3.toNatClampNeg ∧ (32 : Nat) = 32 from ⟨rfl, rfl⟩)
          have kO : ∀ c, c < m9 → c ≠ x4_3.toNatClampNeg → cV15 κ_35 a0 c 32 = M1 c 32 := fun c hc ne => by
            refine (cV_c15 w.2 (i := c) (j := 32) hc (Or.inr rfl)).trans ?_
            exact if_neg (show ¬ (c = x4_3.toNatClampNeg ∧ (32 : Nat) = 32) from fun y => ne y.1)
          refine ⟨(kO (m9 - 1) (Nat.sub_lt (Nat.lt_of_lt_of_le (Nat.succ_pos _) m1) Nat.one_pos) (Nat.ne_of_gt lx)).trans hE.1, fun r h1 h2 => ?_⟩
          have h3 : r < m9 := Nat.lt_of_succ_lt h2
          rcases Nat.lt_or_eq_of_le (up r h1) with z | z
          · exact pb_c15 h3 (fun c h4 h5 => (kO c h5 (Nat.ne_of_gt (Nat.lt_of_lt_of_le z h4))).symm) (hE.2.1 r (lo r z) h2)
          · rw [← z]
            show cV15 κ_35 a0 x4_3.toNatClampNeg 32 = (M9 (m9 - 1) (m9 - 1) * M9 x4_3.toNatClampNeg 32 + sN15 (fun c => M9 x4_3.toNatClampNeg c * cV15 κ_35 a0 c 32) (x4_3.toNatClampNeg + 1) (m9 - (x4_3.toNatClampNeg + 1))) / M9 x4_3.toNatClampNeg x4_3.toNatClampNeg
            rw [kR2, DV', hE.2.2, kp.2.2, e1 _ _ (show x4_3.toNatClampNeg ≠ 32 from Nat.ne_of_lt (Nat.lt_of_lt_of_le lm hm)), e5]
            congr 2
            exact sN_c15 (fun c h4 h5 => by
              show M9 x4_3.toNatClampNeg c * M1 c 32 = M9 x4_3.toNatClampNeg c * cV15 κ_35 a0 c 32
              rw [kO c (by rw [Nat.add_sub_cancel' (Nat.succ_le_of_lt lm)] at h5; exact h5) (Nat.ne_of_gt (Nat.lt_of_succ_le h4))])
    · skip
      intro T40
      rw [lei] at c18
      have iy := cn1 (x := x32_5) (by omega) (by omega)
      refine So_cell_c2 W32 T40  ?_ (fun r41 q43 => ?_)
      · exact ⟨K2.1, ⟨by omega, by omega⟩, ⟨by omega, by omega⟩, (K2.2 _ _ (by omega) (Or.inl (by omega))).1⟩  -- p11
      intro W44
      intro M45
      intro T46
      refine ⟨fun c47 => ?_, fun c47 => ?_⟩
      · skip
        intro x48 hx48
        refine lp_b5 ?_ (fun d9 => ⟨rfl, ?_⟩)
        · rw [hn32, hx48, iy.2]; omega  -- d12
        · refine and_5 ?_ (fun o9 => ?_)  -- i13
          · refine ⟨rfl, rfl, rfl, ⟨Z2, N2, S2⟩, rfl, ⟨by rw [hx48, iy.2]; omega, by rw [hx48, iy.2]; omega⟩, K2, f4, ?_⟩
            exact Nat.le_trans VS (Nat.add_le_add_left (Nat.mul_le_mul_right _ (by rw [hx48, iy.2]; omega)) _)
          · rw [lei] at c47
            have ka := K2.2 x4_3.toNatClampNeg x32_5.toNatClampNeg (by omega) (Or.inl (by omega))
            have ga := cl_g9 N2 K2 (i := x4_3.toNatClampNeg) (j := x32_5.toNatClampNeg) (by omega) (Or.inl (by omega))
            rw [U2] at q43
            rw [U2, ← q43, e1 _ _ (by omega)] at ka
            rw [U2, ← q43] at ga
            have z := nu_00 ga.2.2.1 (by rw [t0i] at c47; exact c47)
            rw [ka.2.2] at z
            refine ⟨hE.1, hE.2.1, ?_⟩
            rw [hE.2.2, hx48, iy.1, show x32_5.toNatClampNeg + 1 - (x4_3.toNatClampNeg + 1) = (x32_5.toNatClampNeg - (x4_3.toNatClampNeg + 1)) + 1 by omega]
            show _ = _ + (_ + M9 x4_3.toNatClampNeg (x4_3.toNatClampNeg + 1 + (x32_5.toNatClampNeg - (x4_3.toNatClampNeg + 1))) * M1 (x4_3.toNatClampNeg + 1 + (x32_5.toNatClampNeg - (x4_3.toNatClampNeg + 1))) 32)
            rw [show x4_3.toNatClampNeg + 1 + (x32_5.toNatClampNeg - (x4_3.toNatClampNeg + 1)) = x32_5.toNatClampNeg by omega, z, Nat.zero_mul]
            rfl
      · skip
        intro T49
        refine So_cell_c2 W44 T49  ?_ (fun r50 q52 => ?_)
        · exact ⟨K2.1, ⟨by omega, by omega⟩, ⟨by omega, by omega⟩, (K2.2 _ _ (by omega) (Or.inl (by omega))).1⟩  -- p14
        intro W53
        intro M54
        intro T55
        intro T56
        refine So_cell_c2 W53 T56  ?_ (fun r57 q59 => ?_)
        · rw [t32]
          exact ⟨K2.1, ⟨by omega, by omega⟩, ⟨by decide, by decide⟩, (K2.2 _ _ (by omega) (Or.inr rfl)).1⟩
        intro W60
        intro M61
        intro T62
        intro T63
        intro T64
        intro T65
        rw [U2] at q52
        rw [t32, U2] at q59
        have ka := K2.2 x4_3.toNatClampNeg x32_5.toNatClampNeg (by omega) (Or.inl (by omega))
        have ga := cl_g9 N2 K2 (i := x4_3.toNatClampNeg) (j := x32_5.toNatClampNeg) (by omega) (Or.inl (by omega))
        have kb := K2.2 x32_5.toNatClampNeg 32 (by omega) (Or.inr rfl)
        have gb := cl_g9 N2 K2 (i := x32_5.toNatClampNeg) (j := 32) (by omega) (Or.inr rfl)
        rw [U2, ← q52, e1 _ _ (by omega)] at ka
        rw [U2, ← q52] at ga
        rw [U2, ← q59] at kb gb
        have va := b1 x4_3.toNatClampNeg x32_5.toNatClampNeg (by omega) (by omega) (by omega)
        have vb := e3 x32_5.toNatClampNeg (by omega) (by omega)
        rw [er] at vb
        have vb2 : M1 x32_5.toNatClampNeg 32 < pB9 1960 := Nat.lt_of_le_of_lt (Nat.le_trans vb (Nat.mul_le_mul_left _ (Nat.pow_le_pow_right (by decide) (gE9_z (by omega))))) b3
        have va2 : M9 x4_3.toNatClampNeg x32_5.toNatClampNeg < pB9 24 := Nat.lt_of_le_of_lt va (dp_9 (by omega))
        have xa := nuK_lt ga.2.2.1 (k := 24) (by rw [ka.2.2]; exact va2)
        have xb := nuK_lt gb.2.2.1 (k := 1960) (by rw [kb.2.2]; exact vb2)
        have gt2 := nm_g N2 (w := (zR κ soTerm a0)) h6 (Or.inl ⟨by decide, by decide⟩) (by decide)
        refine Nu_product_c W60 T63 T64 T65 6500 30000000 30000000 ?_ (fun κ_66 q67 => ?_)
        · rw [et2]
          exact ⟨gt2.2.2, ⟨ga.2.2.1, gb.2.2.1⟩, ⟨ro_n h6 ka.2.1 (by omega), ro_n h6 kb.2.1 (by omega)⟩, by omega, by decide⟩
        rw [et2, ka.2.2, kb.2.2] at q67
        obtain ⟨F2, I2, V2⟩ := q67
        have Zf2 : zF (soF ρ (fun r => r = 6) (zR κ soCalc a0)) κ32 κ_66 := soF_1 h6 F2
        have N66 : nmI ρ κ_66 := nm_1 W32 N2 F2 (by rw [h6]; exact I2)
        have S66 : soI ρ κ_66 a0 := so_1 W32 T32_0 S2 F2
        have K66 := cl_f9 W32 T32_0 N2 Zf2 (fun r h z => by omega) K2
        have Z66 : zF (soF ρ elR9 (zR κ soCalc a0)) κ κ_66 := Z2.tr (soF_m (fun r z => Or.inl (by omega)) Zf2)
        have T66 : zT κ_66 a0 = 12 := F2.t T32_0 (by decide)
        have es66 : zR κ_66 soSum a0 = (zR κ soSum a0) := (soF_r9 Z66 (by decide)).1
        have et66 : zR κ_66 soTerm a0 = (zR κ soTerm a0) := (soF_r9 Z66 (by decide)).1
        have ns := soF_B (c := 6500) (w := (zR κ soSum a0)) W32 (by rw [← es2]; exact ty_soSum W32 T32_0) Zf2 (by rw [h7]; decide)
        have vt : M9 x4_3.toNatClampNeg x32_5.toNatClampNeg * M1 x32_5.toNatClampNeg 32 < pB9 24 * pB9 1960 := Nat.mul_lt_mul'' va2 vb2
        rw [← pB9_a] at vt
        have x66 := nuK_lt I2 (k := 1984) (by rw [V2]; exact vt)
        intro W68
        intro M69
        intro T70
        intro T71
        refine Nu_plus_c W68 T70 T71 6500 30000000 ?_ (fun κ_72 q73 => ?_)
        · rw [es66, et66, ns.2.2]
          exact ⟨ns.1 gs2.1, nuI_mono (by decide) I2, ro_n h7 h6 (by decide), ⟨by omega, by omega⟩, by decide⟩
        intro W74
        intro M75
        intro x76 hx76
        refine lp_b5 ?_ (fun d9 => ⟨rfl, ?_⟩)
        · rw [hn32, hx76, iy.2]; omega  -- d18
        · refine and_5 ?_ (fun o9 => ?_)  -- i19
          · rw [es66, et66, ns.2.1, V2] at q73
            obtain ⟨F3, I3, V3⟩ := q73
            have Zf3 : zF (soF ρ (fun r => r = 7) (zR κ soCalc a0)) κ_66 κ_72 := soF_1 h7 F3
            refine ⟨rfl, rfl, rfl, ⟨Z66.tr (soF_m (fun r z => Or.inl (by omega)) Zf3), nm_1 W68 N66 F3 (by rw [h7]; exact I3), so_1 W68 T66 S66 F3⟩, rfl, ⟨by rw [hx76, iy.2]; omega, by rw [hx76, iy.2]; omega⟩, cl_f9 W68 T66 N66 Zf3 (fun r h z => by omega) K66, f4, ?_⟩
            have en : (x76.toInt - x4_3.toInt - 1).toNat = (x32_5.toInt - x4_3.toInt - 1).toNat + 1 := by rw [hx76, iy.2]; omega
            rw [V3, en, Nat.add_mul, Nat.one_mul, ← Nat.add_assoc]
            exact Nat.add_le_add VS (Nat.mul_le_mul va vb)
          · rw [es66, et66, ns.2.1, V2] at q73
            obtain ⟨F3, I3, V3⟩ := q73
            refine ⟨hE.1, hE.2.1, ?_⟩
            rw [V3, hE.2.2, hx76, iy.1, show x32_5.toNatClampNeg + 1 - (x4_3.toNatClampNeg + 1) = (x32_5.toNatClampNeg - (x4_3.toNatClampNeg + 1)) + 1 by omega]
            show _ = _ + (_ + M9 x4_3.toNatClampNeg (x4_3.toNatClampNeg + 1 + (x32_5.toNatClampNeg - (x4_3.toNatClampNeg + 1))) * M1 (x4_3.toNatClampNeg + 1 + (x32_5.toNatClampNeg - (x4_3.toNatClampNeg + 1))) 32)
            rw [show x4_3.toNatClampNeg + 1 + (x32_5.toNatClampNeg - (x4_3.toNatClampNeg + 1)) = x32_5.toNatClampNeg by omega, Nat.add_assoc]

end
section
set_option maxHeartbeats 1600000
/-! the class: rings by their values: what stays, and their equations -/
def bxE15 (κ τ : zS) (a : Nat) : Prop := (∀ b, bs15 τ a b = bs15 κ a b) ∧ (∀ b, bw15 τ a b = bw15 κ a b) ∧ (∀ t, bl15 τ a t = bl15 κ a t) ∧ (∀ V s, un15 τ a V s = un15 κ a V s) ∧ (∀ s, kO15 τ a s = kO15 κ a s) ∧ (∀ i, zA τ (zR τ weOrder (zR τ soWeb a)) i = zA κ (zR κ weOrder (zR κ soWeb a)) i) ∧ ∀ s, dvN9 τ (zR τ soAtlas a) s = dvN9 κ (zR κ soAtlas a) s
theorem bx_g15 {C : zC} {n0 a n : Nat} {F : Nat → Nat → Prop} {κ τ : zS} (W : zW C n0 κ) (Ta : zT κ a = 12) (H : frS9 (zn κ) F) (Z : zF F κ τ) (X : svX9 κ a n) : bxE15 κ τ a := by
  obtain ⟨_, e1, e2, _⟩ := svX9_f W Ta H Z X
  have g := fun f hf => (we_f9 W H Z (ty_soWeb W Ta) (f := f) hf).2.1
  have ga := fun f hf => (at_f9 W H Z (ty_soAtlas W Ta) (f := f) hf).2.1
  have d := fun k => dvA_f9 W H Z (ty_soAtlas W Ta) k
  refine ⟨fun b => ?_, fun b => ?_, fun t => ?_, fun V s => ?_, fun s => ?_, fun i => ?_, fun s => ?_⟩
  · unfold bs15; rw [e1, g weSources (by decide)]
  · unfold bw15; rw [e1, e2, g weEdges (by decide), ga atWeights (by decide)]
  · unfold bl15; rw [e1, g weBackFirsts (by decide)]
  · unfold un15 dvN9; rw [e2, d]
  · unfold kO15; rw [e1, g weKnotOf (by decide)]
  · rw [e1, g weOrder (by decide)]
  · unfold dvN9; rw [e2, d]
theorem bi_e15 {κ τ : zS} {a : Nat} (H : bxE15 κ τ a) (V : Nat → Rat) (B m : Nat) : bi15 τ a V B m = bi15 κ a V B m := smQ_c (fun d _ => by
  show un15 τ a V (bs15 τ a (B + d)) * (bw15 τ a (B + d) : Rat) = un15 κ a V (bs15 κ a (B + d)) * (bw15 κ a (B + d) : Rat)
  rw [H.1, H.2.1, H.2.2.2.1])
theorem in_e15 {κ τ : zS} {a : Nat} (H : bxE15 κ τ a) (V : Nat → Rat) (k : Int32) : in15 τ a V k = in15 κ a V k := by
  unfold in15
  rw [bi_e15 H, H.2.2.1, H.2.2.1]
theorem bp_e15 {κ τ : zS} {a : Nat} (H : bxE15 κ τ a) (t s n : Nat) : bp15 τ a t s n = bp15 κ a t s n := sZ_c15 (fun d _ => by
  show (if bs15 τ a (bl15 τ a t + d) = s then bw15 τ a (bl15 τ a t + d) else 0) = if bs15 κ a (bl15 κ a t + d) = s then bw15 κ a (bl15 κ a t + d) else 0
  rw [H.2.2.1, H.1, H.2.1])
theorem bW_e15 {κ τ : zS} {a : Nat} (H : bxE15 κ τ a) (t s : Nat) : bW15 τ a t s = bW15 κ a t s := by
  unfold bW15
  rw [bp_e15 H, H.2.2.1, H.2.2.1]
theorem uB_e15 {κ τ : zS} {a t : Nat} (H : bxE15 κ τ a) (h : uB15 κ a t) : uB15 τ a t := by
  unfold uB15
  rw [H.2.2.1, H.2.2.1]
  intro b c h1 h2 h3 h4 e
  rw [H.1, H.1] at e
  exact h b c h1 h2 h3 h4 e
theorem od_e15 {κ τ : zS} {a : Nat} (H : bxE15 κ τ a) (i : Nat) : od15 τ a i = od15 κ a i := by
  unfold od15
  rw [H.2.2.2.2.2.1]
/-- fractions of visits stay -/
theorem rq_g15 {C : zC} {n0 a k : Nat} {R : Nat → Prop} {ρ0 ρ : Nat → Nat} {κ τ : zS} {q : Rat} (W : zW C n0 κ) (Ta : zT κ a = 12) (N : nmI ρ0 κ) (hR : ∀ r, 100 ≤ r → r < 1000000 → ¬ R r) (E : rgE9 R ρ0 κ τ a ρ) (h2 : ρ0 (vU9 κ a k) = 100 + 8 * k) (hk : k < 1000) (H : rqW8 κ (vU9 κ a k) q) : rqW8 τ (vU9 τ a k) q := by
  have Z := E.2.2.2.2
  have T9 : zT κ a = 11 + 1 := Ta
  have e3 := (Z.row W (f := soVisits) (t := 25) (by decide +kernel) (by decide) Ta (frS9_n W rgF9_fr T9 (by decide))).2.2
  have e4 : ∀ k, vU9 τ a k = vU9 κ a k := fun k => by unfold vU9; rw [e3]
  have g := ra_g9 N h2 (by omega) (by omega) (by omega)
  have lt : ∀ x, zT κ x ≠ 0 → x < zn κ := fun x h => (W.2.1 x h).2
  have lu := lt (vU9 κ a k) (by rw [g.1.1]; decide)
  have tt := ty_raTop W g.1.1
  have tb := ty_raBottom W g.1.1
  have lt1 := lt _ (show zT κ (zR κ raTop (vU9 κ a k)) ≠ 0 by rw [tt]; decide)
  have lb1 := lt _ (show zT κ (zR κ raBottom (vU9 κ a k)) ≠ 0 by rw [tb]; decide)
  have nf : ∀ f b, b < zn κ → (100 ≤ ρ0 b ∧ ρ0 b < 1000000) → f / 100 ≠ 12 → f / 100 ≠ 4 → ¬ rgF9 R ρ0 (zR κ soCalc a) (zn κ) a f b := fun f b hb hr h12 h4 z => by
    rcases z with z | z | z | z
    · rcases z with ⟨z, _⟩ | ⟨_, z | z | z | z⟩
      · exact hR _ hr.1 hr.2 z
      · rw [z] at h4; exact absurd rfl h4
      · rw [z] at h4; exact absurd rfl h4
      · rw [z] at h4; exact absurd rfl h4
      · rw [z] at h4; exact absurd rfl h4
    · rw [z.1] at h12; exact absurd rfl h12
    · rw [z.1] at h12; exact absurd rfl h12
    · omega
  have ru : 100 ≤ ρ0 (vU9 κ a k) ∧ ρ0 (vU9 κ a k) < 1000000 := by rw [h2]; omega
  have rt : 100 ≤ ρ0 (zR κ raTop (vU9 κ a k)) ∧ ρ0 (zR κ raTop (vU9 κ a k)) < 1000000 := by rw [g.2.1.1]; omega
  have rb : 100 ≤ ρ0 (zR κ raBottom (vU9 κ a k)) ∧ ρ0 (zR κ raBottom (vU9 κ a k)) < 1000000 := by rw [g.2.1.2]; omega
  have nt := (nuB_z (c := 0) W tt Z (nf _ _ lt1 rt (by decide) (by decide)) (nf _ _ lt1 rt (by decide) (by decide))).2.2.1
  have nb9 := (nuB_z (c := 0) W tb Z (nf _ _ lb1 rb (by decide) (by decide)) (nf _ _ lb1 rb (by decide) (by decide))).2.2.1
  unfold rqW8
  rw [e4, Z.i (nf raSign _ lu ru (by decide) (by decide)), Z.r (nf raTop _ lu ru (by decide) (by decide)), Z.r (nf raBottom _ lu ru (by decide) (by decide)), nt, nb9]
  exact H
theorem vV_g15 {C : zC} {n0 a n P : Nat} {R : Nat → Prop} {ρ0 ρ : Nat → Nat} {κ τ : zS} {V : Nat → Rat} (W : zW C n0 κ) (Ta : zT κ a = 12) (N : nmI ρ0 κ) (hn : n ≤ 1000) (hR : ∀ r, 100 ≤ r → r < 1000000 → ¬ R r) (E : rgE9 R ρ0 κ τ a ρ) (I : vsI9 ρ0 κ a n P) (H : vV15 κ a n V) : vV15 τ a n V := fun k hk => ⟨rq_g15 W Ta N hR E (I k hk).2.1 (by omega) (H k hk).1, (H k hk).2⟩
/-- sums of whole numbers, as fractions -/
theorem sZ_q15 {f : Nat → Int} : ∀ {n : Nat}, ((sZ15 f n : Int) : Rat) = smQ (fun i => ((f i : Int) : Rat)) n
  | 0 => rfl
  | n + 1 => by
    show ((sZ15 f n + f n : Int) : Rat) = smQ (fun i => ((f i : Int) : Rat)) n + ((f n : Int) : Rat)
    rw [Rat.intCast_add, sZ_q15]
theorem sZ_g15 {f : Nat → Int} {j : Nat} : ∀ {n : Nat}, (∀ i, i < n → 0 ≤ f i) → j < n → f j ≤ sZ15 f n
  | 0, _, h => absurd h (Nat.not_lt_zero j)
  | n + 1, h, hj => by
    show f j ≤ sZ15 f n + f n
    have p := sZ_nn15 (f := f) (n := n) (fun i hi => h i (by omega))
    have q := h n (by omega)
    by_cases e : j = n
    · rw [e]; omega
    · have a := sZ_g15 (f := f) (n := n) (fun i hi => h i (by omega)) (by omega : j < n)
      omega
theorem sg_z15 {f : Nat → Int} : ∀ {n : Nat}, sgI f n = sZ15 f n
  | 0 => rfl
  | n + 1 => by
    show sgI f n + f n = sZ15 f n + f n
    rw [sg_z15]
/-- the equations of a ring, in whole numbers -/
theorem rX_15 {w : Nat → Nat → Int} {T : Nat → Int} {b x : Nat → Nat} {m A : Nat} (hm : m ≤ 32) (h : ∀ i, i < m → sZ15 (fun c => (x c : Int) * sm15 w T (fun r => ((b r : Nat) : Int)) i c) m = ((A : Nat) : Int) * sm15 w T (fun r => ((b r : Nat) : Int)) i 32) : ∀ i, i < m → (x i : Int) * T i = (A : Int) * (b i : Int) + sZ15 (fun c => (x c : Int) * w c i) m := fun i hi => by
  have e := h i hi
  have r : sm15 w T (fun r => ((b r : Nat) : Int)) i 32 = (b i : Int) := if_pos rfl
  rw [r] at e
  have f : sZ15 (fun c => (x c : Int) * sm15 w T (fun r => ((b r : Nat) : Int)) i c) m = sZ15 (fun c => if c = i then (x i : Int) * (T i - w i i) else -1 * ((x c : Int) * w c i) + 0 * 0) m := sZ_c15 (fun c hc => by
    show (x c : Int) * sm15 w T (fun r => ((b r : Nat) : Int)) i c = if c = i then (x i : Int) * (T i - w i i) else -1 * ((x c : Int) * w c i) + 0 * 0
    unfold sm15
    rw [if_neg (by omega)]
    by_cases q : c = i
    · rw [if_pos q.symm, if_pos q, q]
    · rw [if_neg (fun z => q z.symm), if_neg q]
      generalize ((x c : Nat) : Int) = u
      grind)
  rw [f, sZ_d15 hi, sZ_l15 (x := -1) (y := 0) (f := fun c => (x c : Int) * w c i) (g := fun _ => 0)] at e
  generalize sZ15 (fun c => (x c : Int) * w c i) m = S at e ⊢
  generalize sZ15 (fun _ => (0 : Int)) m = S0 at e
  generalize ((x i : Nat) : Int) = u at e ⊢
  grind
/-- the same, in fractions -/
theorem rX_q15 {w : Nat → Nat → Int} {T b x : Nat → Nat} {m A H i : Nat} {I : Rat} (T0 : ∀ c, c < m → 0 < T c) (A0 : 0 < A) (H0 : 0 < H) (e : (x i : Int) * (T i : Int) = (A : Int) * (b i : Int) + sZ15 (fun c => (x c : Int) * w c i) m) (hb : ((b i : Nat) : Rat) = I * ((H : Nat) : Rat)) : mkRat ((x i * T i : Nat) : Int) (A * H) = I + smQ (fun c => mkRat ((x c * T c : Nat) : Int) (A * H) * mkRat 1 (T c) * ((w c i : Int) : Rat)) m := by
  have aq := nq0 A0
  have hq := nq0 H0
  have ia := inv_s (S := ((A : Nat) : Rat)) (by grind)
  have ih := inv_s (S := ((H : Nat) : Rat)) (by grind)
  have iah := inv_s (S := ((A * H : Nat) : Rat)) (by have := nq0 (Nat.mul_pos A0 H0); grind)
  have eq : ((x i : Nat) : Rat) * ((T i : Nat) : Rat) = ((A : Nat) : Rat) * ((b i : Nat) : Rat) + smQ (fun c => ((x c : Nat) : Rat) * ((w c i : Int) : Rat)) m := by
    have z := congrArg (fun z : Int => (z : Rat)) e
    have z : (((x i : Int) * (T i : Int) : Int) : Rat) = (((A : Int) * (b i : Int) + sZ15 (fun c => (x c : Int) * w c i) m : Int) : Rat) := z
    rw [Rat.intCast_mul, Rat.intCast_add, Rat.intCast_mul, sZ_q15, Rat.intCast_natCast, Rat.intCast_natCast, Rat.intCast_natCast, Rat.intCast_natCast] at z
    rw [z]
    congr 1
    exact smQ_c (fun c _ => by
      show (((x c : Int) * w c i : Int) : Rat) = _
      rw [Rat.intCast_mul, Rat.intCast_natCast])
  have s : smQ (fun c => mkRat ((x c * T c : Nat) : Int) (A * H) * mkRat 1 (T c) * ((w c i : Int) : Rat)) m = smQ (fun c => ((x c : Nat) : Rat) * ((w c i : Int) : Rat)) m * ((A * H : Nat) : Rat)⁻¹ := by
    rw [← smQ_mul]
    refine smQ_c (fun c hc => ?_)
    have t0 := nq0 (T0 c hc)
    have it := inv_s (S := ((T c : Nat) : Rat)) (by grind)
    rw [mk_d, mk_d, Rat.intCast_natCast, Rat.natCast_mul]
    show ((x c : Nat) : Rat) * ((T c : Nat) : Rat) * ((A * H : Nat) : Rat)⁻¹ * (((1 : Int) : Rat) * ((T c : Nat) : Rat)⁻¹) * ((w c i : Int) : Rat) = _
    rw [show ((1 : Int) : Rat) = 1 from rfl]
    generalize ((T c : Nat) : Rat)⁻¹ = it9 at it ⊢
    generalize ((A * H : Nat) : Rat)⁻¹ = ah
    generalize ((T c : Nat) : Rat) = t at it ⊢
    generalize ((x c : Nat) : Rat) = u
    generalize ((w c i : Int) : Rat) = v
    grind
  rw [s, mk_d, Rat.intCast_natCast, Rat.natCast_mul, eq, hb, Rat.natCast_mul]
  rw [Rat.natCast_mul] at iah
  generalize smQ (fun c => ((x c : Nat) : Rat) * ((w c i : Int) : Rat)) m = S
  generalize (((A : Nat) : Rat) * ((H : Nat) : Rat))⁻¹ = k at iah ⊢
  generalize ((A : Nat) : Rat) = p at iah ⊢
  generalize ((H : Nat) : Rat) = q at iah ⊢
  grind
/-- ways within a ring -/
def pt15 (w : Nat → Nat → Int) (m : Nat) : Nat → Nat → Nat → Prop
  | 0, i, j => i = j
  | l + 1, i, j => ∃ c, c < m ∧ 0 < w i c ∧ pt15 w m l c j
theorem po_15 {w : Nat → Nat → Int} {T : Nat → Int} {b x : Nat → Nat} {m A : Nat} (w0 : ∀ c r, c < m → r < m → 0 ≤ w c r) (T0 : ∀ c, c < m → 0 < T c) (A0 : 0 < A) (e : ∀ i, i < m → (x i : Int) * T i = (A : Int) * (b i : Int) + sZ15 (fun c => (x c : Int) * w c i) m) (b0 : ∃ r, r < m ∧ 0 < b r) (P : ∀ i j, i < m → j < m → ∃ l, pt15 w m l i j) : ∀ i, i < m → 0 < x i := by
  have nn : ∀ i, i < m → ∀ c, c < m → 0 ≤ (x c : Int) * w c i := fun i hi c hc => Int.mul_nonneg (Int.natCast_nonneg _) (w0 c i hc hi)
  have pos : ∀ i, i < m → 0 < (x i : Int) * T i → 0 < x i := fun i hi h => by
    refine Decidable.byContradiction (fun z => ?_)
    have z0 : x i = 0 := by omega
    rw [z0] at h
    simp at h
  have step : ∀ l i j, i < m → j < m → 0 < x i → pt15 w m l i j → 0 < x j := fun l => by
    induction l with
    | zero =>
      intro i j _ _ h p
      have p : i = j := p
      rw [← p]; exact h
    | succ l ih =>
      intro i j hi hj h p
      obtain ⟨c, c1, c2, c3⟩ := p
      refine ih c j c1 hj (pos c c1 ?_) c3
      rw [e c c1]
      have g := sZ_g15 (f := fun d => (x d : Int) * w d c) (j := i) (n := m) (nn c c1) hi
      have q : 0 < (x i : Int) * w i c := Int.mul_pos (by omega) c2
      have a : 0 ≤ (A : Int) * (b c : Int) := Int.mul_nonneg (Int.natCast_nonneg _) (Int.natCast_nonneg _)
      have g : (x i : Int) * w i c ≤ sZ15 (fun d => (x d : Int) * w d c) m := g
      omega
  obtain ⟨r, r1, r2⟩ := b0
  have xr : 0 < x r := pos r r1 (by
    rw [e r r1]
    have a : 0 < (A : Int) * (b r : Int) := Int.mul_pos (by omega) (by omega)
    have q := sZ_nn15 (n := m) (nn r r1)
    omega)
  intro i hi
  obtain ⟨l, hl⟩ := P r i r1 hi
  exact step l r i r1 hi xr hl
/-- what is put back is the solution -/
theorem pu_15 {M : Nat → Nat → Nat} {x y : Nat → Nat} {m : Nat} (x1 : x (m - 1) = M (m - 1) 32) (y1 : y (m - 1) = M (m - 1) 32) (pos : ∀ r, r < m → 0 < M r r) (hx : ∀ r, r + 1 < m → x r * M r r = M (m - 1) (m - 1) * M r 32 + sN15 (fun c => M r c * x c) (r + 1) (m - (r + 1))) (hy : ∀ r, r + 1 < m → pbE15 M y m r) : ∀ k r, r < m → m - 1 - r ≤ k → y r = x r := fun k => by
  induction k with
  | zero =>
    intro r hr hk
    rw [show r = m - 1 by omega, x1, y1]
  | succ k ih =>
    intro r hr hk
    by_cases c : r = m - 1
    · rw [c, x1, y1]
    · have a := hx r (by omega)
      have b := hy r (by omega)
      unfold pbE15 at b
      have e : sN15 (fun c => M r c * y c) (r + 1) (m - (r + 1)) = sN15 (fun c => M r c * x c) (r + 1) (m - (r + 1)) := sN_c15 (fun c h1 h2 => by
        show M r c * y c = M r c * x c
        rw [ih c (by omega) (by omega)])
      rw [b, e, ← a]
      exact Nat.mul_div_cancel _ (pos r hr)
/-- what a member gives within its ring is no more than its total -/
theorem wT_15 {M : Nat → Nat → Nat} {w : Nat → Nat → Int} {T : Nat → Int} {m j : Nat} (e : ∀ i j, i < m → j < m → (j ≠ i → (M i j : Int) = w j i) ∧ (j = i → (M i j : Int) = T i - w i j)) (h : cS9 M 0 m j ≤ (M j j : Int)) (hj : j < m) : sZ15 (w j) m ≤ T j := by
  unfold cS9 at h
  rw [sg_z15, sZ_c15 (g := fun i => if i = j then 0 else w j i) (fun i hi => by
    show (if 0 ≤ i ∧ i ≠ j then (M i j : Int) else 0) = if i = j then 0 else w j i
    by_cases c : i = j
    · rw [if_neg (fun z => z.2 c), if_pos c]
    · rw [if_pos ⟨Nat.zero_le _, c⟩, if_neg c]
      exact (e i j hi hj).1 (fun z => c z.symm)), sZ_d15 hj, (e j j hj hj).2 rfl] at h
  omega
theorem bk_n15 {κ : zS} {a n t b : Nat} (X : svX9 κ a n) (ht : t < n) (h1 : bl15 κ a t ≤ b) (h2 : b < bl15 κ a (t + 1)) : bs15 κ a b < n ∧ 0 ≤ bw15 κ a b := by
  have r0 := bk_r9 X ht
  have k1 := cnk r0.2.1
  have k2 := cnk (x := zA κ (zR κ weBackFirsts (zR κ soWeb a)) (t + 1)) (by omega)
  have e1 : bl15 κ a t = (zA κ (zR κ weBackFirsts (zR κ soWeb a)) t).toNatClampNeg := rfl
  have e2 : bl15 κ a (t + 1) = (zA κ (zR κ weBackFirsts (zR κ soWeb a)) (t + 1)).toNatClampNeg := rfl
  have ob : (Int32.ofNat b).toNatClampNeg = b := cl_5 (by omega)
  have oi : (Int32.ofNat b).toInt = (b : Int) := ofn_i (by omega)
  have g := bk_g9 X ht (b := Int32.ofNat b) (by rw [oi]; omega) (by rw [oi]; omega)
  rw [ob] at g
  have gs := g.2.1
  have ks := cnk gs.1
  exact ⟨by show (zA κ _ _).toNatClampNeg < n; omega, (eg_9 X g.2).2⟩
theorem bW_n15 {κ : zS} {a n t s : Nat} (X : svX9 κ a n) (ht : t < n) : 0 ≤ bW15 κ a t s := sZ_nn15 (fun d hd => by
  show 0 ≤ (if bs15 κ a (bl15 κ a t + d) = s then bw15 κ a (bl15 κ a t + d) else 0)
  split
  · exact (bk_n15 X ht (Nat.le_add_right _ _) (by omega)).2
  · exact Int.le_refl _)
theorem in_n15 {κ : zS} {a n : Nat} {V : Nat → Rat} {k : Int32} (X : svX9 κ a n) (hk : k.toNatClampNeg < n) (hV : ∀ s, s < n → 0 ≤ V s) : 0 ≤ in15 κ a V k := by
  have b : 0 ≤ bi15 κ a V (bl15 κ a k.toNatClampNeg) (bl15 κ a (k.toNatClampNeg + 1) - bl15 κ a k.toNatClampNeg) := bi_n15 (fun d hd => hV _ (bk_n15 X hk (Nat.le_add_right _ _) (by omega)).1) (fun d hd => (bk_n15 X hk (Nat.le_add_right _ _) (by omega)).2)
  unfold in15
  split <;> grind
theorem dN_15 {κ : zS} {a n k : Nat} (X : svX9 κ a n) (hk : k < n) : ((dvN9 κ (zR κ soAtlas a) k : Nat) : Int) = (dvA κ (zR κ soAtlas a) k).toInt := by
  have d := dv_9 X hk
  unfold dvN9
  split <;> omega
theorem el_c15 {a : Nat → Nat → Int} {M M' : Nat → Nat → Nat} {m p q : Nat} (h : ∀ i j, i < m → (j < m ∨ j = 32) → M i j = M' i j) (hp : p ≤ m) (e : el15 a M m p q) : el15 a M' m p q := by
  obtain ⟨h1, h2, h3⟩ := e
  refine ⟨h1, fun i j hi hm hj => ?_, fun r j hr hj => ?_⟩
  · have z := h2 i j hi hm hj
    unfold sn15 at z ⊢
    rw [← h i j hm (by omega)]
    exact z
  · have z := h3 r j hr hj
    unfold sn15 at z ⊢
    rw [← h r j (by omega) (by omega)]
    exact z
/-- a ring's weights, totals, inflows -/
def rw15 (κ : zS) (a f c r : Nat) : Int := bW15 κ a (od15 κ a (f + r)) (od15 κ a (f + c))
def rT15 (κ : zS) (a f c : Nat) : Int := ((dvN9 κ (zR κ soAtlas a) (od15 κ a (f + c)) : Nat) : Int)
abbrev ri15 (κ : zS) (a : Nat) (V : Nat → Rat) (f i : Nat) : Rat := in15 κ a V (zA κ (zR κ weOrder (zR κ soWeb a)) (f + i))
def rB15 (κ τ : zS) (a : Nat) (V : Nat → Rat) (f i : Nat) : Prop := ((cV15 τ a i 32 : Nat) : Rat) = ri15 κ a V f i * ((nuN τ (zR κ soWhole a) : Nat) : Rat)
def rC15 (κ τ : zS) (a f m i : Nat) : Prop := ∀ j, j < m → (j ≠ i → (cV15 τ a i j : Int) = rw15 κ a f j i) ∧ (j = i → (cV15 τ a i j : Int) = rT15 κ a f i - rw15 κ a f j i)
def rD15 (κ τ : zS) (a : Nat) (V : Nat → Rat) (f m : Nat) : Prop := 0 < nuN τ (zR κ soWhole a) ∧ ∀ r, r < m → ∀ b, bl15 κ a (od15 κ a (f + r)) ≤ b → b < bl15 κ a (od15 κ a (f + r) + 1) → V (bs15 κ a b) ≠ 0 → (un15 κ a V (bs15 κ a b)).den ∣ nuN τ (zR κ soWhole a)
def rV15 (κ : zS) (a : Nat) (V : Nat → Rat) (f n : Nat) (v : Int32) : Prop := (v = 0 → ∀ i, i < n → ri15 κ a V f i = 0) ∧ (v ≠ 0 → ∃ i, i < n ∧ 0 < ri15 κ a V f i)
abbrev rS15 (κ : zS) (a f : Nat) (b : Nat → Nat) : Nat → Nat → Int := sm15 (rw15 κ a f) (rT15 κ a f) (fun r => ((b r : Nat) : Int))
def rM15 (κ τ : zS) (a : Nat) (V : Nat → Rat) (f m : Nat) (l5 : Int32) : Prop := ∃ b : Nat → Nat, (0 < nuN τ (zR κ soWhole a) ∧ ∀ i, i < m → ((b i : Nat) : Rat) = ri15 κ a V f i * ((nuN τ (zR κ soWhole a) : Nat) : Rat)) ∧ (∃ r, r < m ∧ 0 < b r) ∧ (∀ j, j < m → sZ15 (rw15 κ a f j) m ≤ rT15 κ a f j) ∧ ∀ (M : Nat → Nat → Nat) (q : Nat), (∀ i j, i < m → (j < m ∨ j = 32) → cV15 τ a i j = M i j) → ((l5 = 0 → q = 1) ∧ (¬ l5 = 0 → q = M (l5.toNatClampNeg - 1) (l5.toNatClampNeg - 1))) → el15 (rS15 κ a f b) M m l5.toNatClampNeg q
/-- the equations of a ring -/
def eC15 (κ : zS) (a : Nat) (V : Nat → Rat) (f m : Nat) (X : Nat → Rat) : Prop := ∀ i, i < m → 0 ≤ X i ∧ X i = ri15 κ a V f i + smQ (fun c => X c * mkRat 1 (dvN9 κ (zR κ soAtlas a) (od15 κ a (f + c))) * ((rw15 κ a f c i : Int) : Rat)) m
/-- at the beginning of the elimination -/
theorem rM_015 {κ τ : zS} {a f m n : Nat} {V : Nat → Rat} {M8 : Nat → Nat → Nat} (hm : m ≤ 32) (D : rD15 κ τ a V f m) (H : ∀ i, i < m → rC15 κ τ a f m i ∧ rB15 κ τ a V f i) (v : ∃ i, i < m ∧ 0 < ri15 κ a V f i) (hn : n = m) (e8 : ∀ i j, i < m → j < m → cV15 τ a i j = M8 i j) (d8 : ∀ j, j < m → cS9 M8 0 m j ≤ (M8 j j : Int)) : rM15 κ τ a V f m 0 := by
  refine ⟨fun r => cV15 τ a r 32, ⟨D.1, fun i hi => (H i hi).2⟩, ?_, fun j hj => ?_, fun M q hM hq => ?_⟩
  · obtain ⟨i, hi, p⟩ := v
    refine ⟨i, hi, ?_⟩
    have e := (H i hi).2
    unfold rB15 at e
    have w := Rat.mul_pos p (nq0 D.1)
    rw [← e] at w
    exact Rat.natCast_pos.mp w
  · refine wT_15 (M := M8) (fun i j hi hj => ?_) (d8 j hj) hj
    have z := (H i hi).1 j hj
    rw [e8 i j hi hj] at z
    exact ⟨z.1, fun y => by rw [z.2 y, y]⟩
  · have q1 := hq.1 rfl
    rw [q1]
    refine el_015 (fun i j hi hj => ?_)
    show sn15 M i j = sm15 (rw15 κ a f) (rT15 κ a f) (fun r => ((cV15 τ a r 32 : Nat) : Int)) i j
    unfold sn15 sm15
    rw [← hM i j hi hj]
    by_cases c : j = 32
    · rw [if_pos (Or.inr c), if_pos c, c]
    · have jm : j < m := hj.resolve_right c
      have z := (H i hi).1 j jm
      rw [if_neg c]
      by_cases e : i = j
      · rw [if_pos (Or.inl e), if_pos e, z.2 e.symm, e]
      · rw [if_neg (fun y => y.elim e c), if_neg e, z.1 (fun y => e y.symm)]
/-- a step of the elimination -/
theorem rM_s15 {κ κ1 κ2 : zS} {a f m n p q7 : Nat} {V : Nat → Rat} {l l' : Int32} {M7 : Nat → Nat → Nat} (X : svX9 κ a n) (hn : f + m ≤ n) (hm : m ≤ 32) (hp : p + 1 < m) (el : l.toNatClampNeg = p) (el' : l'.toNatClampNeg = p + 1) (nl : ¬ l' = 0) (E : ∀ j, j < m → ∃ k, lv15 (rw15 κ a f) (rT15 κ a f) m k j) (e7 : ∀ i j, i < m → (j < m ∨ j = 32) → cV15 κ1 a i j = M7 i j) (Q7 : (l = 0 → q7 = 1) ∧ (¬ l = 0 → q7 = M7 (l.toNatClampNeg - 1) (l.toNatClampNeg - 1))) (B7 : ∀ j, p ≤ j → j < m → cS9 M7 p m j ≤ (M7 j j : Int)) (e8 : ∀ i j, i < m → (j < m ∨ j = 32) → cV15 κ2 a i j = eM9 M7 m p q7 i j) (hw : nuN κ2 (zR κ soWhole a) = nuN κ1 (zR κ soWhole a)) (od : ∀ r, r < m → od15 κ a (f + r) < n) (H : rM15 κ κ1 a V f m l) : rM15 κ κ2 a V f m l' := by
  obtain ⟨b, h1, h2, h3, h4⟩ := H
  have EL := h4 M7 q7 e7 Q7
  rw [el] at EL
  refine ⟨b, by rw [hw]; exact h1, h2, h3, fun M q hM hq => ?_⟩
  have q1 := hq.2 nl
  rw [el', Nat.add_sub_cancel] at q1
  rw [el']
  have ee : ∀ i j, i < m → (j < m ∨ j = 32) → eM9 M7 m p q7 i j = M i j := fun i j hi hj => (e8 i j hi hj).symm.trans (hM i j hi hj)
  have S := el_s15 hm (by omega) (fun t ht => dn_15 hm (fun j r hj hr => bW_n15 X (od r hr)) h3 E (Nat.le_refl m) t (by omega)) (fun j h5 h6 => (dom_9 (q := q7) B7 h5 h6).2) EL
  rw [q1, ← ee p p (by omega) (Or.inl (by omega)), eM9_o (Nat.le_refl p)]
  exact el_c15 ee (by omega) S
/-- what putting back finds -/
theorem rM_z15 {κ κ1 κ2 : zS} {a f m n q7 : Nat} {V : Nat → Rat} {l : Int32} {M7 : Nat → Nat → Nat} (X : svX9 κ a n) (hn : f + m ≤ n) (hm : m ≤ 32) (m0 : 0 < m) (el : l.toNatClampNeg = m - 1) (E : ∀ j, j < m → ∃ k, lv15 (rw15 κ a f) (rT15 κ a f) m k j) (C : ∀ i j, i < m → j < m → ∃ k, pt15 (rw15 κ a f) m k i j) (e7 : ∀ i j, i < m → (j < m ∨ j = 32) → cV15 κ1 a i j = M7 i j) (Q7 : (l = 0 → q7 = 1) ∧ (¬ l = 0 → q7 = M7 (l.toNatClampNeg - 1) (l.toNatClampNeg - 1))) (od : ∀ r, r < m → od15 κ a (f + r) < n) (H : rM15 κ κ1 a V f m l) (z1 : cV15 κ2 a (m - 1) 32 = M7 (m - 1) 32) (z2 : ∀ r, r + 1 < m → pbE15 M7 (fun c => cV15 κ2 a c 32) m r) : ∃ x : Nat → Nat, 0 < M7 (m - 1) (m - 1) ∧ 0 < nuN κ1 (zR κ soWhole a) ∧ (∀ r, r < m → cV15 κ2 a r 32 = x r ∧ 0 < x r) ∧ eC15 κ a V f m (fun r => mkRat ((x r * dvN9 κ (zR κ soAtlas a) (od15 κ a (f + r)) : Nat) : Int) (M7 (m - 1) (m - 1) * nuN κ1 (zR κ soWhole a))) := by
  obtain ⟨b, ⟨W0, h1⟩, h2, h3, h4⟩ := H
  have EL := h4 M7 q7 e7 Q7
  rw [el] at EL
  have w0 : ∀ c r, c < m → r < m → 0 ≤ rw15 κ a f c r := fun c r _ hr => bW_n15 X (od r hr)
  have d : ∀ t, t ≤ m → dt15 (rS15 κ a f b) t ≠ 0 := fun t ht => dn_15 hm w0 h3 E (Nat.le_refl m) t ht
  obtain ⟨x, p1, p2, p3, p4, p5⟩ := pb_15 hm m0 d (fun r j hr hj => by
    by_cases c : r < m - 1
    · exact EL.2.2 r j c hj
    · have e : r = m - 1 := by omega
      have z := EL.2.1 r j (by omega) hr (by omega)
      rw [← e] at z
      exact z)
  have y := pu_15 p2 z1 p3 p4 z2
  have rx := rX_15 hm p5
  have A0 := p3 (m - 1) (by omega)
  have T0 : ∀ c, c < m → 0 < rT15 κ a f c := fun c _ => by
    have q := dvN9_p (κ := κ) (x := zR κ soAtlas a) (k := od15 κ a (f + c))
    unfold rT15
    omega
  have xp := po_15 w0 T0 A0 rx h2 C
  refine ⟨x, A0, W0, fun r hr => ⟨y m r hr (by omega), xp r hr⟩, fun i hi => ⟨mk_nn (Nat.mul_pos A0 W0) (Int.natCast_nonneg _), ?_⟩⟩
  exact rX_q15 (T := fun c => dvN9 κ (zR κ soAtlas a) (od15 κ a (f + c))) (fun c _ => dvN9_p) A0 W0 (rx i hi) (h1 i hi)

end
section
set_option maxHeartbeats 1600000
/-! the class: weave: which states can come to what is no state -/
theorem We_weave_q15 {C : zC} {n0 : Nat} {a0 : Nat} {a1 : Nat} {a2 : Int32} {κ : zS} {Q : zS → Prop} (W : zW C n0 κ) (Ta0 : zT κ a0 = 14) (Ta1 : zT κ a1 = 3) (m9 : Nat) (hp : (weU κ a0 ∨ weM κ a0) ∧ weL κ a0 ∧ atW κ a1 m9) (h : ∀ (κ' : zS), ((zF (objF a0) κ κ' ∧ weG κ' a0 a1 a2 m9 ∧ atW κ' a1 m9) ∧ ((∀ k, k < m9 → (zA κ' (zR κ' weOpen a0) k ≠ 0 ↔ eo8 κ' a1 a2 k ∨ ∃ t, t < m9 ∧ eo8 κ' a1 a2 t ∧ Tr (el8 κ' a1 a2 m9) k t)) ∧ (∀ j, j < m9 → ∀ y, (Ed8 (qI8 (zA κ' (zR κ' weFirsts a0))) (qN8 (zA κ' (zR κ' weTargets a0))) j y ↔ ∃ i : Nat, (zA κ' (zR κ' atFirsts a1) j).toInt ≤ (i : Int) ∧ (i : Int) < (zA κ' (zR κ' atFirsts a1) (j + 1)).toInt ∧ lkD κ' a1 a2 y j i = 1)) ∧ (∀ x y, x < m9 → y < m9 → (bk8 (zA κ' (zR κ' weBackFirsts a0)) (zA κ' (zR κ' weSources a0)) m9 x y ↔ el8 κ' a1 a2 m9 x y)))) → Q κ') : zRun C 2 mWe_weave [.ref a0, .ref a1, .int a2] κ (oV Q noX) := by
  refine We_weave_run W Ta0 Ta1 ?_
  replace W := W.lo (Nat.le_trans W.1.2.1 W.1.2.2) (Nat.le_refl (zn κ))
  unfold w_We_weave_0
  obtain ⟨U0, L0, A0⟩ := hp
  have hj61 : ∀ (l0 : Nat) (l1 : Nat) (l2 : Int32) (τ : zS), zW C (zn κ) τ → zT τ l0 = 14 → zT τ l1 = 3 → ((a0 = l0 ∧ a1 = l1 ∧ a2 = l2 ∧ (weM τ a0 ∧ weL τ a0) ∧ zF (objF a0) κ τ ∧ (zI τ weTotal a0).toInt = (m9 : Int) ∧ (zI κ atNexts a1).toInt ≤ (zN τ (zR τ weTargets a0))) ∧ True) → w_We_weave_61 C (zn κ) Q  l0 l1 l2 τ := by
    rintro _ _ _ τ61 W61 T61_0 T61_1 ⟨⟨rfl, rfl, rfl, j61⟩, hE⟩
    unfold w_We_weave_61
    intro T1
    refine Ar_fill_c W61 T1  (fun κ_2 q3 => ?_)
    have Zf : zF (objF a0) τ61 κ_2 := by rw [q3]; exact zF_uf (by rw [weRf_o W61 T61_0 (by decide)])
    have R2 : zR κ_2 = zR τ61 := by rw [q3]; rfl
    have N2 : zN κ_2 = zN τ61 := by rw [q3]; rfl
    have I2 : zI κ_2 = zI τ61 := by rw [q3]; rfl
    have T2 : zT κ_2 a0 = 14 := Zf.t T61_0 (by decide)
    have T2b : zT κ_2 a1 = 3 := Zf.t T61_1 (by decide)
    have ZZ := j61.2.1.tr Zf
    have M2 : weM κ_2 a0 := by unfold weM; rw [R2, N2]; exact j61.1.1
    have L2 : weL κ_2 a0 := by unfold weL; rw [R2, N2]; exact j61.1.2
    have t2 : (zI κ_2 weTotal a0).toInt = (m9 : Int) := by rw [I2]; exact j61.2.2.1
    have A2 : atW κ_2 a1 m9 := atW_E W Ta0 Ta1 ZZ A0
    have nx2 : (zI κ_2 atNexts a1).toInt ≤ zN κ_2 (zR κ_2 weTargets a0) := by
      have ne : a1 ≠ a0 := fun z => by rw [z, Ta0] at Ta1; exact absurd Ta1 (by decide)
      rw [ZZ.i ne, N2, R2]
      exact j61.2.2.2
    have b2 : ∀ t, t ≤ 1000 → zA κ_2 (zR κ_2 weBackFirsts a0) t = 0 := fun t ht => by
      rw [R2, q3]
      have l := j61.1.1.2.1
      refine (congrFun (if_pos rfl) t).trans ?_
      exact if_pos ⟨Nat.zero_le _, by omega⟩
    have A9 := A2
    obtain ⟨AM, AL, n1, nS, nb9, EK⟩ := A2
    have lT := L2.2.2
    have lS := L2.1.1
    have m1 := M2.1
    have m2 := M2.2.1
    have m3 := M2.2.2.1
    have m11 := M2.2.2.2.2.2.2.2.2.2.2
    have al := AL.1.1
    have al2 := AL.2.2
    intro W4
    intro M5
    unfold w_We_weave_77
    refine ⟨fun n l0 l1 l2 l3 l4 l5 τ => n = (1000 - l5.toInt).toNat ∧ ((a0 = l0 ∧ a1 = l1 ∧ a2 = l2 ∧ (0 ≤ l5.toInt ∧ l5.toInt ≤ m9) ∧ wvI κ_2 τ a0 a1 a2 m9 l5.toNatClampNeg (zA κ_2 (zR κ_2 atFirsts a1) l5.toNatClampNeg).toInt l5.toNatClampNeg l3 l4) ∧ (EO8 (eT8 κ_2 a1 a2) (zA κ_2 (zR κ_2 atFirsts a1)) (zA τ (zR κ_2 weOpen a0)) (zA τ (zR κ_2 weHeap a0)) l5.toNatClampNeg l4.toInt ∧ LO8 (fun y k i => lkD κ_2 a1 a2 y k i = 1) (zA κ_2 (zR κ_2 atFirsts a1)) (zA τ (zR κ_2 weFirsts a0)) (zA τ (zR κ_2 weTargets a0)) l5.toNatClampNeg l3.toInt)), ⟨_, rfl, ?_⟩, ?_⟩
    · refine and_5 ?_ (fun o9 => ⟨EO_08, LO_08⟩)  -- j1
      refine ⟨rfl, rfl, rfl, ⟨by decide, by rw [t0i]; omega⟩, weE.rf, ⟨by rw [b2 0 (by omega)]; rfl, fun t ht => ?_, ?_⟩, ⟨by decide, Or.inl rfl⟩, ⟨fun j hj => absurd hj (Nat.not_lt_zero _), fun j hj => absurd hj (Nat.not_lt_zero _)⟩, fun i hi => ?_, rfl, fun i hi => ?_⟩
      · rw [b2 (t + 1) (by omega)]
        refine ⟨?_, Int.le_refl _⟩
        show _ = cP _ _ t 0 (zA κ_2 (zR κ_2 atFirsts a1) 0).toInt
        rw [cP_0]
        rfl
      · refine sgI_z (fun i hi => ?_)
        rw [b2 (i + 1) (by omega)]
        rfl
      · rw [t0i] at hi; omega
      · rw [t0i] at hi; omega
    rintro n77 _ _ _ x77_3 x77_4 x77_5 κ77 W77 T77_0 T77_1 ⟨hn77, ⟨rfl, rfl, rfl, i77⟩, hE⟩
    obtain ⟨k77, H77⟩ := i77
    have rs := H77.1.2.1
    have ns := H77.1.2.2.2
    have is := H77.1.2.2.1
    have kn := cnk k77.1
    have l77 := H77.2.2.1
    refine ⟨fun c6 => ?_, fun c6 => ?_⟩
    · skip
      refine ⟨?_, ?_⟩
      · rw [rs, ns, is, inb_iff]; omega  -- b2
      intro κ_7 hκ_7
      intro W8
      intro T9
      intro T10
      rw [lei, is] at c6
      have kk : x77_5.toNatClampNeg = m9 := by omega
      rw [kk] at H77
      have U := we_u W77 T77_0 (f := weFirsts) (by decide) hκ_7
      have E7 := H77.1.tr U.1
      have M7 := weM_E E7 M2
      have L7 := weL_E E7 L2
      have A7 := atW_E W4 T2 T2b E7.1 A9
      have lk7 := lkD_E (p := a2) W4 T2 T2b E7.1
      have f7 := (at_E W4 T2 T2b E7.1 (f := atFirsts) (by decide)).2.1
      have r7 := E7.2.1
      have u3 := U.2.2.1
      have u2 := U.2.1
      rw [rs] at u3
      have tk : (zI κ_2 weTotal a0).toNatClampNeg = m9 := by
        have := cnk (x := zI κ_2 weTotal a0) (by omega)
        omega
      rw [rs, is, tk] at u2
      have b7 : zA κ_7 (zR κ_2 weBackFirsts a0) = zA κ77 (zR κ_2 weBackFirsts a0) := u3 weBackFirsts (by decide) (by decide)
      obtain ⟨-, ⟨B0, B1, B2⟩, ll, ⟨f1, f2⟩, tg, ct, hh⟩ := H77
      have lnb : x77_3.toInt ≤ zN κ_2 (zR κ_2 weTargets a0) := by
        by_cases z : m9 = 0
        · have y : x77_3.toInt = 0 := by rw [← B2, z]; rfl
          omega
        · have y := (EK (m9 - 1) (by omega)).1.2.2
          have e : m9 - 1 + 1 = m9 := by omega
          rw [e] at y
          omega
      refine We_weaveBack_q6 W8 T9 T10 m9 ?_ (fun κ_11 q12 => ?_)
      · refine ⟨⟨M7, L7⟩, by rw [E7.2.2.1]; exact t2, A7, ?_, fun t ht => ?_, ?_⟩
        · rw [r7, b7]; exact B0
        · rw [lk7, f7, r7, b7, (B1 t ht).1, cP_0]
        · rw [r7, b7, E7.2.2.2, B2]; exact lnb
      obtain ⟨q12, z9⟩ := q12
      have zB := z9
      obtain ⟨E11, R11, B11, C11, D11⟩ := q12
      have r11 : zR κ_11 = zR κ_7 := E11.2.1
      have d01q : d01 (lkD κ_7 a1 a2) := fun _ _ _ => lkD_01
      have C12 : ∀ t, t < m9 → (zA κ_11 (zR κ_7 weCursor a0) t).toInt = (zA κ_11 (zR κ_7 weBackFirsts a0) (t + 1)).toInt := fun t ht => by
        rw [C11 t ht, cP_0, B11.2.1 t ht]
      intro W13
      intro M14
      intro T15
      refine We_reach_q6 W13 T15 m9 (by rw [r11, R11 weOpen (by decide) (by decide), R11 weHeap (by decide) (by decide), r7, u3 weOpen (by decide) (by decide), u3 weHeap (by decide) (by decide)]; rw [kk] at hE; exact EO_r8 hE.1) ?_ (fun κ_16 q17 => ?_)
      · refine ⟨⟨weM_E E11 M7, weL_E E11 L7⟩, ⟨by rw [E11.2.2.1, E7.2.2.1]; exact t2, n1⟩, ?_, fun i hi => ?_, fun t ht => ⟨⟨?_, ?_⟩, fun b g1 g2 => ?_⟩⟩
        · rw [r11, R11 weOpen (by decide) (by decide), r7, u3 weOpen (by decide) (by decide)]; exact ct
        · rw [r11, R11 weHeap (by decide) (by decide), r7, u3 weHeap (by decide) (by decide)]; exact hh i hi
        · rw [r11]
          have y := bkB_m d01q B11 (s := 0) (t := t) (Nat.zero_le _) (by omega)
          have y0 := B11.1
          omega
        · rw [r11, E11.2.2.2]
          have y := bkB_m d01q B11 (s := t + 1) (t := m9) (by omega) (Nat.le_refl _)
          have y0 := B11.2.2
          omega
        · rw [r11] at g1 g2
          rw [r11]
          have y := D11 t ht b g1 (by rw [C12 t ht]; exact g2)
          exact y.1
      obtain ⟨q17, z9⟩ := q17
      intro W18
      intro M19
      refine h _ ?_
      · refine and_5 ?_ (fun o9 => ?_)  -- q5
        · have E16 := q17.1
          have R16 := q17.2
          have EE := E11.tr E16
          have r16 : zR κ_16 = zR κ_7 := EE.2.1
          have row : ∀ f, f ∈ weRf → f ∉ rcL → zA κ_16 (zR κ_16 f a0) = zA κ_11 (zR κ_7 f a0) := fun f h1 h2 => by
            rw [r16, ← r11]
            exact R16 f h1 h2
          have k1 : zA κ_16 (zR κ_16 weFirsts a0) = upd (zA κ77 (zR κ_2 weFirsts a0)) m9 x77_3 := by rw [row weFirsts (by decide) (by decide), R11 weFirsts (by decide) (by decide), r7, u2]
          have k2 : zA κ_16 (zR κ_16 weTargets a0) = zA κ77 (zR κ_2 weTargets a0) := by rw [row weTargets (by decide) (by decide), R11 weTargets (by decide) (by decide), r7, u3 weTargets (by decide) (by decide)]
          have lkE := lkD_E (p := a2) W8 T9 T10 EE.1
          have fE := (at_E W8 T9 T10 EE.1 (f := atFirsts) (by decide)).2.1
          have nE : zN κ_16 (zR κ_16 weTargets a0) = zN κ_7 (zR κ_7 weTargets a0) := by rw [r16, EE.2.2.2]
          have n7 : zN κ_7 (zR κ_7 weTargets a0) = zN κ_2 (zR κ_2 weTargets a0) := by rw [r7, E7.2.2.2]
          have um : upd (zA κ77 (zR κ_2 weFirsts a0)) m9 x77_3 m9 = x77_3 := if_pos rfl
          have uj : ∀ j, j < m9 → upd (zA κ77 (zR κ_2 weFirsts a0)) m9 x77_3 j = zA κ77 (zR κ_2 weFirsts a0) j := fun j hj => if_neg (Nat.ne_of_lt hj)
          refine ⟨(ZZ.tr E7.1).tr EE.1, ⟨⟨weM_E EE M7, weL_E EE L7⟩, ⟨by rw [EE.2.2.1, E7.2.2.1]; exact t2, n1⟩, ?_, ?_, fun t ht b g1 g2 => ?_⟩, atW_E W8 T9 T10 EE.1 A7⟩
          · rw [k1, k2, nE, n7]
            unfold wfO
            rw [um]
            refine ⟨fun k hk => ?_, fun k hk => ?_, lnb, tg⟩
            · by_cases z : k = m9
              · rw [z, um]; exact ⟨ll.1, Int.le_refl _⟩
              · rw [uj k (by omega)]; exact f1 k (by omega)
            · rw [uj k hk]
              by_cases z : k + 1 = m9
              · rw [z, um]; exact (f1 k hk).2
              · rw [uj (k + 1) (by omega)]; exact f2 k (by omega)
          · rw [lkE, fE, nE, row weBackFirsts (by decide) (by decide)]; exact B11
          · rw [row weBackFirsts (by decide) (by decide)] at g1 g2
            rw [lkE, fE, row weSources (by decide) (by decide), row weEdges (by decide) (by decide)]
            exact D11 t ht b g1 (by rw [C12 t ht]; exact g2)
        · have E16 := q17.1
          have EE := E11.tr E16
          have r16 : zR κ_16 = zR κ_7 := EE.2.1
          have o11 : zA κ_11 (zR κ_11 weOpen a0) = zA κ77 (zR κ_2 weOpen a0) := by rw [r11, R11 weOpen (by decide) (by decide), r7, u3 weOpen (by decide) (by decide)]
          have Z16 := E7.1.tr EE.1
          have ar : ∀ f, f = atSorts ∨ f = atChooses ∨ f = atFirsts ∨ f = atPlan → zA κ_16 (zR κ_16 f a1) = zA κ_2 (zR κ_2 f a1) := fun f hf => (at_E W4 T2 T2b Z16 (f := f) (by rcases hf with e | e | e | e <;> rw [e] <;> decide)).2.1
          have ar7 : ∀ f, f = atSorts ∨ f = atChooses ∨ f = atFirsts ∨ f = atPlan → zA κ_7 (zR κ_7 f a1) = zA κ_2 (zR κ_2 f a1) := fun f hf => (at_E W4 T2 T2b E7.1 (f := f) (by rcases hf with e | e | e | e <;> rw [e] <;> decide)).2.1
          have lkE := lkD_E (p := a2) W8 T9 T10 EE.1
          obtain ⟨t1, t2'⟩ := eT_E8 (p := a2) ar
          have le : el8 κ_16 a1 a2 m9 = el8 κ_7 a1 a2 m9 := el_E8 ((ar atFirsts (by decide)).trans (ar7 atFirsts (by decide)).symm) lkE
          have bl := bk_l8 zB
          rw [← r11] at bl
          rw [kk] at hE
          have op : ∀ k, k < m9 → (zA κ77 (zR κ_2 weOpen a0) k ≠ 0 ↔ eo8 κ_16 a1 a2 k) := fun k hk => by
            rw [t2']
            exact hE.1.1 k hk
          refine ⟨?_, ?_, ?_⟩
          · intro k hk
            rw [r16, ← r11, z9 k hk, o11, bl, le, op k hk]
            constructor
            · rintro (y | ⟨t, y1, y2, y3⟩)
              · exact Or.inl y
              · exact Or.inr ⟨t, y1, (op t y1).mp y2, y3⟩
            · rintro (y | ⟨t, y1, y2, y3⟩)
              · exact Or.inl y
              · exact Or.inr ⟨t, y1, (op t y1).mpr y2, y3⟩
          · have R16 := q17.2
            have row : ∀ f, f ∈ weRf → f ∉ rcL → zA κ_16 (zR κ_16 f a0) = zA κ_11 (zR κ_7 f a0) := fun f h1 h2 => by
              rw [r16, ← r11]
              exact R16 f h1 h2
            have k1 : zA κ_16 (zR κ_16 weFirsts a0) = upd (zA κ77 (zR κ_2 weFirsts a0)) m9 x77_3 := by rw [row weFirsts (by decide) (by decide), R11 weFirsts (by decide) (by decide), r7, u2]
            have k2 : zA κ_16 (zR κ_16 weTargets a0) = zA κ77 (zR κ_2 weTargets a0) := by rw [row weTargets (by decide) (by decide), R11 weTargets (by decide) (by decide), r7, u3 weTargets (by decide) (by decide)]
            intro j hj y
            have w := LO_z8 (wf' := upd (zA κ77 (zR κ_2 weFirsts a0)) m9 x77_3) hE.2 (fun j hj => if_neg hj) (congrArg Int32.toInt (show upd (zA κ77 (zR κ_2 weFirsts a0)) m9 x77_3 m9 = x77_3 from if_pos rfl)) j hj y
            rw [k1, k2, ar atFirsts (by decide), lkE, lk7]
            exact w
          · intro x y _ _
            have R16 := q17.2
            have row : ∀ f, f ∈ weRf → f ∉ rcL → zA κ_16 (zR κ_16 f a0) = zA κ_11 (zR κ_7 f a0) := fun f h1 h2 => by
              rw [r16, ← r11]
              exact R16 f h1 h2
            rw [row weBackFirsts (by decide) (by decide), row weSources (by decide) (by decide), ← r11, bl, le]
    · skip
      rw [lei, is] at c6
      have lt77 : x77_5.toNatClampNeg < m9 := by omega
      obtain ⟨X1, X2, X3, X4, X5⟩ := EK x77_5.toNatClampNeg lt77
      refine ⟨?_, ?_⟩
      · rw [rs, ns, inb_iff]; omega  -- b6
      intro κ_20 hκ_20
      intro W21
      have U := we_u W77 T77_0 (f := weFirsts) (by decide) hκ_20
      refine ⟨?_, ?_⟩
      · rw [U.1.2.1, U.1.2.2.2, rs, ns, inb_iff]; omega  -- b7
      intro κ_22 hκ_22
      intro W23
      have nv0 : vp_nar .boolean (0 : Int32) = 0 := rfl
      rw [nv0] at hκ_22
      have V := we_u W21 U.2.2.2 (f := weOpen) (by decide) hκ_22
      have E22 := (H77.1.tr U.1).tr V.1
      have g22 := at_E W4 T2 T2b E22.1 (f := atFirsts) (by decide)
      refine ⟨?_, ?_⟩
      · have l1 := AM.1
        rw [g22.2.2, inb_iff]; omega
      intro x24 hx24
      unfold w_We_weave_111
      refine ⟨fun n l0 l1 l2 l3 l4 l5 l6 τ => n = (20000 - l6.toInt).toNat ∧ ((a0 = l0 ∧ a1 = l1 ∧ a2 = l2 ∧ x77_5 = l5 ∧ ((zA κ_2 (zR κ_2 atFirsts a1) x77_5.toNatClampNeg).toInt ≤ l6.toInt ∧ l6.toInt ≤ (zA κ_2 (zR κ_2 atFirsts a1) (x77_5.toNatClampNeg + 1)).toInt) ∧ wvI κ_2 τ a0 a1 a2 m9 x77_5.toNatClampNeg l6.toInt (x77_5.toNatClampNeg + 1) l3 l4) ∧ (EI8 (eT8 κ_2 a1 a2) (zA κ_2 (zR κ_2 atFirsts a1)) (zA τ (zR κ_2 weOpen a0)) (zA τ (zR κ_2 weHeap a0)) l5.toNatClampNeg l4.toInt l6.toInt ∧ LI8 (fun y k i => lkD κ_2 a1 a2 y k i = 1) (zA κ_2 (zR κ_2 atFirsts a1)) (zA τ (zR κ_2 weFirsts a0)) (zA τ (zR κ_2 weTargets a0)) l5.toNatClampNeg l3.toInt l6.toInt)), ⟨_, rfl, ?_⟩, ?_⟩
      · refine and_5 ?_ (fun o9 => ?_)  -- j9
        · rw [hx24, g22.2.1]
          exact ⟨rfl, rfl, rfl, rfl, ⟨Int.le_refl _, X1.2.1⟩, wv_b W77 W21 T77_0 H77 hκ_20 hκ_22⟩
        · have u2 := U.2.2.1
          have v2 := V.2.1
          have v3 := V.2.2.1
          rw [rs] at u2
          rw [U.1.2.1, rs] at v2 v3
          have o1 : zA κ_22 (zR κ_2 weOpen a0) = upd (zA κ77 (zR κ_2 weOpen a0)) x77_5.toNatClampNeg 0 := by rw [v2, u2 weOpen (by decide) (by decide)]
          have o2 : zA κ_22 (zR κ_2 weHeap a0) = zA κ77 (zR κ_2 weHeap a0) := by rw [v3 weHeap (by decide) (by decide), u2 weHeap (by decide) (by decide)]
          have o3 : zA κ_22 (zR κ_2 weFirsts a0) = upd (zA κ77 (zR κ_2 weFirsts a0)) x77_5.toNatClampNeg x77_3 := by
            have u1 := U.2.1
            rw [rs] at u1
            rw [v3 weFirsts (by decide) (by decide), u1]
          have o4 : zA κ_22 (zR κ_2 weTargets a0) = zA κ77 (zR κ_2 weTargets a0) := by rw [v3 weTargets (by decide) (by decide), u2 weTargets (by decide) (by decide)]
          rw [o1, o2, o3, o4, hx24, g22.2.1]
          exact ⟨EI_b8 hE.1, LI_b8 hE.2 (fun j hj => if_neg hj) (congrArg Int32.toInt (show upd (zA κ77 (zR κ_2 weFirsts a0)) x77_5.toNatClampNeg x77_3 x77_5.toNatClampNeg = x77_3 from if_pos rfl))⟩
      rintro n111 _ _ _ x111_3 x111_4 x111_5 x111_6 κ111 W111 T111_0 T111_1 ⟨hn111, ⟨rfl, rfl, rfl, i111⟩, hE⟩
      obtain ⟨rfl, x111, H111⟩ := i111
      have rt := H111.1.2.1
      have nt := H111.1.2.2.2
      have Z111 := H111.1.1
      have gF := at_E W4 T2 T2b Z111 (f := atFirsts) (by decide)
      have gS := at_E W4 T2 T2b Z111 (f := atSorts) (by decide)
      have gN := at_E W4 T2 T2b Z111 (f := atNumbers) (by decide)
      have kx := cnk (x := x111_6) (by omega)
      have kx2 : x111_6.toInt.toNat = x111_6.toNatClampNeg := rfl
      have l111 := H111.2.2.1
      have e6 := cn1 (x := x111_6) (by omega) (by omega)
      have en := cn1 k77.1 (by omega)
      have hj143 : ∀ (l0 : Nat) (l1 : Nat) (l2 : Int32) (l3 : Int32) (l4 : Int32) (l5 : Int32) (l6 : Int32) (τ : zS), zW C (zn κ) τ → zT τ l0 = 14 → zT τ l1 = 3 → ((a0 = l0 ∧ a1 = l1 ∧ a2 = l2 ∧ κ111 = τ ∧ x111_3 = l3 ∧ x111_4 = l4 ∧ x77_5 = l5 ∧ x111_6 = l6 ∧ x111_6.toInt < (zA κ_2 (zR κ_2 atFirsts a1) (x77_5.toNatClampNeg + 1)).toInt ∧ (a2 = 0 ∨ zA κ_2 (zR κ_2 atChooses a1) x77_5.toNatClampNeg = 0 ∨ Int32.ofNat x111_6.toNatClampNeg = zA κ_2 (zR κ_2 atFirsts a1) x77_5.toNatClampNeg + zA κ_2 (zR κ_2 atPlan a1) x77_5.toNatClampNeg)) ∧ (EI8 (eT8 κ_2 a1 a2) (zA κ_2 (zR κ_2 atFirsts a1)) (zA τ (zR κ_2 weOpen a0)) (zA τ (zR κ_2 weHeap a0)) l5.toNatClampNeg l4.toInt l6.toInt ∧ LI8 (fun y k i => lkD κ_2 a1 a2 y k i = 1) (zA κ_2 (zR κ_2 atFirsts a1)) (zA τ (zR κ_2 weFirsts a0)) (zA τ (zR κ_2 weTargets a0)) l5.toNatClampNeg l3.toInt l6.toInt)) → w_We_weave_143 C (zn κ) Q (fun (l0' : Nat) (l1' : Nat) (l2' : Int32) (l3' : Int32) (l4' : Int32) (l5' : Int32) (τ : zS) => ∃ k < n77, (fun (n : Nat) (l0 : Nat) (l1 : Nat) (l2 : Int32) (l3 : Int32) (l4 : Int32) (l5 : Int32) (τ : zS) => n = (1000 - l5.toInt).toNat ∧ ((a0 = l0 ∧ a1 = l1 ∧ a2 = l2 ∧ (0 ≤ l5.toInt ∧ l5.toInt ≤ m9) ∧ wvI κ_2 τ a0 a1 a2 m9 l5.toNatClampNeg (zA κ_2 (zR κ_2 atFirsts a1) l5.toNatClampNeg).toInt l5.toNatClampNeg l3 l4) ∧ (EO8 (eT8 κ_2 a1 a2) (zA κ_2 (zR κ_2 atFirsts a1)) (zA τ (zR κ_2 weOpen a0)) (zA τ (zR κ_2 weHeap a0)) l5.toNatClampNeg l4.toInt ∧ LO8 (fun y k i => lkD κ_2 a1 a2 y k i = 1) (zA κ_2 (zR κ_2 atFirsts a1)) (zA τ (zR κ_2 weFirsts a0)) (zA τ (zR κ_2 weTargets a0)) l5.toNatClampNeg l3.toInt))) k l0' l1' l2' l3' l4' l5' τ) (fun (l0' : Nat) (l1' : Nat) (l2' : Int32) (l3' : Int32) (l4' : Int32) (l5' : Int32) (l6' : Int32) (τ : zS) => ∃ k < n111, (fun (n : Nat) (l0 : Nat) (l1 : Nat) (l2 : Int32) (l3 : Int32) (l4 : Int32) (l5 : Int32) (l6 : Int32) (τ : zS) => n = (20000 - l6.toInt).toNat ∧ ((a0 = l0 ∧ a1 = l1 ∧ a2 = l2 ∧ x77_5 = l5 ∧ ((zA κ_2 (zR κ_2 atFirsts a1) x77_5.toNatClampNeg).toInt ≤ l6.toInt ∧ l6.toInt ≤ (zA κ_2 (zR κ_2 atFirsts a1) (x77_5.toNatClampNeg + 1)).toInt) ∧ wvI κ_2 τ a0 a1 a2 m9 x77_5.toNatClampNeg l6.toInt (x77_5.toNatClampNeg + 1) l3 l4) ∧ (EI8 (eT8 κ_2 a1 a2) (zA κ_2 (zR κ_2 atFirsts a1)) (zA τ (zR κ_2 weOpen a0)) (zA τ (zR κ_2 weHeap a0)) l5.toNatClampNeg l4.toInt l6.toInt ∧ LI8 (fun y k i => lkD κ_2 a1 a2 y k i = 1) (zA κ_2 (zR κ_2 atFirsts a1)) (zA τ (zR κ_2 weFirsts a0)) (zA τ (zR κ_2 weTargets a0)) l5.toNatClampNeg l3.toInt l6.toInt))) k l0' l1' l2' l3' l4' l5' l6' τ) l0 l1 l2 l3 l4 l5 l6 τ := by
        rintro _ _ _ y143_3 y143_4 y143_5 y143_6 τ143 W143 T143_0 T143_1 ⟨⟨rfl, rfl, rfl, j143⟩, hE⟩
        unfold w_We_weave_143
        obtain ⟨rfl, rfl, rfl, rfl, rfl, c40, lk⟩ := j143
        refine ⟨?_, ?_⟩
        · rw [gS.2.2, inb_iff]; omega  -- b10
        refine ⟨fun c25 => ?_, fun c25 => ?_⟩
        · skip
          refine ⟨?_, ?_⟩
          · rw [rt, nt, inb_iff]; omega  -- b11
          refine ⟨fun c26 => ?_, fun c26 => ?_⟩
          · skip
            intro x27 hx27
            refine lp_b5 ?_ (fun d9 => ⟨rfl, ?_⟩)
            · rw [hn111, hx27, e6.2]; omega  -- d12
            · refine and_5 ?_ (fun o9 => ?_)  -- i13
              · rw [gS.2.1] at c25
                rw [hx27, e6.2]
                exact ⟨rfl, rfl, rfl, rfl, by omega, wv_n H111 X1.1 x111.1 (fun t _ => if_neg (fun z => c25 z.1.1))⟩
              · rw [hx27, e6.2]
                have c25' := c25
                rw [gS.2.1] at c25'
                refine ⟨EI_h8 hE.1 ?_, LI_n8 hE.2 (by omega) (fun y z => absurd (lkD_1 z).1.1 c25')⟩
                rw [rt] at c26
                exact c26
          · skip
            refine ⟨?_, ?_⟩
            · rw [rt, nt, inb_iff]; omega  -- b14
            intro κ_28 hκ_28
            intro W29
            have nv1 : vp_nar .boolean (1 : Int32) = 1 := rfl
            rw [nv1] at hκ_28
            have U9 := we_u W111 T111_0 (f := weOpen) (by decide) hκ_28
            have wb := (wv_o (κ2 := ua κ_28 (zR κ_28 weHeap a0) x111_4.toNatClampNeg x77_5) W111 W29 T111_0 H111 n1 lt77 (by omega) c26 hκ_28 rfl).1
            refine ⟨?_, ?_⟩
            · rw [U9.1.2.1, U9.1.2.2.2, rt, nt, inb_iff]; omega  -- b15
            intro κ_30 hκ_30
            intro W31
            intro x32 hx32
            intro x33 hx33
            refine lp_b5 ?_ (fun d9 => ⟨rfl, ?_⟩)
            · rw [hn111, hx33, e6.2]; omega  -- d16
            · refine and_5 ?_ (fun o9 => ?_)  -- i17
              · rw [gS.2.1] at c25
                rw [hx32, hx33, e6.2]
                exact ⟨rfl, rfl, rfl, rfl, by omega, wv_n (wv_o W111 W29 T111_0 H111 n1 lt77 (by omega) c26 hκ_28 hκ_30).2 X1.1 x111.1 (fun t _ => if_neg (fun z => c25 z.1.1))⟩
              · have u2 := U9.2.1
                have u3 := U9.2.2.1
                have V9 := we_u W29 U9.2.2.2 (f := weHeap) (by decide) hκ_30
                have v2 := V9.2.1
                have v3 := V9.2.2.1
                rw [rt] at u2 u3
                rw [U9.1.2.1, rt] at v2 v3
                have o1 : zA κ_30 (zR κ_2 weOpen a0) = upd (zA κ111 (zR κ_2 weOpen a0)) x77_5.toNatClampNeg 1 := (v3 weOpen (by decide) (by decide)).trans u2
                have o2 : zA κ_30 (zR κ_2 weHeap a0) = upd (zA κ111 (zR κ_2 weHeap a0)) x111_4.toNatClampNeg x77_5 := by rw [v2, u3 weHeap (by decide) (by decide)]
                have em := cn1 (x := x111_4) (by omega) (by omega)
                have km := cnk (x := x111_4) (by omega)
                rw [gS.2.1] at c25
                have o3 : zA κ_30 (zR κ_2 weFirsts a0) = zA κ111 (zR κ_2 weFirsts a0) := by rw [v3 weFirsts (by decide) (by decide), u3 weFirsts (by decide) (by decide)]
                have o4 : zA κ_30 (zR κ_2 weTargets a0) = zA κ111 (zR κ_2 weTargets a0) := by rw [v3 weTargets (by decide) (by decide), u3 weTargets (by decide) (by decide)]
                rw [o1, o2, o3, o4, hx32, em.2, hx33, e6.2]
                refine ⟨?_, LI_n8 hE.2 (by omega) (fun y z => absurd (lkD_1 z).1.1 c25)⟩
                exact EI_s8 hE.1 km (by omega) x111.1 (by omega) ⟨c25, lk⟩ (by decide)
        · skip
          rw [gS.2.1] at c25
          have nx := (X2 x111_6.toNatClampNeg (by omega) (by omega)).1 c25
          have et := cn1 nx.1 (by omega)
          have kt := cnk nx.1
          refine ⟨?_, ?_⟩
          · rw [gN.2.2, inb_iff]; omega  -- b18
          refine ⟨?_, ?_⟩
          · have y := L2.2.1
            rw [rt, nt, inb_iff]; omega
          intro κ_34 hκ_34
          intro W35
          intro x36 hx36
          rw [gN.2.1] at hκ_34
          have U34 := we_u W111 T111_0 (f := weTargets) (by decide) hκ_34
          have g34 := at_E W4 T2 T2b (Z111.tr U34.1.1) (f := atNumbers) (by decide)
          refine ⟨?_, ?_⟩
          · rw [g34.2.2, inb_iff]; omega  -- b20
          refine ⟨?_, ?_⟩
          · rw [g34.2.1, U34.1.2.1, U34.1.2.2.2, rt, nt, inb_iff, et.2]; omega  -- b21
          refine ⟨?_, ?_⟩
          · rw [g34.2.1, U34.1.2.1, U34.1.2.2.2, rt, nt, inb_iff, et.2]; omega  -- b22
          intro κ_37 hκ_37
          intro W38
          intro x39 hx39
          refine lp_b5 ?_ (fun d9 => ⟨rfl, ?_⟩)
          · rw [hn111, hx39, e6.2]; omega  -- d23
          · refine and_5 ?_ (fun o9 => ?_)  -- i24
            · rw [g34.2.1] at hκ_37
              rw [hx36, hx39, e6.2]
              refine ⟨rfl, rfl, rfl, rfl, by omega, wv_l (t := (zA κ_2 (zR κ_2 atNumbers a1) x111_6.toNatClampNeg).toNatClampNeg) W111 W35 T111_0 H111 n1 (by omega) X1.1 x111.1 (by omega) kt.symm et.1 (if_pos ⟨⟨c25, lk⟩, kt.symm⟩) (fun s _ hs => if_neg (fun z => ?_)) hκ_34 hκ_37⟩
              have y := z.2
              rw [kx2] at y
              omega
            · have U37 := we_u W35 U34.2.2.2 (f := weBackFirsts) (by decide) hκ_37
              have u3 := U34.2.2.1
              have v3 := U37.2.2.1
              rw [rt] at u3
              rw [U34.1.2.1, rt] at v3
              have o1 : zA κ_37 (zR κ_2 weOpen a0) = zA κ111 (zR κ_2 weOpen a0) := (v3 weOpen (by decide) (by decide)).trans (u3 weOpen (by decide) (by decide))
              have o2 : zA κ_37 (zR κ_2 weHeap a0) = zA κ111 (zR κ_2 weHeap a0) := (v3 weHeap (by decide) (by decide)).trans (u3 weHeap (by decide) (by decide))
              have u2 := U34.2.1
              rw [rt] at u2
              have o3 : zA κ_37 (zR κ_2 weFirsts a0) = zA κ111 (zR κ_2 weFirsts a0) := (v3 weFirsts (by decide) (by decide)).trans (u3 weFirsts (by decide) (by decide))
              have o4 : zA κ_37 (zR κ_2 weTargets a0) = upd (zA κ111 (zR κ_2 weTargets a0)) x111_3.toNatClampNeg (zA κ_2 (zR κ_2 atNumbers a1) x111_6.toNatClampNeg) := (v3 weTargets (by decide) (by decide)).trans u2
              have e3 := cn1 (x := x111_3) (by omega) (by omega)
              rw [o1, o2, o3, o4, hx39, e6.2, hx36, e3.2]
              refine ⟨EI_n8 hE.1 (by omega) (fun z => z.1 c25), LI_s8 (y0 := (zA κ_2 (zR κ_2 atNumbers a1) x111_6.toNatClampNeg).toNatClampNeg) hE.2 (by omega) (by omega) x111.1 (fun q hq => if_neg hq) (congrArg Int32.toNatClampNeg (if_pos rfl)) (fun y => ⟨fun z => ?_, fun z => ?_⟩)⟩
              · have w := (lkD_1 z).2
                rw [kx2] at w
                omega
              · exact if_pos ⟨⟨c25, lk⟩, by rw [kx2]; omega⟩
      refine ⟨?_, ?_⟩
      · have l1 := AM.1
        rw [gF.2.2, inb_iff, en.2]; omega
      refine ⟨fun c40 => ?_, fun c40 => ?_⟩
      · skip
        intro x41 hx41
        refine lp_b5 ?_ (fun d9 => ⟨rfl, ?_⟩)
        · rw [hn77, hx41, en.2]; omega  -- d26
        · refine and_5 ?_ (fun o9 => ?_)  -- i27
          · rw [lei, en.1, gF.2.1] at c40
            have e9 : x111_6.toInt = (zA κ_2 (zR κ_2 atFirsts a1) (x77_5.toNatClampNeg + 1)).toInt := by omega
            rw [e9] at H111
            rw [hx41, en.1, en.2]
            exact ⟨rfl, rfl, rfl, by omega, wv_e H111⟩
          · have c40' := c40
            rw [lei, en.1, gF.2.1] at c40'
            have e9 : x111_6.toInt = (zA κ_2 (zR κ_2 atFirsts a1) (x77_5.toNatClampNeg + 1)).toInt := by omega
            rw [hx41, en.1]
            exact ⟨EI_e8 hE.1 e9, LI_e8 hE.2 e9⟩
      · skip
        rw [lei, en.1, gF.2.1] at c40
        refine ⟨fun c42 => ?_, fun c42 => ?_⟩
        · skip
          refine hj143 _ _ _ _ _ _ _ _ W111 ?_ ?_ ?_
          · exact T111_0  -- t28
          · exact T111_1  -- t29
          · refine and_5 ?_ (fun o9 => hE)  -- k30
            exact ⟨rfl, rfl, rfl, rfl, rfl, rfl, rfl, rfl, by omega, Or.inl c42⟩
        · skip
          intro T43
          refine At_isTaken_c W111 T43  ?_ (fun r44 q46 => ?_)
          · exact ⟨(atW_E W4 T2 T2b Z111 A9).1, k77.1, by omega⟩  -- p31
          have gC := at_E W4 T2 T2b Z111 (f := atChooses) (by decide)
          have gP := at_E W4 T2 T2b Z111 (f := atPlan) (by decide)
          rw [gC.2.1, gF.2.1, gP.2.1] at q46
          have eo : Int32.ofNat x111_6.toNatClampNeg = x111_6 := Int32.toInt_inj.mp (by rw [ofn_i (by omega)]; omega)
          intro W47
          intro M48
          refine ⟨fun c49 => ?_, fun c49 => ?_⟩
          · skip
            refine hj143 _ _ _ _ _ _ _ _ W47 ?_ ?_ ?_
            · exact T111_0  -- t32
            · exact T111_1  -- t33
            · refine and_5 ?_ (fun o9 => hE)  -- k34
              refine ⟨rfl, rfl, rfl, rfl, rfl, rfl, rfl, rfl, by omega, Or.inr ?_⟩
              rcases q46.2.mp c49 with y | y
              · exact Or.inl y
              · exact Or.inr (by rw [eo]; exact y)
          · skip
            intro x50 hx50
            refine lp_b5 ?_ (fun d9 => ⟨rfl, ?_⟩)
            · rw [hn111, hx50, e6.2]; omega  -- d35
            · refine and_5 ?_ (fun o9 => ?_)  -- i36
              · rw [hx50, e6.2]
                refine ⟨rfl, rfl, rfl, rfl, by omega, wv_n H111 X1.1 x111.1 (fun t _ => if_neg (fun z => ?_))⟩
                rcases z.1.2 with y | y | y
                · exact c42 y
                · exact q46.2.mpr (Or.inl y) c49
                · rw [kx2, eo] at y
                  exact q46.2.mpr (Or.inr y) c49
              · rw [hx50, e6.2]
                have no : ∀ P : Prop, (P ∧ (a2 = 0 ∨ zA κ_2 (zR κ_2 atChooses a1) x77_5.toNatClampNeg = 0 ∨ Int32.ofNat x111_6.toInt.toNat = zA κ_2 (zR κ_2 atFirsts a1) x77_5.toNatClampNeg + zA κ_2 (zR κ_2 atPlan a1) x77_5.toNatClampNeg)) → False := fun P z => by
                  rcases z.2 with y | y | y
                  · exact c42 y
                  · exact q46.2.mpr (Or.inl y) c49
                  · rw [kx2, eo] at y
                    exact q46.2.mpr (Or.inr y) c49
                exact ⟨EI_n8 hE.1 (by omega) (fun z => no _ z), LI_n8 hE.2 (by omega) (fun y z => no _ (lkD_1 z).1)⟩
  intro T51
  refine We_makeRows_c W T51  ?_ (fun κ_52 q53 => ?_)
  · exact ⟨U0, L0⟩  -- p37
  intro W54
  intro M55
  intro κ_56 hκ_56
  intro W57
  have ne : a1 ≠ a0 := fun z => by rw [z, Ta0] at Ta1; exact absurd Ta1 (by decide)
  have Z56 : zF (objF a0) κ κ_56 := q53.1.tr (by rw [hκ_56]; exact zF_ui rfl)
  have R56 : zR κ_56 = zR κ_52 := by rw [hκ_56]; rfl
  have N56 : zN κ_56 = zN κ_52 := by rw [hκ_56]; rfl
  have M56 : weM κ_56 a0 := by unfold weM; rw [R56, N56]; exact q53.2.2.1
  have L56 : weL κ_56 a0 := by unfold weL; rw [R56, N56]; exact q53.2.2.2
  have rS : zR κ_52 atStates a1 = zR κ atStates a1 := q53.1.r ne
  have t56 : (zI κ_56 weTotal a0).toInt = (m9 : Int) := by
    have e : zI κ_56 weTotal a0 = zI κ_52 hoTotal (zR κ_52 atStates a1) := by rw [hκ_56]; exact if_pos ⟨rfl, rfl⟩
    rw [e, rS, q53.2.1]
    exact A0.2.2.2.1
  have T56 : zT κ_56 a0 = 14 := Z56.t Ta0 (by decide)
  have T56b : zT κ_56 a1 = 3 := Z56.t Ta1 (by decide)
  have oN := W57.n (ty_weTargets W57 T56)
  have a5 := A0.2.2.2.2.1
  have a2l := A0.2.1.2.2
  have l64 := L56.2.1
  refine ⟨fun c58 => ?_, fun c58 => ?_⟩
  · skip
    refine hj61 _ _ _ _ W57 ?_ ?_ ?_
    · exact T56  -- t38
    · exact T56b  -- t39
    · refine and_5 ?_ (fun o9 => trivial)  -- k40
      rw [lei, ofn_i oN, Z56.i ne] at c58
      exact ⟨rfl, rfl, rfl, ⟨M56, L56⟩, Z56, t56, c58⟩
  · skip
    intro x59 hx59
    rw [lei, ofn_i oN, Z56.i ne] at c58
    have e20 : (20000 : Int32).toInt = 20000 := rfl
    have e2 : (zI κ_56 atNexts a1 * 2).toInt = (zI κ atNexts a1).toInt * 2 := by rw [Z56.i ne, mul_i (by rw [t2i]; omega) (by rw [t2i]; omega), t2i]
    have xb : x59.toInt = 20000 ∨ (x59.toInt = 2 * (zI κ atNexts a1).toInt ∧ x59.toInt ≤ 20000) := by
      rw [hx59]
      split
      · exact Or.inl e20
      · rename_i z
        rw [lti, e20, e2] at z
        rw [e2]; omega
    have kx := cnk (x := x59) (by omega)
    have xn : x59.toNatClampNeg = 20000 ∨ (2 * zN κ_56 (zR κ_56 weTargets a0) ≤ x59.toNatClampNeg ∧ x59.toNatClampNeg < 20000) := by omega
    have lE1 := L56.1.1
    have lE2 := L56.1.2
    refine ⟨?_, ?_⟩
    · exact ⟨by rw [lei, t0i]; omega, by omega⟩  -- b41
    intro κ_60 hκ_60
    intro W61
    refine ⟨?_, ?_⟩
    · rw [hκ_60]; exact if_pos rfl  -- b42
    intro κ_62 hκ_62
    intro W63
    have c1 := we_c (f := weTargets) (o := zN κ_56 (zR κ_56 weTargets a0)) (n := x59.toNatClampNeg) (Or.inl rfl) (by omega) (by omega) (by omega)
    obtain ⟨F1, u1, u2, u3, u4, u5⟩ := we_gr W57 (show zr weTargets = some 20 by decide +kernel) (by decide) T56 hκ_60 hκ_62 c1.1 c1.2
    have T62 : zT κ_62 a0 = 14 := F1.t T56 (by decide)
    have s62 : zN κ_62 (zR κ_62 weSources a0) = zN κ_56 (zR κ_56 weSources a0) := by rw [u2 weSources a0 (fun z => absurd z.1 (by decide)), (u5 _ _ (ty_weSources W57 T56)).1]
    refine ⟨?_, ?_⟩
    · exact ⟨by rw [lei, t0i]; omega, by omega⟩  -- b43
    intro κ_64 hκ_64
    intro W65
    refine ⟨?_, ?_⟩
    · rw [hκ_64]; exact if_pos rfl  -- b44
    intro κ_66 hκ_66
    intro W67
    have c2 := we_c (f := weSources) (o := zN κ_62 (zR κ_62 weSources a0)) (n := x59.toNatClampNeg) (Or.inr (Or.inl rfl)) (by omega) (by omega) (by omega)
    obtain ⟨F2, v1, v2, v3, v4, v5⟩ := we_gr W63 (show zr weSources = some 20 by decide +kernel) (by decide) T62 hκ_64 hκ_66 c2.1 c2.2
    have T66 : zT κ_66 a0 = 14 := F2.t T62 (by decide)
    have s66 : zN κ_66 (zR κ_66 weEdges a0) = zN κ_56 (zR κ_56 weEdges a0) := by rw [v2 weEdges a0 (fun z => absurd z.1 (by decide)), (v5 _ _ (ty_weEdges W63 T62)).1, u2 weEdges a0 (fun z => absurd z.1 (by decide)), (u5 _ _ (ty_weEdges W57 T56)).1]
    refine ⟨?_, ?_⟩
    · exact ⟨by rw [lei, t0i]; omega, by omega⟩  -- b45
    intro κ_68 hκ_68
    intro W69
    refine ⟨?_, ?_⟩
    · rw [hκ_68]; exact if_pos rfl  -- b46
    intro κ_70 hκ_70
    intro W71
    have c3 := we_c (f := weEdges) (o := zN κ_66 (zR κ_66 weEdges a0)) (n := x59.toNatClampNeg) (Or.inr (Or.inr rfl)) (by omega) (by omega) (by omega)
    obtain ⟨F3, w1, w2, w3, w4, w5⟩ := we_gr W67 (show zr weEdges = some 20 by decide +kernel) (by decide) T66 hκ_68 hκ_70 c3.1 c3.2
    refine hj61 _ _ _ _ W71 ?_ ?_ ?_
    · have c3 := we_c (f := weEdges) (o := zN κ_66 (zR κ_66 weEdges a0)) (n := x59.toNatClampNeg) (Or.inr (Or.inr rfl)) (by omega) (by omega) (by omega)
      obtain ⟨F3, w1, w2, w3, w4, w5⟩ := we_gr W67 (show zr weEdges = some 20 by decide +kernel) (by decide) T66 hκ_68 hκ_70 c3.1 c3.2
      exact F3.t T66 (by decide)
    · have c3 := we_c (f := weEdges) (o := zN κ_66 (zR κ_66 weEdges a0)) (n := x59.toNatClampNeg) (Or.inr (Or.inr rfl)) (by omega) (by omega) (by omega)
      obtain ⟨F3, w1, w2, w3, w4, w5⟩ := we_gr W67 (show zr weEdges = some 20 by decide +kernel) (by decide) T66 hκ_68 hκ_70 c3.1 c3.2
      exact F3.t (F2.t (F1.t T56b (by decide)) (by decide)) (by decide)
    · refine and_5 ?_ (fun o9 => trivial)  -- k49
      have c3 := we_c (f := weEdges) (o := zN κ_66 (zR κ_66 weEdges a0)) (n := x59.toNatClampNeg) (Or.inr (Or.inr rfl)) (by omega) (by omega) (by omega)
      obtain ⟨F3, w1, w2, w3, w4, w5⟩ := we_gr W67 (show zr weEdges = some 20 by decide +kernel) (by decide) T66 hκ_68 hκ_70 c3.1 c3.2
      have tT : zT κ_62 (zn κ_56) = 20 := by rw [← u3]; exact ty_weTargets W63 T62
      have tS : zT κ_66 (zn κ_62) = 20 := by rw [← v3]; exact ty_weSources W67 T66
      have rT : zR κ_70 weTargets a0 = zn κ_56 := (w2 weTargets a0 (fun z => absurd z.1 (by decide))).trans ((v2 weTargets a0 (fun z => absurd z.1 (by decide))).trans u3)
      have rS2 : zR κ_70 weSources a0 = zn κ_62 := (w2 weSources a0 (fun z => absurd z.1 (by decide))).trans v3
      have nT : zN κ_70 (zn κ_56) = x59.toNatClampNeg := ((w5 _ _ (F2.t tT (by decide))).1).trans (((v5 _ _ tT).1).trans u4)
      have nS2 : zN κ_70 (zn κ_62) = x59.toNatClampNeg := ((w5 _ _ tS).1).trans v4
      have ow : ∀ f, f ∈ weRf → f ≠ weTargets → f ≠ weSources → f ≠ weEdges → zN κ_70 (zR κ_70 f a0) = zN κ_56 (zR κ_56 f a0) := fun f hf h1 h2 h3 => by
        obtain ⟨⟨t, g1, g2⟩, g3⟩ := weRf_r f hf
        have ty := W57.r g1 (T56.trans g3.symm)
        have y1 : zT κ_56 (zR κ_56 f a0) = (t - 1) + 1 := by omega
        have ty2 := W63.r g1 (T62.trans g3.symm)
        have y2 : zT κ_62 (zR κ_62 f a0) = (t - 1) + 1 := by omega
        have ty3 := W67.r g1 (T66.trans g3.symm)
        have y3 : zT κ_66 (zR κ_66 f a0) = (t - 1) + 1 := by omega
        rw [w2 f a0 (fun z => h3 z.1), (w5 _ _ y3).1, v2 f a0 (fun z => h2 z.1), (v5 _ _ y2).1, u2 f a0 (fun z => h1 z.1), (u5 _ _ y1).1]
      refine ⟨rfl, rfl, rfl, ⟨?_, ?_⟩, ((Z56.tr (F1.mono (fun f x z => z.2))).tr (F2.mono (fun f x z => z.2))).tr (F3.mono (fun f x z => z.2)), ?_, ?_⟩
      · unfold weM
        rw [ow weFirsts (by decide) (by decide) (by decide) (by decide), ow weBackFirsts (by decide) (by decide) (by decide) (by decide), ow weOpen (by decide) (by decide) (by decide) (by decide), ow weKnotFirsts (by decide) (by decide) (by decide) (by decide), ow weKnotOf (by decide) (by decide) (by decide) (by decide), ow weOrder (by decide) (by decide) (by decide) (by decide), ow weSeen (by decide) (by decide) (by decide) (by decide), ow weLow (by decide) (by decide) (by decide) (by decide), ow weCursor (by decide) (by decide) (by decide) (by decide), ow wePath (by decide) (by decide) (by decide) (by decide), ow weHeap (by decide) (by decide) (by decide) (by decide)]
        exact M56
      · unfold weL
        rw [rT, rS2, w3, nT, nS2, w4]
        exact ⟨⟨rfl, rfl⟩, by omega, by omega⟩
      · rw [w1, v1, u1]; exact t56
      · rw [rT, nT]; omega

end
