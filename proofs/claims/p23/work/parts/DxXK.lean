section
set_option maxHeartbeats 1600000
/-! the reference: plays, by what they come to -/
def sd21 (x : Int64) : Int64 := x * (6364136223846793005 : Int64) + (1442695040888963407 : Int64)
def sh21 (x : Int64) : Int := ((x.toUInt64 >>> ((33 : Int32).toInt64.toUInt64 &&& Int64.toUInt64 63)).toInt64).toInt
/-- the way that a number takes -/
def fw21 (w : Nat → Int32) (n : Nat) (r : Int) (i : Nat) : Prop := i < n ∧ wsum w i ≤ r ∧ r < wsum w (i + 1)
def td21 (σ : rS) : Int32 := σ.2.2.1 105 (σ.1 109).toNatClampNeg
def DW21 (σ σ' : rS) (v : Int32) : Prop := (σ.1 113 ≠ 0 ∧ σ' = slU σ 112 (sd21 (σ.2.1 112)) ∧ 0 ≤ v ∧ fw21 (σ.2.2.1 65) (σ.1 63).toNatClampNeg (sh21 (sd21 (σ.2.1 112)) % (σ.1 66).toInt) v.toNatClampNeg) ∨ (σ.1 113 = 0 ∧ σ' = σ ∧ ((σ.1 109 = σ.1 104 ∧ v = -1) ∨ (σ.1 109 ≠ σ.1 104 ∧ ((0 ≤ td21 σ ∧ td21 σ < σ.1 63 ∧ v = td21 σ) ∨ (¬ (0 ≤ td21 σ ∧ td21 σ < σ.1 63) ∧ v = -2)))))
/-- only numbers of many places differ -/
def nu21 (σ τ : rS) : Prop := τ.1 = σ.1 ∧ τ.2.1 = σ.2.1 ∧ (∀ k, k ≠ 90 → k ≠ 91 → τ.2.2.1 k = σ.2.2.1 k) ∧ τ.2.2.2 = σ.2.2.2
theorem nu_n21 {l : List Nat} {σ τ : rS} (h : frN l σ τ) : nu21 σ τ := ⟨h.1, h.2.1, h.2.2.1, h.2.2.2.1⟩
theorem nu_t21 {a b c : rS} (h : nu21 a b) (g : nu21 b c) : nu21 a c := ⟨g.1.trans h.1, g.2.1.trans h.2.1, fun k x y => (g.2.2.1 k x y).trans (h.2.2.1 k x y), g.2.2.2.trans h.2.2.2⟩
def DS21 (σ σ' : rS) (v : Int32) : Prop := ∃ σ1 i, DW21 σ σ1 i ∧ ((i = -1 ∧ σ' = siU σ1 108 (σ1.1 108 - 1) ∧ v = 5) ∨ (i = -2 ∧ g5_fail 6 σ1 = (σ', v)) ∨ (i ≠ -1 ∧ i ≠ -2 ∧ ∃ σ2, nu21 (siU σ1 109 (σ1.1 109 + 1)) σ2 ∧ nV σ2 17 = nV σ 17 * (σ.2.2.1 65 i.toNatClampNeg).toInt.toNat ∧ nV σ2 18 = nV σ 18 * (σ.1 66).toInt.toNat ∧ g5_get i σ2 = (σ', v) ∧ ∀ k, σ'.2.1 k = σ2.2.1 k))
def CJ21 (σ τ : rS) (k : Int32) : Prop := (σ.1 69 = 0 ∧ τ = σ ∧ k = -1) ∨ (σ.1 69 ≠ 0 ∧ g5_stateNow σ = (τ, k))
def CS21 (σ σ' : rS) (v : Int32) : Prop := ∃ τ k, CJ21 σ τ k ∧ g5_get (if k = -1 then 0 else σ.2.2.1 83 k.toNatClampNeg) τ = (σ', v)
def ac21 (σ1 : rS) (r : Int32) : rS := slU (siU σ1 108 (σ1.1 108 + 1)) 110 (σ1.2.1 110 + if r = 2 then 0 else (σ1.1 62).toInt64)
/-- a statement of a play -/
def SP21 (σ σ' : rS) (v : Int32) : Prop := ∃ σ1 r, g5_act σ = (σ1, r) ∧ acQ r σ1 ∧ (∀ k, σ1.2.1 k = σ.2.1 k) ∧ ((r = 4 ∧ DS21 (ac21 σ1 r) σ' v) ∨ (r = 5 ∧ CS21 (ac21 σ1 r) σ' v ∧ ∀ k, σ'.2.1 k = (ac21 σ1 r).2.1 k) ∨ (r ≠ 4 ∧ r ≠ 5 ∧ σ' = ac21 σ1 r ∧ v = r))
/-- its statements, one behind the other -/
def TR21 (a : Int32) (σ0 : rS) (r0 : Int32) (N : Nat) (tr : Nat → rS × Int32) : Prop := tr 0 = (σ0, r0) ∧ ∀ n, n < N → (tr n).2 = 0 ∧ (tr n).1.1 108 ≠ a ∧ SP21 (tr n).1 (tr (n + 1)).1 (tr (n + 1)).2
def BG21 (σ σ0 : rS) (r0 : Int32) : Prop := ∃ σi, nu21 (slU (siU (siU (siU σ 0 0) 108 0) 109 0) 110 0) σi ∧ nV σi 17 = 1 ∧ nV σi 18 = 1 ∧ g5_begin σi = (σ0, r0) ∧ ∀ k, σ0.2.1 k = σi.2.1 k
def LP21 (a : Int32) (σ τ : rS) (h : Int32) : Prop := ∃ σ0 r0 N tr, BG21 σ σ0 r0 ∧ TR21 a σ0 r0 N tr ∧ tr N = (τ, h)
theorem lp_s21 {a h : Int32} {σ τ τ' : rS} (L : LP21 a σ τ 0) (ha : τ.1 108 ≠ a) (s : SP21 τ τ' h) : LP21 a σ τ' h := by
  obtain ⟨σ0, r0, N, tr, b, ⟨t0, t1⟩, e⟩ := L
  refine ⟨σ0, r0, N + 1, fun n => if n = N + 1 then (τ', h) else tr n, b, ⟨?_, fun n hn => ?_⟩, if_pos rfl⟩
  · show (if 0 = N + 1 then (τ', h) else tr 0) = _
    rw [if_neg (by omega)]
    exact t0
  · show (if n = N + 1 then (τ', h) else tr n).2 = 0 ∧ (if n = N + 1 then (τ', h) else tr n).1.1 108 ≠ a ∧ SP21 (if n = N + 1 then (τ', h) else tr n).1 (if n + 1 = N + 1 then (τ', h) else tr (n + 1)).1 (if n + 1 = N + 1 then (τ', h) else tr (n + 1)).2
    rw [if_neg (show ¬ n = N + 1 by omega)]
    by_cases c : n = N
    · rw [if_pos (by omega), c, e]
      exact ⟨rfl, ha, s⟩
    · rw [if_neg (by omega)]
      exact t1 n (by omega)
/-- how it ends -/
def FI21 (a : Int32) (τ : rS) (v h : Int32) : Prop := (h = 5 ∧ v = 0) ∨ (h = 0 ∧ τ.1 108 = a ∧ v = 0) ∨ (h ≠ 0 ∧ h ≠ 5 ∧ v = h)
def PD21 (τ0 : rS) (v : Int32) (τ : rS) (n : Nat) : Prop := (∀ k, k ≠ 106 → k ≠ 107 → τ.1 k = τ0.1 k) ∧ τ.1 106 = v ∧ τ.1 107 = (if v = 1 ∨ v = 2 then τ0.1 61 else 0) ∧ τ.2.1 = τ0.2.1 ∧ (∀ k, k ≠ 111 → τ.2.2.1 k = τ0.2.2.1 k) ∧ (∀ j, j < n → τ.2.2.1 111 j = τ0.2.2.1 57 j) ∧ τ.2.2.2 = τ0.2.2.2
def cy21 (σ : rS) (a : Int32) : Int32 := if σ.1 14 = 0 then 1 else if 0 ≤ a ∧ a ≤ 2000 then 0 else 2
def GO21 (a : Int32) (σ σ' : rS) (v : Int32) : Prop := (cy21 σ a ≠ 0 ∧ σ' = siU σ 0 (cy21 σ a) ∧ v = 0) ∨ (cy21 σ a = 0 ∧ σ'.1 0 = 0 ∧ ∃ τ0 h, LP21 a σ τ0 h ∧ FI21 a τ0 v h ∧ PD21 τ0 v σ' 34)
theorem mod_e21 {x t : Int64} (x0 : 0 ≤ x.toInt) (x1 : x.toInt < 2147483648) (h0 : 0 < t.toInt) (h1 : t.toInt ≤ 8000000) : (x - x / t * t).toInt = x.toInt % t.toInt := by
  have q : (x / t).toInt = x.toInt / t.toInt := by
    rw [Int64.toInt_div_of_ne_right _ _ (fun e => by rw [e] at h0; exact absurd h0 (by decide)), Int.tdiv_eq_ediv_of_nonneg x0]
  have d := Int.emod_add_mul_ediv x.toInt t.toInt
  have r0 := Int.emod_nonneg x.toInt (by omega : t.toInt ≠ 0)
  have r1 := Int.emod_lt_of_pos x.toInt h0
  have q0 : 0 ≤ x.toInt / t.toInt := Int.ediv_nonneg x0 (by omega)
  have p0 : 0 ≤ t.toInt * (x.toInt / t.toInt) := Int.mul_nonneg (by omega) q0
  have m : (x / t * t).toInt = t.toInt * (x.toInt / t.toInt) := by
    rw [Int64.toInt_mul, q, Int.mul_comm]
    exact Int.bmod_eq_of_le (by omega) (by omega)
  have s : (x - x / t * t).toInt = x.toInt - t.toInt * (x.toInt / t.toInt) := by
    rw [Int64.toInt_sub, m]
    exact Int.bmod_eq_of_le (by omega) (by omega)
  omega
theorem drawn_g5 {C : rCx} (hC : cOK C)  {σ : rS}  {Q : Int32 → rS → Prop} (hp : oW σ ∧ 0 ≤ σ.1 109 ∧ 0 ≤ σ.1 104 ∧ σ.1 104 ≤ 200 ∧ (σ.1 113 = 0 → σ.1 109 ≤ σ.1 104)) (h : ∀ (v : Int32) (σ' : rS), ((drF σ σ' ∧ (v = -1 ∨ v = -2 ∨ (0 ≤ v ∧ v < σ.1 63 ∧ (σ.1 113 = 0 → σ.1 109 < σ.1 104)))) ∧ (DW21 σ σ' v)) → Q v σ') : cI C 1 m_drawn [.ref (co C)] σ Q := by
  refine m_drawn_run hC ?_
  unfold w_drawn_0
  obtain ⟨W, h9, h4, h4', hle⟩ := hp
  have tp := Int32.lt_iff_toInt_lt.mp W.2.2.2.2.1
  have tl := ti W.2.2.2.2.2
  rw [Int32.toInt_zero] at tp
  rw [show (8000000 : Int32).toInt = 8000000 from rfl] at tl
  have wn : ∀ i, i < (σ.1 63).toNatClampNeg → 0 ≤ (σ.2.2.1 65 i).toInt := fun i hi => t0 (W.2.2.1 i hi).1
  refine ⟨fun c1 => ?_, fun c1 => ?_⟩
  · skip
    intro σ_2 hσ_2
    refine ⟨?_, ?_⟩
    · clear h; intro z
      have e := congrArg Int64.toInt z
      rw [Int32.toInt_toInt64, hσ_2] at e
      have e2 : (σ.1 66).toInt = 0 := e
      omega
    intro x3 hx3
    refine ⟨ib_64.mpr ?_, ?_⟩
    · clear h; exact ⟨by decide, by decide⟩  -- b2
    intro x4 hx4
    unfold w_drawn_97
    refine ⟨fun n l1 l3 l4 τ => n = (63 - l3).toNatClampNeg ∧ ((τ = σ_2 ∧ l1 = x3 ∧ 0 ≤ l3 ∧ l3 < σ.1 63 ∧ l4.toInt = wsum (σ.2.2.1 65) (l3.toNatClampNeg + 1)) ∧ wsum (σ.2.2.1 65) l3.toNatClampNeg ≤ l1.toInt), ⟨_, rfl, ?_⟩, ?_⟩
    · refine and_5 ?_ (fun o9 => ?_)  -- j3
      · clear h; refine ⟨rfl, rfl, by decide, Int32.lt_of_lt_of_le (by decide) W.1, ?_⟩
        rw [hx4, Int32.toInt_toInt64, hσ_2]
        show (σ.2.2.1 65 0).toInt = 0 + (σ.2.2.1 65 0).toInt
        omega
      · clear o9
        have m := mod_r (shr33 (x := σ_2.2.1 112)).1 (shr33 (x := σ_2.2.1 112)).2 (t := (σ_2.1 66).toInt64) (by rw [Int32.toInt_toInt64, hσ_2]; exact tp) (by rw [Int32.toInt_toInt64, hσ_2]; exact tl)
        rw [← hx3] at m
        have e0 : (0 : Int32).toNatClampNeg = 0 := rfl
        rw [e0]
        exact m.1
    rintro n97 x97_1 x97_3 x97_4 σ97 ⟨hn97, i97, hE⟩
    obtain ⟨e1, e2, a0, a1, S⟩ := i97
    have D : drF σ σ97 := by
      rw [e1, hσ_2]
      exact ⟨rfl, fun k hk => if_neg hk, rfl⟩
    have m := mod_r (shr33 (x := σ_2.2.1 112)).1 (shr33 (x := σ_2.2.1 112)).2 (t := (σ_2.1 66).toInt64) (by rw [Int32.toInt_toInt64, hσ_2]; exact tp) (by rw [Int32.toInt_toInt64, hσ_2]; exact tl)
    rw [← hx3, Int32.toInt_toInt64] at m
    have m2 : x3.toInt < (σ.1 66).toInt := by
      have z := m.2
      rw [hσ_2] at z
      exact z
    have l1 := cn_lt a0 a1
    refine ⟨fun c5 => ?_, fun c5 => ?_⟩
    · skip
      refine h _ _ ?_
      · refine and_5 ?_ (fun o9 => ?_)  -- q4
        · clear h; exact ⟨D, Or.inr (Or.inr ⟨a0, a1, fun z => absurd z c1⟩)⟩
        · clear o9
          have g := Int64.lt_iff_toInt_lt.mp ((lg_cmp_gt _ _).mp c5)
          have hr : x3.toInt = sh21 (sd21 (σ.2.1 112)) % (σ.1 66).toInt := by
            rw [hx3, mod_e21 (shr33 (x := σ_2.2.1 112)).1 (shr33 (x := σ_2.2.1 112)).2 (by rw [Int32.toInt_toInt64, hσ_2]; exact tp) (by rw [Int32.toInt_toInt64, hσ_2]; exact tl), Int32.toInt_toInt64, hσ_2]
            rfl
          rw [e2] at g hE
          rw [S, hr] at g
          rw [hr] at hE
          exact Or.inl ⟨c1, e1.trans hσ_2, a0, l1, hE, g⟩
    · skip
      intro x6 hx6
      have le := lg_le.mp (Int32.not_lt.mp c5)
      rw [e2] at le
      have le2 := Int64.le_iff_toInt_le.mp le
      have lt := dr_lt a0 a1 W.2.1 (fun e => by
        rw [S, e, ← W.2.2.2.1] at le2
        omega)
      have n64 : (σ.1 63).toNatClampNeg ≤ 64 := cn_le (y := 64) rfl W.2.1
      have nx : x97_3.toNatClampNeg + 1 ≠ (σ.1 63).toNatClampNeg := fun e => by
        rw [S, e, ← W.2.2.2.1] at le2
        omega
      have u := dr_up a0 (cn_ltr a0 (by decide) (by rw [show (63 : Int32).toNatClampNeg = 63 from rfl]; omega))
      have as := cn_succ a0 u.2.2.2.2
      refine ⟨ib_64.mpr ?_, ?_⟩
      · clear h; rw [hx6]; exact ⟨u.1, u.2.1⟩  -- b5
      intro x7 hx7
      refine lp_b5 (cn_lt2 hn97 ?_ ?_) (fun d9 => ⟨rfl, ?_⟩)
      · clear h; rw [hx6]; exact u.2.2.1  -- d6
      · clear h; rw [hx6]; exact u.2.2.2.1  -- d7
      · refine and_5 ?_ (fun o9 => ?_)  -- i8
        · clear h; refine ⟨e1, e2, by rw [hx6]; exact u.1, by rw [hx6]; exact lt, ?_⟩
          have r65 : σ97.2.2.1 65 = σ.2.2.1 65 := by rw [D.2.2]
          have k2 : x97_3.toNatClampNeg + 1 < (σ.1 63).toNatClampNeg := by
            have z := cn_lt u.1 lt
            rw [as] at z
            exact z
          rw [hx7, hx6, r65, as]
          show _ = wsum (σ.2.2.1 65) (x97_3.toNatClampNeg + 1) + (σ.2.2.1 65 (x97_3.toNatClampNeg + 1)).toInt
          have b1 := wsum_mono (m := x97_3.toNatClampNeg + 1) wn (by omega)
          have b0 := wsum_mono (m := 0) (n := x97_3.toNatClampNeg + 1) (fun i hi => wn i (by omega)) (Nat.zero_le _)
          have w0 := W.2.2.1 _ k2
          have w2 := ti w0.2
          rw [show (1000000 : Int32).toInt = 1000000 from rfl] at w2
          exact l64_add S (Int32.toInt_toInt64 _) b0 (by rw [← W.2.2.2.1] at b1; omega) (t0 w0.1) (by omega)
        · clear o9
          rw [hx6, as, ← S, e2]
          exact le2
  · skip
    have le := hle c1
    refine ⟨fun c8 => ?_, fun c8 => ?_⟩
    · skip
      refine ⟨ib_200.mpr ?_, ?_⟩
      · clear h; exact ⟨h9, Int32.lt_of_lt_of_le (Int32.lt_of_le_of_ne le c8) h4'⟩  -- b9
      refine isSlot_c hC  (fun r9 q11 => ?_)
      refine ⟨fun c12 => ?_, fun c12 => ?_⟩
      · skip
        refine h _ _ ?_
        · refine and_5 ?_ (fun o9 => ?_)  -- q10
          · clear h; exact ⟨⟨rfl, fun _ _ => rfl, rfl⟩, Or.inr (Or.inl rfl)⟩
          · clear o9
            refine Or.inr ⟨c1, rfl, Or.inr ⟨c8, Or.inr ⟨fun z => q11.2.mpr z c12, rfl⟩⟩⟩
      · skip
        refine ⟨ib_200.mpr ?_, ?_⟩
        · clear h; exact ⟨h9, Int32.lt_of_lt_of_le (Int32.lt_of_le_of_ne le c8) h4'⟩  -- b11
        refine h _ _ ?_
        · refine and_5 ?_ (fun o9 => ?_)  -- q12
          · clear h; have q := q11.2.mp c12
            exact ⟨⟨rfl, fun _ _ => rfl, rfl⟩, Or.inr (Or.inr ⟨q.1, q.2, fun _ => Int32.lt_of_le_of_ne le c8⟩)⟩
          · clear o9
            have q := q11.2.mp c12
            exact Or.inr ⟨c1, rfl, Or.inr ⟨c8, Or.inl ⟨q.1, q.2, rfl⟩⟩⟩
    · skip
      refine h _ _ ?_
      · refine and_5 ?_ (fun o9 => ?_)  -- q13
        · clear h; exact ⟨⟨rfl, fun _ _ => rfl, rfl⟩, Or.inl rfl⟩
        · clear o9
          exact Or.inr ⟨c1, rfl, Or.inl ⟨c8, rfl⟩⟩

theorem draws_g5 {C : rCx} (hC : cOK C) (B T : Int32) {σ : rS}  {Q : Int32 → rS → Prop} (hp : rI σ B T ∧ csF σ ∧ plV (σ.1 67) ∧ oW σ ∧ pyN σ ∧ 0 ≤ σ.1 109 ∧ σ.1 109 ≤ 2000 ∧ 0 ≤ σ.1 104 ∧ σ.1 104 ≤ 200 ∧ (σ.1 113 = 0 → σ.1 109 ≤ σ.1 104)) (h : ∀ (v : Int32) (σ' : rS), ((frW σ σ' ∧ pyN σ' ∧ σ.1 109 ≤ σ'.1 109 ∧ σ'.1 109 ≤ σ.1 109 + 1 ∧ (σ.1 113 = 0 → σ'.1 109 ≤ σ.1 104) ∧ ((v = 5 ∧ σ'.1 108 = σ.1 108 - 1 ∧ σ'.1 109 = σ.1 109) ∨ (σ'.1 108 = σ.1 108 ∧ ((v = 0 ∧ csF σ') ∨ v = 1 ∨ v = 2)))) ∧ (DS21 σ σ' v ∧ σ'.1 0 = σ.1 0)) → Q v σ') : cI C 4 m_draws [.ref (co C)] σ Q := by
  refine m_draws_run hC ?_
  unfold w_draws_0
  obtain ⟨hI, cF, pV, W, N, n0, n1, u0, u1, ule⟩ := hp
  have n2000 : (σ.1 109).toNatClampNeg ≤ 2000 := cn_le (y := 2000) rfl n1
  have p1' := py_1 n0 n1
  have ns := cn_succ n0 p1'.2.2
  refine drawn_g5 hC  ?_ (fun r1 σ_2 q3 => ?_)
  · clear h; exact ⟨W, n0, u0, u1, ule⟩  -- p1
  obtain ⟨q3, z9⟩ := q3
  have zd := z9
  refine ⟨fun c4 => ?_, fun c4 => ?_⟩
  · skip
    refine ⟨fun c5 => ?_, fun c5 => ?_⟩
    · skip
      intro σ_6 hσ_6
      refine ⟨ib_64.mpr ?_, ?_⟩
      · clear h; have r := (q3.2.resolve_left c4).resolve_left c5
        exact ⟨r.1, Int32.lt_of_lt_of_le r.2.1 W.2.1⟩
      refine set_c hC  ?_ (fun σ_7 q8 => ?_)
      · clear h; have r := (q3.2.resolve_left c4).resolve_left c5
        have e6 : σ_6.2.2 = σ.2.2 := by rw [hσ_6]; exact q3.1.2.2
        have w8 := W.2.2.1 r1.toNatClampNeg (cn_lt r.1 r.2.1)
        rw [e6]; exact ⟨by decide, by decide, l64_0 (Int32.toInt_toInt64 _) (t0 w8.1)⟩
      simp only [kn] at q8
      have r := (q3.2.resolve_left c4).resolve_left c5
      have e6 : σ_6.2.2 = σ.2.2 := by rw [hσ_6]; exact q3.1.2.2
      have f6 : ∀ k, k ≠ 109 → σ_6.1 k = σ.1 k := fun k hk => by
        rw [hσ_6]
        show (if k = 109 then _ else σ_2.1 k) = _
        rw [if_neg hk, q3.1.1]
      have g6 : σ_6.1 109 = σ.1 109 + 1 := by
        rw [hσ_6]
        show σ_2.1 109 + 1 = _
        rw [q3.1.1]
      have F6 : frW σ σ_6 := by rw [hσ_6]; exact frW_tr (frW_d q3.1) (frW_0 (by decide))
      have a17 := nu90 (k := 17) (σ := σ) (τ := σ_6) (by rw [e6]) (by rw [e6])
      have a18 := nu90 (k := 18) (σ := σ) (τ := σ_6) (by rw [e6]) (by rw [e6])
      have o17 := a17.1 N.1
      have o18 := a18.1 N.2.1
      have w8 := W.2.2.1 r1.toNatClampNeg (cn_lt r.1 r.2.1)
      have b17 := nV_fr q8.1 (k := 17) (by decide) o17
      refine times_c hC  ?_ (fun σ_9 q10 => ?_)
      · clear h; simp only [kn, kn2]
        exact ⟨by decide, by decide, by decide, by decide, by decide, by decide, by decide, by decide, b17.1, q8.2.1, by have := q8.2.2.2; have := b17.2.2; have := a17.2.2; have := N.2.2.2.1; omega⟩
      simp only [kn, kn2] at q10
      refine copy_v hC  ?_ (fun σ_11 q12 => ?_)
      · clear h; simp only [kn, kn2]; exact ⟨by decide, by decide, by decide, by decide, by decide, q10.2.1⟩  -- p5
      simp only [kn, kn2] at q12
      have e11 : σ_11.1 = σ_6.1 := by rw [q12.1.1, q10.1.1, q8.1.1]
      refine set_c hC  ?_ (fun σ_13 q14 => ?_)
      · clear h; rw [e11, f6 66 (by decide)]
        exact ⟨by decide, by decide, l64_0 (Int32.toInt_toInt64 _) (t0 (Int32.le_of_lt W.2.2.2.2.1))⟩
      simp only [kn] at q14
      rw [e11, f6 66 (by decide), Int32.toInt_toInt64] at q14
      have b18 := nV_fr q8.1 (k := 18) (by decide) o18
      have c18 := nV_fr q10.1 (k := 18) (by decide) b18.1
      have d18 := nV_fr q12.1 (k := 18) (by decide) c18.1
      have x18 := nV_fr q14.1 (k := 18) (by decide) d18.1
      have p66 : 0 < (σ.1 66).toInt.toNat := by
        have z := Int32.lt_iff_toInt_lt.mp W.2.2.2.2.1
        rw [Int32.toInt_zero] at z
        omega
      refine times_c hC  ?_ (fun σ_15 q16 => ?_)
      · clear h; simp only [kn, kn2]
        exact ⟨by decide, by decide, by decide, by decide, by decide, by decide, by decide, by decide, x18.1, q14.2.1, by have := q14.2.2.2; have := x18.2.2; have := d18.2.2; have := c18.2.2; have := b18.2.2; have := a18.2.2; have := N.2.2.2.2; omega⟩
      simp only [kn, kn2] at q16
      refine copy_v hC  ?_ (fun σ_17 q18 => ?_)
      · clear h; simp only [kn, kn2]; exact ⟨by decide, by decide, by decide, by decide, by decide, q16.2.1⟩  -- p8
      simp only [kn, kn2] at q18
      have e17 : σ_17.1 = σ_6.1 := by rw [q18.1.1, q16.1.1, q14.1.1, e11]
      have F17 : frW σ σ_17 := frW_tr F6 (frW_tr (frW_N q8.1 (sub_of rfl)) (frW_tr (frW_N q10.1 (sub_of rfl)) (frW_tr (frW_N q12.1 (sub_of rfl)) (frW_tr (frW_N q14.1 (sub_of rfl)) (frW_tr (frW_N q16.1 (sub_of rfl)) (frW_N q18.1 (sub_of rfl)))))))
      have r17 : ∀ k, k ≠ 90 → k ≠ 91 → σ_17.2.2.1 k = σ.2.2.1 k := fun k z1 z2 => by rw [q18.1.2.2.1 k z1 z2, q16.1.2.2.1 k z1 z2, q14.1.2.2.1 k z1 z2, q12.1.2.2.1 k z1 z2, q10.1.2.2.1 k z1 z2, q8.1.2.2.1 k z1 z2, e6]
      have y17 := nV_fr q18.1 (k := 17) (by decide) (nV_fr q16.1 (k := 17) (by decide) (nV_fr q14.1 (k := 17) (by decide) q12.2.1).1).1
      have y17l : nL σ_17 17 = nL σ_11 17 := by rw [y17.2.2, (nV_fr q16.1 (k := 17) (by decide) (nV_fr q14.1 (k := 17) (by decide) q12.2.1).1).2.2, (nV_fr q14.1 (k := 17) (by decide) q12.2.1).2.2]
      have N17 : pyN σ_17 := by
        unfold pyN
        rw [e17, g6, ns]
        refine ⟨y17.1, q18.2.1, ?_, ?_, ?_⟩
        · rw [q18.2.2.1, q16.2.2.1, q14.2.2.1, x18.2.1, d18.2.1, c18.2.1, b18.2.1, a18.2.1]
          exact Nat.mul_pos N.2.2.1 p66
        · have := q12.2.2.2
          have := q10.2.2.2
          have := q8.2.2.2
          have := b17.2.2
          have := a17.2.2
          have := N.2.2.2.1
          omega
        · have := q18.2.2.2
          have := q16.2.2.2
          have := q14.2.2.2
          have := x18.2.2
          have := d18.2.2
          have := c18.2.2
          have := b18.2.2
          have := a18.2.2
          have := N.2.2.2.2
          omega
      refine get_g5 hC B T ?_ (fun r19 σ_20 q21 => ?_)
      · clear h; exact ⟨rI_W hI F17, csF_o cF (r17 59 (by decide) (by decide)) (r17 30 (by decide) (by decide)) (by rw [e17]; exact f6 19 (by decide)) (by rw [e17]; exact f6 58 (by decide)), by rw [e17, f6 67 (by decide)]; exact pV, r.1, Int32.lt_of_lt_of_le r.2.1 W.2.1⟩  -- p9
      obtain ⟨q21, z9⟩ := q21
      refine h _ _ ?_
      · refine and_5 ?_ (fun o9 => ?_)  -- q10
        · clear h; have e9 : σ_20.1 109 = σ.1 109 + 1 := by rw [q21.1.1 109 (by decide), e17, g6]
          refine ⟨frW_tr F17 (frW_G q21.1 (sub_of rfl) (sub_of rfl)), pyN_G N17 q21.1 (by decide) (by decide) (by decide), by rw [e9]; exact p1'.1, by rw [e9]; exact Int32.le_refl _, fun z => by rw [e9]; exact py_2 n0 (r.2.2 z) u1, Or.inr ⟨by rw [q21.1.1 108 (by decide), e17]; exact f6 108 (by decide), ?_⟩⟩
          rcases q21.2 with z | z
          · exact Or.inl z
          · exact Or.inr (Or.inl z)
        · clear o9
          refine ⟨⟨σ_2, r1, zd, Or.inr (Or.inr ⟨c4, c5, σ_17, ?_, ?_, ?_, z9, q21.1.2.1⟩)⟩, ?_⟩
          · rw [← hσ_6]
            exact nu_t21 (nu_n21 q8.1) (nu_t21 (nu_n21 q10.1) (nu_t21 (nu_n21 q12.1) (nu_t21 (nu_n21 q14.1) (nu_t21 (nu_n21 q16.1) (nu_n21 q18.1)))))
          · rw [y17.2.1, (nV_fr q16.1 (k := 17) (by decide) (nV_fr q14.1 (k := 17) (by decide) q12.2.1).1).2.1, (nV_fr q14.1 (k := 17) (by decide) q12.2.1).2.1, q12.2.2.1, q10.2.2.1, q8.2.2.1, b17.2.1, a17.2.1, Int32.toInt_toInt64, e6]
          · rw [q18.2.2.1, q16.2.2.1, q14.2.2.1, x18.2.1, d18.2.1, c18.2.1, b18.2.1, a18.2.1]
          · rw [q21.1.1 0 (by decide), e17]; exact f6 0 (by decide)
    · skip
      refine fail_g5 hC  (fun r22 σ_23 q24 => ?_)
      obtain ⟨q24, z9⟩ := q24
      refine h _ _ ?_
      · refine and_5 ?_ (fun o9 => ?_)  -- q11
        · clear h; have e2 : σ_23.2 = σ_2.2 := q24.1.2
          have G : frG [61] [] σ_2 σ_23 := frG_61 q24.1 (by decide)
          have e9 : σ_23.1 109 = σ.1 109 := by rw [G.1 109 (by decide), q3.1.1]
          exact ⟨frW_tr (frW_d q3.1) (frW_G G (sub_of rfl) (sub_of rfl)), pyN_r N (by rw [e2, q3.1.2.2]) (by rw [e2, q3.1.2.2]) e9, by rw [e9]; exact Int32.le_refl _, by rw [e9]; exact p1'.1, fun z => by rw [e9]; exact ule z, Or.inr ⟨by rw [G.1 108 (by decide), q3.1.1], Or.inr (Or.inr q24.2)⟩⟩
        · clear o9
          refine ⟨⟨σ_2, r1, zd, Or.inr (Or.inl ⟨c5, z9⟩)⟩, ?_⟩
          rw [q24.1.1 0 (by decide), q3.1.1]
  · skip
    intro σ_25 hσ_25
    refine h _ _ ?_
    · refine and_5 ?_ (fun o9 => ?_)  -- q12
      · clear h; have e9 : σ_25.1 109 = σ.1 109 := by
          rw [hσ_25]
          show σ_2.1 109 = _
          rw [q3.1.1]
        have e8 : σ_25.1 108 = σ.1 108 - 1 := by
          rw [hσ_25]
          show σ_2.1 108 - 1 = _
          rw [q3.1.1]
        have e2 : σ_25.2.2 = σ.2.2 := by rw [hσ_25]; exact q3.1.2.2
        exact ⟨by rw [hσ_25]; exact frW_tr (frW_d q3.1) (frW_0 (by decide)), pyN_r N (by rw [e2]) (by rw [e2]) e9, by rw [e9]; exact Int32.le_refl _, by rw [e9]; exact p1'.1, fun z => by rw [e9]; exact ule z, Or.inl ⟨rfl, e8, e9⟩⟩
      · clear o9
        refine ⟨⟨σ_2, r1, zd, Or.inl ⟨c4, hσ_25, rfl⟩⟩, ?_⟩
        rw [hσ_25, si1, if_neg (by decide), q3.1.1]

theorem chooses_g5 {C : rCx} (hC : cOK C) (B T : Int32) {σ : rS}  {Q : Int32 → rS → Prop} (hp : rI σ B T ∧ csF σ ∧ plV (σ.1 67) ∧ exP σ) (h : ∀ (v : Int32) (σ' : rS), ((frG [58, 61] [57, 59, 60, 84] σ σ' ∧ ((v = 0 ∧ csF σ') ∨ v = 1)) ∧ (CS21 σ σ' v)) → Q v σ') : cI C 4 m_chooses [.ref (co C)] σ Q := by
  refine m_chooses_run hC ?_
  unfold w_chooses_0
  obtain ⟨hI, cF, pV, hP⟩ := hp
  have hj15 : ∀ (s0 : Int32) (τ : rS), ((frG [] [84] σ τ ∧ (s0 = -1 ∨ (0 ≤ s0 ∧ s0 < σ.1 70))) ∧ CJ21 σ τ s0) → w_chooses_15 C Q  s0 τ := by
    rintro y15_s0 τ15 ⟨j15, hE⟩
    unfold w_chooses_15
    obtain ⟨F, k⟩ := j15
    have I15 := rI_W hI (frW_G F (sub_of rfl) (sub_of rfl))
    have C15 := csF_o cF (F.2.2.1 59 (by decide)) (F.2.2.1 30 (by decide)) (F.1 19 (by decide)) (F.1 58 (by decide))
    have P15 : plV (τ15.1 67) := by rw [F.1 67 (by decide)]; exact pV
    refine ⟨fun c1 => ?_, fun c1 => ?_⟩
    · skip
      refine ⟨ib_1000.mpr ?_, ?_⟩
      · clear h; have q := k.resolve_left c1
        exact ⟨q.1, Int32.lt_of_lt_of_le q.2 hP.1.1.2⟩
      refine get_g5 hC B T ?_ (fun r2 σ_3 q4 => ?_)
      · clear h; have q := k.resolve_left c1
        have z := hP.2.2.1 y15_s0 q.1 q.2
        have st := hP.1.2.2.2.1 y15_s0 q.1 q.2
        refine ⟨I15, C15, P15, ?_⟩
        rw [F.2.2.1 83 (by decide)]
        by_cases e : rd σ 81 y15_s0 = 0
        · have z1 := z.1 e
          rw [rd] at z1
          rw [z1]
          decide
        · have z2 := z.2 e
          have l := st.2.2.2.2 e
          exact ⟨z2.1, Int32.lt_of_lt_of_le z2.2 (Int32.le_trans l (by decide))⟩
      obtain ⟨q4, z9⟩ := q4
      refine h _ _ ?_
      · refine and_5 ?_ (fun o9 => ?_)  -- q3
        · clear h; exact ⟨frG_tr (frG_mono F (sub_of rfl) (sub_of rfl)) (frG_mono q4.1 (sub_of rfl) (sub_of rfl)), q4.2⟩
        · clear o9
          refine ⟨τ15, y15_s0, hE, ?_⟩
          rw [if_neg c1, ← F.2.2.1 83 (by decide)]
          exact z9
    · skip
      refine get_g5 hC B T ?_ (fun r5 σ_6 q7 => ?_)
      · clear h; exact ⟨I15, C15, P15, by decide, by decide⟩  -- p4
      obtain ⟨q7, z9⟩ := q7
      refine h _ _ ?_
      · refine and_5 ?_ (fun o9 => ?_)  -- q5
        · clear h; exact ⟨frG_tr (frG_mono F (sub_of rfl) (sub_of rfl)) (frG_mono q7.1 (sub_of rfl) (sub_of rfl)), q7.2⟩
        · clear o9
          refine ⟨τ15, y15_s0, hE, ?_⟩
          rw [if_pos c1]
          exact z9
  refine ⟨fun c8 => ?_, fun c8 => ?_⟩
  · skip
    refine hj15 _ _ ?_
    · refine and_5 ?_ (fun o9 => Or.inl ⟨c8, rfl, rfl⟩)  -- k6
      clear h; exact ⟨frG_refl, Or.inl rfl⟩
  · skip
    refine stateNow_g5 hC  ?_ (fun r9 σ_10 q11 => ?_)
    · clear h; exact ⟨cF, hP.1.1.1, hP.1.1.2⟩  -- p7
    obtain ⟨q11, z9⟩ := q11
    refine hj15 _ _ ?_
    · refine and_5 ?_ (fun o9 => Or.inr ⟨c8, z9⟩)  -- k8
      clear h; exact ⟨q11.1, q11.2.2⟩

theorem go2_g5 {C : rCx} (hC : cOK C) (T : Int32) {σ : rS} {a1 : Int32} {Q : Int32 → rS → Prop} (hp : (σ.1 14 ≠ 0 → rI σ (σ.1 3) T) ∧ exP σ ∧ 0 ≤ σ.1 104 ∧ σ.1 104 ≤ 200 ∧ plN σ) (h : ∀ (v : Int32) (σ' : rS), ((frW σ σ' ∧ plN σ') ∧ (GO21 a1 σ σ' v)) → Q v σ') : cI C 10 m_go2 [.ref (co C), .int a1] σ Q := by
  refine m_go2_run hC ?_
  unfold w_go2_0
  obtain ⟨hI, hP, t0', t1', hn⟩ := hp
  have hj213 : ∀ (s1 : Int32) (τ : rS), ((frW σ τ ∧ pyQ τ) ∧ ∃ τ0 h v, LP21 a1 σ τ0 h ∧ FI21 a1 τ0 v h ∧ τ = siU τ0 106 v ∧ s1 = (if v = 1 ∨ v = 2 then τ0.1 61 else 0) ∧ τ0.1 0 = 0 ∧ cy21 σ a1 = 0) → w_go2_213 C Q  s1 τ := by
    rintro y213_s1 τ213 ⟨j213, hE⟩
    unfold w_go2_213
    intro σ_1 hσ_1
    unfold w_go2_219
    refine ⟨fun n l4 τ => n = (34 - l4).toNatClampNeg ∧ ((frW σ τ ∧ pyQ τ ∧ 0 ≤ l4 ∧ l4 ≤ 34) ∧ ∃ τ0 h v, LP21 a1 σ τ0 h ∧ FI21 a1 τ0 v h ∧ PD21 τ0 v τ l4.toNatClampNeg ∧ τ.1 0 = 0 ∧ cy21 σ a1 = 0), ⟨_, rfl, ?_⟩, ?_⟩
    · refine and_5 ?_ (fun o9 => ?_)  -- j1
      · clear h; have F : frW σ σ_1 := by rw [hσ_1]; exact frW_tr j213.1 (frW_0 (by decide))
        exact ⟨F, pyQ_r j213.2 (by rw [hσ_1]; rfl) (by rw [hσ_1]; rfl), by decide, by decide⟩
      · clear o9
        obtain ⟨τ0, hw, vv, L, Fi, et, es, z0, zc⟩ := hE
        refine ⟨τ0, hw, vv, L, Fi, ⟨fun k n1 n2 => ?_, ?_, ?_, ?_, fun k _ => ?_, fun j hj => ?_, ?_⟩, ?_, zc⟩
        · rw [hσ_1, si1, if_neg n2, et, si1, if_neg n1]
        · rw [hσ_1, si1, if_neg (by decide), et, si1, if_pos rfl]
        · rw [hσ_1, si1, if_pos rfl]; exact es
        · rw [hσ_1, et]; rfl
        · rw [hσ_1, et]; rfl
        · exact absurd hj (Nat.not_lt_zero j)
        · rw [hσ_1, et]; rfl
        · rw [hσ_1, si1, if_neg (by decide), et, si1, if_neg (by decide)]; exact z0
    rintro n219 x219_4 σ219 ⟨hn219, i219, hE⟩
    obtain ⟨F, P, a0, a1'⟩ := i219
    refine ⟨fun c2 => ?_, fun c2 => ?_⟩
    · skip
      refine h _ _ ?_
      · refine and_5 ?_ (fun o9 => ?_)  -- q2
        · clear h; exact ⟨F, fun _ => P⟩
        · clear o9
          obtain ⟨τ0, hw, vv, L, Fi, ⟨p1, p2, p3, p4, p5, p6, p7⟩, z0, zc⟩ := hE
          have e34 : x219_4.toNatClampNeg = 34 := by
            have y : x219_4 = 34 := Int32.le_antisymm a1' c2
            rw [y]; rfl
          rw [e34] at p6
          rw [p2]
          exact Or.inr ⟨zc, z0, τ0, hw, L, Fi, p1, p2, p3, p4, p5, p6, p7⟩
    · skip
      have u := u34g a0 c2
      refine ⟨ib_34.mpr ?_, ?_⟩
      · clear h; exact ⟨a0, u.2.2.2.2⟩  -- b3
      refine ⟨ib_34.mpr ?_, ?_⟩
      · clear h; exact ⟨a0, u.2.2.2.2⟩  -- b4
      intro σ_3 hσ_3
      intro x4 hx4
      refine lp_b5 (cn_lt2 hn219 ?_ ?_) (fun d9 => ⟨rfl, ?_⟩)
      · clear h; rw [hx4]; exact u.1  -- d5
      · clear h; rw [hx4]; exact u.2.1  -- d6
      · refine and_5 ?_ (fun o9 => ?_)  -- i7
        · clear h; rw [hx4]
          exact ⟨by rw [hσ_3]; exact frW_tr F frW_1, pyQ_r P (by rw [hσ_3, ri3 (by decide)]) (by rw [hσ_3, ri3 (by decide)]), u.2.2.1, u.2.2.2.1⟩
        · clear o9
          obtain ⟨τ0, hw, vv, L, Fi, ⟨p1, p2, p3, p4, p5, p6, p7⟩, z0, zc⟩ := hE
          have as := cn_succ a0 (Int32.lt_trans u.2.2.2.2 (by decide))
          refine ⟨τ0, hw, vv, L, Fi, ⟨fun k n1 n2 => ?_, ?_, ?_, ?_, fun k n1 => ?_, fun j hj => ?_, ?_⟩, ?_, zc⟩
          · rw [hσ_3, ri1]; exact p1 k n1 n2
          · rw [hσ_3, ri1]; exact p2
          · rw [hσ_3, ri1]; exact p3
          · rw [hσ_3]; exact p4
          · rw [hσ_3, ri3 n1]; exact p5 k n1
          · rw [hx4, as] at hj
            rw [hσ_3, ri_row]
            by_cases c : j = x219_4.toNatClampNeg
            · rw [c, upd_eq]; exact congrFun (p5 57 (by decide)) _
            · rw [upd_ne c]; exact p6 j (by omega)
          · rw [hσ_3]; exact p7
          · rw [hσ_3, ri1]; exact z0
  have hj205 : ∀  (τ : rS), ((frW σ τ ∧ pyQ τ) ∧ ∃ τ0 h v, LP21 a1 σ τ0 h ∧ FI21 a1 τ0 v h ∧ τ = siU τ0 106 v ∧ (v = 1 ∨ v = 2) ∧ τ0.1 0 = 0 ∧ cy21 σ a1 = 0) → w_go2_205 C Q   τ := by
    rintro  τ205 ⟨j205, hE⟩
    unfold w_go2_205
    refine hj213 _ _ ?_
    · refine and_5 ?_ (fun o9 => ?_)  -- k8
      · clear h; exact j205
      · clear o9
        obtain ⟨τ0, hw, vv, L, Fi, et, es, z0, zc⟩ := hE
        refine ⟨τ0, hw, vv, L, Fi, et, ?_, z0, zc⟩
        rw [if_pos es, et, si1, if_neg (by decide)]
  have hj185 : ∀ (s1 : Int32) (τ : rS), ((frW σ τ ∧ pyQ τ) ∧ ∃ h, LP21 a1 σ τ h ∧ FI21 a1 τ s1 h ∧ τ.1 0 = 0 ∧ cy21 σ a1 = 0) → w_go2_185 C Q  s1 τ := by
    rintro y185_s1 τ185 ⟨j185, hE⟩
    unfold w_go2_185
    intro σ_5 hσ_5
    refine ⟨fun c6 => ?_, fun c6 => ?_⟩
    · skip
      refine hj205 _ ?_
      · refine and_5 ?_ (fun o9 => ?_)  -- k9
        · clear h; rw [hσ_5]; exact ⟨frW_tr j185.1 (frW_0 (by decide)), pyQ_r j185.2 rfl rfl⟩
        · clear o9
          obtain ⟨hw, L, Fi, z0, zc⟩ := hE
          have e : σ_5.1 106 = y185_s1 := by rw [hσ_5, si1, if_pos rfl]
          rw [e] at c6
          exact ⟨τ185, hw, y185_s1, L, Fi, hσ_5, Or.inl c6, z0, zc⟩
    · skip
      refine ⟨fun c7 => ?_, fun c7 => ?_⟩
      · skip
        refine hj213 _ _ ?_
        · refine and_5 ?_ (fun o9 => ?_)  -- k10
          · clear h; rw [hσ_5]; exact ⟨frW_tr j185.1 (frW_0 (by decide)), pyQ_r j185.2 rfl rfl⟩
          · clear o9
            obtain ⟨hw, L, Fi, z0, zc⟩ := hE
            have e : σ_5.1 106 = y185_s1 := by rw [hσ_5, si1, if_pos rfl]
            rw [e] at c6 c7
            refine ⟨τ185, hw, y185_s1, L, Fi, hσ_5, ?_, z0, zc⟩
            rw [if_neg (fun z => z.elim c6 c7)]
      · skip
        refine hj205 _ ?_
        · refine and_5 ?_ (fun o9 => ?_)  -- k11
          · clear h; rw [hσ_5]; exact ⟨frW_tr j185.1 (frW_0 (by decide)), pyQ_r j185.2 rfl rfl⟩
          · clear o9
            obtain ⟨hw, L, Fi, z0, zc⟩ := hE
            have e : σ_5.1 106 = y185_s1 := by rw [hσ_5, si1, if_pos rfl]
            rw [e] at c7
            exact ⟨τ185, hw, y185_s1, L, Fi, hσ_5, Or.inr c7, z0, zc⟩
  have hj175 : ∀ (l2 : Int32) (l3 : Int32) (τ : rS), ((frW σ τ ∧ pyQ τ) ∧ LP21 a1 σ τ l2 ∧ τ.1 0 = 0 ∧ cy21 σ a1 = 0 ∧ (l3 = 0 → l2 ≠ 0 ∧ l2 ≠ 5) ∧ (¬ l3 = 0 → l2 = 5 ∨ (l2 = 0 ∧ τ.1 108 = a1))) → w_go2_175 C Q  l2 l3 τ := by
    rintro y175_2 y175_3 τ175 ⟨j175, hE⟩
    unfold w_go2_175
    refine ⟨fun c8 => ?_, fun c8 => ?_⟩
    · skip
      refine hj185 _ _ ?_
      · refine and_5 ?_ (fun o9 => ?_)  -- k12
        · clear h; exact j175
        · clear o9
          obtain ⟨L, z0, zc, w1, w2⟩ := hE
          exact ⟨y175_2, L, Or.inr (Or.inr ⟨(w1 c8).1, (w1 c8).2, rfl⟩), z0, zc⟩
    · skip
      refine hj185 _ _ ?_
      · refine and_5 ?_ (fun o9 => ?_)  -- k13
        · clear h; exact j175
        · clear o9
          obtain ⟨L, z0, zc, w1, w2⟩ := hE
          refine ⟨y175_2, L, ?_, z0, zc⟩
          rcases w2 c8 with q | q
          · exact Or.inl ⟨q, rfl⟩
          · exact Or.inr (Or.inl ⟨q.1, q.2, rfl⟩)
  have hj28 : ∀ (l1 : Int32) (s1 : Int32) (τ : rS), ((l1 = a1 ∧ τ = σ ∧ (s1 ≤ 0 → σ.1 14 ≠ 0 ∧ 0 ≤ a1 ∧ a1 ≤ 2000)) ∧ s1 = cy21 σ a1) → w_go2_28 C Q  l1 s1 τ := by
    rintro y28_1 y28_s1 τ28 ⟨j28, hE⟩
    unfold w_go2_28
    intro σ_9 hσ_9
    refine ⟨fun c10 => ?_, fun c10 => ?_⟩
    · skip
      intro σ_11 hσ_11
      intro σ_12 hσ_12
      intro σ_13 hσ_13
      refine set_c hC  ?_ (fun σ_14 q15 => ?_)
      · clear h; exact ⟨by decide, by decide, by decide⟩  -- p14
      simp only [kn2] at q15
      refine set_c hC  ?_ (fun σ_16 q17 => ?_)
      · clear h; exact ⟨by decide, by decide, by decide⟩  -- p15
      simp only [kn2] at q17
      obtain ⟨y1, y2, y3⟩ := j28
      have e0 : σ_9.1 0 = y28_s1 := by rw [hσ_9]; rfl
      have w := y3 (by rw [← e0]; exact c10)
      have F13 : frW σ σ_13 := by
        rw [hσ_13, hσ_12, hσ_11, hσ_9, y2]
        exact frW_tr (frW_tr (frW_tr (frW_0 (by decide)) (frW_0 (by decide))) (frW_0 (by decide))) frW_l
      have F16 : frW σ σ_16 := frW_tr F13 (frW_tr (frW_N q15.1 (sub_of rfl)) (frW_N q17.1 (sub_of rfl)))
      have e16 : σ_16.1 = σ_13.1 := by rw [q17.1.1, q15.1.1]
      have f108 : σ_16.1 108 = 0 := by rw [e16, hσ_13, hσ_12, hσ_11]; rfl
      have f109 : σ_16.1 109 = 0 := by rw [e16, hσ_13, hσ_12]; rfl
      have g17 := nV_fr q17.1 (k := 17) (by decide) q15.2.1
      have N16 : pyN σ_16 := ⟨g17.1, q17.2.1, by rw [q17.2.2.1]; decide, by have := g17.2.2; have := q15.2.2.2; omega, by have := q17.2.2.2; omega⟩
      refine begin_g5 hC (σ.1 3) T ?_ (fun r18 σ_19 q20 => ?_)
      · clear h; exact rI_W (hI w.1) F16  -- p16
      obtain ⟨q20, z9⟩ := q20
      unfold w_go2_76
      refine ⟨fun n l1 l2 l3 τ => n = (if l2 = 0 ∧ l3 = 0 then (a1 - τ.1 108).toNatClampNeg + 1 else 0) ∧ ((l1 = a1 ∧ pyI σ τ a1 ∧ (l2 = 0 → l3 = 0 → csF τ)) ∧ LP21 a1 σ τ l2 ∧ τ.1 0 = 0 ∧ cy21 σ a1 = 0 ∧ ((l3 = 0 ∧ l2 ≠ 5) ∨ (¬ l3 = 0 ∧ (l2 = 5 ∨ (l2 = 0 ∧ τ.1 108 = a1))))), ⟨_, rfl, ?_⟩, ?_⟩
      · refine and_5 ?_ (fun o9 => ?_)  -- j17
        · clear h; have G : frW σ σ_19 := frW_tr F16 (frW_G q20.1 (sub_of rfl) (sub_of rfl))
          have h108 : σ_19.1 108 = 0 := by rw [q20.1.1 108 (by decide)]; exact f108
          have h109 : σ_19.1 109 = 0 := by rw [q20.1.1 109 (by decide)]; exact f109
          refine ⟨y1, ⟨G, pyN_G N16 q20.1 (by decide) (by decide) (by decide), by rw [h109]; decide, by rw [h109, h108]; decide, by rw [h108]; exact w.2.1, fun _ => by rw [h109]; exact t0'⟩, fun e _ => ?_⟩
          rcases q20.2 with z | z
          · exact z.2
          · rw [z] at e; exact absurd e (by decide)
        · clear o9
          have zc : cy21 σ a1 = 0 := by
            unfold cy21
            rw [if_neg w.1, if_pos w.2]
          have s0 : y28_s1 = 0 := hE.trans zc
          have n5 : r18 ≠ 5 := fun z => by
            rcases q20.2 with y | y
            · rw [y.1] at z; exact absurd z (by decide)
            · rw [y] at z; exact absurd z (by decide)
          have b : BG21 σ σ_19 r18 := by
            refine ⟨σ_16, ?_, ?_, ?_, z9, q20.1.2.1⟩
            · have e13 : σ_13 = slU (siU (siU (siU σ 0 0) 108 0) 109 0) 110 0 := by rw [hσ_13, hσ_12, hσ_11, hσ_9, y2, s0]
              rw [← e13]
              exact nu_t21 (nu_n21 q15.1) (nu_n21 q17.1)
            · rw [g17.2.1, q15.2.2.1]; rfl
            · rw [q17.2.2.1]; rfl
          refine ⟨⟨σ_19, r18, 0, fun _ => (σ_19, r18), b, ⟨rfl, fun n hn => absurd hn (Nat.not_lt_zero n)⟩, rfl⟩, ?_, zc, Or.inl ⟨rfl, n5⟩⟩
          rw [q20.1.1 0 (by decide), e16, hσ_13, hσ_12, hσ_11, hσ_9, s0]
          rfl
      rintro n76 x76_1 x76_2 x76_3 σ76 ⟨hn76, i76, hE⟩
      have hj160 : ∀ (l1 : Int32) (s0 : Int32) (τ : rS), ((l1 = a1 ∧ pyI σ τ a1 ∧ (s0 = 0 → csF τ) ∧ (s0 = 5 ∨ σ76.1 108 < τ.1 108) ∧ x76_2 = 0 ∧ x76_3 = 0) ∧ LP21 a1 σ τ s0 ∧ τ.1 0 = 0 ∧ cy21 σ a1 = 0) → w_go2_160 C Q (fun l1' l2' l3' τ => ∃ k < n76, (fun n l1 l2 l3 τ => n = (if l2 = 0 ∧ l3 = 0 then (a1 - τ.1 108).toNatClampNeg + 1 else 0) ∧ ((l1 = a1 ∧ pyI σ τ a1 ∧ (l2 = 0 → l3 = 0 → csF τ)) ∧ LP21 a1 σ τ l2 ∧ τ.1 0 = 0 ∧ cy21 σ a1 = 0 ∧ ((l3 = 0 ∧ l2 ≠ 5) ∨ (¬ l3 = 0 ∧ (l2 = 5 ∨ (l2 = 0 ∧ τ.1 108 = a1)))))) k l1' l2' l3' τ) l1 s0 τ := by
        rintro y160_1 y160_s0 τ160 ⟨j160, hE⟩
        unfold w_go2_160
        obtain ⟨z1, P, zc, zd, z2, z3⟩ := j160
        obtain ⟨i1, I76, ic⟩ := i76
        refine ⟨fun c21 => ?_, fun c21 => ?_⟩
        · skip
          refine lp_b5 ?_ (fun d9 => ⟨rfl, ?_⟩)
          · clear h; have m : n76 = (a1 - σ76.1 108).toNatClampNeg + 1 := by rw [hn76, if_pos ⟨z2, z3⟩]
            rw [m]
            split
            · exact Nat.succ_lt_succ (go_m (Int32.le_trans I76.2.2.1 I76.2.2.2.1) (zd.resolve_left c21) P.2.2.2.2.1 w.2.2)
            · exact Nat.succ_pos _
          · refine and_5 ?_ (fun o9 => ?_)  -- i19
            · clear h; exact ⟨z1, P, fun e _ => zc e⟩
            · clear o9
              exact ⟨hE.1, hE.2.1, hE.2.2, Or.inl ⟨rfl, c21⟩⟩
        · skip
          refine lp_b5 ?_ (fun d9 => ⟨rfl, ?_⟩)
          · clear h; have m : n76 = (a1 - σ76.1 108).toNatClampNeg + 1 := by rw [hn76, if_pos ⟨z2, z3⟩]
            rw [m, if_neg (fun z => absurd z.2 (by decide))]
            exact Nat.succ_pos _
          · refine and_5 ?_ (fun o9 => ?_)  -- i21
            · clear h; exact ⟨z1, P, fun _ e => absurd e (by decide)⟩
            · clear o9
              exact ⟨hE.1, hE.2.1, hE.2.2, Or.inr ⟨by decide, Or.inl c21⟩⟩
      have hj131 : ∀ (l1 : Int32) (l2 : Int32) (s1 : Int64) (s2 : Int64) (τ : rS), ((l1 = a1 ∧ pyI σ τ a1 ∧ τ.1 109 < τ.1 108 ∧ σ76.1 108 < τ.1 108 ∧ acQ l2 τ ∧ x76_2 = 0 ∧ x76_3 = 0) ∧ ∃ σ1, g5_act σ76 = (σ1, l2) ∧ (acQ l2 σ1 ∧ ∀ k, σ1.2.1 k = σ76.2.1 k) ∧ τ = siU σ1 108 (σ1.1 108 + 1) ∧ s1 = σ1.2.1 110 ∧ s2 = (if l2 = 2 then 0 else (σ1.1 62).toInt64) ∧ LP21 a1 σ σ76 0 ∧ σ76.1 108 ≠ a1 ∧ τ.1 0 = 0 ∧ cy21 σ a1 = 0) → w_go2_131 C Q (fun l1' l2' l3' τ => ∃ k < n76, (fun n l1 l2 l3 τ => n = (if l2 = 0 ∧ l3 = 0 then (a1 - τ.1 108).toNatClampNeg + 1 else 0) ∧ ((l1 = a1 ∧ pyI σ τ a1 ∧ (l2 = 0 → l3 = 0 → csF τ)) ∧ LP21 a1 σ τ l2 ∧ τ.1 0 = 0 ∧ cy21 σ a1 = 0 ∧ ((l3 = 0 ∧ l2 ≠ 5) ∨ (¬ l3 = 0 ∧ (l2 = 5 ∨ (l2 = 0 ∧ τ.1 108 = a1)))))) k l1' l2' l3' τ) l1 l2 s1 s2 τ := by
        rintro y131_1 y131_2 y131_s1 y131_s2 τ131 ⟨j131, hE⟩
        unfold w_go2_131
        intro σ_22 hσ_22
        obtain ⟨z1, P, zl, zm, A, z2, z3⟩ := j131
        obtain ⟨i1, I76, ic⟩ := i76
        have F22 : frW σ σ_22 := by rw [hσ_22]; exact frW_tr P.1 frW_l
        have P22 : pyI σ σ_22 a1 := ⟨F22, pyN_r P.2.1 (by rw [hσ_22]; rfl) (by rw [hσ_22]; rfl) (by rw [hσ_22]; rfl), by rw [hσ_22]; exact P.2.2.1, by rw [hσ_22]; exact P.2.2.2.1, by rw [hσ_22]; exact P.2.2.2.2.1, by rw [hσ_22]; exact P.2.2.2.2.2⟩
        have l22 : σ76.1 108 < σ_22.1 108 := by rw [hσ_22]; exact zm
        have k22' : σ_22.1 109 < σ_22.1 108 := by rw [hσ_22]; exact zl
        have I22 := rI_W (hI w.1) F22
        have gd := go_d P22.2.2.1 k22' P22.2.2.2.2.1 w.2.2
        refine ⟨fun c23 => ?_, fun c23 => ?_⟩
        · skip
          refine ⟨fun c24 => ?_, fun c24 => ?_⟩
          · skip
            refine hj160 _ _ _ ?_
            · refine and_5 ?_ (fun o9 => ?_)  -- k22
              · clear h; refine ⟨z1, P22, fun e => ?_, Or.inr l22, z2, z3⟩
                rcases A with q | q | q | q | q | q
                · rw [hσ_22]; exact csF_o q.2 rfl rfl rfl rfl
                · rw [q] at e; exact absurd e (by decide)
                · rw [q] at e; exact absurd e (by decide)
                · rw [q] at e; exact absurd e (by decide)
                · exact absurd q.1 c23
                · exact absurd q.1 c24
              · clear o9
                obtain ⟨σ1, g1, ⟨ga, gb⟩, g2, g3, g4, L, na, z0, zc⟩ := hE
                have e : σ_22 = ac21 σ1 y131_2 := by rw [hσ_22, g2, g3, g4]; rfl
                refine ⟨lp_s21 L na ⟨σ1, y131_2, g1, ga, gb, Or.inr (Or.inr ⟨c23, c24, e, rfl⟩)⟩, ?_, zc⟩
                rw [hσ_22]; exact z0
          · skip
            refine chooses_g5 hC (σ.1 3) T ?_ (fun r25 σ_26 q27 => ?_)
            · clear h; rcases A with q | q | q | q | q | q
              · rw [q.1] at c24; exact absurd c24 (by decide)
              · rw [q] at c24; exact absurd c24 (by decide)
              · rw [q] at c24; exact absurd c24 (by decide)
              · rw [q] at c24; exact absurd c24 (by decide)
              · exact absurd q.1 c23
              · exact ⟨I22, by rw [hσ_22]; exact csF_o q.2.1 rfl rfl rfl rfl, by rw [hσ_22]; exact q.2.2.1, exP_W hP F22⟩
            obtain ⟨q27, z9⟩ := q27
            refine hj160 _ _ _ ?_
            · refine and_5 ?_ (fun o9 => ?_)  -- k24
              · clear h; have G : frW σ σ_26 := frW_tr F22 (frW_G q27.1 (sub_of rfl) (sub_of rfl))
                have h108 : σ_26.1 108 = σ_22.1 108 := q27.1.1 108 (by decide)
                have h109 : σ_26.1 109 = σ_22.1 109 := q27.1.1 109 (by decide)
                refine ⟨z1, ⟨G, pyN_G P22.2.1 q27.1 (by decide) (by decide) (by decide), by rw [h109]; exact P22.2.2.1, by rw [h109, h108]; exact P22.2.2.2.1, by rw [h108]; exact P22.2.2.2.2.1, by rw [h109]; exact P22.2.2.2.2.2⟩, fun e => ?_, Or.inr (by rw [h108]; exact l22), z2, z3⟩
                rcases q27.2 with z | z
                · exact z.2
                · rw [z] at e; exact absurd e (by decide)
              · clear o9
                obtain ⟨σ1, g1, ⟨ga, gb⟩, g2, g3, g4, L, na, z0, zc⟩ := hE
                have e : σ_22 = ac21 σ1 y131_2 := by rw [hσ_22, g2, g3, g4]; rfl
                rw [e] at z9
                refine ⟨lp_s21 L na ⟨σ1, y131_2, g1, ga, gb, Or.inr (Or.inl ⟨c24, z9, fun k => by rw [q27.1.2.1 k, e]⟩)⟩, ?_, zc⟩
                rw [q27.1.1 0 (by decide), hσ_22]; exact z0
        · skip
          refine draws_g5 hC (σ.1 3) T ?_ (fun r28 σ_29 q30 => ?_)
          · clear h; rcases A with q | q | q | q | q | q
            · rw [q.1] at c23; exact absurd c23 (by decide)
            · rw [q] at c23; exact absurd c23 (by decide)
            · rw [q] at c23; exact absurd c23 (by decide)
            · rw [q] at c23; exact absurd c23 (by decide)
            · exact ⟨I22, by rw [hσ_22]; exact csF_o q.2.1 rfl rfl rfl rfl, by rw [hσ_22]; exact q.2.2.1, by rw [hσ_22]; exact q.2.2.2, P22.2.1, P22.2.2.1, gd.2.2.2.2.1, by rw [F22.1 104 (by decide)]; exact t0', by rw [F22.1 104 (by decide)]; exact t1', fun z => by rw [F22.1 104 (by decide)]; exact P22.2.2.2.2.2 (by rw [← F22.1 113 (by decide)]; exact z)⟩
            · rw [q.1] at c23; exact absurd c23 (by decide)
          obtain ⟨q30, z9⟩ := q30
          refine hj160 _ _ _ ?_
          · refine and_5 ?_ (fun o9 => ?_)  -- k26
            · clear h; have F29 := frW_tr F22 q30.1
              have h9 := Int32.le_trans P22.2.2.1 q30.2.2.1
              have t9 : σ.1 113 = 0 → σ_29.1 109 ≤ σ.1 104 := fun z => by
                have y := q30.2.2.2.2.1 (by rw [F22.1 113 (by decide)]; exact z)
                rw [F22.1 104 (by decide)] at y
                exact y
              rcases q30.2.2.2.2.2 with q | q
              · have l8 : σ_29.1 109 ≤ σ_29.1 108 := by rw [q.2.1, q.2.2]; exact gd.1
                have m8 : σ_29.1 108 ≤ a1 := by rw [q.2.1]; exact gd.2.1
                exact ⟨z1, ⟨F29, q30.2.1, h9, l8, m8, t9⟩, fun e => by rw [q.1] at e; exact absurd e (by decide), Or.inl q.1, z2, z3⟩
              · have l8 : σ_29.1 109 ≤ σ_29.1 108 := by rw [q.1]; exact Int32.le_trans q30.2.2.2.1 gd.2.2.1
                have m8 : σ_29.1 108 ≤ a1 := by rw [q.1]; exact P22.2.2.2.2.1
                refine ⟨z1, ⟨F29, q30.2.1, h9, l8, m8, t9⟩, fun e => ?_, Or.inr (by rw [q.1]; exact l22), z2, z3⟩
                rcases q.2 with z | z | z
                · exact z.2
                · rw [z] at e; exact absurd e (by decide)
                · rw [z] at e; exact absurd e (by decide)
            · clear o9
              obtain ⟨σ1, g1, ⟨ga, gb⟩, g2, g3, g4, L, na, z0, zc⟩ := hE
              have e : σ_22 = ac21 σ1 y131_2 := by rw [hσ_22, g2, g3, g4]; rfl
              have z8 := z9.1
              rw [e] at z8
              refine ⟨lp_s21 L na ⟨σ1, y131_2, g1, ga, gb, Or.inl ⟨c23, z8⟩⟩, ?_, zc⟩
              rw [z9.2, hσ_22]; exact z0
      obtain ⟨i1, I76, ic⟩ := i76
      have Q76 := pyQ_N I76.2.1 (Int32.le_trans I76.2.2.2.1 (Int32.le_trans I76.2.2.2.2.1 w.2.2))
      rw [i1]
      refine ⟨fun c31 => ?_, fun c31 => ?_⟩
      · skip
        refine hj175 _ _ _ ?_
        · refine and_5 ?_ (fun o9 => ?_)  -- k27
          · clear h; exact ⟨I76.1, Q76⟩
          · clear o9
            obtain ⟨L, z0, zc, D⟩ := hE
            refine ⟨L, z0, zc, fun z => ?_, fun z => ?_⟩
            · rcases D with D | D
              · exact ⟨c31, D.2⟩
              · exact absurd z D.1
            · rcases D with D | D
              · exact absurd D.1 z
              · exact D.2
      · skip
        refine ⟨fun c32 => ?_, fun c32 => ?_⟩
        · skip
          refine hj175 _ _ _ ?_
          · refine and_5 ?_ (fun o9 => ?_)  -- k28
            · clear h; exact ⟨I76.1, Q76⟩
            · clear o9
              obtain ⟨L, z0, zc, D⟩ := hE
              refine ⟨L, z0, zc, fun z => absurd z c32, fun z => ?_⟩
              rcases D with D | D
              · exact absurd D.1 z
              · exact D.2
        · skip
          have gs := fun (hne : ¬ σ76.1 108 = a1) => go_s (Int32.le_trans I76.2.2.1 I76.2.2.2.1) I76.2.2.2.2.1 hne w.2.2
          refine ⟨fun c33 => ?_, fun c33 => ?_⟩
          · skip
            refine act_g5 hC (σ.1 3) T ?_ (fun r34 σ_35 q36 => ?_)
            · clear h; exact ⟨rI_W (hI w.1) I76.1, ic c31 c32⟩  -- p29
            obtain ⟨q36, z9⟩ := q36
            have g := gs c33
            have F35 : frW σ σ_35 := frW_tr I76.1 (frW_G q36.1 (sub_of rfl) (sub_of rfl))
            have N35 := pyN_G I76.2.1 q36.1 (by decide) (by decide) (by decide)
            have e108 : σ_35.1 108 = σ76.1 108 := q36.1.1 108 (by decide)
            have e109 : σ_35.1 109 = σ76.1 109 := q36.1.1 109 (by decide)
            intro σ_37 hσ_37
            refine ⟨fun c38 => ?_, fun c38 => ?_⟩
            · skip
              refine hj131 _ _ _ _ _ ?_
              · refine and_5 ?_ (fun o9 => ?_)  -- k30
                · clear h; have F37 : frW σ σ_37 := by rw [hσ_37]; exact frW_tr F35 (frW_0 (by decide))
                  have s108 : σ_37.1 108 = σ76.1 108 + 1 := by rw [hσ_37, ← e108]; rfl
                  have s109 : σ_37.1 109 = σ76.1 109 := by rw [hσ_37, ← e109]; rfl
                  exact ⟨rfl, ⟨F37, pyN_r N35 (by rw [hσ_37]; rfl) (by rw [hσ_37]; rfl) (by rw [hσ_37]; rfl), by rw [s109]; exact I76.2.2.1, by rw [s109, s108]; exact Int32.le_trans I76.2.2.2.1 (Int32.le_of_lt g.1), by rw [s108]; exact g.2.1, by rw [s109]; exact I76.2.2.2.2.2⟩, by rw [s109, s108]; exact Int32.lt_of_le_of_lt I76.2.2.2.1 g.1, by rw [s108]; exact g.1, by rw [hσ_37]; exact q36.2, c31, c32⟩
                · clear o9
                  obtain ⟨L, z0, zc, D⟩ := hE
                  rw [c31] at L
                  refine ⟨σ_35, z9, ⟨q36.2, q36.1.2.1⟩, hσ_37, ?_, ?_, L, c33, ?_, zc⟩
                  · rw [hσ_37]; rfl
                  · rw [if_neg c38, hσ_37]; rfl
                  · rw [hσ_37, si1, if_neg (by decide), q36.1.1 0 (by decide)]; exact z0
            · skip
              refine hj131 _ _ _ _ _ ?_
              · refine and_5 ?_ (fun o9 => ?_)  -- k31
                · clear h; have F37 : frW σ σ_37 := by rw [hσ_37]; exact frW_tr F35 (frW_0 (by decide))
                  have s108 : σ_37.1 108 = σ76.1 108 + 1 := by rw [hσ_37, ← e108]; rfl
                  have s109 : σ_37.1 109 = σ76.1 109 := by rw [hσ_37, ← e109]; rfl
                  exact ⟨rfl, ⟨F37, pyN_r N35 (by rw [hσ_37]; rfl) (by rw [hσ_37]; rfl) (by rw [hσ_37]; rfl), by rw [s109]; exact I76.2.2.1, by rw [s109, s108]; exact Int32.le_trans I76.2.2.2.1 (Int32.le_of_lt g.1), by rw [s108]; exact g.2.1, by rw [s109]; exact I76.2.2.2.2.2⟩, by rw [s109, s108]; exact Int32.lt_of_le_of_lt I76.2.2.2.1 g.1, by rw [s108]; exact g.1, by rw [hσ_37]; exact q36.2, c31, c32⟩
                · clear o9
                  obtain ⟨L, z0, zc, D⟩ := hE
                  rw [c31] at L
                  refine ⟨σ_35, z9, ⟨q36.2, q36.1.2.1⟩, hσ_37, ?_, ?_, L, c33, ?_, zc⟩
                  · rw [hσ_37]; rfl
                  · rw [if_pos c38]
                  · rw [hσ_37, si1, if_neg (by decide), q36.1.1 0 (by decide)]; exact z0
          · skip
            refine lp_b5 ?_ (fun d9 => ⟨rfl, ?_⟩)
            · clear h; have m : n76 = (a1 - σ76.1 108).toNatClampNeg + 1 := by rw [hn76, if_pos ⟨c31, c32⟩]
              rw [m, if_neg (fun z => absurd z.2 (by decide))]
              exact Nat.succ_pos _
            · refine and_5 ?_ (fun o9 => ?_)  -- i33
              · clear h; exact ⟨rfl, I76, fun _ e => absurd e (by decide)⟩
              · clear o9
                obtain ⟨L, z0, zc, D⟩ := hE
                exact ⟨L, z0, zc, Or.inr ⟨by decide, Or.inr ⟨c31, c33⟩⟩⟩
    · skip
      refine h _ _ ?_
      · refine and_5 ?_ (fun o9 => ?_)  -- q34
        · clear h; obtain ⟨y1, y2, y3⟩ := j28
          have F : frW σ σ_9 := by rw [hσ_9, y2]; exact frW_0 (by decide)
          refine ⟨F, fun z => ?_⟩
          have z2 : σ.1 106 ≠ -1 := by rw [hσ_9, y2] at z; exact z
          exact pyQ_r (hn z2) (by rw [hσ_9, y2]; rfl) (by rw [hσ_9, y2]; rfl)
        · clear o9
          obtain ⟨y1, y2, y3⟩ := j28
          have e0 : σ_9.1 0 = y28_s1 := by rw [hσ_9, si1, if_pos rfl]
          refine Or.inl ⟨fun z => ?_, ?_, rfl⟩
          · rw [e0, hE, z] at c10
            exact c10 (by decide)
          · rw [hσ_9, y2, hE]
  refine ⟨fun c39 => ?_, fun c39 => ?_⟩
  · skip
    refine within_c hC  (fun r40 q42 => ?_)
    refine ⟨fun c43 => ?_, fun c43 => ?_⟩
    · skip
      refine hj28 _ _ _ ?_
      · refine and_5 ?_ (fun o9 => ?_)  -- k35
        · clear h; exact ⟨rfl, rfl, fun _ => ⟨c39, (q42.2.mp c43).1, (q42.2.mp c43).2⟩⟩
        · clear o9
          unfold cy21
          rw [if_neg c39, if_pos (q42.2.mp c43)]
    · skip
      refine hj28 _ _ _ ?_
      · refine and_5 ?_ (fun o9 => ?_)  -- k36
        · clear h; exact ⟨rfl, rfl, fun z => absurd z (by decide)⟩
        · clear o9
          unfold cy21
          rw [if_neg c39, if_neg (fun z => q42.2.mpr z c43)]
  · skip
    refine hj28 _ _ _ ?_
    · refine and_5 ?_ (fun o9 => ?_)  -- k37
      · clear h; exact ⟨rfl, rfl, fun z => absurd z (by decide)⟩
      · clear o9
        unfold cy21
        rw [if_pos c39]

theorem play_g5 {C : rCx} (hC : cOK C) (T : Int32) {σ : rS} {a1 : Int64} {a3 : Int32} {Q : Int32 → rS → Prop} (hp : (σ.1 14 ≠ 0 → rI σ (σ.1 3) T) ∧ exP σ ∧ 0 ≤ σ.1 104 ∧ σ.1 104 ≤ 200 ∧ plN σ) (h : ∀ (v : Int32) (σ' : rS), ((frW (siU (slU σ 112 a1) 113 1) σ' ∧ plN σ') ∧ (GO21 a3 (siU (slU σ 112 a1) 113 1) σ' v)) → Q v σ') : cI C 11 m_play [.ref (co C), .long a1, .int a3] σ Q := by
  refine m_play_run hC ?_
  unfold w_play_0
  intro σ_1 hσ_1
  intro σ_2 hσ_2
  refine go2_g5 hC T ?_ (fun r3 σ_4 q5 => ?_)
  · clear h; rw [hσ_2, hσ_1]; exact go_pre hp (fun k hk => if_neg hk) rfl  -- p1
  obtain ⟨q5, z9⟩ := q5
  refine h _ _ ?_
  · refine and_5 ?_ (fun o9 => ?_)  -- q2
    · clear h; rw [hσ_2, hσ_1] at q5; exact q5
    · clear o9
      rw [hσ_2, hσ_1] at z9
      exact z9

theorem walk_g5 {C : rCx} (hC : cOK C) (T : Int32) {σ : rS} {a1 : Int32} {Q : Int32 → rS → Prop} (hp : (σ.1 14 ≠ 0 → rI σ (σ.1 3) T) ∧ exP σ ∧ 0 ≤ σ.1 104 ∧ σ.1 104 ≤ 200 ∧ plN σ) (h : ∀ (v : Int32) (σ' : rS), ((frW (siU σ 113 0) σ' ∧ plN σ') ∧ (GO21 a1 (siU σ 113 0) σ' v)) → Q v σ') : cI C 11 m_walk [.ref (co C), .int a1] σ Q := by
  refine m_walk_run hC ?_
  unfold w_walk_0
  intro σ_1 hσ_1
  refine go2_g5 hC T ?_ (fun r2 σ_3 q4 => ?_)
  · clear h; rw [hσ_1]; exact go_pre hp (fun k hk => if_neg hk) rfl  -- p1
  obtain ⟨q4, z9⟩ := q4
  refine h _ _ ?_
  · refine and_5 ?_ (fun o9 => ?_)  -- q2
    · clear h; rw [hσ_1] at q4; exact q4
    · clear o9
      rw [hσ_1] at z9
      exact z9

end
section
set_option maxHeartbeats 1600000
/-! a play, of both sides: what is alike, and its statements -/
def SM21 (w : Nat) (e : E5) (σ : rS) : Prop := ∀ i, i < w → e.2.1 701 i = σ.2.2.1 57 i
def CU21 (cu e : E5) : Prop := (∀ g, g < 600 → e.1 g = cu.1 g) ∧ ∀ g, g < 600 → e.2.1 g = cu.2.1 g
theorem cu_m21 {cu e e' : E5} {σ σ' : rS} (h : CU21 cu e) (k : FM6 e e' σ σ') : CU21 cu e' := ⟨fun g q => (k.1.1 g (Or.inl q)).trans (h.1 g q), fun g q => (k.1.2.1 g q).trans (h.2 g q)⟩
def PL21 (nv w s : Nat) (cu e : E5) (σ : rS) (h : Int32) : Prop := (CF6 nv s w e σ ∧ CU21 cu e) ∧ e.1 711 = h ∧ SM21 w e σ ∧ ((h = 0 ∧ ∃ d, 0 < d ∧ MT6 nv w s d e σ) ∨ (h = 1 ∧ e.1 712 = σ.1 61) ∨ (h = 2 ∧ e.1 713 = σ.1 61) ∨ h = 3)
def KF21 (σ σ' : rS) : Prop := (∀ g, 69 ≤ g → σ'.1 g = σ.1 g) ∧ (∀ g, g ≤ 45 ∨ 69 ≤ g → σ'.2.2.1 g = σ.2.2.1 g) ∧ σ'.2.2.2 = σ.2.2.2
def QW21 (σ1 σ2 : rS) : Prop := (∀ g, g ≠ 108 → g ≠ 109 → σ2.1 g = σ1.1 g) ∧ (∀ g, g ≠ 84 → g ≠ 90 → g ≠ 91 → σ2.2.2.1 g = σ1.2.2.1 g) ∧ σ2.2.2.2 = σ1.2.2.2
section
variable {nv s w d : Nat} {cu e e' : E5} {σ σ' σ1 σ2 σ9 : rS} {r h : Int32}
theorem sm_m21 (M : MB6 nv w s d e σ) : SM21 w e σ := M.2.2.1
theorem pl_o21 (C : CF6 nv s w e σ) (U : CU21 cu e) (O : OU6 nv w s e σ r) (hr : r = 0 ∨ r = 1) : PL21 nv w s cu e σ r := by
  obtain ⟨o1, o2⟩ := O
  rcases o2 with ⟨q, d, d0, M, A⟩ | ⟨q, q2, q3, _⟩ | ⟨q, _⟩ | q
  · exact ⟨⟨C, U⟩, o1, sm_m21 M, Or.inl ⟨q, d, d0, M, A⟩⟩
  · exact ⟨⟨C, U⟩, o1, q3, Or.inr (Or.inl ⟨q, q2⟩)⟩
  · rw [q] at hr; exact absurd hr (by decide)
  · rw [q] at hr; exact absurd hr (by decide)
/-- a statement done -/
theorem pa_21 (P : PL21 nv w s cu e σ 0) : ∃ e' σ' r d, f5_Ma_act e = .inl (e', ()) ∧ g5_act σ = (σ', r) ∧ (CE6 nv s w e' σ' ∧ CU21 cu e') ∧ KF21 σ σ' ∧ e'.1 714 = (if r = 2 then 0 else σ'.1 62) ∧ (0 < d ∧ MT6 nv w s d e σ) ∧ ((e'.1 715 = -1 ∧ (r ≠ 4 ∧ r ≠ 5) ∧ PL21 nv w s cu e' σ' r) ∨ ((r = 4 ∨ r = 5) ∧ AW6 nv w d e' σ' r ∧ e'.1 714 = 0 ∧ MT6 nv w s d e' σ' ∧ ME6 e e' (siU σ 11 0) σ')) := by
  obtain ⟨⟨C, U⟩, h711, _, D⟩ := P
  obtain ⟨d, d0, M, A⟩ : ∃ d, 0 < d ∧ MT6 nv w s d e σ := by
    rcases D with ⟨_, q⟩ | ⟨q, _⟩ | ⟨q, _⟩ | q
    · exact q
    · exact absurd q (by decide)
    · exact absurd q (by decide)
    · exact absurd q (by decide)
  obtain ⟨T, X, Bk, N, Z, na, f, ⟨h1, h2⟩, h3, h4, h5, ⟨h6, h7, h8, h9⟩, h10, h11, h12⟩ := id C
  obtain ⟨e', σ', r, u1, u2, u3, u4, u5⟩ := act_6 (σ := siU σ 11 0) h1 h2 h3 (MB_116 M) d0 (show AT6 w s d e (siU σ 11 0) from A) h9 h711 h10 h11 h4 h5
  rw [act_116] at u2
  have C' : CE6 nv s w e' σ' := CE_w6 (σ := siU σ 11 0) C (FMw_6 u3)
  have U' : CU21 cu e' := cu_m21 U u3
  have K : KF21 σ σ' := ⟨fun g q => (u3.2.1 g (by omega)).trans (by rw [si1, if_neg (by omega)]), fun g q => u3.2.2.1 g q, u3.2.2.2⟩
  rcases u4 with ⟨q5, q⟩ | ⟨q, q2, q3⟩
  · rcases q with ⟨b1, b2, b3, d', b4, b5, b6⟩ | ⟨b1, b2, b3, b4, b5, _⟩ | ⟨b1, b2, b3, b4, _, d', b6⟩ | ⟨b1, b2, b3, d', b6⟩
    · exact ⟨e', σ', r, d, u1, u2, ⟨C', U'⟩, K, by rw [b1, if_neg (by decide)]; exact b3, ⟨d0, M, A⟩, Or.inl ⟨q5, ⟨by rw [b1]; decide, by rw [b1]; decide⟩, ⟨CF_e6 C', U'⟩, b2.trans b1.symm, sm_m21 b5, Or.inl ⟨b1, d', b4, b5, b6⟩⟩⟩
    · exact ⟨e', σ', r, d, u1, u2, ⟨C', U'⟩, K, by rw [b1, if_neg (by decide)]; exact b3, ⟨d0, M, A⟩, Or.inl ⟨q5, ⟨by rw [b1]; decide, by rw [b1]; decide⟩, ⟨CF_e6 C', U'⟩, b2.trans b1.symm, b5, Or.inr (Or.inl ⟨b1, b4⟩)⟩⟩
    · exact ⟨e', σ', r, d, u1, u2, ⟨C', U'⟩, K, by rw [b1, if_pos rfl]; exact b4, ⟨d0, M, A⟩, Or.inl ⟨q5, ⟨by rw [b1]; decide, by rw [b1]; decide⟩, ⟨CF_e6 C', U'⟩, b2.trans b1.symm, sm_m21 b6.1, Or.inr (Or.inr (Or.inl ⟨b1, b3⟩))⟩⟩
    · exact ⟨e', σ', r, d, u1, u2, ⟨C', U'⟩, K, by rw [b1, if_neg (by decide)]; exact b3, ⟨d0, M, A⟩, Or.inl ⟨q5, ⟨by rw [b1]; decide, by rw [b1]; decide⟩, ⟨CF_e6 C', U'⟩, b2.trans b1.symm, sm_m21 b6.1, Or.inr (Or.inr (Or.inr b1))⟩⟩
  · have r45 : r = 4 ∨ r = 5 := q.1.elim (fun y => Or.inl y.1) (fun y => Or.inr y.1)
    refine ⟨e', σ', r, d, u1, u2, ⟨C', U'⟩, K, ?_, ⟨d0, M, A⟩, Or.inr ⟨r45, q, q2, q3, u5 r45⟩⟩
    rw [if_neg (fun y => by rw [y] at r45; exact absurd r45 (by decide))]
    exact q.2.2.1
/-- what was drawn or chosen is taken -/
theorem ps_21 {i : Nat} (C : CE6 nv s w e σ1) (U : CU21 cu e) (d0 : 0 < d) (W : AW6 nv w d e σ1 r) (M : MT6 nv w s d e σ1) (Q : QW21 σ1 σ2) (hi : (i : Int) < (e.1 716).toInt) : ∃ e' σ' r', f5_Ma_settle (Int32.ofNat i) e = .inl (e', ()) ∧ g5_get (Int32.ofNat i) σ2 = (σ', r') ∧ PL21 nv w s cu e' σ' r' ∧ e'.1 714 = e.1 714 ∧ (∀ g, g ≠ 58 → g ≠ 61 → σ'.1 g = σ2.1 g) ∧ (∀ g, g ≠ 57 → g ≠ 59 → g ≠ 60 → σ'.2.2.1 g = σ2.2.2.1 g) ∧ σ'.2.2.2 = σ2.2.2.2 := by
  obtain ⟨_, w711, _, _, ⟨n, n1, n2, n3, n4⟩, t, t1, t2⟩ := W
  have C2 : CE6 nv s w e σ2 := CE_w6 C ⟨⟨fun _ _ => rfl, fun _ _ => rfl, rfl⟩, fun g q => Q.1 g (by omega) (by omega), fun g q => Q.2.1 g (by omega) (by omega) (by omega), Q.2.2⟩
  have M2 : MT6 nv w s d e σ2 := MT_e6 M ⟨⟨rfl, rfl, rfl, rfl, rfl⟩, Q.1 58 (by decide) (by decide), fun g q => Q.2.1 g (by omega) (by omega) (by omega)⟩
  obtain ⟨T, X, Bk, N, Z, na, f, ⟨h1, h2⟩, h3, h4, h5, h6, h7⟩ := id C2
  rw [n2, ofn_i (by omega)] at hi
  obtain ⟨e', σ', r', u1, u2, u3, u4, ⟨u5, u6⟩, u7, u8, u9⟩ := set_6 h1.1.2.2.2 h1.1.2.2.1 h3 M2.1 d0 M2.2 w711 n1 (show i < n by omega) n2 (fun k hk => by rw [Q.2.1 64 (by decide) (by decide) (by decide), Q.2.1 65 (by decide) (by decide) (by decide)]; exact n4 k hk) t1 (by rw [Q.1 67 (by decide) (by decide)]; exact t2)
  have C3 : CE6 nv s w e' σ' := CE_w6 C2 (FMw_6 u3)
  exact ⟨e', σ', r', u1, u2, pl_o21 (CF_e6 C3) (cu_m21 U u3) u4 u9, u5 714 (Or.inr (Or.inl (by decide))), u7, u8, u3.2.2.2⟩
/-- a told draw that there is not -/
theorem pf_21 (C : CE6 nv s w e σ1) (U : CU21 cu e) (M : MT6 nv w s d e σ1) (Q : QW21 σ1 σ2) : PL21 nv w s cu (fl6 711 2 (fl6 713 6 e)) (siU σ2 61 6) 2 := by
  have C2 : CE6 nv s w e σ2 := CE_w6 C ⟨⟨fun _ _ => rfl, fun _ _ => rfl, rfl⟩, fun g q => Q.1 g (by omega) (by omega), fun g q => Q.2.1 g (by omega) (by omega) (by omega), Q.2.2⟩
  have F : FM6 e (fl6 711 2 (fl6 713 6 e)) σ2 (siU σ2 61 6) := ⟨⟨fun g q => (fl_o6 (show g ≠ 711 by omega)).trans (fl_o6 (show g ≠ 713 by omega)), fun _ _ => rfl, rfl⟩, fun g q => by rw [si1, if_neg (by omega)], fun _ _ => rfl, rfl⟩
  refine ⟨⟨CF_e6 (CE_w6 C2 (FMw_6 F)), cu_m21 U F⟩, fl_s6, fun i hi => ?_, Or.inr (Or.inr (Or.inl ⟨rfl, ?_⟩))⟩
  · show e.2.1 701 i = σ2.2.2.1 57 i
    rw [Q.2.1 57 (by decide) (by decide) (by decide)]
    exact sm_m21 M.1 i hi
  · rw [fl_o6 (by decide), fl_s6, si1, if_pos rfl]
end
/-! ways by numbers -/
theorem ws_e21 {w w' : Nat → Int32} : ∀ {n : Nat}, (∀ i, i < n → w i = w' i) → wsum w n = wsum w' n
  | 0, _ => rfl
  | n + 1, h => by
    show wsum w n + (w n).toInt = wsum w' n + (w' n).toInt
    rw [ws_e21 (fun i hi => h i (by omega)), h n (by omega)]
theorem fw_u21 {w : Nat → Int32} {n i j : Nat} {r : Int} (hw : ∀ i, i < n → 0 ≤ (w i).toInt) (h : fw21 w n r i) (k : fw21 w n r j) : i = j := by
  obtain ⟨a1, a2, a3⟩ := h
  obtain ⟨b1, b2, b3⟩ := k
  rcases Nat.lt_trichotomy i j with c | c | c
  · have m := wsum_mono (r := w) (m := i + 1) (n := j) (fun k hk => hw k (by omega)) (by omega)
    omega
  · exact c
  · have m := wsum_mono (r := w) (m := j + 1) (n := i) (fun k hk => hw k (by omega)) (by omega)
    omega
theorem fw_e21 {w w' : Nat → Int32} {n i : Nat} {r : Int} (h : ∀ i, i < n → w i = w' i) (k : fw21 w n r i) : fw21 w' n r i := by
  obtain ⟨a1, a2, a3⟩ := k
  refine ⟨a1, ?_, ?_⟩
  · rw [← ws_e21 (fun j hj => h j (by omega))]; exact a2
  · rw [← ws_e21 (n := i + 1) (fun j hj => h j (by omega))]; exact a3
/-! a state looked up -/
def FD21 (κ : zS) (h : Nat) (K : Nat → Int32) (L v : Int32) : Prop := (v = -1 ∧ (zI κ hoTotal h).toInt = 0) ∨ ∃ j, j < 2048 ∧ hkW9 κ h 2048 K L j ∧ ((v = -1 ∧ zA κ (zR κ hoTable h) (hs9 2048 K L j).toNatClampNeg = 0) ∨ (0 ≤ v.toInt ∧ v.toInt < (zI κ hoTotal h).toInt ∧ hk9 κ h K L.toInt v.toNatClampNeg ∧ (zA κ (zR κ hoTable h) (hs9 2048 K L j).toNatClampNeg).toInt = v.toInt + 1))
theorem fnd_21 {κ : zS} {h w s n d : Nat} {K : Nat → Int32} {v : Int32} {σ : rS} (S : SH6 κ h w s n σ) (KS : KS6 w s d (σ.2.2.1 30) K (key6 d σ)) (h58 : σ.1 58 = Int32.ofNat d) (h70 : σ.1 70 = Int32.ofNat n) (HT : HT6 n σ) (P : FD21 κ h K (Int32.ofNat (w + 9 * d)) v) : ∃ τ, g5_stateNow σ = (τ, v) ∧ OR6 84 σ τ ∧ (v = -1 ∨ ∃ g, v = Int32.ofNat g ∧ g < n ∧ KQ6 σ g (key6 d σ)) := by
  obtain ⟨S1, S2, S3, S4⟩ := S
  have d12 := KS.1.2.1
  have d0 := KS.1.1
  have w34 := KS.1.2.2.1
  obtain ⟨τ1, a1, a2, a3⟩ := pack_6 d12 h58
  have h70' : τ1.1 70 = Int32.ofNat n := by rw [a2.1]; exact h70
  have HT1 : HT6 n τ1 := fun j hj => by
    rw [a2.2.2.1 74 (by decide), a2.2.2.1 73 (by decide)]
    exact HT j hj
  have eh : hh6 (τ1.2.2.1 84) 143 = hh6 (key6 d σ) 143 := hh_e6 a3
  have kq : ∀ j, KQ6 τ1 j (τ1.2.2.1 84) ↔ KQ6 σ j (key6 d σ) := fun j => KQ_o6 (a2.2.2.1 73 (by decide)) a3
  have eN : g5_stateNow σ = g5_stateNow_7 fu5 (hh6 (key6 d σ) 143) 0 τ1 := by
    unfold g5_stateNow
    rw [a1, pm_e5]
  have s7 := sn7_6 (by omega) h70' HT1 n fu5 0 (by omega) (by unfold fu5; omega)
  rw [eh] at s7
  have up : ∀ g, g < n → KQ6 σ g (key6 d σ) → hkS9 κ h 2048 K (Int32.ofNat (w + 9 * d)) g := fun g hg q => by
    obtain ⟨dg, Kg, a, b⟩ := S4 g hg
    obtain ⟨u1, u2⟩ := (KS_e6 a KS).mp q
    rw [u1] at b u2
    exact hkS_e6 (by omega) u2 b
  rcases s7 with ⟨g, _, g2, g3, _, g5⟩ | ⟨g1, g2⟩
  · have g5 : g5_stateNow_7 fu5 (hh6 (key6 d σ) 143) 0 τ1 = (τ1, Int32.ofNat g) := g5
    have g3' := (kq g).mp g3
    obtain ⟨k1, j, j1, j2, j3⟩ := up g g2 g3'
    have ev : v = Int32.ofNat g := by
      rcases P with ⟨_, z⟩ | ⟨j', p1, p2, p3⟩
      · rw [S2, ofn_i (by omega)] at z
        omega
      · rcases Nat.lt_trichotomy j j' with c | c | c
        · exfalso
          have y := (p2 j c).2
          rw [j3, show ((g : Int) + 1 - 1).toNat = g by omega] at y
          exact y k1
        · rw [← c] at p3
          rcases p3 with ⟨_, z⟩ | ⟨v0, _, _, z⟩
          · rw [z, t0i] at j3
            omega
          · refine Int32.toInt_inj.mp ?_
            rw [ofn_i (by omega)]
            omega
        · exfalso
          have y := j2 j' c
          rcases p3 with ⟨_, z⟩ | ⟨v0, v1, v2, z⟩
          · exact y.1 z
          · have y2 := y.2
            have kv := cnk v0
            rw [z, show (v.toInt + 1 - 1).toNat = v.toNatClampNeg by omega] at y2
            exact y2 v2
    exact ⟨τ1, by rw [eN, ev]; exact g5, a2, Or.inr ⟨g, ev, g2, g3'⟩⟩
  · have g2 : g5_stateNow_7 fu5 (hh6 (key6 d σ) 143) 0 τ1 = (τ1, -1) := g2
    have ev : v = -1 := by
      rcases P with ⟨z, _⟩ | ⟨j', p1, p2, ⟨z, _⟩ | ⟨v0, v1, v2, _⟩⟩
      · exact z
      · exact z
      · exfalso
        have kv := cnk v0
        rw [S2, ofn_i (by omega)] at v1
        obtain ⟨dg, Kg, a, b⟩ := S4 v.toNatClampNeg (by omega)
        have dg12 := a.1.2.1
        obtain ⟨u1, u2⟩ := hk_u6 (by omega) (by omega) b.1 v2
        exact g1 v.toNatClampNeg (Nat.zero_le _) (by omega) ((kq _).mpr ((KS_e6 a KS).mpr ⟨by omega, u2⟩))
    exact ⟨τ1, by rw [eN, ev]; exact g2, a2, Or.inl ev⟩
/-! as many ways as nexts -/
theorem k5_21 {T : T5} {Bk nv na j z : Nat} {e : E5} {r30 r31 r32 r39 : Nat → Int32} (h : stm6 T Bk nv na e r30 r31 r32 r39 j z) : r30 j = 5 ↔ e.2.1 506 (11 * j) = 5 := by
  obtain ⟨b, x, pc, _, _, _, _, _, _, h7⟩ := h
  rcases h7 with ⟨q1, q2, _⟩ | ⟨_, _, _, ⟨q1, q2, _⟩ | ⟨q1, q2, _⟩ | ⟨q1, q2, _⟩ | ⟨q1, q2, _⟩ | ⟨q1, q2, _⟩⟩ | ⟨q1, q2, _⟩ | ⟨q1, q2, _⟩
  · rw [q1, q2]; decide
  · rw [q1, q2]; decide
  · rw [q1, q2]; decide
  · rw [q1, q2]; decide
  · rw [q1, q2]
  · rw [q1, q2]
  · rw [q1, q2]
  · rw [q2]
/-- a state that chooses has no more nexts than ways, whenever a run comes to it -/
def TW21 (nv s w : Nat) (cu : E5) (σ : rS) : Prop := ∀ k, k < (σ.1 70).toNatClampNeg → σ.2.2.1 81 k ≠ 0 → ∃ σo, CR7 nv s w cu σo ∧ (∀ i, i < 143 → σo.2.2.1 73 (143 * k + i) = σ.2.2.1 73 (143 * k + i)) ∧ ∃ σ5, g5_act (g5_unpack (Int32.ofNat k) σo) = (σ5, 5) ∧ (σ.2.2.1 76 (k + 1)).toInt - (σ.2.2.1 76 k).toInt ≤ (σ5.1 63).toInt
theorem wb_21 {nv s w d k : Nat} {cu e e' : E5} {σ σ9 : rS} (P : CF6 nv s w e σ) (U : CU21 cu e) (h711 : e.1 711 = 0) (d0 : 0 < d) (M : MT6 nv w s d e σ) (TW : TW21 nv s w cu σ9) (n1 : (σ9.1 70).toNatClampNeg ≤ 1000) (hk : k < (σ9.1 70).toNatClampNeg) (h81 : σ9.2.2.1 81 k ≠ 0) (h73 : σ.2.2.1 73 = σ9.2.2.1 73) (KQ : KQ6 σ k (key6 d σ)) (z : f5_Ma_act e = .inl (e', ())) : (σ9.2.2.1 76 (k + 1)).toInt - (σ9.2.2.1 76 k).toInt ≤ (e'.1 716).toInt := by
  obtain ⟨σo, c7, h73o, σ5, g5, le⟩ := TW k hk h81
  obtain ⟨T, X, Bk, N, Z, na, f, ⟨h1, h2⟩, h3, h4, h5, ⟨h6, h7, h8, h9⟩, h10, h11, h12⟩ := id P
  obtain ⟨T', X', Bk', N', Z', na', f', ⟨i1, i2⟩, i3, i4, i5, ⟨i6, i7, i8⟩, i9, i10, i11⟩ := CR_76 c7 U.1 U.2 ⟨h10, h11, h12⟩
  obtain ⟨MB, AT⟩ := M
  have KS := KS_m6 MB d0 AT
  have est : s ≤ 150 := h3.1.2.2.2.1.2
  have q5 : ∀ j, j < s → σ.2.2.1 30 j = 5 → σo.2.2.1 30 j = 5 := fun j hj q => by
    obtain ⟨z1, _, y1⟩ := h3.2.2.1 j hj
    obtain ⟨z2, _, y2⟩ := i3.2.2.1 j hj
    exact (k5_21 y2).mpr ((k5_21 y1).mp q)
  have KS2 : KS6 w s d (σo.2.2.1 30) (e.2.1 701) (fun i => σo.2.2.1 73 (143 * k + i)) := by
    have y := KS_q6 (q' := fun i => σo.2.2.1 73 (143 * k + i)) KS (fun i hi => by
      show σo.2.2.1 73 (143 * k + i) = _
      rw [h73o i hi, ← h73]
      exact KQ i hi)
    obtain ⟨y1, y2, y3, y4, y5, y6, y7, y8⟩ := y
    refine ⟨y1, y2, y3, y4, y5, y6, fun c hc => ?_, y8⟩
    obtain ⟨j, j1, j2, j3⟩ := y7 c hc
    exact ⟨j, j1, j2, q5 j j1 j3⟩
  obtain ⟨τ, t1, t2, t3, t4, t5, t6⟩ := KS_l6 (by omega) h7 KS2 MB.1.1 MB.2.1.1 MB.2.1.2.2.2.1 MB.2.1.2.2.2.2 (fun i _ => rfl)
  have FW : FMw6 e e (siU σo 11 0) (siU τ 11 0) := ⟨⟨fun _ _ => rfl, fun _ _ => rfl, rfl⟩, fun g q => by
    rw [si1, si1]
    by_cases c : g = 11
    · rw [if_pos c, if_pos c]
    · rw [if_neg c, if_neg c]
      exact t4 g (by omega), fun g q => t5 g (by omega) (by omega) (by omega), t6⟩
  have F2 := FN_w6 i3 FW
  have sx : sx5 (siU τ 11 0) = X' := by
    rw [← i4]
    unfold sx5
    show (τ.2.2.1 5, τ.2.2.1 6, τ.2.2.1 7, τ.2.2.1 9, τ.2.2.2 8) = _
    rw [t5 5 (by decide) (by decide) (by decide), t5 6 (by decide) (by decide) (by decide), t5 7 (by decide) (by decide) (by decide), t5 9 (by decide) (by decide) (by decide), t6]
  obtain ⟨e2, σ2, r, u1, u2, u3, u4, u5⟩ := act_6 (σ := siU τ 11 0) i1 i2 F2 (MB_116 t2) d0 (show AT6 w s d e (siU τ 11 0) from t3) i8 h711 h10 h11 sx (fun j hj => by
    show ∃ n, n ≤ 4 ∧ τ.2.2.1 26 j = Int32.ofNat n
    rw [t5 26 (by decide) (by decide) (by decide)]
    exact i5 j hj)
  rw [act_116, ← t1, g5] at u2
  have e1 : σ5 = σ2 := congrArg Prod.fst u2
  have e3 : r = 5 := (congrArg Prod.snd u2).symm
  have e4 : e2 = e' := congrArg Prod.fst (Sum.inl.inj (u1.symm.trans z))
  rcases u4 with ⟨_, q⟩ | ⟨⟨_, _, _, _, ⟨n, n1, n2, n3, _⟩, _⟩, _⟩
  · exact absurd (Or.inr e3) (AE_r6 q)
  · rw [e4] at n2
    rw [n2, ← n3, ← e1]
    exact le
/-! the statements of a play, along its trace -/
def TRF21 (a : Int32) (σ9 : rS) (N : Nat) (tr : Nat → rS × Int32) (v : Int32) : Prop := (∃ σ0 r0, BG21 σ9 σ0 r0 ∧ TR21 a σ0 r0 N tr) ∧ FI21 a (tr N).1 v (tr N).2
def KT21 (σ9 σ : rS) : Prop := (∀ g, g = 69 ∨ g = 70 ∨ g = 104 ∨ g = 113 → σ.1 g = σ9.1 g) ∧ ∀ g, g = 30 ∨ g = 73 ∨ g = 74 ∨ g = 76 ∨ g = 81 ∨ g = 83 ∨ g = 105 → σ.2.2.1 g = σ9.2.2.1 g
def AL21 (nv w s : Nat) (cu : E5) (σ9 : rS) (e : E5) (x : Int64) (n dr : Int32) (gn : Int64) (p : rS × Int32) : Prop := PL21 nv w s cu e p.1 p.2 ∧ (p.1.1 108 = n ∧ p.1.1 109 = dr ∧ p.1.2.1 110 = gn ∧ (σ9.1 113 ≠ 0 → p.1.2.1 112 = x)) ∧ KT21 σ9 p.1
def WB21 (σ9 : rS) (e : E5) (σ1 : rS) (d : Nat) : Prop := ∀ k, k < (σ9.1 70).toNatClampNeg → KQ6 σ1 k (key6 d σ1) → σ9.2.2.1 81 k ≠ 0 → (σ9.2.2.1 76 (k + 1)).toInt - (σ9.2.2.1 76 k).toInt ≤ (e.1 716).toInt
def MW21 (nv w s : Nat) (cu : E5) (σ9 : rS) (e : E5) (x : Int64) (n dr : Int32) (gn : Int64) (r : Int32) (p : rS × Int32) : Prop := ∃ σ1 d, 0 < d ∧ (CE6 nv s w e σ1 ∧ CU21 cu e) ∧ AW6 nv w d e σ1 r ∧ e.1 714 = 0 ∧ MT6 nv w s d e σ1 ∧ acQ r σ1 ∧ KT21 σ9 σ1 ∧ (σ1.1 108 = n ∧ σ1.1 109 = dr ∧ σ1.2.1 110 = gn ∧ (σ9.1 113 ≠ 0 → σ1.2.1 112 = x)) ∧ (r = 4 → DS21 (ac21 σ1 r) p.1 p.2) ∧ (r = 5 → CS21 (ac21 σ1 r) p.1 p.2 ∧ ∀ k, p.1.2.1 k = (ac21 σ1 r).2.1 k) ∧ (σ9.1 69 ≠ 0 → WB21 σ9 e σ1 d)
theorem kt_f21 {σ9 σ σ' : rS} (h : KT21 σ9 σ) (hf : ∀ g, g = 69 ∨ g = 70 ∨ g = 104 ∨ g = 113 → σ'.1 g = σ.1 g) (hr : ∀ g, g = 30 ∨ g = 73 ∨ g = 74 ∨ g = 76 ∨ g = 81 ∨ g = 83 ∨ g = 105 → σ'.2.2.1 g = σ.2.2.1 g) : KT21 σ9 σ' := ⟨fun g q => (hf g q).trans (h.1 g q), fun g q => (hr g q).trans (h.2 g q)⟩
section
variable {nv s w k N : Nat} {cu e e' : E5} {σ9 : rS} {a n dr v : Int32} {x gn : Int64} {tr : Nat → rS × Int32} {p : rS × Int32}
theorem it_21 (F : TRF21 a σ9 N tr v) (kN : k ≤ N) (h0 : (tr k).2 = 0) (h8 : (tr k).1.1 108 = n) (na : n ≠ a) : k + 1 ≤ N ∧ SP21 (tr k).1 (tr (k + 1)).1 (tr (k + 1)).2 := by
  obtain ⟨⟨σ0, r0, _, _, t1⟩, fi⟩ := F
  by_cases c : k = N
  · exfalso
    rw [← c, h0] at fi
    rcases fi with ⟨q, _⟩ | ⟨_, q, _⟩ | ⟨q, _⟩
    · exact absurd q (by decide)
    · exact na (h8.symm.trans q)
    · exact q rfl
  · have z := t1 k (by omega)
    exact ⟨by omega, z.2.2⟩
/-- a statement of both sides -/
theorem ia_21 (F : TRF21 a σ9 N tr v) (kN : k ≤ N) (A : AL21 nv w s cu σ9 e x n dr gn (tr k)) (h0 : e.1 711 = 0) (na : n ≠ a) (z : f5_Ma_act e = .inl (e', ())) (n1 : (σ9.1 70).toNatClampNeg ≤ 1000) (TW : σ9.1 69 ≠ 0 → TW21 nv s w cu σ9) : k + 1 ≤ N ∧ ((e'.1 715 = -1 ∧ AL21 nv w s cu σ9 e' x (n + 1) dr (gn + (e'.1 714).toInt64) (tr (k + 1))) ∨ (e'.1 715 = 3 ∧ MW21 nv w s cu σ9 e' x n dr gn 4 (tr (k + 1))) ∨ (e'.1 715 = 4 ∧ MW21 nv w s cu σ9 e' x n dr gn 5 (tr (k + 1)))) := by
  obtain ⟨P, ⟨b1, b2, b3, b4⟩, K⟩ := A
  have t0 : (tr k).2 = 0 := P.2.1.symm.trans h0
  obtain ⟨kN1, σs, rs, s1, s2, s3, s4⟩ := it_21 F kN t0 b1 na
  rw [t0] at P
  obtain ⟨e2, σ1, r, d, u1, u2, ⟨C, U⟩, KF, u714, ⟨d0, M⟩, u5⟩ := pa_21 P
  have ee : e2 = e' := congrArg Prod.fst (Sum.inl.inj (u1.symm.trans z))
  have es : σs = σ1 := congrArg Prod.fst (s1.symm.trans u2)
  have er : rs = r := congrArg Prod.snd (s1.symm.trans u2)
  rw [ee] at C U u714 u5
  rw [es, er] at s2 s4
  rw [es] at s3
  have K1 : KT21 σ9 σ1 := kt_f21 K (fun g q => KF.1 g (by omega)) (fun g q => KF.2.1 g (by omega))
  have f108 : σ1.1 108 = n := (KF.1 108 (by omega)).trans b1
  have f109 : σ1.1 109 = dr := (KF.1 109 (by omega)).trans b2
  have f110 : σ1.2.1 110 = gn := (s3 110).trans b3
  have f112 : σ9.1 113 ≠ 0 → σ1.2.1 112 = x := fun q => (s3 112).trans (b4 q)
  refine ⟨kN1, ?_⟩
  rcases u5 with ⟨q1, ⟨q2, q3⟩, q4⟩ | ⟨q1, q2, q3, q4, q5⟩
  · left
    refine ⟨q1, ?_⟩
    obtain ⟨y1, y2⟩ : (tr (k + 1)).1 = ac21 σ1 r ∧ (tr (k + 1)).2 = r := by
      rcases s4 with ⟨y, _⟩ | ⟨y, _⟩ | ⟨_, _, y⟩
      · exact absurd y q2
      · exact absurd y q3
      · exact y
    obtain ⟨⟨p1, p2⟩, p3, p4, p5⟩ := q4
    have hfl : ∀ g, g ≠ 108 → (ac21 σ1 r).1 g = σ1.1 g := fun g q => by
      unfold ac21
      show (siU σ1 108 (σ1.1 108 + 1)).1 g = _
      rw [si1, if_neg q]
    unfold AL21
    rw [y1, y2]
    refine ⟨⟨⟨CF_w6 p1 ⟨⟨fun _ _ => rfl, fun _ _ => rfl, rfl⟩, fun g q => hfl g (by omega), fun _ _ => rfl, rfl⟩, p2⟩, p3, p4, ?_⟩, ⟨?_, (hfl 109 (by decide)).trans f109, ?_, fun q => f112 q⟩, kt_f21 K1 (fun g q => hfl g (by omega)) (fun _ _ => rfl)⟩
    · rcases p5 with ⟨c1, d', c2, c3⟩ | ⟨c1, c2⟩ | ⟨c1, c2⟩ | c1
      · exact Or.inl ⟨c1, d', c2, MT_e6 c3 ⟨⟨rfl, rfl, rfl, rfl, rfl⟩, hfl 58 (by decide), fun _ _ => rfl⟩⟩
      · exact Or.inr (Or.inl ⟨c1, c2.trans (hfl 61 (by decide)).symm⟩)
      · exact Or.inr (Or.inr (Or.inl ⟨c1, c2.trans (hfl 61 (by decide)).symm⟩))
      · exact Or.inr (Or.inr (Or.inr c1))
    · show (siU σ1 108 (σ1.1 108 + 1)).1 108 = _
      rw [si1, if_pos rfl, f108]
    · show σ1.2.1 110 + (if r = 2 then 0 else (σ1.1 62).toInt64) = _
      rw [f110, u714]
      by_cases c : r = 2
      · rw [if_pos c, if_pos c]; rfl
      · rw [if_neg c, if_neg c]
  · have key : key6 d σ1 = key6 d (tr k).1 := key_o6 (q5.2.2 57 (by omega)) (q5.2.2 59 (by omega)) (q5.2.2 60 (by omega))
    have WB : σ9.1 69 ≠ 0 → WB21 σ9 e' σ1 d := fun y j hj hq h81 => by
      rw [key] at hq
      refine wb_21 P.1.1 P.1.2 h0 d0 M (TW y) n1 hj h81 (K.2 73 (by omega)) (fun i hi => ?_) z
      rw [← KF.2.1 73 (by omega)]
      exact hq i hi
    right
    rcases q2.1 with ⟨y, y2⟩ | ⟨y, y2⟩
    · left
      rw [y] at q2 s2 s4
      refine ⟨y2, σ1, d, d0, ⟨C, U⟩, q2, q3, q4, s2, K1, ⟨f108, f109, f110, f112⟩, fun _ => ?_, fun c => absurd c (by decide), WB⟩
      rcases s4 with ⟨_, c⟩ | ⟨c, _⟩ | ⟨c, _⟩
      · exact c
      · exact absurd c (by decide)
      · exact absurd rfl c
    · right
      rw [y] at q2 s2 s4
      refine ⟨y2, σ1, d, d0, ⟨C, U⟩, q2, q3, q4, s2, K1, ⟨f108, f109, f110, f112⟩, fun c => absurd c (by decide), fun _ => ?_, WB⟩
      rcases s4 with ⟨c, _⟩ | ⟨_, c⟩ | ⟨_, c, _⟩
      · exact absurd c (by decide)
      · exact c
      · exact absurd rfl c
/-- the counters behind a draw or a choice -/
theorem qw_a21 {σ1 : rS} {r : Int32} : QW21 σ1 (ac21 σ1 r) := ⟨fun g q _ => by
  show (siU σ1 108 (σ1.1 108 + 1)).1 g = _
  rw [si1, if_neg q], fun _ _ _ _ => rfl, rfl⟩
theorem qw_t21 {a b c : rS} (h : QW21 a b) (g : QW21 b c) : QW21 a c := ⟨fun k x y => (g.1 k x y).trans (h.1 k x y), fun k x y z => (g.2.1 k x y z).trans (h.2.1 k x y z), g.2.2.trans h.2.2⟩
theorem ac_g21 {σ1 : rS} {r : Int32} (h : (σ1.1 62) = 0) : (ac21 σ1 r).2.1 110 = σ1.2.1 110 := by
  show σ1.2.1 110 + (if r = 2 then 0 else (σ1.1 62).toInt64) = _
  rw [h]
  have z : (if r = 2 then (0 : Int64) else (0 : Int32).toInt64) = 0 := by
    by_cases c : r = 2
    · rw [if_pos c]
    · rw [if_neg c]; rfl
  rw [z]
  exact Int64.add_zero _
end

end
section
set_option maxHeartbeats 1600000
/-! the class: a row looked up, a way drawn -/
theorem Ho_find_c2 {C : zC} {n0 : Nat} {a0 : Nat} {a1 : Nat} {a2 : Int32} {κ : zS} {Q : Int32 → zS → Prop} (W : zW C n0 κ) (Ta0 : zT κ a0 = 6) (Ta1 : zT κ a1 = 20) (M D S : Nat) (hp : hoI κ a0 M D S ∧ hoP M D S ∧ hoU9 κ a0 S ∧ 0 ≤ a2.toInt ∧ a2.toInt ≤ zN κ a1) (h : ∀ (v : Int32), ((v = -1 ∧ (zI κ hoTotal a0).toInt = 0) ∨ ∃ j, j < S ∧ hkW9 κ a0 S (zA κ a1) a2 j ∧ ((v = -1 ∧ zA κ (zR κ hoTable a0) (hs9 S (zA κ a1) a2 j).toNatClampNeg = 0) ∨ (0 ≤ v.toInt ∧ v.toInt < (zI κ hoTotal a0).toInt ∧ hk9 κ a0 (zA κ a1) a2.toInt v.toNatClampNeg ∧ (zA κ (zR κ hoTable a0) (hs9 S (zA κ a1) a2 j).toNatClampNeg).toInt = v.toInt + 1))) → Q v κ) : zRun C 2 mHo_find [.ref a0, .ref a1, .int a2] κ (oI Q noX) := by
  refine Ho_find_run W Ta0 Ta1 ?_
  replace W := W.lo (Nat.le_trans W.1.2.1 W.1.2.2) (Nat.le_refl (zn κ))
  unfold w_Ho_find_0
  obtain ⟨H, P, U, h0, hl⟩ := hp
  have B := hoP_b P
  have tN := W.n (ty_hoTable W Ta0)
  have nN := W.n Ta1
  refine ⟨fun c1 => ?_, fun c1 => ?_⟩
  · skip
    refine h _ ?_
    · left
      refine ⟨rfl, ?_⟩
      rcases H.2.2.2 with z | z
      · exact z.2.2
      · have e : zN κ (zR κ hoTable a0) = S := z.1
        rw [e] at c1
        have y := congrArg Int32.toInt c1
        rw [ofn_i (by omega), t0i] at y
        omega
  · skip
    have A := hoI_A H (Or.inr (fun e => c1 (by have e9 : zN κ (zR κ hoTable a0) = 0 := e; rw [e9]; rfl)))
    refine ⟨fun c2 => ?_, fun c2 => ?_⟩
    · skip
      intro T3
      intro T4
      refine Ho_slotOf_c2 W T3 T4 M D S ?_ (fun r5 q7 => ?_)
      · exact ⟨A, P, H.2.1.1, H.2.1.2, H.2.2.1.2, hl, U, h0⟩  -- p2
      intro W8
      intro M9
      refine ⟨?_, ?_⟩
      · rw [inb_iff, show zN κ (zR κ hoTable a0) = S from A.1]; exact q7.1  -- b3
      refine h _ ?_
      · obtain ⟨⟨y0, y1⟩, j, j1, j2, j3, j4⟩ := q7
        have z := A.2.2.2.2.2 r5.toNatClampNeg (by have := cnk y0; omega)
        have tM := H.2.1.2
        have e : (zA κ (zR κ hoTable a0) r5.toNatClampNeg - 1).toInt = (zA κ (zR κ hoTable a0) r5.toNatClampNeg).toInt - 1 := by rw [sub_i (by rw [t1i]; omega) (by rw [t1i]; omega), t1i]
        right
        refine ⟨j, j1, j3, ?_⟩
        rw [← j2]
        by_cases c : zA κ (zR κ hoTable a0) r5.toNatClampNeg = 0
        · left
          refine ⟨?_, c⟩
          rw [c]
          rfl
        · right
          have n : (zA κ (zR κ hoTable a0) r5.toNatClampNeg).toInt ≠ 0 := fun q => c (Int32.toInt_inj.mp q)
          have k9 := cnk (x := zA κ (zR κ hoTable a0) r5.toNatClampNeg - 1) (by rw [e]; omega)
          have nn : (zA κ (zR κ hoTable a0) r5.toNatClampNeg - 1).toNatClampNeg = ((zA κ (zR κ hoTable a0) r5.toNatClampNeg).toInt - 1).toNat := by omega
          refine ⟨by rw [e]; omega, by rw [e]; omega, ?_, by rw [e]; omega⟩
          rw [nn]
          exact j4.resolve_left c
    · skip
      refine h _ ?_
      · rw [lei, ofn_i nN] at c2
        omega

theorem At_chosen_c2 {C : zC} {n0 : Nat} {a0 : Nat} {a1 : Nat} {κ : zS} {Q : Int32 → zS → Prop} (W : zW C n0 κ) (Ta0 : zT κ a0 = 3) (Ta1 : zT κ a1 = 7)  (hp : atH κ a0 ∧ (zI κ atExplored a0 ≠ 0 → atM κ a0) ∧ (zI κ atExplored a0 ≠ 0 → hoU9 κ (zR κ atStates a0) 2048 ∧ 0 ≤ (zI κ maShared a1 + zI κ maOpen a1 * 9).toInt ∧ (zI κ maShared a1 + zI κ maOpen a1 * 9).toInt ≤ zN κ (zR κ maMemory a1))) (h : ∀ (v : Int32), ((zI κ atExplored a0 = 0 → v = 0) ∧ (zI κ atExplored a0 ≠ 0 → ∃ k, FD21 κ (zR κ atStates a0) (zA κ (zR κ maMemory a1)) (zI κ maShared a1 + zI κ maOpen a1 * 9) k ∧ v = (if k = -1 then 0 else if zI κ maWays a1 ≤ zA κ (zR κ atPlan a0) k.toNatClampNeg then 0 else zA κ (zR κ atPlan a0) k.toNatClampNeg))) → Q v κ) : zRun C 3 mAt_chosen [.ref a0, .ref a1] κ (oI Q noX) := by
  refine At_chosen_run W Ta0 Ta1 ?_
  replace W := W.lo (Nat.le_trans W.1.2.1 W.1.2.2) (Nat.le_refl (zn κ))
  unfold w_At_chosen_0
  obtain ⟨h1, h2, h3⟩ := hp
  have tT := h1.1.2.1.2
  have hj26 : ∀ (l0 : Nat) (l1 : Nat) (s0 : Int32) (τ : zS), zW C (zn κ) τ → zT τ l0 = 3 → zT τ l1 = 7 → (κ = τ ∧ a0 = l0 ∧ a1 = l1 ∧ (zI κ atExplored a0 = 0 → s0 = -1) ∧ (zI κ atExplored a0 ≠ 0 → FD21 κ (zR κ atStates a0) (zA κ (zR κ maMemory a1)) (zI κ maShared a1 + zI κ maOpen a1 * 9) s0)) → w_At_chosen_26 C (zn κ) Q  l0 l1 s0 τ := by
    rintro _ _ y26_s0 _ W26 T26_0 T26_1 ⟨rfl, rfl, rfl, j26⟩
    unfold w_At_chosen_26
    refine ⟨fun c1 => ?_, fun c1 => ?_⟩
    · skip
      refine h _ ?_
      · exact ⟨fun _ => rfl, fun z => ⟨y26_s0, j26.2 z, by rw [if_pos c1]⟩⟩  -- q1
    · skip
      have ex : zI κ atExplored a0 ≠ 0 := fun z => c1 (j26.1 z)
      have fd := j26.2 ex
      have bd : 0 ≤ y26_s0.toInt ∧ y26_s0.toInt < 1000 := by
        rcases fd with ⟨z, _⟩ | ⟨j, _, _, ⟨z, _⟩ | ⟨v0, v1, _⟩⟩
        · exact absurd z c1
        · exact absurd z c1
        · exact ⟨v0, by omega⟩
      have L := (h2 ex).2.2.2.1
      refine ⟨?_, ?_⟩
      · rw [inb_iff]; omega  -- b2
      refine ⟨fun c2 => ?_, fun c2 => ?_⟩
      · skip
        refine h _ ?_
        · exact ⟨fun z => absurd z ex, fun _ => ⟨y26_s0, fd, by rw [if_neg c1, if_pos c2]⟩⟩  -- q3
      · skip
        refine ⟨?_, ?_⟩
        · rw [inb_iff]; omega  -- b4
        refine h _ ?_
        · exact ⟨fun z => absurd z ex, fun _ => ⟨y26_s0, fd, by rw [if_neg c1, if_neg c2]⟩⟩  -- q5
  refine ⟨fun c3 => ?_, fun c3 => ?_⟩
  · skip
    refine hj26 _ _ _ _ W ?_ ?_ ?_
    · exact Ta0  -- t6
    · exact Ta1  -- t7
    · exact ⟨rfl, rfl, rfl, fun _ => rfl, fun z => absurd c3 z⟩  -- k8
  · skip
    intro T4
    refine Ma_length_c W T4  (fun r5 q7 => ?_)
    intro W8
    intro M9
    intro T10
    intro T11
    refine Ho_find_c2 W8 T10 T11 1000 142 2048 ?_ (fun r12 q14 => ?_)
    · have y := h3 c3
      rw [q7]
      exact ⟨h1.1, hP1, y.1, y.2⟩
    intro W15
    intro M16
    refine hj26 _ _ _ _ W15 ?_ ?_ ?_
    · exact Ta0  -- t10
    · exact Ta1  -- t11
    · refine ⟨rfl, rfl, rfl, fun z => absurd z c3, fun _ => ?_⟩
      rw [← q7]
      exact q14

theorem Ma_wayAt_c2 {C : zC} {n0 : Nat} {a0 : Nat} {a1 : Int64} {κ : zS} {Q : Int32 → zS → Prop} (W : zW C n0 κ) (Ta0 : zT κ a0 = 7)  (hp : maL κ a0 ∧ (zI κ maWays a0).toInt ≤ 64 ∧ (0 < (zI κ maTotal a0).toInt ∧ (zI κ maTotal a0).toInt ≤ 8000000) ∧ (0 ≤ a1.toInt ∧ a1.toInt < 2147483648) ∧ (∀ i : Nat, (i : Int) < (zI κ maWays a0).toInt → 0 ≤ (zA κ (zR κ maWeights a0) i).toInt ∧ (zA κ (zR κ maWeights a0) i).toInt ≤ 1000000) ∧ (zI κ maTotal a0).toInt = wsum (zA κ (zR κ maWeights a0)) ((zI κ maWays a0).toInt).toNat) (h : ∀ (v : Int32), (0 ≤ v.toInt ∧ fw21 (zA κ (zR κ maWeights a0)) ((zI κ maWays a0).toInt).toNat (a1.toInt % (zI κ maTotal a0).toInt) v.toNatClampNeg) → Q v κ) : zRun C 0 mMa_wayAt [.ref a0, .long a1] κ (oI Q noX) := by
  refine Ma_wayAt_run W Ta0 ?_
  replace W := W.lo (Nat.le_trans W.1.2.1 W.1.2.2) (Nat.le_refl (zn κ))
  unfold w_Ma_wayAt_0
  obtain ⟨H, p0, ⟨t0, t1⟩, ⟨r0, r1⟩, hw, ht⟩ := hp
  have B := H.2.2.2.2
  have w0 : 0 ≤ (zI κ maWays a0).toInt := by
    by_cases c : 0 ≤ (zI κ maWays a0).toInt
    · exact c
    · have z : ((zI κ maWays a0).toInt).toNat = 0 := by omega
      rw [z] at ht
      have z0 : wsum (zA κ (zR κ maWeights a0)) 0 = 0 := rfl
      omega
  have m0 := Int.emod_nonneg a1.toInt (by omega : (zI κ maTotal a0).toInt ≠ 0)
  have m1 := Int.emod_lt_of_pos a1.toInt t0
  have hm : ∀ m, m ≤ ((zI κ maWays a0).toInt).toNat → 0 ≤ wsum (zA κ (zR κ maWeights a0)) m ∧ wsum (zA κ (zR κ maWeights a0)) m ≤ (zI κ maTotal a0).toInt := fun m q => by
    refine ⟨?_, ?_⟩
    · exact wsum_mono (m := 0) (fun i hi => (hw i (by omega)).1) (Nat.zero_le _)
    · rw [ht]
      exact wsum_mono (fun i hi => (hw i (by omega)).1) q
  have hj18 : ∀ (l0 : Nat) (s0 : Int64) (τ : zS), zW C (zn κ) τ → zT τ l0 = 7 → (κ = τ ∧ a0 = l0 ∧ s0.toInt = a1.toInt % (zI κ maTotal a0).toInt) → w_Ma_wayAt_18 C (zn κ) Q  l0 s0 τ := by
    rintro _ y18_s0 _ W18 T18_0 ⟨rfl, rfl, j18⟩
    unfold w_Ma_wayAt_18
    unfold w_Ma_wayAt_25
    refine ⟨fun n l0 l3 l5 l7 τ => n = ((zI κ maWays a0).toInt - l7.toInt).toNat ∧ (κ = τ ∧ a0 = l0 ∧ 0 ≤ l7.toInt ∧ l7.toInt ≤ (zI κ maWays a0).toInt ∧ l3.toInt = a1.toInt % (zI κ maTotal a0).toInt ∧ l5.toInt = wsum (zA κ (zR κ maWeights a0)) l7.toNatClampNeg ∧ l5.toInt ≤ l3.toInt), ⟨_, rfl, ?_⟩, ?_⟩
    · refine ⟨rfl, rfl, by decide, w0, j18, rfl, ?_⟩
      rw [j18]
      exact m0
    rintro n25 _ x25_3 x25_5 x25_7 _ W25 T25_0 ⟨hn25, rfl, rfl, i25⟩
    obtain ⟨k0, k1, k2, k3, k4⟩ := i25
    have kk := cnk k0
    refine ⟨fun c1 => ?_, fun c1 => ?_⟩
    · skip
      refine h _ ?_
      · rw [lei] at c1
        have e : x25_7.toNatClampNeg = ((zI κ maWays a0).toInt).toNat := by omega
        rw [e, ← ht] at k3
        omega
    · skip
      have d1 : x25_7.toInt < (zI κ maWays a0).toInt := by rw [lei] at c1; omega
      have e1 := inc_i (x := x25_7) (y := zI κ maWays a0) k0 d1
      have wk := hw x25_7.toNatClampNeg (by omega)
      have b5 := hm x25_7.toNatClampNeg (by omega)
      have hs : wsum (zA κ (zR κ maWeights a0)) (x25_7.toNatClampNeg + 1) = wsum (zA κ (zR κ maWeights a0)) x25_7.toNatClampNeg + (zA κ (zR κ maWeights a0) x25_7.toNatClampNeg).toInt := rfl
      have cs : (x25_7 + 1).toNatClampNeg = x25_7.toNatClampNeg + 1 := by have := cnk (x := x25_7 + 1) (by rw [e1]; omega); omega
      refine ⟨?_, ?_⟩
      · rw [inb_iff]; omega  -- b3
      intro x2 hx2
      refine ⟨fun c3 => ?_, fun c3 => ?_⟩
      · skip
        intro x4 hx4
        refine ⟨_, ?_, rfl, ?_⟩
        · rw [hn25, hx4, e1]; omega  -- d4
        · have s2 : x2.toInt = wsum (zA κ (zR κ maWeights a0)) (x25_7.toNatClampNeg + 1) := by
            rw [hx2, hs]
            exact l64_add k3 (Int32.toInt_toInt64 _) b5.1 (by omega) wk.1 (by omega)
          have le := Int64.le_iff_toInt_le.mp ((lg_cmp_le _ _).mp c3)
          exact ⟨rfl, rfl, by rw [hx4, e1]; omega, by rw [hx4, e1]; omega, k2, by rw [hx4, cs]; exact s2, le⟩
      · skip
        refine h _ ?_
        · have s2 : x2.toInt = wsum (zA κ (zR κ maWeights a0)) (x25_7.toNatClampNeg + 1) := by
            rw [hx2, hs]
            exact l64_add k3 (Int32.toInt_toInt64 _) b5.1 (by omega) wk.1 (by omega)
          have le : ¬ x2 ≤ x25_3 := fun z => c3 ((lg_cmp_le _ _).mpr z)
          have lt : x25_3.toInt < x2.toInt := by
            rw [Int64.le_iff_toInt_le] at le
            omega
          exact ⟨k0, by omega, by omega, by omega⟩
  refine ⟨fun c5 => ?_, fun c5 => ?_⟩
  · skip
    refine hj18 _ _ _ W ?_ ?_
    · exact Ta0  -- t7
    · rw [lei, t0i] at c5
      omega
  · skip
    refine ⟨?_, ?_⟩
    · intro e
      have e9 := congrArg Int64.toInt e
      rw [Int32.toInt_toInt64] at e9
      have z9 : (0 : Int64).toInt = 0 := rfl
      rw [z9] at e9
      omega
    refine hj18 _ _ _ W ?_ ?_
    · exact Ta0  -- t10
    · refine ⟨rfl, rfl, ?_⟩
      rw [mod_e21 r0 r1 (by rw [Int32.toInt_toInt64]; exact t0) (by rw [Int32.toInt_toInt64]; exact t1), Int32.toInt_toInt64]

/-- a way drawn, whatever the ways are -/
theorem Ma_wayAt_c3 {C : zC} {n0 : Nat} {a0 : Nat} {a1 : Int64} {κ : zS} {Q : Int32 → zS → Prop} (W : zW C n0 κ) (Ta0 : zT κ a0 = 7)  (hp : maL κ a0 ∧ (zI κ maWays a0).toInt ≤ 64) (h : ∀ (v : Int32), ((0 ≤ v.toInt ∧ (v = 0 ∨ v.toInt < (zI κ maWays a0).toInt)) ∧ (((0 < (zI κ maTotal a0).toInt ∧ (zI κ maTotal a0).toInt ≤ 8000000) ∧ (0 ≤ a1.toInt ∧ a1.toInt < 2147483648) ∧ (∀ i : Nat, (i : Int) < (zI κ maWays a0).toInt → 0 ≤ (zA κ (zR κ maWeights a0) i).toInt ∧ (zA κ (zR κ maWeights a0) i).toInt ≤ 1000000) ∧ (zI κ maTotal a0).toInt = wsum (zA κ (zR κ maWeights a0)) (zI κ maWays a0).toInt.toNat) → 0 ≤ v.toInt ∧ fw21 (zA κ (zR κ maWeights a0)) (zI κ maWays a0).toInt.toNat (a1.toInt % (zI κ maTotal a0).toInt) v.toNatClampNeg)) → Q v κ) : zRun C 0 mMa_wayAt [.ref a0, .long a1] κ (oI Q noX) := by
  by_cases P : ((0 < (zI κ maTotal a0).toInt ∧ (zI κ maTotal a0).toInt ≤ 8000000) ∧ (0 ≤ a1.toInt ∧ a1.toInt < 2147483648) ∧ (∀ i : Nat, (i : Int) < (zI κ maWays a0).toInt → 0 ≤ (zA κ (zR κ maWeights a0) i).toInt ∧ (zA κ (zR κ maWeights a0) i).toInt ≤ 1000000) ∧ (zI κ maTotal a0).toInt = wsum (zA κ (zR κ maWeights a0)) (zI κ maWays a0).toInt.toNat)
  · refine Ma_wayAt_c2 W Ta0 ⟨hp.1, hp.2, P⟩ (fun v q => h v ⟨⟨q.1, Or.inr ?_⟩, fun _ => q⟩)
    have z := q.2.1
    have k := cnk q.1
    omega
  · exact Ma_wayAt_c W Ta0 hp (fun v q => h v ⟨q, fun z => absurd z P⟩)

end
section
set_option maxHeartbeats 1600000
/-! a play, of both sides: choices, draws, its beginning and its end -/
theorem sl_s21 {σ : rS} {k : Nat} {x : Int64} : (slU σ k x).2.1 k = x := if_pos rfl
theorem sl_o21 {σ : rS} {k j : Nat} {x : Int64} (h : j ≠ k) : (slU σ k x).2.1 j = σ.2.1 j := if_neg h
/-- the plan takes nexts that there are -/
def PB21 (σ : rS) : Prop := ∀ k, k < (σ.1 70).toNatClampNeg → (σ.2.2.1 81 k = 0 → σ.2.2.1 83 k = 0) ∧ (σ.2.2.1 81 k ≠ 0 → 0 ≤ (σ.2.2.1 83 k).toInt ∧ (σ.2.2.1 83 k).toInt < (σ.2.2.1 76 (k + 1)).toInt - (σ.2.2.1 76 k).toInt)
/-- what the plan takes, of the class -/
def CV21 (κ : zS) (t m : Nat) (v : Int32) : Prop := (zI κ atExplored t = 0 → v = 0) ∧ (zI κ atExplored t ≠ 0 → ∃ k, FD21 κ (zR κ atStates t) (zA κ (zR κ maMemory m)) (zI κ maShared m + zI κ maOpen m * 9) k ∧ v = (if k = -1 then 0 else if zI κ maWays m ≤ zA κ (zR κ atPlan t) k.toNatClampNeg then 0 else zA κ (zR κ atPlan t) k.toNatClampNeg))
/-- what was explored, of both sides, as plays need it -/
def EX21 (κ : zS) (t w s : Nat) (σ9 : rS) : Prop := (zI κ atExplored t = 0 ↔ σ9.1 69 = 0) ∧ (σ9.1 69 ≠ 0 → ∃ n, SH6 κ (zR κ atStates t) w s n σ9 ∧ σ9.1 70 = Int32.ofNat n ∧ HT6 n σ9 ∧ (∀ k, k < n → zA κ (zR κ atPlan t) k = σ9.2.2.1 83 k) ∧ PB21 σ9)
section
variable {nv s w t m : Nat} {cu e e' : E5} {κ : zS} {σ9 : rS} {a n dr v : Int32} {x gn : Int64} {p : rS × Int32}
theorem ln_21 {w d : Nat} (hw : w ≤ 34) (hd : d ≤ 12) : Int32.ofNat w + Int32.ofNat d * 9 = Int32.ofNat (w + 9 * d) := by
  have l9 : (9 : Int32).toInt = 9 := rfl
  have ld := ofn_i (n := d) (by omega)
  have lw := ofn_i (n := w) (by omega)
  have m9 : (Int32.ofNat d * 9).toInt = 9 * (d : Int) := by
    rw [mul_i (by rw [ld, l9]; omega) (by rw [ld, l9]; omega), ld, l9]
    omega
  refine Int32.toInt_inj.mp ?_
  rw [add_i (by rw [lw, m9]; omega) (by rw [lw, m9]; omega), lw, m9, ofn_i (by omega)]
  omega
/-- a choice of both sides -/
theorem ic_21 (M : MW21 nv w s cu σ9 (am6 κ m) x n dr gn 5 p) (E : EX21 κ t w s σ9) (V : CV21 κ t m v) (z : f5_Ma_settle v (am6 κ m) = .inl (e', ())) : AL21 nv w s cu σ9 e' x (n + 1) dr (gn + (e'.1 714).toInt64) p := by
  obtain ⟨σ1, d, d0, ⟨C, U⟩, AW, q714, MT, acq, K, ⟨f1, f2, f3, f4⟩, _, h5, WB⟩ := M
  obtain ⟨⟨τ, k, cj, g⟩, h2⟩ := h5 rfl
  have s62 : σ1.1 62 = 0 := AW.2.2.1.symm.trans q714
  obtain ⟨nw, nw1, nw2, nw3, _⟩ := AW.2.2.2.2.1
  have nwi : ((am6 κ m).1 716).toInt = (nw : Int) := by rw [nw2, ofn_i (by omega)]
  have nw0 : 1 ≤ nw := by
    rcases acq with ⟨q, _⟩ | q | q | q | ⟨q, _⟩ | ⟨_, _, _, q, _⟩
    · exact absurd q (by decide)
    · exact absurd q (by decide)
    · exact absurd q (by decide)
    · exact absurd q (by decide)
    · exact absurd q (by decide)
    · rw [nw3, lei, ofn_i (by omega), t1i] at q
      omega
  have mw : zI κ maWays m = Int32.ofNat nw := (am_i6 (f := 716) (by decide)).symm.trans nw2
  have fin : ∀ i : Nat, i < nw → v = Int32.ofNat i → g5_get (Int32.ofNat i) τ = (p.1, p.2) → (τ.1 = (ac21 σ1 5).1 ∧ (∀ j, j ≠ 84 → τ.2.2.1 j = σ1.2.2.1 j) ∧ τ.2.2.2 = σ1.2.2.2) → AL21 nv w s cu σ9 e' x (n + 1) dr (gn + (e'.1 714).toInt64) p := fun i hi ev g Q => by
    have QW : QW21 σ1 τ := ⟨fun j j1 j2 => by rw [Q.1]; exact (qw_a21 (r := 5)).1 j j1 j2, fun j j1 _ _ => Q.2.1 j j1, Q.2.2⟩
    obtain ⟨e2, σ2, r2, u1, u2, u3, u4, u5, u6, u7⟩ := ps_21 (i := i) C U d0 AW MT QW (by rw [nwi]; omega)
    rw [ev, u1] at z
    have ee : e2 = e' := congrArg Prod.fst (Sum.inl.inj z)
    have e1 : σ2 = p.1 := congrArg Prod.fst (u2.symm.trans g)
    have e3 : r2 = p.2 := congrArg Prod.snd (u2.symm.trans g)
    rw [ee] at u3 u4
    rw [e1, e3] at u3
    rw [e1] at u5 u6
    refine ⟨u3, ⟨?_, ?_, ?_, fun y => ?_⟩, kt_f21 K (fun j q => (u5 j (by omega) (by omega)).trans (QW.1 j (by omega) (by omega))) (fun j q => (u6 j (by omega) (by omega) (by omega)).trans (Q.2.1 j (by omega)))⟩
    · rw [u5 108 (by decide) (by decide), Q.1]
      show (siU σ1 108 (σ1.1 108 + 1)).1 108 = _
      rw [si1, if_pos rfl, f1]
    · rw [u5 109 (by decide) (by decide), Q.1]
      show (siU σ1 108 (σ1.1 108 + 1)).1 109 = _
      rw [si1, if_neg (by decide), f2]
    · rw [h2 110, ac_g21 s62, f3, u4, q714]
      exact (Int64.add_zero _).symm
    · rw [h2 112]
      exact f4 y
  by_cases ex : σ9.1 69 = 0
  · have cv := V.1 (E.1.mpr ex)
    rcases cj with ⟨_, c2, c3⟩ | ⟨c1, _⟩
    · rw [c3, if_pos rfl] at g
      exact fin 0 (by omega) cv g (by rw [c2]; exact ⟨rfl, fun _ _ => rfl, rfl⟩)
    · exact absurd ((K.1 69 (by omega)).trans ex) c1
  · obtain ⟨n0, S, e70, HT, PL, PB⟩ := E.2 ex
    obtain ⟨k', FD, cv⟩ := V.2 (fun y => ex (E.1.mp y))
    have n1000 : n0 ≤ 1000 := S.2.2.1
    have K30 := K.2 30 (by omega)
    have K73 := K.2 73 (by omega)
    have K74 := K.2 74 (by omega)
    have K83 := K.2 83 (by omega)
    have MB := MT.1
    have KS := KS_m6 MT.1 d0 MT.2
    have hL : zI κ maShared m + zI κ maOpen m * 9 = Int32.ofNat (w + 9 * d) := by
      rw [show zI κ maShared m = Int32.ofNat w from (am_i6 (f := 702) (by decide)).symm.trans MB.1.1, show zI κ maOpen m = Int32.ofNat d from (am_i6 (f := 703) (by decide)).symm.trans MB.2.1.1]
      exact ln_21 MB.1.2.2.1 MB.2.1.2.2.1
    rw [hL, ← (am_rw6 (κ := κ) (m := m) (f := 701) (by decide)).1] at FD
    have S' : SH6 κ (zR κ atStates t) w s n0 (ac21 σ1 5) := SH_h6 HS_r6 S K30 K73
    have HT' : HT6 n0 (ac21 σ1 5) := fun j hj => by
      show σ1.2.2.1 74 j = hh6 (fun i => σ1.2.2.1 73 (143 * j + i)) 143
      rw [K73, K74]
      exact HT j hj
    obtain ⟨τ', y1, y2, y3⟩ := fnd_21 (σ := ac21 σ1 5) S' (show KS6 w s d ((ac21 σ1 5).2.2.1 30) ((am6 κ m).2.1 701) (key6 d (ac21 σ1 5)) by rw [show key6 d (ac21 σ1 5) = key6 d σ1 from key_o6 rfl rfl rfl]; exact KS) (by rw [(qw_a21 (r := 5)).1 58 (by decide) (by decide)]; exact MB.2.1.2.1) (by rw [(qw_a21 (r := 5)).1 70 (by decide) (by decide), K.1 70 (by omega)]; exact e70) HT' FD
    rcases cj with ⟨c1, _⟩ | ⟨_, c2⟩
    · exact absurd (by rw [(qw_a21 (r := 5)).1 69 (by decide) (by decide), K.1 69 (by omega)] at c1; exact c1) ex
    · have et : τ = τ' := congrArg Prod.fst (c2.symm.trans y1)
      have ek : k = k' := congrArg Prod.snd (c2.symm.trans y1)
      rw [← ek] at cv y3
      have Q : τ.1 = (ac21 σ1 5).1 ∧ (∀ j, j ≠ 84 → τ.2.2.1 j = σ1.2.2.1 j) ∧ τ.2.2.2 = σ1.2.2.2 := by
        rw [et]
        exact ⟨y2.1, fun j hj => y2.2.2.1 j hj, y2.2.2.2⟩
      by_cases km : k = -1
      · rw [if_pos km] at g cv
        exact fin 0 (by omega) cv g Q
      · rw [if_neg km] at g cv
        obtain ⟨gi, q1, q2, q3⟩ := y3.resolve_left km
        have cg : k.toNatClampNeg = gi := by rw [q1]; exact cl_5 (by omega)
        have g83 : (ac21 σ1 5).2.2.1 83 k.toNatClampNeg = σ9.2.2.1 83 gi := by
          rw [cg]
          show σ1.2.2.1 83 gi = _
          rw [K83]
        rw [g83] at g
        rw [cg, PL gi q2, mw] at cv
        have n70 : (σ9.1 70).toNatClampNeg = n0 := by rw [e70]; exact cl_5 (by omega)
        obtain ⟨pb1, pb2⟩ := PB gi (by rw [n70]; exact q2)
        by_cases c81 : σ9.2.2.1 81 gi = 0
        · have z83 := pb1 c81
          rw [z83] at g cv
          have cv0 : v = 0 := by
            rw [cv]
            by_cases y : Int32.ofNat nw ≤ 0
            · rw [if_pos y]
            · rw [if_neg y]
          exact fin 0 (by omega) cv0 g Q
        · obtain ⟨b1, b2⟩ := pb2 c81
          have wb := WB ex gi (by rw [n70]; exact q2) (fun i hi => q3 i hi) c81
          rw [nwi] at wb
          have cv1 : v = σ9.2.2.1 83 gi := by
            rw [cv, if_neg (by rw [lei, ofn_i (by omega)]; omega)]
          have ei : σ9.2.2.1 83 gi = Int32.ofNat (σ9.2.2.1 83 gi).toInt.toNat := Int32.toInt_inj.mp (by rw [ofn_i (by omega)]; omega)
          rw [ei] at g
          exact fin (σ9.2.2.1 83 gi).toInt.toNat (by omega) (cv1.trans ei) g Q
/-- what is known of the way drawn -/
def HW21 (σ9 : rS) (e : E5) (x : Int64) (dr : Int32) (y : Int32) : Prop := (σ9.1 113 ≠ 0 → 0 ≤ y ∧ fw21 (e.2.1 719) (e.1 716).toInt.toNat (sh21 (sd21 x) % (e.1 717).toInt) y.toNatClampNeg) ∧ (σ9.1 113 = 0 → dr ≠ σ9.1 104 ∧ y = σ9.2.2.1 105 dr.toNatClampNeg)
/-- a draw of both sides -/
theorem id_21 {y : Int32} (M : MW21 nv w s cu σ9 e x n dr gn 4 p) (H : HW21 σ9 e x dr y) : (0 ≤ y.toInt ∧ y.toInt < (e.1 716).toInt → ∀ e', f5_Ma_settle y e = .inl (e', ()) → AL21 nv w s cu σ9 e' (sd21 x) (n + 1) (dr + 1) (gn + (e'.1 714).toInt64) p) ∧ (¬ (0 ≤ y.toInt ∧ y.toInt < (e.1 716).toInt) → AL21 nv w s cu σ9 (fl6 711 2 (fl6 713 6 e)) (sd21 x) (n + 1) dr (gn + ((fl6 711 2 (fl6 713 6 e)).1 714).toInt64) p) := by
  obtain ⟨σ1, d, d0, ⟨C, U⟩, AW, q714, MT, acq, K, ⟨f1, f2, f3, f4⟩, h4, _, _⟩ := M
  obtain ⟨σ2, i, dw, ds⟩ := h4 rfl
  have s62 : σ1.1 62 = 0 := AW.2.2.1.symm.trans q714
  obtain ⟨nw, nw1, nw2, nw3, nw4⟩ := AW.2.2.2.2.1
  have nwi : (e.1 716).toInt = (nw : Int) := by rw [nw2, ofn_i (by omega)]
  have oW1 : oW σ1 := by
    rcases acq with ⟨q, _⟩ | q | q | q | ⟨_, _, _, q⟩ | ⟨q, _⟩
    · exact absurd q (by decide)
    · exact absurd q (by decide)
    · exact absurd q (by decide)
    · exact absurd q (by decide)
    · exact q
    · exact absurd q (by decide)
  have c63 : (σ1.1 63).toNatClampNeg = nw := by rw [nw3]; exact cl_5 (by omega)
  have a63 : (ac21 σ1 4).1 63 = Int32.ofNat nw := ((qw_a21 (r := 4)).1 63 (by decide) (by decide)).trans nw3
  have a66 : (ac21 σ1 4).1 66 = e.1 717 := ((qw_a21 (r := 4)).1 66 (by decide) (by decide)).trans AW.2.2.2.1.symm
  have a108 : (ac21 σ1 4).1 108 = n + 1 := by
    show (siU σ1 108 (σ1.1 108 + 1)).1 108 = _
    rw [si1, if_pos rfl, f1]
  have a109 : (ac21 σ1 4).1 109 = dr := by
    show (siU σ1 108 (σ1.1 108 + 1)).1 109 = _
    rw [si1, if_neg (by decide), f2]
  have a113 : (ac21 σ1 4).1 113 = σ9.1 113 := ((qw_a21 (r := 4)).1 113 (by decide) (by decide)).trans (K.1 113 (by omega))
  have a104 : (ac21 σ1 4).1 104 = σ9.1 104 := ((qw_a21 (r := 4)).1 104 (by decide) (by decide)).trans (K.1 104 (by omega))
  have td : td21 (ac21 σ1 4) = σ9.2.2.1 105 dr.toNatClampNeg := by
    unfold td21
    rw [a109]
    show σ1.2.2.1 105 _ = _
    rw [K.2 105 (by omega)]
  have g110 := ac_g21 (r := 4) s62
  -- the reference draws the same way
  have same : (σ2.1 = (ac21 σ1 4).1 ∧ σ2.2.2 = (ac21 σ1 4).2.2 ∧ σ2.2.1 110 = gn ∧ (σ9.1 113 ≠ 0 → σ2.2.1 112 = sd21 x)) ∧ ((0 ≤ y.toInt ∧ y.toInt < (nw : Int) ∧ i = y) ∨ (¬ (0 ≤ y.toInt ∧ y.toInt < (nw : Int)) ∧ i = -2)) := by
    rcases dw with ⟨q1, q2, q3, q4⟩ | ⟨q1, q2, q3⟩
    · rw [a113] at q1
      obtain ⟨h1, h2⟩ := H.1 q1
      have x1 : (ac21 σ1 4).2.1 112 = x := f4 q1
      rw [x1] at q2 q4
      rw [a63, cl_5 (by omega), a66] at q4
      rw [nwi, Int.toNat_natCast] at h2
      have h3 : fw21 (σ1.2.2.1 65) nw (sh21 (sd21 x) % (e.1 717).toInt) y.toNatClampNeg := fw_e21 (fun k hk => (nw4 k hk).2) h2
      have eq := fw_u21 (fun k hk => by have z := (oW1.2.2.1 k (by rw [c63]; exact hk)).1; rw [lei, t0i] at z; exact z) q4 h3
      rw [lei, t0i] at q3 h1
      have k1 := cnk q3
      have k2 := cnk h1
      have yb := h3.1
      refine ⟨⟨by rw [q2]; rfl, by rw [q2]; rfl, ?_, fun _ => ?_⟩, Or.inl ⟨h1, by omega, Int32.toInt_inj.mp (by omega)⟩⟩
      · rw [q2, sl_o21 (by decide), g110, f3]
      · rw [q2, sl_s21]
    · rw [a113] at q1
      obtain ⟨h1, h2⟩ := H.2 q1
      rw [a109, a104, td, ← h2, a63] at q3
      have bnd : (0 ≤ y ∧ y < Int32.ofNat nw) ↔ (0 ≤ y.toInt ∧ y.toInt < (nw : Int)) := by
        rw [lei, lti, t0i, ofn_i (by omega)]
      refine ⟨⟨by rw [q2], by rw [q2], by rw [q2, g110, f3], fun c => absurd q1 c⟩, ?_⟩
      rcases q3 with ⟨c, _⟩ | ⟨_, ⟨c1, c2, c3⟩ | ⟨c1, c2⟩⟩
      · exact absurd c h1
      · obtain ⟨z1, z2⟩ := bnd.mp ⟨c1, c2⟩
        exact Or.inl ⟨z1, z2, c3⟩
      · exact Or.inr ⟨fun z => c1 (bnd.mpr z), c2⟩
  obtain ⟨⟨s1, s2, s3, s4⟩, s5⟩ := same
  have QW2 : QW21 σ1 σ2 := ⟨fun j j1 j2 => by rw [s1]; exact (qw_a21 (r := 4)).1 j j1 j2, fun j _ _ _ => by rw [s2]; rfl, by rw [s2]; rfl⟩
  refine ⟨fun hy e' z => ?_, fun hn => ?_⟩
  · rw [nwi] at hy
    obtain ⟨y0, y1, iy⟩ : 0 ≤ y.toInt ∧ y.toInt < (nw : Int) ∧ i = y := s5.resolve_right (fun c => c.1 hy)
    have n1 : i ≠ -1 := fun c => by
      rw [iy] at c
      rw [c] at y0
      exact absurd y0 (by decide)
    have n2 : i ≠ -2 := fun c => by
      rw [iy] at c
      rw [c] at y0
      exact absurd y0 (by decide)
    obtain ⟨σ3, nu, _, _, g, gl⟩ : ∃ σ3, nu21 (siU σ2 109 (σ2.1 109 + 1)) σ3 ∧ nV σ3 17 = nV (ac21 σ1 4) 17 * ((ac21 σ1 4).2.2.1 65 i.toNatClampNeg).toInt.toNat ∧ nV σ3 18 = nV (ac21 σ1 4) 18 * ((ac21 σ1 4).1 66).toInt.toNat ∧ g5_get i σ3 = (p.1, p.2) ∧ ∀ k, p.1.2.1 k = σ3.2.1 k := by
      rcases ds with ⟨c, _⟩ | ⟨c, _⟩ | ⟨_, _, c⟩
      · exact absurd c n1
      · exact absurd c n2
      · exact c
    have ei : y = Int32.ofNat y.toInt.toNat := Int32.toInt_inj.mp (by rw [ofn_i (by omega)]; omega)
    have Q3 : QW21 σ1 σ3 := ⟨fun j j1 j2 => by rw [nu.1, si1, if_neg j2]; exact QW2.1 j j1 j2, fun j j1 j2 j3 => by rw [nu.2.2.1 j j2 j3]; exact QW2.2.1 j j1 j2 j3, nu.2.2.2.trans QW2.2.2⟩
    obtain ⟨e2, σ4, r2, u1, u2, u3, u4, u5, u6, u7⟩ := ps_21 (i := y.toInt.toNat) C U d0 AW MT Q3 (by rw [nwi]; omega)
    rw [ei, u1] at z
    rw [iy, ei] at g
    have ee : e2 = e' := congrArg Prod.fst (Sum.inl.inj z)
    have e1 : σ4 = p.1 := congrArg Prod.fst (u2.symm.trans g)
    have e3 : r2 = p.2 := congrArg Prod.snd (u2.symm.trans g)
    rw [ee] at u3 u4
    rw [e1, e3] at u3
    rw [e1] at u5 u6
    refine ⟨u3, ⟨?_, ?_, ?_, fun c => ?_⟩, kt_f21 K (fun j q => (u5 j (by omega) (by omega)).trans (Q3.1 j (by omega) (by omega))) (fun j q => (u6 j (by omega) (by omega) (by omega)).trans (Q3.2.1 j (by omega) (by omega) (by omega)))⟩
    · rw [u5 108 (by decide) (by decide), nu.1, si1, if_neg (by decide), s1]
      exact a108
    · rw [u5 109 (by decide) (by decide), nu.1, si1, if_pos rfl, s1, a109]
    · rw [gl 110, nu.2.1]
      show σ2.2.1 110 = _
      rw [s3, u4, q714]
      exact (Int64.add_zero _).symm
    · rw [gl 112, nu.2.1]
      exact s4 c
  · rw [nwi] at hn
    have i2 : i = -2 := (s5.resolve_left (fun c => hn ⟨c.1, c.2.1⟩)).2
    have g : g5_fail 6 σ2 = (p.1, p.2) := by
      rcases ds with ⟨c, _⟩ | ⟨_, c⟩ | ⟨_, c, _⟩
      · rw [i2] at c; exact absurd c (by decide)
      · exact c
      · exact absurd i2 c
    have gf : g5_fail 6 σ2 = (siU σ2 61 6, 2) := rfl
    have e1 : p.1 = siU σ2 61 6 := (congrArg Prod.fst (gf.symm.trans g)).symm
    have e3 : p.2 = 2 := (congrArg Prod.snd (gf.symm.trans g)).symm
    unfold AL21
    rw [e1, e3]
    refine ⟨pf_21 C U MT QW2, ⟨?_, ?_, ?_, fun c => s4 c⟩, kt_f21 K (fun j q => by rw [si1, if_neg (by omega)]; exact QW2.1 j (by omega) (by omega)) (fun j q => QW2.2.1 j (by omega) (by omega) (by omega))⟩
    · rw [si1, if_neg (by decide), s1]; exact a108
    · rw [si1, if_neg (by decide), s1]; exact a109
    · show σ2.2.1 110 = _
      rw [s3, fl_o6 (by decide), fl_o6 (by decide), q714]
      exact (Int64.add_zero _).symm
/-- what a play leaves, of both sides -/
def FZ21 (w : Nat) (e : E5) (dn dr : Int32) (gn : Int64) (σ : rS) (v : Int32) : Prop := e.1 711 = v ∧ (v = 1 → e.1 712 = σ.1 61) ∧ (v = 2 → e.1 713 = σ.1 61) ∧ (σ.1 108 = dn ∧ σ.1 109 = dr ∧ σ.2.1 110 = gn) ∧ SM21 w e σ
/-- no draw is told any more -/
theorem ie_21 {N k : Nat} {tr : Nat → rS × Int32} (F : TRF21 a σ9 N tr v) (kN : k + 1 ≤ N) (M : MW21 nv w s cu σ9 e x n dr gn 4 (tr (k + 1))) (h3 : σ9.1 113 = 0) (hd : dr = σ9.1 104) : FZ21 w e n dr gn (tr N).1 v := by
  obtain ⟨σ1, d, d0, ⟨C, U⟩, AW, q714, MT, acq, K, ⟨f1, f2, f3, f4⟩, h4, _, _⟩ := M
  obtain ⟨σ2, i, dw, ds⟩ := h4 rfl
  have s62 : σ1.1 62 = 0 := AW.2.2.1.symm.trans q714
  have a109 : (ac21 σ1 4).1 109 = dr := by
    show (siU σ1 108 (σ1.1 108 + 1)).1 109 = _
    rw [si1, if_neg (by decide), f2]
  have a108 : (ac21 σ1 4).1 108 = n + 1 := by
    show (siU σ1 108 (σ1.1 108 + 1)).1 108 = _
    rw [si1, if_pos rfl, f1]
  have a113 : (ac21 σ1 4).1 113 = σ9.1 113 := ((qw_a21 (r := 4)).1 113 (by decide) (by decide)).trans (K.1 113 (by omega))
  have a104 : (ac21 σ1 4).1 104 = σ9.1 104 := ((qw_a21 (r := 4)).1 104 (by decide) (by decide)).trans (K.1 104 (by omega))
  obtain ⟨q2, qi⟩ : σ2 = ac21 σ1 4 ∧ i = -1 := by
    rcases dw with ⟨q1, _⟩ | ⟨_, q2, q3⟩
    · rw [a113] at q1; exact absurd h3 q1
    · rw [a109, a104] at q3
      rcases q3 with ⟨_, c⟩ | ⟨c, _⟩
      · exact ⟨q2, c⟩
      · exact absurd hd c
  obtain ⟨p1, p2⟩ : (tr (k + 1)).1 = siU σ2 108 (σ2.1 108 - 1) ∧ (tr (k + 1)).2 = 5 := by
    rcases ds with ⟨_, c⟩ | ⟨c, _⟩ | ⟨c, _⟩
    · exact c
    · rw [qi] at c; exact absurd c (by decide)
    · exact absurd qi c
  obtain ⟨⟨σ0, r0, _, _, t1⟩, fi⟩ := F
  have eN : k + 1 = N := by
    by_cases c : k + 1 = N
    · exact c
    · have y := (t1 (k + 1) (by omega)).1
      rw [p2] at y
      exact absurd y (by decide)
  rw [← eN, p2] at fi
  have v0 : v = 0 := by
    rcases fi with ⟨_, c⟩ | ⟨c, _⟩ | ⟨_, c, _⟩
    · exact c
    · exact absurd c (by decide)
    · exact absurd rfl c
  rw [← eN, p1, q2, v0]
  refine ⟨AW.2.1, fun c => absurd c (by decide), fun c => absurd c (by decide), ⟨?_, ?_, ?_⟩, fun j hj => sm_m21 MT.1 j hj⟩
  · rw [si1, if_pos rfl, a108]
    exact Int32.add_sub_cancel n 1
  · rw [si1, if_neg (by decide)]; exact a109
  · show (ac21 σ1 4).2.1 110 = _
    rw [ac_g21 s62, f3]
/-- a play ends -/
theorem iz_21 {N k : Nat} {tr : Nat → rS × Int32} (F : TRF21 a σ9 N tr v) (kN : k ≤ N) (A : AL21 nv w s cu σ9 e x n dr gn (tr k)) (h : ¬ e.1 711 = 0 ∨ n = a) : FZ21 w e n dr gn (tr N).1 v := by
  obtain ⟨P, ⟨b1, b2, b3, _⟩, K⟩ := A
  obtain ⟨⟨σ0, r0, _, _, t1⟩, fi⟩ := F
  obtain ⟨_, p2, p3, p4⟩ := P
  have eN : k = N := by
    by_cases c : k = N
    · exact c
    · have y := t1 k (by omega)
      rcases h with h | h
      · exact absurd (p2.trans y.1) h
      · exact absurd (b1.trans h) y.2.1
  rw [← eN] at fi ⊢
  have h03 : (tr k).2 = 0 ∨ (tr k).2 = 1 ∨ (tr k).2 = 2 ∨ (tr k).2 = 3 := by
    rcases p4 with ⟨c, _⟩ | ⟨c, _⟩ | ⟨c, _⟩ | c
    · exact Or.inl c
    · exact Or.inr (Or.inl c)
    · exact Or.inr (Or.inr (Or.inl c))
    · exact Or.inr (Or.inr (Or.inr c))
  have ev : v = (tr k).2 := by
    rcases fi with ⟨c, _⟩ | ⟨c, _, c2⟩ | ⟨_, _, c⟩
    · rw [c] at h03; exact absurd h03 (by decide)
    · rw [c, c2]
    · exact c
  refine ⟨p2.trans ev.symm, fun c => ?_, fun c => ?_, ⟨b1, b2, b3⟩, p3⟩
  · rw [ev] at c
    rcases p4 with ⟨q, _⟩ | ⟨_, q⟩ | ⟨q, _⟩ | q
    · rw [c] at q; exact absurd q (by decide)
    · exact q
    · rw [c] at q; exact absurd q (by decide)
    · rw [c] at q; exact absurd q (by decide)
  · rw [ev] at c
    rcases p4 with ⟨q, _⟩ | ⟨q, _⟩ | ⟨_, q⟩ | q
    · rw [c] at q; exact absurd q (by decide)
    · rw [c] at q; exact absurd q (by decide)
    · exact q
    · rw [c] at q; exact absurd q (by decide)
/-- a play begins -/
theorem ib_21 {N : Nat} {tr : Nat → rS × Int32} {e0 e1 : E5} (R : CR6 nv s w e0 σ9) (U : CU21 cu e0) (B : BG6 e0 e1) (z : f5_Ma_proceed e1 = .inl (e, ())) (hx : σ9.1 113 ≠ 0 → σ9.2.1 112 = x) (F : TRF21 a σ9 N tr v) : AL21 nv w s cu σ9 e x 0 0 0 (tr 0) := by
  obtain ⟨⟨σ0, r0, ⟨σi, nu, _, _, gb, gl⟩, t0, _⟩, _⟩ := F
  obtain ⟨T, X, Bk, N', Z, na, f, ⟨h1, h2⟩, h3, h4, h5, ⟨h6, h7, h8⟩, h9, h10, h11⟩ := R
  have fi : ∀ g, g ≠ 0 → g ≠ 108 → g ≠ 109 → σi.1 g = σ9.1 g := fun g g0 g1 g2 => by
    rw [nu.1]
    show (siU (siU (siU σ9 0 0) 108 0) 109 0).1 g = _
    rw [si1, if_neg g2, si1, if_neg g1, si1, if_neg g0]
  have ri : ∀ g, g ≠ 90 → g ≠ 91 → σi.2.2.1 g = σ9.2.2.1 g := fun g g1 g2 => nu.2.2.1 g g1 g2
  have li : σi.2.2.2 = σ9.2.2.2 := nu.2.2.2
  have Fi : FN6 T Bk N' nv na f s e0 (siU σi 11 0) := FN_v6 h3 ⟨⟨fun _ _ => rfl, fun _ _ => rfl, rfl⟩, fun g q => by
    rw [si1, si1]
    by_cases c : g = 11
    · rw [if_pos c, if_pos c]
    · rw [if_neg c, if_neg c]; exact fi g (by omega) (by omega) (by omega), fun g q => ri g (by omega) (by omega), li⟩
  obtain ⟨e', σ', r, u1, u2, u3, u4, ⟨u5, u6, u7, u8⟩, u9, u10, u11⟩ := bgn_6 h1.1.2.2.2 h1.1.2.2.1 Fi h8 h7 h11 B
  have ee : e' = e := congrArg Prod.fst (Sum.inl.inj (u1.symm.trans z))
  have es : σ' = σ0 := congrArg Prod.fst (u2.symm.trans gb)
  have er : r = r0 := congrArg Prod.snd (u2.symm.trans gb)
  rw [ee] at u3 u5 u6 u7 u8
  rw [es, er] at u3
  rw [es] at u4 u9 u10 u11
  rw [er] at u4
  have F2 : FN6 T Bk N' nv na f s e (siU σ0 11 0) := FN_v6 Fi ⟨⟨u6, fun g q => u7 g (by omega), u8⟩, fun g q => by
    rw [si1, si1]
    by_cases c : g = 11
    · rw [if_pos c, if_pos c]
    · rw [if_neg c, if_neg c]; exact u9 g c (by omega) (by omega), fun g q => u10 g (by omega) (by omega) (by omega), u11⟩
  have r45 : ∀ g, g ≤ 45 → σ0.2.2.1 g = σ9.2.2.1 g := fun g q => (u10 g (by omega) (by omega) (by omega)).trans (ri g (by omega) (by omega))
  have C : CF6 nv s w e σ0 := by
    refine ⟨T, X, Bk, N', Z, na, f, ⟨h1, h2⟩, F2, ?_, fun k hk => by show ∃ n, n ≤ 4 ∧ σ0.2.2.1 26 k = Int32.ofNat n; rw [r45 26 (by decide)]; exact h5 k hk, ⟨u5, h6, h7, by rw [u6 511 (by decide)]; exact h8⟩, by rw [u8]; exact ⟨h9, h10, h11⟩⟩
    rw [← h4]
    unfold sx5
    show (σ0.2.2.1 5, σ0.2.2.1 6, σ0.2.2.1 7, σ0.2.2.1 9, σ0.2.2.2 8) = _
    rw [r45 5 (by decide), r45 6 (by decide), r45 7 (by decide), r45 9 (by decide), u11, li]
  rw [t0]
  refine ⟨pl_o21 C ⟨fun g q => (u6 g q).trans (U.1 g q), fun g q => (u7 g (by omega)).trans (U.2 g q)⟩ u3 (u4.elim Or.inl (fun y => Or.inr y.1)), ⟨?_, ?_, ?_, fun c => ?_⟩, fun g q => (u9 g (by omega) (by omega) (by omega)).trans (fi g (by omega) (by omega) (by omega)), fun g q => (u10 g (by omega) (by omega) (by omega)).trans (ri g (by omega) (by omega))⟩
  · show σ0.1 108 = 0
    rw [u9 108 (by decide) (by decide) (by decide), nu.1]
    show (siU (siU (siU σ9 0 0) 108 0) 109 0).1 108 = _
    rw [si1, if_neg (by decide), si1, if_pos rfl]
  · show σ0.1 109 = 0
    rw [u9 109 (by decide) (by decide) (by decide), nu.1]
    show (siU (siU (siU σ9 0 0) 108 0) 109 0).1 109 = _
    rw [si1, if_pos rfl]
  · show σ0.2.1 110 = 0
    rw [gl 110, nu.2.1, sl_s21]
  · show σ0.2.1 112 = x
    rw [gl 112, nu.2.1]
    exact hx c
end
/-- the ways of a draw -/
theorem wp_21 {nv s w : Nat} {cu e : E5} {σ9 : rS} {n dr : Int32} {x gn : Int64} {p : rS × Int32} (M : MW21 nv w s cu σ9 e x n dr gn 4 p) : (0 < (e.1 717).toInt ∧ (e.1 717).toInt ≤ 8000000) ∧ (∀ i : Nat, (i : Int) < (e.1 716).toInt → 0 ≤ (e.2.1 719 i).toInt ∧ (e.2.1 719 i).toInt ≤ 1000000) ∧ (e.1 717).toInt = wsum (e.2.1 719) (e.1 716).toInt.toNat := by
  obtain ⟨σ1, d, d0, _, AW, _, _, acq, _⟩ := M
  obtain ⟨nw, nw1, nw2, nw3, nw4⟩ := AW.2.2.2.2.1
  have nwi : (e.1 716).toInt = (nw : Int) := by rw [nw2, ofn_i (by omega)]
  have oW1 : oW σ1 := by
    rcases acq with ⟨q, _⟩ | q | q | q | ⟨_, _, _, q⟩ | ⟨q, _⟩
    · exact absurd q (by decide)
    · exact absurd q (by decide)
    · exact absurd q (by decide)
    · exact absurd q (by decide)
    · exact q
    · exact absurd q (by decide)
  have c63 : (σ1.1 63).toNatClampNeg = nw := by rw [nw3]; exact cl_5 (by omega)
  obtain ⟨_, _, o3, o4, o5, o6⟩ := oW1
  rw [c63] at o3 o4
  have l1m : (1000000 : Int32).toInt = 1000000 := rfl
  have l8m : (8000000 : Int32).toInt = 8000000 := rfl
  rw [lti, t0i] at o5
  rw [lei, l8m] at o6
  rw [nwi, AW.2.2.2.1, Int.toNat_natCast]
  refine ⟨⟨o5, o6⟩, fun i hi => ?_, ?_⟩
  · have y := o3 i (by omega)
    rw [lei, lei, t0i, l1m] at y
    rw [(nw4 i (by omega)).2]
    exact y
  · rw [o4]
    exact ws_e21 (fun i hi => (nw4 i hi).2.symm)
/-! the class's loop: what is alike on its way -/
/-- before a play -/
def GP21 (nv s w : Nat) (κ : zS) (a : Nat) (byT : Int32) (seed : Int64) (most : Int32) (σ9 : rS) : Prop := CR7 nv s w (cu7 κ (zR κ chCode a)) σ9 ∧ (byT = 0 ↔ σ9.1 113 ≠ 0) ∧ (σ9.1 113 ≠ 0 → σ9.2.1 112 = seed) ∧ (σ9.1 113 = 0 → (σ9.1 104 = zI κ chTolds a ∧ 0 ≤ (zI κ chTolds a).toInt) ∧ ∀ j, j < (zI κ chTolds a).toNatClampNeg → zA κ (zR κ chTold a) j = σ9.2.2.1 105 j) ∧ EX21 κ (zR κ chAtlas a) w s σ9 ∧ (σ9.1 69 ≠ 0 → TW21 nv s w (cu7 κ (zR κ chCode a)) σ9) ∧ (σ9.1 70).toNatClampNeg ≤ 1000 ∧ 0 ≤ most.toInt
def HD21 (nv s w : Nat) (cu : E5) (a : Int32) (σ9 : rS) (e : E5) (x : Int64) (dn dr : Int32) (gn : Int64) (n : Int32) : Prop := (dn = n ∧ 0 ≤ n.toInt ∧ n.toInt ≤ a.toInt) ∧ ∀ N tr v', TRF21 a σ9 N tr v' → n.toNatClampNeg ≤ N ∧ AL21 nv w s cu σ9 e x n dr gn (tr n.toNatClampNeg)
def JA21 (nv s w : Nat) (cu : E5) (a : Int32) (σ9 : rS) (e : E5) (x : Int64) (dn dr : Int32) (gn : Int64) (n : Int32) : Prop := (dn = n ∧ 0 ≤ n.toInt ∧ n.toInt < a.toInt) ∧ ∀ N tr v', TRF21 a σ9 N tr v' → n.toNatClampNeg + 1 ≤ N ∧ AL21 nv w s cu σ9 e x (n + 1) dr (gn + (e.1 714).toInt64) (tr (n.toNatClampNeg + 1))
def JM21 (nv s w : Nat) (cu : E5) (a : Int32) (σ9 : rS) (e : E5) (x : Int64) (dn dr : Int32) (gn : Int64) (n r : Int32) : Prop := (dn = n ∧ 0 ≤ n.toInt ∧ n.toInt < a.toInt) ∧ ∀ N tr v', TRF21 a σ9 N tr v' → n.toNatClampNeg + 1 ≤ N ∧ MW21 nv w s cu σ9 e x n dr gn r (tr (n.toNatClampNeg + 1))
def JW21 (nv s w : Nat) (cu : E5) (a : Int32) (σ9 : rS) (e : E5) (x : Int64) (dn dr : Int32) (gn : Int64) (n y : Int32) : Prop := (dn = n ∧ 0 ≤ n.toInt ∧ n.toInt < a.toInt) ∧ ∃ x0, x = sd21 x0 ∧ ∀ N tr v', TRF21 a σ9 N tr v' → n.toNatClampNeg + 1 ≤ N ∧ MW21 nv w s cu σ9 e x0 n dr gn 4 (tr (n.toNatClampNeg + 1)) ∧ HW21 σ9 e x0 dr y
section
variable {nv s w : Nat} {cu e e' : E5} {σ9 : rS} {a dn dr n : Int32} {x gn : Int64}
/-- a statement, in the class's loop -/
theorem ja_21 (H : HD21 nv s w cu a σ9 e x dn dr gn n) (h0 : e.1 711 = 0) (ha : ¬ a.toInt ≤ n.toInt) (z : f5_Ma_act e = .inl (e', ())) (n1 : (σ9.1 70).toNatClampNeg ≤ 1000) (TW : σ9.1 69 ≠ 0 → TW21 nv s w cu σ9) : (dn = n ∧ 0 ≤ n.toInt ∧ n.toInt < a.toInt) ∧ (∀ N tr v', TRF21 a σ9 N tr v' → n.toNatClampNeg + 1 ≤ N ∧ ((e'.1 715 = -1 ∧ AL21 nv w s cu σ9 e' x (n + 1) dr (gn + (e'.1 714).toInt64) (tr (n.toNatClampNeg + 1))) ∨ (e'.1 715 = 3 ∧ MW21 nv w s cu σ9 e' x n dr gn 4 (tr (n.toNatClampNeg + 1))) ∨ (e'.1 715 = 4 ∧ MW21 nv w s cu σ9 e' x n dr gn 5 (tr (n.toNatClampNeg + 1))))) := by
  obtain ⟨⟨h1, h2, h3⟩, hA⟩ := H
  refine ⟨⟨h1, h2, by omega⟩, fun N tr v' F => ?_⟩
  obtain ⟨k, A⟩ := hA N tr v' F
  exact ia_21 F k A h0 (fun q => ha (by rw [q]; exact Int.le_refl _)) z n1 TW
end

end
