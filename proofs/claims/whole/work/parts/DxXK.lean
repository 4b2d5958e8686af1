set_option maxHeartbeats 1600000
/-! the reference: plays, by what they come to -/
def sd21 (x : Int64) : Int64 := x * (6364136223846793005 : Int64) + (1442695040888963407 : Int64)
def sh21 (x : Int64) : Int := ((x.toUInt64 >>> ((33 : Int32).toInt64.toUInt64 &&& Int64.toUInt64 63)).toInt64).toInt
/-- the way that a number takes -/
def fw21 (w : Nat → Int32) (n : Nat) (r : Int) (i : Nat) : Prop := i < n ∧ wsum w i ≤ r ∧ r < wsum w (i + 1)
def td21 (σ : rS) : Int32 := σ.2.2.1 105 (σ.1 109).toNatClampNeg
def DW21 (σ σ' : rS) (v : Int32) : Prop := (σ.1 113 ≠ 0 ∧ σ' = slU σ 112 (sd21 (σ.2.1 112)) ∧ 0 ≤ v ∧ fw21 (σ.2.2.1 65) (σ.1 63).toNatClampNeg (sh21 (sd21 (σ.2.1 112)) % (σ.1 66).toInt) v.toNatClampNeg) ∨ (σ.1 113 = 0 ∧ σ' = σ ∧ ((σ.1 109 = σ.1 104 ∧ v = -1) ∨ (σ.1 109 ≠ σ.1 104 ∧ ((0 ≤ td21 σ ∧ td21 σ < σ.1 63 ∧ v = td21 σ) ∨ (¬ (0 ≤ td21 σ ∧ td21 σ < σ.1 63) ∧ v = -2)))))
/-- only numbers of many places differ -/
def nu21 (σ τ : rS) : Prop := τ.1 = σ.1 ∧ τ.2.1 = σ.2.1 ∧ (∀ k, k ≠ 90 → k ≠ 91 → τ.2.2.1 k = σ.2.2.1 k) ∧ τ.2.2.2 = σ.2.2.2
theorem nu_n21 {l : List Nat} {σ τ : rS} (h : frN l σ τ) : nu21 σ τ := ⟨h.1, h.2.1, h.2.2.1, h.2.2.2.1⟩
theorem nu_t21 {a b c : rS} (h : nu21 a b) (g : nu21 b c) : nu21 a c := ⟨g.1.trans h.1, g.2.1.trans h.2.1, fun k x y => (g.2.2.1 k x y).trans (h.2.2.1 k x y), g.2.2.2.trans h.2.2.2⟩
def DS21 (σ σ' : rS) (v : Int32) : Prop := ∃ σ1 i, DW21 σ σ1 i ∧ ((i = -1 ∧ σ' = siU σ1 108 (σ1.1 108 - 1) ∧ v = 5) ∨ (i = -2 ∧ g5_fail 6 σ1 = (σ', v)) ∨ (i ≠ -1 ∧ i ≠ -2 ∧ ∃ σ2, nu21 (siU σ1 109 (σ1.1 109 + 1)) σ2 ∧ nV σ2 17 = nV σ 17 * (σ.2.2.1 65 i.toNatClampNeg).toInt.toNat ∧ nV σ2 18 = nV σ 18 * (σ.1 66).toInt.toNat ∧ g5_get i σ2 = (σ', v) ∧ ∀ k, σ'.2.1 k = σ2.2.1 k))
def CJ21 (σ τ : rS) (k : Int32) : Prop := (σ.1 69 = 0 ∧ τ = σ ∧ k = -1) ∨ (σ.1 69 ≠ 0 ∧ g5_stateNow σ = (τ, k))
def CS21 (σ σ' : rS) (v : Int32) : Prop := ∃ τ k, CJ21 σ τ k ∧ g5_get (if k = -1 then 0 else σ.2.2.1 83 k.toNatClampNeg) τ = (σ', v)
def ac21 (σ1 : rS) (r : Int32) : rS := slU (siU σ1 108 (σ1.1 108 + 1)) 110 (σ1.2.1 110 + if r = 2 then 0 else (σ1.1 62).toInt64)
/-- a statement of a play -/
def SP21 (σ σ' : rS) (v : Int32) : Prop := ∃ σ1 r, g5_act σ = (σ1, r) ∧ acQ r σ1 ∧ (∀ k, σ1.2.1 k = σ.2.1 k) ∧ ((r = 4 ∧ DS21 (ac21 σ1 r) σ' v) ∨ (r = 5 ∧ CS21 (ac21 σ1 r) σ' v ∧ ∀ k, σ'.2.1 k = (ac21 σ1 r).2.1 k) ∨ (r ≠ 4 ∧ r ≠ 5 ∧ σ' = ac21 σ1 r ∧ v = r))
/-- its statements, one behind the other -/
def TR21 (a : Int32) (σ0 : rS) (r0 : Int32) (N : Nat) (tr : Nat → rS × Int32) : Prop := tr 0 = (σ0, r0) ∧ ∀ n, n < N → (tr n).2 = 0 ∧ (tr n).1.1 108 ≠ a ∧ SP21 (tr n).1 (tr (n + 1)).1 (tr (n + 1)).2
def BG21 (σ σ0 : rS) (r0 : Int32) : Prop := ∃ σi, nu21 (slU (siU (siU (siU σ 0 0) 108 0) 109 0) 110 0) σi ∧ nV σi 17 = 1 ∧ nV σi 18 = 1 ∧ g5_begin σi = (σ0, r0) ∧ ∀ k, σ0.2.1 k = σi.2.1 k
def LP21 (a : Int32) (σ τ : rS) (h : Int32) : Prop := ∃ σ0 r0 N tr, BG21 σ σ0 r0 ∧ TR21 a σ0 r0 N tr ∧ tr N = (τ, h)
theorem lp_s21 {a h : Int32} {σ τ τ' : rS} (L : LP21 a σ τ 0) (ha : τ.1 108 ≠ a) (s : SP21 τ τ' h) : LP21 a σ τ' h := by
  obtain ⟨σ0, r0, N, tr, b, ⟨t0, t1⟩, e⟩ := L
  refine ⟨σ0, r0, N + 1, fun n => if n = N + 1 then (τ', h) else tr n, b, ⟨?_, fun n hn => ?_⟩, if_pos rfl⟩
  · show (if 0 = N + 1 then (τ', h) else tr 0) = _
    rw [if_neg (by omega)]
    exact t0
  · show (if n = N + 1 then (τ', h) else tr n).2 = 0 ∧ (if n = N + 1 then (τ', h) else tr n).1.1 108 ≠ a ∧ SP21 (if n = N + 1 then (τ', h) else tr n).1 (if n + 1 = N + 1 then (τ', h) else tr (n + 1)).1 (if n + 1 = N + 1 then (τ', h) else tr (n + 1)).2
    rw [if_neg (show ¬ n = N + 1 by omega)]
    by_cases c : n = N
    · rw [if_pos (by omega), c, e]
      exact ⟨rfl, ha, s⟩
    · rw [if_neg (by omega)]
      exact t1 n (by omega)
/-- how it ends -/
def FI21 (a : Int32) (τ : rS) (v h : Int32) : Prop := (h = 5 ∧ v = 0) ∨ (h = 0 ∧ τ.1 108 = a ∧ v = 0) ∨ (h ≠ 0 ∧ h ≠ 5 ∧ v = h)
def PD21 (τ0 : rS) (v : Int32) (τ : rS) (n : Nat) : Prop := (∀ k, k ≠ 106 → k ≠ 107 → τ.1 k = τ0.1 k) ∧ τ.1 106 = v ∧ τ.1 107 = (if v = 1 ∨ v = 2 then τ0.1 61 else 0) ∧ τ.2.1 = τ0.2.1 ∧ (∀ k, k ≠ 111 → τ.2.2.1 k = τ0.2.2.1 k) ∧ (∀ j, j < n → τ.2.2.1 111 j = τ0.2.2.1 57 j) ∧ τ.2.2.2 = τ0.2.2.2
def cy21 (σ : rS) (a : Int32) : Int32 := if σ.1 14 = 0 then 1 else if 0 ≤ a ∧ a ≤ 2000 then 0 else 2
def GO21 (a : Int32) (σ σ' : rS) (v : Int32) : Prop := (cy21 σ a ≠ 0 ∧ σ' = siU σ 0 (cy21 σ a) ∧ v = 0) ∨ (cy21 σ a = 0 ∧ σ'.1 0 = 0 ∧ ∃ τ0 h, LP21 a σ τ0 h ∧ FI21 a τ0 v h ∧ PD21 τ0 v σ' 34)
theorem mod_e21 {x t : Int64} (x0 : 0 ≤ x.toInt) (x1 : x.toInt < 2147483648) (h0 : 0 < t.toInt) (h1 : t.toInt ≤ 8000000) : (x - x / t * t).toInt = x.toInt % t.toInt := by
  have q : (x / t).toInt = x.toInt / t.toInt := by
    rw [Int64.toInt_div_of_ne_right _ _ (fun e => by rw [e] at h0; exact absurd h0 (by decide)), Int.tdiv_eq_ediv_of_nonneg x0]
  have d := Int.emod_add_mul_ediv x.toInt t.toInt
  have r0 := Int.emod_nonneg x.toInt (by omega : t.toInt ≠ 0)
  have r1 := Int.emod_lt_of_pos x.toInt h0
  have q0 : 0 ≤ x.toInt / t.toInt := Int.ediv_nonneg x0 (by omega)
  have p0 : 0 ≤ t.toInt * (x.toInt / t.toInt) := Int.mul_nonneg (by omega) q0
  have m : (x / t * t).toInt = t.toInt * (x.toInt / t.toInt) := by
    rw [Int64.toInt_mul, q, Int.mul_comm]
    exact Int.bmod_eq_of_le (by omega) (by omega)
  have s : (x - x / t * t).toInt = x.toInt - t.toInt * (x.toInt / t.toInt) := by
    rw [Int64.toInt_sub, m]
    exact Int.bmod_eq_of_le (by omega) (by omega)
  omega
theorem drawn_g5 {C : rCx} (hC : cOK C)  {σ : rS}  {Q : Int32 → rS → Prop} (hp : oW σ ∧ 0 ≤ σ.1 109 ∧ 0 ≤ σ.1 104 ∧ σ.1 104 ≤ 200 ∧ (σ.1 113 = 0 → σ.1 109 ≤ σ.1 104)) (h : ∀ (v : Int32) (σ' : rS), ((drF σ σ' ∧ (v = -1 ∨ v = -2 ∨ (0 ≤ v ∧ v < σ.1 63 ∧ (σ.1 113 = 0 → σ.1 109 < σ.1 104)))) ∧ (DW21 σ σ' v)) → Q v σ') : cI C 1 m_drawn [.ref (co C)] σ Q := by
  refine m_drawn_run hC ?_
  unfold w_drawn_0
  obtain ⟨W, h9, h4, h4', hle⟩ := hp
  have tp := Int32.lt_iff_toInt_lt.mp W.2.2.2.2.1
  have tl := ti W.2.2.2.2.2
  rw [Int32.toInt_zero] at tp
  rw [show (8000000 : Int32).toInt = 8000000 from rfl] at tl
  have wn : ∀ i, i < (σ.1 63).toNatClampNeg → 0 ≤ (σ.2.2.1 65 i).toInt := fun i hi => t0 (W.2.2.1 i hi).1
  refine ⟨fun c1 => ?_, fun c1 => ?_⟩
  · skip
    intro σ_2 hσ_2
    refine ⟨?_, ?_⟩
    · clear h; intro z
      have e := congrArg Int64.toInt z
      rw [Int32.toInt_toInt64, hσ_2] at e
      have e2 : (σ.1 66).toInt = 0 := e
      omega
    intro x3 hx3
    refine ⟨ib_64.mpr ?_, ?_⟩
    · clear h; exact ⟨by decide, by decide⟩  -- b2
    intro x4 hx4
    unfold w_drawn_97
    refine ⟨fun n l1 l3 l4 τ => n = (63 - l3).toNatClampNeg ∧ ((τ = σ_2 ∧ l1 = x3 ∧ 0 ≤ l3 ∧ l3 < σ.1 63 ∧ l4.toInt = wsum (σ.2.2.1 65) (l3.toNatClampNeg + 1)) ∧ wsum (σ.2.2.1 65) l3.toNatClampNeg ≤ l1.toInt), ⟨_, rfl, ?_⟩, ?_⟩
    · refine and_5 ?_ (fun o9 => ?_)  -- j3
      · clear h; refine ⟨rfl, rfl, by decide, Int32.lt_of_lt_of_le (by decide) W.1, ?_⟩
        rw [hx4, Int32.toInt_toInt64, hσ_2]
        show (σ.2.2.1 65 0).toInt = 0 + (σ.2.2.1 65 0).toInt
        omega
      · clear o9
        have m := mod_r (shr33 (x := σ_2.2.1 112)).1 (shr33 (x := σ_2.2.1 112)).2 (t := (σ_2.1 66).toInt64) (by rw [Int32.toInt_toInt64, hσ_2]; exact tp) (by rw [Int32.toInt_toInt64, hσ_2]; exact tl)
        rw [← hx3] at m
        have e0 : (0 : Int32).toNatClampNeg = 0 := rfl
        rw [e0]
        exact m.1
    rintro n97 x97_1 x97_3 x97_4 σ97 ⟨hn97, i97, hE⟩
    obtain ⟨e1, e2, a0, a1, S⟩ := i97
    have D : drF σ σ97 := by
      rw [e1, hσ_2]
      exact ⟨rfl, fun k hk => if_neg hk, rfl⟩
    have m := mod_r (shr33 (x := σ_2.2.1 112)).1 (shr33 (x := σ_2.2.1 112)).2 (t := (σ_2.1 66).toInt64) (by rw [Int32.toInt_toInt64, hσ_2]; exact tp) (by rw [Int32.toInt_toInt64, hσ_2]; exact tl)
    rw [← hx3, Int32.toInt_toInt64] at m
    have m2 : x3.toInt < (σ.1 66).toInt := by
      have z := m.2
      rw [hσ_2] at z
      exact z
    have l1 := cn_lt a0 a1
    refine ⟨fun c5 => ?_, fun c5 => ?_⟩
    · skip
      refine h _ _ ?_
      · refine and_5 ?_ (fun o9 => ?_)  -- q4
        · clear h; exact ⟨D, Or.inr (Or.inr ⟨a0, a1, fun z => absurd z c1⟩)⟩
        · clear o9
          have g := Int64.lt_iff_toInt_lt.mp ((lg_cmp_gt _ _).mp c5)
          have hr : x3.toInt = sh21 (sd21 (σ.2.1 112)) % (σ.1 66).toInt := by
            rw [hx3, mod_e21 (shr33 (x := σ_2.2.1 112)).1 (shr33 (x := σ_2.2.1 112)).2 (by rw [Int32.toInt_toInt64, hσ_2]; exact tp) (by rw [Int32.toInt_toInt64, hσ_2]; exact tl), Int32.toInt_toInt64, hσ_2]
            rfl
          rw [e2] at g hE
          rw [S, hr] at g
          rw [hr] at hE
          exact Or.inl ⟨c1, e1.trans hσ_2, a0, l1, hE, g⟩
    · skip
      intro x6 hx6
      have le := lg_le.mp (Int32.not_lt.mp c5)
      rw [e2] at le
      have le2 := Int64.le_iff_toInt_le.mp le
      have lt := dr_lt a0 a1 W.2.1 (fun e => by
        rw [S, e, ← W.2.2.2.1] at le2
        omega)
      have n64 : (σ.1 63).toNatClampNeg ≤ 64 := cn_le (y := 64) rfl W.2.1
      have nx : x97_3.toNatClampNeg + 1 ≠ (σ.1 63).toNatClampNeg := fun e => by
        rw [S, e, ← W.2.2.2.1] at le2
        omega
      have u := dr_up a0 (cn_ltr a0 (by decide) (by rw [show (63 : Int32).toNatClampNeg = 63 from rfl]; omega))
      have as := cn_succ a0 u.2.2.2.2
      refine ⟨ib_64.mpr ?_, ?_⟩
      · clear h; rw [hx6]; exact ⟨u.1, u.2.1⟩  -- b5
      intro x7 hx7
      refine lp_b5 (cn_lt2 hn97 ?_ ?_) (fun d9 => ⟨rfl, ?_⟩)
      · clear h; rw [hx6]; exact u.2.2.1  -- d6
      · clear h; rw [hx6]; exact u.2.2.2.1  -- d7
      · refine and_5 ?_ (fun o9 => ?_)  -- i8
        · clear h; refine ⟨e1, e2, by rw [hx6]; exact u.1, by rw [hx6]; exact lt, ?_⟩
          have r65 : σ97.2.2.1 65 = σ.2.2.1 65 := by rw [D.2.2]
          have k2 : x97_3.toNatClampNeg + 1 < (σ.1 63).toNatClampNeg := by
            have z := cn_lt u.1 lt
            rw [as] at z
            exact z
          rw [hx7, hx6, r65, as]
          show _ = wsum (σ.2.2.1 65) (x97_3.toNatClampNeg + 1) + (σ.2.2.1 65 (x97_3.toNatClampNeg + 1)).toInt
          have b1 := wsum_mono (m := x97_3.toNatClampNeg + 1) wn (by omega)
          have b0 := wsum_mono (m := 0) (n := x97_3.toNatClampNeg + 1) (fun i hi => wn i (by omega)) (Nat.zero_le _)
          have w0 := W.2.2.1 _ k2
          have w2 := ti w0.2
          rw [show (1000000 : Int32).toInt = 1000000 from rfl] at w2
          exact l64_add S (Int32.toInt_toInt64 _) b0 (by rw [← W.2.2.2.1] at b1; omega) (t0 w0.1) (by omega)
        · clear o9
          rw [hx6, as, ← S, e2]
          exact le2
  · skip
    have le := hle c1
    refine ⟨fun c8 => ?_, fun c8 => ?_⟩
    · skip
      refine ⟨ib_200.mpr ?_, ?_⟩
      · clear h; exact ⟨h9, Int32.lt_of_lt_of_le (Int32.lt_of_le_of_ne le c8) h4'⟩  -- b9
      refine isSlot_c hC  (fun r9 q11 => ?_)
      refine ⟨fun c12 => ?_, fun c12 => ?_⟩
      · skip
        refine h _ _ ?_
        · refine and_5 ?_ (fun o9 => ?_)  -- q10
          · clear h; exact ⟨⟨rfl, fun _ _ => rfl, rfl⟩, Or.inr (Or.inl rfl)⟩
          · clear o9
            refine Or.inr ⟨c1, rfl, Or.inr ⟨c8, Or.inr ⟨fun z => q11.2.mpr z c12, rfl⟩⟩⟩
      · skip
        refine ⟨ib_200.mpr ?_, ?_⟩
        · clear h; exact ⟨h9, Int32.lt_of_lt_of_le (Int32.lt_of_le_of_ne le c8) h4'⟩  -- b11
        refine h _ _ ?_
        · refine and_5 ?_ (fun o9 => ?_)  -- q12
          · clear h; have q := q11.2.mp c12
            exact ⟨⟨rfl, fun _ _ => rfl, rfl⟩, Or.inr (Or.inr ⟨q.1, q.2, fun _ => Int32.lt_of_le_of_ne le c8⟩)⟩
          · clear o9
            have q := q11.2.mp c12
            exact Or.inr ⟨c1, rfl, Or.inr ⟨c8, Or.inl ⟨q.1, q.2, rfl⟩⟩⟩
    · skip
      refine h _ _ ?_
      · refine and_5 ?_ (fun o9 => ?_)  -- q13
        · clear h; exact ⟨⟨rfl, fun _ _ => rfl, rfl⟩, Or.inl rfl⟩
        · clear o9
          exact Or.inr ⟨c1, rfl, Or.inl ⟨c8, rfl⟩⟩

theorem draws_g5 {C : rCx} (hC : cOK C) (B T : Int32) {σ : rS}  {Q : Int32 → rS → Prop} (hp : rI σ B T ∧ csF σ ∧ plV (σ.1 67) ∧ oW σ ∧ pyN σ ∧ 0 ≤ σ.1 109 ∧ σ.1 109 ≤ 2000 ∧ 0 ≤ σ.1 104 ∧ σ.1 104 ≤ 200 ∧ (σ.1 113 = 0 → σ.1 109 ≤ σ.1 104)) (h : ∀ (v : Int32) (σ' : rS), ((frW σ σ' ∧ pyN σ' ∧ σ.1 109 ≤ σ'.1 109 ∧ σ'.1 109 ≤ σ.1 109 + 1 ∧ (σ.1 113 = 0 → σ'.1 109 ≤ σ.1 104) ∧ ((v = 5 ∧ σ'.1 108 = σ.1 108 - 1 ∧ σ'.1 109 = σ.1 109) ∨ (σ'.1 108 = σ.1 108 ∧ ((v = 0 ∧ csF σ') ∨ v = 1 ∨ v = 2)))) ∧ (DS21 σ σ' v ∧ σ'.1 0 = σ.1 0)) → Q v σ') : cI C 4 m_draws [.ref (co C)] σ Q := by
  refine m_draws_run hC ?_
  unfold w_draws_0
  obtain ⟨hI, cF, pV, W, N, n0, n1, u0, u1, ule⟩ := hp
  have n2000 : (σ.1 109).toNatClampNeg ≤ 2000 := cn_le (y := 2000) rfl n1
  have p1' := py_1 n0 n1
  have ns := cn_succ n0 p1'.2.2
  refine drawn_g5 hC  ?_ (fun r1 σ_2 q3 => ?_)
  · clear h; exact ⟨W, n0, u0, u1, ule⟩  -- p1
  obtain ⟨q3, z9⟩ := q3
  have zd := z9
  refine ⟨fun c4 => ?_, fun c4 => ?_⟩
  · skip
    refine ⟨fun c5 => ?_, fun c5 => ?_⟩
    · skip
      intro σ_6 hσ_6
      refine ⟨ib_64.mpr ?_, ?_⟩
      · clear h; have r := (q3.2.resolve_left c4).resolve_left c5
        exact ⟨r.1, Int32.lt_of_lt_of_le r.2.1 W.2.1⟩
      refine set_c hC  ?_ (fun σ_7 q8 => ?_)
      · clear h; have r := (q3.2.resolve_left c4).resolve_left c5
        have e6 : σ_6.2.2 = σ.2.2 := by rw [hσ_6]; exact q3.1.2.2
        have w8 := W.2.2.1 r1.toNatClampNeg (cn_lt r.1 r.2.1)
        rw [e6]; exact ⟨by decide, by decide, l64_0 (Int32.toInt_toInt64 _) (t0 w8.1)⟩
      simp only [kn] at q8
      have r := (q3.2.resolve_left c4).resolve_left c5
      have e6 : σ_6.2.2 = σ.2.2 := by rw [hσ_6]; exact q3.1.2.2
      have f6 : ∀ k, k ≠ 109 → σ_6.1 k = σ.1 k := fun k hk => by
        rw [hσ_6]
        show (if k = 109 then _ else σ_2.1 k) = _
        rw [if_neg hk, q3.1.1]
      have g6 : σ_6.1 109 = σ.1 109 + 1 := by
        rw [hσ_6]
        show σ_2.1 109 + 1 = _
        rw [q3.1.1]
      have F6 : frW σ σ_6 := by rw [hσ_6]; exact frW_tr (frW_d q3.1) (frW_0 (by decide))
      have a17 := nu90 (k := 17) (σ := σ) (τ := σ_6) (by rw [e6]) (by rw [e6])
      have a18 := nu90 (k := 18) (σ := σ) (τ := σ_6) (by rw [e6]) (by rw [e6])
      have o17 := a17.1 N.1
      have o18 := a18.1 N.2.1
      have w8 := W.2.2.1 r1.toNatClampNeg (cn_lt r.1 r.2.1)
      have b17 := nV_fr q8.1 (k := 17) (by decide) o17
      refine times_c hC  ?_ (fun σ_9 q10 => ?_)
      · clear h; simp only [kn, kn2]
        exact ⟨by decide, by decide, by decide, by decide, by decide, by decide, by decide, by decide, b17.1, q8.2.1, by have := q8.2.2.2; have := b17.2.2; have := a17.2.2; have := N.2.2.2.1; omega⟩
      simp only [kn, kn2] at q10
      refine copy_v hC  ?_ (fun σ_11 q12 => ?_)
      · clear h; simp only [kn, kn2]; exact ⟨by decide, by decide, by decide, by decide, by decide, q10.2.1⟩  -- p5
      simp only [kn, kn2] at q12
      have e11 : σ_11.1 = σ_6.1 := by rw [q12.1.1, q10.1.1, q8.1.1]
      refine set_c hC  ?_ (fun σ_13 q14 => ?_)
      · clear h; rw [e11, f6 66 (by decide)]
        exact ⟨by decide, by decide, l64_0 (Int32.toInt_toInt64 _) (t0 (Int32.le_of_lt W.2.2.2.2.1))⟩
      simp only [kn] at q14
      rw [e11, f6 66 (by decide), Int32.toInt_toInt64] at q14
      have b18 := nV_fr q8.1 (k := 18) (by decide) o18
      have c18 := nV_fr q10.1 (k := 18) (by decide) b18.1
      have d18 := nV_fr q12.1 (k := 18) (by decide) c18.1
      have x18 := nV_fr q14.1 (k := 18) (by decide) d18.1
      have p66 : 0 < (σ.1 66).toInt.toNat := by
        have z := Int32.lt_iff_toInt_lt.mp W.2.2.2.2.1
        rw [Int32.toInt_zero] at z
        omega
      refine times_c hC  ?_ (fun σ_15 q16 => ?_)
      · clear h; simp only [kn, kn2]
        exact ⟨by decide, by decide, by decide, by decide, by decide, by decide, by decide, by decide, x18.1, q14.2.1, by have := q14.2.2.2; have := x18.2.2; have := d18.2.2; have := c18.2.2; have := b18.2.2; have := a18.2.2; have := N.2.2.2.2; omega⟩
      simp only [kn, kn2] at q16
      refine copy_v hC  ?_ (fun σ_17 q18 => ?_)
      · clear h; simp only [kn, kn2]; exact ⟨by decide, by decide, by decide, by decide, by decide, q16.2.1⟩  -- p8
      simp only [kn, kn2] at q18
      have e17 : σ_17.1 = σ_6.1 := by rw [q18.1.1, q16.1.1, q14.1.1, e11]
      have F17 : frW σ σ_17 := frW_tr F6 (frW_tr (frW_N q8.1 (sub_of rfl)) (frW_tr (frW_N q10.1 (sub_of rfl)) (frW_tr (frW_N q12.1 (sub_of rfl)) (frW_tr (frW_N q14.1 (sub_of rfl)) (frW_tr (frW_N q16.1 (sub_of rfl)) (frW_N q18.1 (sub_of rfl)))))))
      have r17 : ∀ k, k ≠ 90 → k ≠ 91 → σ_17.2.2.1 k = σ.2.2.1 k := fun k z1 z2 => by rw [q18.1.2.2.1 k z1 z2, q16.1.2.2.1 k z1 z2, q14.1.2.2.1 k z1 z2, q12.1.2.2.1 k z1 z2, q10.1.2.2.1 k z1 z2, q8.1.2.2.1 k z1 z2, e6]
      have y17 := nV_fr q18.1 (k := 17) (by decide) (nV_fr q16.1 (k := 17) (by decide) (nV_fr q14.1 (k := 17) (by decide) q12.2.1).1).1
      have y17l : nL σ_17 17 = nL σ_11 17 := by rw [y17.2.2, (nV_fr q16.1 (k := 17) (by decide) (nV_fr q14.1 (k := 17) (by decide) q12.2.1).1).2.2, (nV_fr q14.1 (k := 17) (by decide) q12.2.1).2.2]
      have N17 : pyN σ_17 := by
        unfold pyN
        rw [e17, g6, ns]
        refine ⟨y17.1, q18.2.1, ?_, ?_, ?_⟩
        · rw [q18.2.2.1, q16.2.2.1, q14.2.2.1, x18.2.1, d18.2.1, c18.2.1, b18.2.1, a18.2.1]
          exact Nat.mul_pos N.2.2.1 p66
        · have := q12.2.2.2
          have := q10.2.2.2
          have := q8.2.2.2
          have := b17.2.2
          have := a17.2.2
          have := N.2.2.2.1
          omega
        · have := q18.2.2.2
          have := q16.2.2.2
          have := q14.2.2.2
          have := x18.2.2
          have := d18.2.2
          have := c18.2.2
          have := b18.2.2
          have := a18.2.2
          have := N.2.2.2.2
          omega
      refine get_g5 hC B T ?_ (fun r19 σ_20 q21 => ?_)
      · clear h; exact ⟨rI_W hI F17, csF_o cF (r17 59 (by decide) (by decide)) (r17 30 (by decide) (by decide)) (by rw [e17]; exact f6 19 (by decide)) (by rw [e17]; exact f6 58 (by decide)), by rw [e17, f6 67 (by decide)]; exact pV, r.1, Int32.lt_of_lt_of_le r.2.1 W.2.1⟩  -- p9
      obtain ⟨q21, z9⟩ := q21
      refine h _ _ ?_
      · refine and_5 ?_ (fun o9 => ?_)  -- q10
        · clear h; have e9 : σ_20.1 109 = σ.1 109 + 1 := by rw [q21.1.1 109 (by decide), e17, g6]
          refine ⟨frW_tr F17 (frW_G q21.1 (sub_of rfl) (sub_of rfl)), pyN_G N17 q21.1 (by decide) (by decide) (by decide), by rw [e9]; exact p1'.1, by rw [e9]; exact Int32.le_refl _, fun z => by rw [e9]; exact py_2 n0 (r.2.2 z) u1, Or.inr ⟨by rw [q21.1.1 108 (by decide), e17]; exact f6 108 (by decide), ?_⟩⟩
          rcases q21.2 with z | z
          · exact Or.inl z
          · exact Or.inr (Or.inl z)
        · clear o9
          refine ⟨⟨σ_2, r1, zd, Or.inr (Or.inr ⟨c4, c5, σ_17, ?_, ?_, ?_, z9, q21.1.2.1⟩)⟩, ?_⟩
          · rw [← hσ_6]
            exact nu_t21 (nu_n21 q8.1) (nu_t21 (nu_n21 q10.1) (nu_t21 (nu_n21 q12.1) (nu_t21 (nu_n21 q14.1) (nu_t21 (nu_n21 q16.1) (nu_n21 q18.1)))))
          · rw [y17.2.1, (nV_fr q16.1 (k := 17) (by decide) (nV_fr q14.1 (k := 17) (by decide) q12.2.1).1).2.1, (nV_fr q14.1 (k := 17) (by decide) q12.2.1).2.1, q12.2.2.1, q10.2.2.1, q8.2.2.1, b17.2.1, a17.2.1, Int32.toInt_toInt64, e6]
          · rw [q18.2.2.1, q16.2.2.1, q14.2.2.1, x18.2.1, d18.2.1, c18.2.1, b18.2.1, a18.2.1]
          · rw [q21.1.1 0 (by decide), e17]; exact f6 0 (by decide)
    · skip
      refine fail_g5 hC  (fun r22 σ_23 q24 => ?_)
      obtain ⟨q24, z9⟩ := q24
      refine h _ _ ?_
      · refine and_5 ?_ (fun o9 => ?_)  -- q11
        · clear h; have e2 : σ_23.2 = σ_2.2 := q24.1.2
          have G : frG [61] [] σ_2 σ_23 := frG_61 q24.1 (by decide)
          have e9 : σ_23.1 109 = σ.1 109 := by rw [G.1 109 (by decide), q3.1.1]
          exact ⟨frW_tr (frW_d q3.1) (frW_G G (sub_of rfl) (sub_of rfl)), pyN_r N (by rw [e2, q3.1.2.2]) (by rw [e2, q3.1.2.2]) e9, by rw [e9]; exact Int32.le_refl _, by rw [e9]; exact p1'.1, fun z => by rw [e9]; exact ule z, Or.inr ⟨by rw [G.1 108 (by decide), q3.1.1], Or.inr (Or.inr q24.2)⟩⟩
        · clear o9
          refine ⟨⟨σ_2, r1, zd, Or.inr (Or.inl ⟨c5, z9⟩)⟩, ?_⟩
          rw [q24.1.1 0 (by decide), q3.1.1]
  · skip
    intro σ_25 hσ_25
    refine h _ _ ?_
    · refine and_5 ?_ (fun o9 => ?_)  -- q12
      · clear h; have e9 : σ_25.1 109 = σ.1 109 := by
          rw [hσ_25]
          show σ_2.1 109 = _
          rw [q3.1.1]
        have e8 : σ_25.1 108 = σ.1 108 - 1 := by
          rw [hσ_25]
          show σ_2.1 108 - 1 = _
          rw [q3.1.1]
        have e2 : σ_25.2.2 = σ.2.2 := by rw [hσ_25]; exact q3.1.2.2
        exact ⟨by rw [hσ_25]; exact frW_tr (frW_d q3.1) (frW_0 (by decide)), pyN_r N (by rw [e2]) (by rw [e2]) e9, by rw [e9]; exact Int32.le_refl _, by rw [e9]; exact p1'.1, fun z => by rw [e9]; exact ule z, Or.inl ⟨rfl, e8, e9⟩⟩
      · clear o9
        refine ⟨⟨σ_2, r1, zd, Or.inl ⟨c4, hσ_25, rfl⟩⟩, ?_⟩
        rw [hσ_25, si1, if_neg (by decide), q3.1.1]

theorem chooses_g5 {C : rCx} (hC : cOK C) (B T : Int32) {σ : rS}  {Q : Int32 → rS → Prop} (hp : rI σ B T ∧ csF σ ∧ plV (σ.1 67) ∧ exP σ) (h : ∀ (v : Int32) (σ' : rS), ((frG [58, 61] [57, 59, 60, 84] σ σ' ∧ ((v = 0 ∧ csF σ') ∨ v = 1)) ∧ (CS21 σ σ' v)) → Q v σ') : cI C 4 m_chooses [.ref (co C)] σ Q := by
  refine m_chooses_run hC ?_
  unfold w_chooses_0
  obtain ⟨hI, cF, pV, hP⟩ := hp
  have hj15 : ∀ (s0 : Int32) (τ : rS), ((frG [] [84] σ τ ∧ (s0 = -1 ∨ (0 ≤ s0 ∧ s0 < σ.1 70))) ∧ CJ21 σ τ s0) → w_chooses_15 C Q  s0 τ := by
    rintro y15_s0 τ15 ⟨j15, hE⟩
    unfold w_chooses_15
    obtain ⟨F, k⟩ := j15
    have I15 := rI_W hI (frW_G F (sub_of rfl) (sub_of rfl))
    have C15 := csF_o cF (F.2.2.1 59 (by decide)) (F.2.2.1 30 (by decide)) (F.1 19 (by decide)) (F.1 58 (by decide))
    have P15 : plV (τ15.1 67) := by rw [F.1 67 (by decide)]; exact pV
    refine ⟨fun c1 => ?_, fun c1 => ?_⟩
    · skip
      refine ⟨ib_1000.mpr ?_, ?_⟩
      · clear h; have q := k.resolve_left c1
        exact ⟨q.1, Int32.lt_of_lt_of_le q.2 hP.1.1.2⟩
      refine get_g5 hC B T ?_ (fun r2 σ_3 q4 => ?_)
      · clear h; have q := k.resolve_left c1
        have z := hP.2.2.1 y15_s0 q.1 q.2
        have st := hP.1.2.2.2.1 y15_s0 q.1 q.2
        refine ⟨I15, C15, P15, ?_⟩
        rw [F.2.2.1 83 (by decide)]
        by_cases e : rd σ 81 y15_s0 = 0
        · have z1 := z.1 e
          rw [rd] at z1
          rw [z1]
          decide
        · have z2 := z.2 e
          have l := st.2.2.2.2 e
          exact ⟨z2.1, Int32.lt_of_lt_of_le z2.2 (Int32.le_trans l (by decide))⟩
      obtain ⟨q4, z9⟩ := q4
      refine h _ _ ?_
      · refine and_5 ?_ (fun o9 => ?_)  -- q3
        · clear h; exact ⟨frG_tr (frG_mono F (sub_of rfl) (sub_of rfl)) (frG_mono q4.1 (sub_of rfl) (sub_of rfl)), q4.2⟩
        · clear o9
          refine ⟨τ15, y15_s0, hE, ?_⟩
          rw [if_neg c1, ← F.2.2.1 83 (by decide)]
          exact z9
    · skip
      refine get_g5 hC B T ?_ (fun r5 σ_6 q7 => ?_)
      · clear h; exact ⟨I15, C15, P15, by decide, by decide⟩  -- p4
      obtain ⟨q7, z9⟩ := q7
      refine h _ _ ?_
      · refine and_5 ?_ (fun o9 => ?_)  -- q5
        · clear h; exact ⟨frG_tr (frG_mono F (sub_of rfl) (sub_of rfl)) (frG_mono q7.1 (sub_of rfl) (sub_of rfl)), q7.2⟩
        · clear o9
          refine ⟨τ15, y15_s0, hE, ?_⟩
          rw [if_pos c1]
          exact z9
  refine ⟨fun c8 => ?_, fun c8 => ?_⟩
  · skip
    refine hj15 _ _ ?_
    · refine and_5 ?_ (fun o9 => Or.inl ⟨c8, rfl, rfl⟩)  -- k6
      clear h; exact ⟨frG_refl, Or.inl rfl⟩
  · skip
    refine stateNow_g5 hC  ?_ (fun r9 σ_10 q11 => ?_)
    · clear h; exact ⟨cF, hP.1.1.1, hP.1.1.2⟩  -- p7
    obtain ⟨q11, z9⟩ := q11
    refine hj15 _ _ ?_
    · refine and_5 ?_ (fun o9 => Or.inr ⟨c8, z9⟩)  -- k8
      clear h; exact ⟨q11.1, q11.2.2⟩

theorem go2_g5 {C : rCx} (hC : cOK C) (T : Int32) {σ : rS} {a1 : Int32} {Q : Int32 → rS → Prop} (hp : (σ.1 14 ≠ 0 → rI σ (σ.1 3) T) ∧ exP σ ∧ 0 ≤ σ.1 104 ∧ σ.1 104 ≤ 200 ∧ plN σ) (h : ∀ (v : Int32) (σ' : rS), ((frW σ σ' ∧ plN σ') ∧ (GO21 a1 σ σ' v)) → Q v σ') : cI C 10 m_go2 [.ref (co C), .int a1] σ Q := by
  refine m_go2_run hC ?_
  unfold w_go2_0
  obtain ⟨hI, hP, t0', t1', hn⟩ := hp
  have hj213 : ∀ (s1 : Int32) (τ : rS), ((frW σ τ ∧ pyQ τ) ∧ ∃ τ0 h v, LP21 a1 σ τ0 h ∧ FI21 a1 τ0 v h ∧ τ = siU τ0 106 v ∧ s1 = (if v = 1 ∨ v = 2 then τ0.1 61 else 0) ∧ τ0.1 0 = 0 ∧ cy21 σ a1 = 0) → w_go2_213 C Q  s1 τ := by
    rintro y213_s1 τ213 ⟨j213, hE⟩
    unfold w_go2_213
    intro σ_1 hσ_1
    unfold w_go2_219
    refine ⟨fun n l4 τ => n = (34 - l4).toNatClampNeg ∧ ((frW σ τ ∧ pyQ τ ∧ 0 ≤ l4 ∧ l4 ≤ 34) ∧ ∃ τ0 h v, LP21 a1 σ τ0 h ∧ FI21 a1 τ0 v h ∧ PD21 τ0 v τ l4.toNatClampNeg ∧ τ.1 0 = 0 ∧ cy21 σ a1 = 0), ⟨_, rfl, ?_⟩, ?_⟩
    · refine and_5 ?_ (fun o9 => ?_)  -- j1
      · clear h; have F : frW σ σ_1 := by rw [hσ_1]; exact frW_tr j213.1 (frW_0 (by decide))
        exact ⟨F, pyQ_r j213.2 (by rw [hσ_1]; rfl) (by rw [hσ_1]; rfl), by decide, by decide⟩
      · clear o9
        obtain ⟨τ0, hw, vv, L, Fi, et, es, z0, zc⟩ := hE
        refine ⟨τ0, hw, vv, L, Fi, ⟨fun k n1 n2 => ?_, ?_, ?_, ?_, fun k _ => ?_, fun j hj => ?_, ?_⟩, ?_, zc⟩
        · rw [hσ_1, si1, if_neg n2, et, si1, if_neg n1]
        · rw [hσ_1, si1, if_neg (by decide), et, si1, if_pos rfl]
        · rw [hσ_1, si1, if_pos rfl]; exact es
        · rw [hσ_1, et]; rfl
        · rw [hσ_1, et]; rfl
        · exact absurd hj (Nat.not_lt_zero j)
        · rw [hσ_1, et]; rfl
        · rw [hσ_1, si1, if_neg (by decide), et, si1, if_neg (by decide)]; exact z0
    rintro n219 x219_4 σ219 ⟨hn219, i219, hE⟩
    obtain ⟨F, P, a0, a1'⟩ := i219
    refine ⟨fun c2 => ?_, fun c2 => ?_⟩
    · skip
      refine h _ _ ?_
      · refine and_5 ?_ (fun o9 => ?_)  -- q2
        · clear h; exact ⟨F, fun _ => P⟩
        · clear o9
          obtain ⟨τ0, hw, vv, L, Fi, ⟨p1, p2, p3, p4, p5, p6, p7⟩, z0, zc⟩ := hE
          have e34 : x219_4.toNatClampNeg = 34 := by
            have y : x219_4 = 34 := Int32.le_antisymm a1' c2
            rw [y]; rfl
          rw [e34] at p6
          rw [p2]
          exact Or.inr ⟨zc, z0, τ0, hw, L, Fi, p1, p2, p3, p4, p5, p6, p7⟩
    · skip
      have u := u34g a0 c2
      refine ⟨ib_34.mpr ?_, ?_⟩
      · clear h; exact ⟨a0, u.2.2.2.2⟩  -- b3
      refine ⟨ib_34.mpr ?_, ?_⟩
      · clear h; exact ⟨a0, u.2.2.2.2⟩  -- b4
      intro σ_3 hσ_3
      intro x4 hx4
      refine lp_b5 (cn_lt2 hn219 ?_ ?_) (fun d9 => ⟨rfl, ?_⟩)
      · clear h; rw [hx4]; exact u.1  -- d5
      · clear h; rw [hx4]; exact u.2.1  -- d6
      · refine and_5 ?_ (fun o9 => ?_)  -- i7
        · clear h; rw [hx4]
          exact ⟨by rw [hσ_3]; exact frW_tr F frW_1, pyQ_r P (by rw [hσ_3, ri3 (by decide)]) (by rw [hσ_3, ri3 (by decide)]), u.2.2.1, u.2.2.2.1⟩
        · clear o9
          obtain ⟨τ0, hw, vv, L, Fi, ⟨p1, p2, p3, p4, p5, p6, p7⟩, z0, zc⟩ := hE
          have as := cn_succ a0 (Int32.lt_trans u.2.2.2.2 (by decide))
          refine ⟨τ0, hw, vv, L, Fi, ⟨fun k n1 n2 => ?_, ?_, ?_, ?_, fun k n1 => ?_, fun j hj => ?_, ?_⟩, ?_, zc⟩
          · rw [hσ_3, ri1]; exact p1 k n1 n2
          · rw [hσ_3, ri1]; exact p2
          · rw [hσ_3, ri1]; exact p3
          · rw [hσ_3]; exact p4
          · rw [hσ_3, ri3 n1]; exact p5 k n1
          · rw [hx4, as] at hj
            rw [hσ_3, ri_row]
            by_cases c : j = x219_4.toNatClampNeg
            · rw [c, upd_eq]; exact congrFun (p5 57 (by decide)) _
            · rw [upd_ne c]; exact p6 j (by omega)
          · rw [hσ_3]; exact p7
          · rw [hσ_3, ri1]; exact z0
  have hj205 : ∀  (τ : rS), ((frW σ τ ∧ pyQ τ) ∧ ∃ τ0 h v, LP21 a1 σ τ0 h ∧ FI21 a1 τ0 v h ∧ τ = siU τ0 106 v ∧ (v = 1 ∨ v = 2) ∧ τ0.1 0 = 0 ∧ cy21 σ a1 = 0) → w_go2_205 C Q   τ := by
    rintro  τ205 ⟨j205, hE⟩
    unfold w_go2_205
    refine hj213 _ _ ?_
    · refine and_5 ?_ (fun o9 => ?_)  -- k8
      · clear h; exact j205
      · clear o9
        obtain ⟨τ0, hw, vv, L, Fi, et, es, z0, zc⟩ := hE
        refine ⟨τ0, hw, vv, L, Fi, et, ?_, z0, zc⟩
        rw [if_pos es, et, si1, if_neg (by decide)]
  have hj185 : ∀ (s1 : Int32) (τ : rS), ((frW σ τ ∧ pyQ τ) ∧ ∃ h, LP21 a1 σ τ h ∧ FI21 a1 τ s1 h ∧ τ.1 0 = 0 ∧ cy21 σ a1 = 0) → w_go2_185 C Q  s1 τ := by
    rintro y185_s1 τ185 ⟨j185, hE⟩
    unfold w_go2_185
    intro σ_5 hσ_5
    refine ⟨fun c6 => ?_, fun c6 => ?_⟩
    · skip
      refine hj205 _ ?_
      · refine and_5 ?_ (fun o9 => ?_)  -- k9
        · clear h; rw [hσ_5]; exact ⟨frW_tr j185.1 (frW_0 (by decide)), pyQ_r j185.2 rfl rfl⟩
        · clear o9
          obtain ⟨hw, L, Fi, z0, zc⟩ := hE
          have e : σ_5.1 106 = y185_s1 := by rw [hσ_5, si1, if_pos rfl]
          rw [e] at c6
          exact ⟨τ185, hw, y185_s1, L, Fi, hσ_5, Or.inl c6, z0, zc⟩
    · skip
      refine ⟨fun c7 => ?_, fun c7 => ?_⟩
      · skip
        refine hj213 _ _ ?_
        · refine and_5 ?_ (fun o9 => ?_)  -- k10
          · clear h; rw [hσ_5]; exact ⟨frW_tr j185.1 (frW_0 (by decide)), pyQ_r j185.2 rfl rfl⟩
          · clear o9
            obtain ⟨hw, L, Fi, z0, zc⟩ := hE
            have e : σ_5.1 106 = y185_s1 := by rw [hσ_5, si1, if_pos rfl]
            rw [e] at c6 c7
            refine ⟨τ185, hw, y185_s1, L, Fi, hσ_5, ?_, z0, zc⟩
            rw [if_neg (fun z => z.elim c6 c7)]
      · skip
        refine hj205 _ ?_
        · refine and_5 ?_ (fun o9 => ?_)  -- k11
          · clear h; rw [hσ_5]; exact ⟨frW_tr j185.1 (frW_0 (by decide)), pyQ_r j185.2 rfl rfl⟩
          · clear o9
            obtain ⟨hw, L, Fi, z0, zc⟩ := hE
            have e : σ_5.1 106 = y185_s1 := by rw [hσ_5, si1, if_pos rfl]
            rw [e] at c7
            exact ⟨τ185, hw, y185_s1, L, Fi, hσ_5, Or.inr c7, z0, zc⟩
  have hj175 : ∀ (l2 : Int32) (l3 : Int32) (τ : rS), ((frW σ τ ∧ pyQ τ) ∧ LP21 a1 σ τ l2 ∧ τ.1 0 = 0 ∧ cy21 σ a1 = 0 ∧ (l3 = 0 → l2 ≠ 0 ∧ l2 ≠ 5) ∧ (¬ l3 = 0 → l2 = 5 ∨ (l2 = 0 ∧ τ.1 108 = a1))) → w_go2_175 C Q  l2 l3 τ := by
    rintro y175_2 y175_3 τ175 ⟨j175, hE⟩
    unfold w_go2_175
    refine ⟨fun c8 => ?_, fun c8 => ?_⟩
    · skip
      refine hj185 _ _ ?_
      · refine and_5 ?_ (fun o9 => ?_)  -- k12
        · clear h; exact j175
        · clear o9
          obtain ⟨L, z0, zc, w1, w2⟩ := hE
          exact ⟨y175_2, L, Or.inr (Or.inr ⟨(w1 c8).1, (w1 c8).2, rfl⟩), z0, zc⟩
    · skip
      refine hj185 _ _ ?_
      · refine and_5 ?_ (fun o9 => ?_)  -- k13
        · clear h; exact j175
        · clear o9
          obtain ⟨L, z0, zc, w1, w2⟩ := hE
          refine ⟨y175_2, L, ?_, z0, zc⟩
          rcases w2 c8 with q | q
          · exact Or.inl ⟨q, rfl⟩
          · exact Or.inr (Or.inl ⟨q.1, q.2, rfl⟩)
  have hj28 : ∀ (l1 : Int32) (s1 : Int32) (τ : rS), ((l1 = a1 ∧ τ = σ ∧ (s1 ≤ 0 → σ.1 14 ≠ 0 ∧ 0 ≤ a1 ∧ a1 ≤ 2000)) ∧ s1 = cy21 σ a1) → w_go2_28 C Q  l1 s1 τ := by
    rintro y28_1 y28_s1 τ28 ⟨j28, hE⟩
    unfold w_go2_28
    intro σ_9 hσ_9
    refine ⟨fun c10 => ?_, fun c10 => ?_⟩
    · skip
      intro σ_11 hσ_11
      intro σ_12 hσ_12
      intro σ_13 hσ_13
      refine set_c hC  ?_ (fun σ_14 q15 => ?_)
      · clear h; exact ⟨by decide, by decide, by decide⟩  -- p14
      simp only [kn2] at q15
      refine set_c hC  ?_ (fun σ_16 q17 => ?_)
      · clear h; exact ⟨by decide, by decide, by decide⟩  -- p15
      simp only [kn2] at q17
      obtain ⟨y1, y2, y3⟩ := j28
      have e0 : σ_9.1 0 = y28_s1 := by rw [hσ_9]; rfl
      have w := y3 (by rw [← e0]; exact c10)
      have F13 : frW σ σ_13 := by
        rw [hσ_13, hσ_12, hσ_11, hσ_9, y2]
        exact frW_tr (frW_tr (frW_tr (frW_0 (by decide)) (frW_0 (by decide))) (frW_0 (by decide))) frW_l
      have F16 : frW σ σ_16 := frW_tr F13 (frW_tr (frW_N q15.1 (sub_of rfl)) (frW_N q17.1 (sub_of rfl)))
      have e16 : σ_16.1 = σ_13.1 := by rw [q17.1.1, q15.1.1]
      have f108 : σ_16.1 108 = 0 := by rw [e16, hσ_13, hσ_12, hσ_11]; rfl
      have f109 : σ_16.1 109 = 0 := by rw [e16, hσ_13, hσ_12]; rfl
      have g17 := nV_fr q17.1 (k := 17) (by decide) q15.2.1
      have N16 : pyN σ_16 := ⟨g17.1, q17.2.1, by rw [q17.2.2.1]; decide, by have := g17.2.2; have := q15.2.2.2; omega, by have := q17.2.2.2; omega⟩
      refine begin_g5 hC (σ.1 3) T ?_ (fun r18 σ_19 q20 => ?_)
      · clear h; exact rI_W (hI w.1) F16  -- p16
      obtain ⟨q20, z9⟩ := q20
      unfold w_go2_76
      refine ⟨fun n l1 l2 l3 τ => n = (if l2 = 0 ∧ l3 = 0 then (a1 - τ.1 108).toNatClampNeg + 1 else 0) ∧ ((l1 = a1 ∧ pyI σ τ a1 ∧ (l2 = 0 → l3 = 0 → csF τ)) ∧ LP21 a1 σ τ l2 ∧ τ.1 0 = 0 ∧ cy21 σ a1 = 0 ∧ ((l3 = 0 ∧ l2 ≠ 5) ∨ (¬ l3 = 0 ∧ (l2 = 5 ∨ (l2 = 0 ∧ τ.1 108 = a1))))), ⟨_, rfl, ?_⟩, ?_⟩
      · refine and_5 ?_ (fun o9 => ?_)  -- j17
        · clear h; have G : frW σ σ_19 := frW_tr F16 (frW_G q20.1 (sub_of rfl) (sub_of rfl))
          have h108 : σ_19.1 108 = 0 := by rw [q20.1.1 108 (by decide)]; exact f108
          have h109 : σ_19.1 109 = 0 := by rw [q20.1.1 109 (by decide)]; exact f109
          refine ⟨y1, ⟨G, pyN_G N16 q20.1 (by decide) (by decide) (by decide), by rw [h109]; decide, by rw [h109, h108]; decide, by rw [h108]; exact w.2.1, fun _ => by rw [h109]; exact t0'⟩, fun e _ => ?_⟩
          rcases q20.2 with z | z
          · exact z.2
          · rw [z] at e; exact absurd e (by decide)
        · clear o9
          have zc : cy21 σ a1 = 0 := by
            unfold cy21
            rw [if_neg w.1, if_pos w.2]
          have s0 : y28_s1 = 0 := hE.trans zc
          have n5 : r18 ≠ 5 := fun z => by
            rcases q20.2 with y | y
            · rw [y.1] at z; exact absurd z (by decide)
            · rw [y] at z; exact absurd z (by decide)
          have b : BG21 σ σ_19 r18 := by
            refine ⟨σ_16, ?_, ?_, ?_, z9, q20.1.2.1⟩
            · have e13 : σ_13 = slU (siU (siU (siU σ 0 0) 108 0) 109 0) 110 0 := by rw [hσ_13, hσ_12, hσ_11, hσ_9, y2, s0]
              rw [← e13]
              exact nu_t21 (nu_n21 q15.1) (nu_n21 q17.1)
            · rw [g17.2.1, q15.2.2.1]; rfl
            · rw [q17.2.2.1]; rfl
          refine ⟨⟨σ_19, r18, 0, fun _ => (σ_19, r18), b, ⟨rfl, fun n hn => absurd hn (Nat.not_lt_zero n)⟩, rfl⟩, ?_, zc, Or.inl ⟨rfl, n5⟩⟩
          rw [q20.1.1 0 (by decide), e16, hσ_13, hσ_12, hσ_11, hσ_9, s0]
          rfl
      rintro n76 x76_1 x76_2 x76_3 σ76 ⟨hn76, i76, hE⟩
      have hj160 : ∀ (l1 : Int32) (s0 : Int32) (τ : rS), ((l1 = a1 ∧ pyI σ τ a1 ∧ (s0 = 0 → csF τ) ∧ (s0 = 5 ∨ σ76.1 108 < τ.1 108) ∧ x76_2 = 0 ∧ x76_3 = 0) ∧ LP21 a1 σ τ s0 ∧ τ.1 0 = 0 ∧ cy21 σ a1 = 0) → w_go2_160 C Q (fun l1' l2' l3' τ => ∃ k < n76, (fun n l1 l2 l3 τ => n = (if l2 = 0 ∧ l3 = 0 then (a1 - τ.1 108).toNatClampNeg + 1 else 0) ∧ ((l1 = a1 ∧ pyI σ τ a1 ∧ (l2 = 0 → l3 = 0 → csF τ)) ∧ LP21 a1 σ τ l2 ∧ τ.1 0 = 0 ∧ cy21 σ a1 = 0 ∧ ((l3 = 0 ∧ l2 ≠ 5) ∨ (¬ l3 = 0 ∧ (l2 = 5 ∨ (l2 = 0 ∧ τ.1 108 = a1)))))) k l1' l2' l3' τ) l1 s0 τ := by
        rintro y160_1 y160_s0 τ160 ⟨j160, hE⟩
        unfold w_go2_160
        obtain ⟨z1, P, zc, zd, z2, z3⟩ := j160
        obtain ⟨i1, I76, ic⟩ := i76
        refine ⟨fun c21 => ?_, fun c21 => ?_⟩
        · skip
          refine lp_b5 ?_ (fun d9 => ⟨rfl, ?_⟩)
          · clear h; have m : n76 = (a1 - σ76.1 108).toNatClampNeg + 1 := by rw [hn76, if_pos ⟨z2, z3⟩]
            rw [m]
            split
            · exact Nat.succ_lt_succ (go_m (Int32.le_trans I76.2.2.1 I76.2.2.2.1) (zd.resolve_left c21) P.2.2.2.2.1 w.2.2)
            · exact Nat.succ_pos _
          · refine and_5 ?_ (fun o9 => ?_)  -- i19
            · clear h; exact ⟨z1, P, fun e _ => zc e⟩
            · clear o9
              exact ⟨hE.1, hE.2.1, hE.2.2, Or.inl ⟨rfl, c21⟩⟩
        · skip
          refine lp_b5 ?_ (fun d9 => ⟨rfl, ?_⟩)
          · clear h; have m : n76 = (a1 - σ76.1 108).toNatClampNeg + 1 := by rw [hn76, if_pos ⟨z2, z3⟩]
            rw [m, if_neg (fun z => absurd z.2 (by decide))]
            exact Nat.succ_pos _
          · refine and_5 ?_ (fun o9 => ?_)  -- i21
            · clear h; exact ⟨z1, P, fun _ e => absurd e (by decide)⟩
            · clear o9
              exact ⟨hE.1, hE.2.1, hE.2.2, Or.inr ⟨by decide, Or.inl c21⟩⟩
      have hj131 : ∀ (l1 : Int32) (l2 : Int32) (s1 : Int64) (s2 : Int64) (τ : rS), ((l1 = a1 ∧ pyI σ τ a1 ∧ τ.1 109 < τ.1 108 ∧ σ76.1 108 < τ.1 108 ∧ acQ l2 τ ∧ x76_2 = 0 ∧ x76_3 = 0) ∧ ∃ σ1, g5_act σ76 = (σ1, l2) ∧ (acQ l2 σ1 ∧ ∀ k, σ1.2.1 k = σ76.2.1 k) ∧ τ = siU σ1 108 (σ1.1 108 + 1) ∧ s1 = σ1.2.1 110 ∧ s2 = (if l2 = 2 then 0 else (σ1.1 62).toInt64) ∧ LP21 a1 σ σ76 0 ∧ σ76.1 108 ≠ a1 ∧ τ.1 0 = 0 ∧ cy21 σ a1 = 0) → w_go2_131 C Q (fun l1' l2' l3' τ => ∃ k < n76, (fun n l1 l2 l3 τ => n = (if l2 = 0 ∧ l3 = 0 then (a1 - τ.1 108).toNatClampNeg + 1 else 0) ∧ ((l1 = a1 ∧ pyI σ τ a1 ∧ (l2 = 0 → l3 = 0 → csF τ)) ∧ LP21 a1 σ τ l2 ∧ τ.1 0 = 0 ∧ cy21 σ a1 = 0 ∧ ((l3 = 0 ∧ l2 ≠ 5) ∨ (¬ l3 = 0 ∧ (l2 = 5 ∨ (l2 = 0 ∧ τ.1 108 = a1)))))) k l1' l2' l3' τ) l1 l2 s1 s2 τ := by
        rintro y131_1 y131_2 y131_s1 y131_s2 τ131 ⟨j131, hE⟩
        unfold w_go2_131
        intro σ_22 hσ_22
        obtain ⟨z1, P, zl, zm, A, z2, z3⟩ := j131
        obtain ⟨i1, I76, ic⟩ := i76
        have F22 : frW σ σ_22 := by rw [hσ_22]; exact frW_tr P.1 frW_l
        have P22 : pyI σ σ_22 a1 := ⟨F22, pyN_r P.2.1 (by rw [hσ_22]; rfl) (by rw [hσ_22]; rfl) (by rw [hσ_22]; rfl), by rw [hσ_22]; exact P.2.2.1, by rw [hσ_22]; exact P.2.2.2.1, by rw [hσ_22]; exact P.2.2.2.2.1, by rw [hσ_22]; exact P.2.2.2.2.2⟩
        have l22 : σ76.1 108 < σ_22.1 108 := by rw [hσ_22]; exact zm
        have k22' : σ_22.1 109 < σ_22.1 108 := by rw [hσ_22]; exact zl
        have I22 := rI_W (hI w.1) F22
        have gd := go_d P22.2.2.1 k22' P22.2.2.2.2.1 w.2.2
        refine ⟨fun c23 => ?_, fun c23 => ?_⟩
        · skip
          refine ⟨fun c24 => ?_, fun c24 => ?_⟩
          · skip
            refine hj160 _ _ _ ?_
            · refine and_5 ?_ (fun o9 => ?_)  -- k22
              · clear h; refine ⟨z1, P22, fun e => ?_, Or.inr l22, z2, z3⟩
                rcases A with q | q | q | q | q | q
                · rw [hσ_22]; exact csF_o q.2 rfl rfl rfl rfl
                · rw [q] at e; exact absurd e (by decide)
                · rw [q] at e; exact absurd e (by decide)
                · rw [q] at e; exact absurd e (by decide)
                · exact absurd q.1 c23
                · exact absurd q.1 c24
              · clear o9
                obtain ⟨σ1, g1, ⟨ga, gb⟩, g2, g3, g4, L, na, z0, zc⟩ := hE
                have e : σ_22 = ac21 σ1 y131_2 := by rw [hσ_22, g2, g3, g4]; rfl
                refine ⟨lp_s21 L na ⟨σ1, y131_2, g1, ga, gb, Or.inr (Or.inr ⟨c23, c24, e, rfl⟩)⟩, ?_, zc⟩
                rw [hσ_22]; exact z0
          · skip
            refine chooses_g5 hC (σ.1 3) T ?_ (fun r25 σ_26 q27 => ?_)
            · clear h; rcases A with q | q | q | q | q | q
              · rw [q.1] at c24; exact absurd c24 (by decide)
              · rw [q] at c24; exact absurd c24 (by decide)
              · rw [q] at c24; exact absurd c24 (by decide)
              · rw [q] at c24; exact absurd c24 (by decide)
              · exact absurd q.1 c23
              · exact ⟨I22, by rw [hσ_22]; exact csF_o q.2.1 rfl rfl rfl rfl, by rw [hσ_22]; exact q.2.2.1, exP_W hP F22⟩
            obtain ⟨q27, z9⟩ := q27
            refine hj160 _ _ _ ?_
            · refine and_5 ?_ (fun o9 => ?_)  -- k24
              · clear h; have G : frW σ σ_26 := frW_tr F22 (frW_G q27.1 (sub_of rfl) (sub_of rfl))
                have h108 : σ_26.1 108 = σ_22.1 108 := q27.1.1 108 (by decide)
                have h109 : σ_26.1 109 = σ_22.1 109 := q27.1.1 109 (by decide)
                refine ⟨z1, ⟨G, pyN_G P22.2.1 q27.1 (by decide) (by decide) (by decide), by rw [h109]; exact P22.2.2.1, by rw [h109, h108]; exact P22.2.2.2.1, by rw [h108]; exact P22.2.2.2.2.1, by rw [h109]; exact P22.2.2.2.2.2⟩, fun e => ?_, Or.inr (by rw [h108]; exact l22), z2, z3⟩
                rcases q27.2 with z | z
                · exact z.2
                · rw [z] at e; exact absurd e (by decide)
              · clear o9
                obtain ⟨σ1, g1, ⟨ga, gb⟩, g2, g3, g4, L, na, z0, zc⟩ := hE
                have e : σ_22 = ac21 σ1 y131_2 := by rw [hσ_22, g2, g3, g4]; rfl
                rw [e] at z9
                refine ⟨lp_s21 L na ⟨σ1, y131_2, g1, ga, gb, Or.inr (Or.inl ⟨c24, z9, fun k => by rw [q27.1.2.1 k, e]⟩)⟩, ?_, zc⟩
                rw [q27.1.1 0 (by decide), hσ_22]; exact z0
        · skip
          refine draws_g5 hC (σ.1 3) T ?_ (fun r28 σ_29 q30 => ?_)
          · clear h; rcases A with q | q | q | q | q | q
            · rw [q.1] at c23; exact absurd c23 (by decide)
            · rw [q] at c23; exact absurd c23 (by decide)
            · rw [q] at c23; exact absurd c23 (by decide)
            · rw [q] at c23; exact absurd c23 (by decide)
            · exact ⟨I22, by rw [hσ_22]; exact csF_o q.2.1 rfl rfl rfl rfl, by rw [hσ_22]; exact q.2.2.1, by rw [hσ_22]; exact q.2.2.2, P22.2.1, P22.2.2.1, gd.2.2.2.2.1, by rw [F22.1 104 (by decide)]; exact t0', by rw [F22.1 104 (by decide)]; exact t1', fun z => by rw [F22.1 104 (by decide)]; exact P22.2.2.2.2.2 (by rw [← F22.1 113 (by decide)]; exact z)⟩
            · rw [q.1] at c23; exact absurd c23 (by decide)
          obtain ⟨q30, z9⟩ := q30
          refine hj160 _ _ _ ?_
          · refine and_5 ?_ (fun o9 => ?_)  -- k26
            · clear h; have F29 := frW_tr F22 q30.1
              have h9 := Int32.le_trans P22.2.2.1 q30.2.2.1
              have t9 : σ.1 113 = 0 → σ_29.1 109 ≤ σ.1 104 := fun z => by
                have y := q30.2.2.2.2.1 (by rw [F22.1 113 (by decide)]; exact z)
                rw [F22.1 104 (by decide)] at y
                exact y
              rcases q30.2.2.2.2.2 with q | q
              · have l8 : σ_29.1 109 ≤ σ_29.1 108 := by rw [q.2.1, q.2.2]; exact gd.1
                have m8 : σ_29.1 108 ≤ a1 := by rw [q.2.1]; exact gd.2.1
                exact ⟨z1, ⟨F29, q30.2.1, h9, l8, m8, t9⟩, fun e => by rw [q.1] at e; exact absurd e (by decide), Or.inl q.1, z2, z3⟩
              · have l8 : σ_29.1 109 ≤ σ_29.1 108 := by rw [q.1]; exact Int32.le_trans q30.2.2.2.1 gd.2.2.1
                have m8 : σ_29.1 108 ≤ a1 := by rw [q.1]; exact P22.2.2.2.2.1
                refine ⟨z1, ⟨F29, q30.2.1, h9, l8, m8, t9⟩, fun e => ?_, Or.inr (by rw [q.1]; exact l22), z2, z3⟩
                rcases q.2 with z | z | z
                · exact z.2
                · rw [z] at e; exact absurd e (by decide)
                · rw [z] at e; exact absurd e (by decide)
            · clear o9
              obtain ⟨σ1, g1, ⟨ga, gb⟩, g2, g3, g4, L, na, z0, zc⟩ := hE
              have e : σ_22 = ac21 σ1 y131_2 := by rw [hσ_22, g2, g3, g4]; rfl
              have z8 := z9.1
              rw [e] at z8
              refine ⟨lp_s21 L na ⟨σ1, y131_2, g1, ga, gb, Or.inl ⟨c23, z8⟩⟩, ?_, zc⟩
              rw [z9.2, hσ_22]; exact z0
      obtain ⟨i1, I76, ic⟩ := i76
      have Q76 := pyQ_N I76.2.1 (Int32.le_trans I76.2.2.2.1 (Int32.le_trans I76.2.2.2.2.1 w.2.2))
      rw [i1]
      refine ⟨fun c31 => ?_, fun c31 => ?_⟩
      · skip
        refine hj175 _ _ _ ?_
        · refine and_5 ?_ (fun o9 => ?_)  -- k27
          · clear h; exact ⟨I76.1, Q76⟩
          · clear o9
            obtain ⟨L, z0, zc, D⟩ := hE
            refine ⟨L, z0, zc, fun z => ?_, fun z => ?_⟩
            · rcases D with D | D
              · exact ⟨c31, D.2⟩
              · exact absurd z D.1
            · rcases D with D | D
              · exact absurd D.1 z
              · exact D.2
      · skip
        refine ⟨fun c32 => ?_, fun c32 => ?_⟩
        · skip
          refine hj175 _ _ _ ?_
          · refine and_5 ?_ (fun o9 => ?_)  -- k28
            · clear h; exact ⟨I76.1, Q76⟩
            · clear o9
              obtain ⟨L, z0, zc, D⟩ := hE
              refine ⟨L, z0, zc, fun z => absurd z c32, fun z => ?_⟩
              rcases D with D | D
              · exact absurd D.1 z
              · exact D.2
        · skip
          have gs := fun (hne : ¬ σ76.1 108 = a1) => go_s (Int32.le_trans I76.2.2.1 I76.2.2.2.1) I76.2.2.2.2.1 hne w.2.2
          refine ⟨fun c33 => ?_, fun c33 => ?_⟩
          · skip
            refine act_g5 hC (σ.1 3) T ?_ (fun r34 σ_35 q36 => ?_)
            · clear h; exact ⟨rI_W (hI w.1) I76.1, ic c31 c32⟩  -- p29
            obtain ⟨q36, z9⟩ := q36
            have g := gs c33
            have F35 : frW σ σ_35 := frW_tr I76.1 (frW_G q36.1 (sub_of rfl) (sub_of rfl))
            have N35 := pyN_G I76.2.1 q36.1 (by decide) (by decide) (by decide)
            have e108 : σ_35.1 108 = σ76.1 108 := q36.1.1 108 (by decide)
            have e109 : σ_35.1 109 = σ76.1 109 := q36.1.1 109 (by decide)
            intro σ_37 hσ_37
            refine ⟨fun c38 => ?_, fun c38 => ?_⟩
            · skip
              refine hj131 _ _ _ _ _ ?_
              · refine and_5 ?_ (fun o9 => ?_)  -- k30
                · clear h; have F37 : frW σ σ_37 := by rw [hσ_37]; exact frW_tr F35 (frW_0 (by decide))
                  have s108 : σ_37.1 108 = σ76.1 108 + 1 := by rw [hσ_37, ← e108]; rfl
                  have s109 : σ_37.1 109 = σ76.1 109 := by rw [hσ_37, ← e109]; rfl
                  exact ⟨rfl, ⟨F37, pyN_r N35 (by rw [hσ_37]; rfl) (by rw [hσ_37]; rfl) (by rw [hσ_37]; rfl), by rw [s109]; exact I76.2.2.1, by rw [s109, s108]; exact Int32.le_trans I76.2.2.2.1 (Int32.le_of_lt g.1), by rw [s108]; exact g.2.1, by rw [s109]; exact I76.2.2.2.2.2⟩, by rw [s109, s108]; exact Int32.lt_of_le_of_lt I76.2.2.2.1 g.1, by rw [s108]; exact g.1, by rw [hσ_37]; exact q36.2, c31, c32⟩
                · clear o9
                  obtain ⟨L, z0, zc, D⟩ := hE
                  rw [c31] at L
                  refine ⟨σ_35, z9, ⟨q36.2, q36.1.2.1⟩, hσ_37, ?_, ?_, L, c33, ?_, zc⟩
                  · rw [hσ_37]; rfl
                  · rw [if_neg c38, hσ_37]; rfl
                  · rw [hσ_37, si1, if_neg (by decide), q36.1.1 0 (by decide)]; exact z0
            · skip
              refine hj131 _ _ _ _ _ ?_
              · refine and_5 ?_ (fun o9 => ?_)  -- k31
                · clear h; have F37 : frW σ σ_37 := by rw [hσ_37]; exact frW_tr F35 (frW_0 (by decide))
                  have s108 : σ_37.1 108 = σ76.1 108 + 1 := by rw [hσ_37, ← e108]; rfl
                  have s109 : σ_37.1 109 = σ76.1 109 := by rw [hσ_37, ← e109]; rfl
                  exact ⟨rfl, ⟨F37, pyN_r N35 (by rw [hσ_37]; rfl) (by rw [hσ_37]; rfl) (by rw [hσ_37]; rfl), by rw [s109]; exact I76.2.2.1, by rw [s109, s108]; exact Int32.le_trans I76.2.2.2.1 (Int32.le_of_lt g.1), by rw [s108]; exact g.2.1, by rw [s109]; exact I76.2.2.2.2.2⟩, by rw [s109, s108]; exact Int32.lt_of_le_of_lt I76.2.2.2.1 g.1, by rw [s108]; exact g.1, by rw [hσ_37]; exact q36.2, c31, c32⟩
                · clear o9
                  obtain ⟨L, z0, zc, D⟩ := hE
                  rw [c31] at L
                  refine ⟨σ_35, z9, ⟨q36.2, q36.1.2.1⟩, hσ_37, ?_, ?_, L, c33, ?_, zc⟩
                  · rw [hσ_37]; rfl
                  · rw [if_pos c38]
                  · rw [hσ_37, si1, if_neg (by decide), q36.1.1 0 (by decide)]; exact z0
          · skip
            refine lp_b5 ?_ (fun d9 => ⟨rfl, ?_⟩)
            · clear h; have m : n76 = (a1 - σ76.1 108).toNatClampNeg + 1 := by rw [hn76, if_pos ⟨c31, c32⟩]
              rw [m, if_neg (fun z => absurd z.2 (by decide))]
              exact Nat.succ_pos _
            · refine and_5 ?_ (fun o9 => ?_)  -- i33
              · clear h; exact ⟨rfl, I76, fun _ e => absurd e (by decide)⟩
              · clear o9
                obtain ⟨L, z0, zc, D⟩ := hE
                exact ⟨L, z0, zc, Or.inr ⟨by decide, Or.inr ⟨c31, c33⟩⟩⟩
    · skip
      refine h _ _ ?_
      · refine and_5 ?_ (fun o9 => ?_)  -- q34
        · clear h; obtain ⟨y1, y2, y3⟩ := j28
          have F : frW σ σ_9 := by rw [hσ_9, y2]; exact frW_0 (by decide)
          refine ⟨F, fun z => ?_⟩
          have z2 : σ.1 106 ≠ -1 := by rw [hσ_9, y2] at z; exact z
          exact pyQ_r (hn z2) (by rw [hσ_9, y2]; rfl) (by rw [hσ_9, y2]; rfl)
        · clear o9
          obtain ⟨y1, y2, y3⟩ := j28
          have e0 : σ_9.1 0 = y28_s1 := by rw [hσ_9, si1, if_pos rfl]
          refine Or.inl ⟨fun z => ?_, ?_, rfl⟩
          · rw [e0, hE, z] at c10
            exact c10 (by decide)
          · rw [hσ_9, y2, hE]
  refine ⟨fun c39 => ?_, fun c39 => ?_⟩
  · skip
    refine within_c hC  (fun r40 q42 => ?_)
    refine ⟨fun c43 => ?_, fun c43 => ?_⟩
    · skip
      refine hj28 _ _ _ ?_
      · refine and_5 ?_ (fun o9 => ?_)  -- k35
        · clear h; exact ⟨rfl, rfl, fun _ => ⟨c39, (q42.2.mp c43).1, (q42.2.mp c43).2⟩⟩
        · clear o9
          unfold cy21
          rw [if_neg c39, if_pos (q42.2.mp c43)]
    · skip
      refine hj28 _ _ _ ?_
      · refine and_5 ?_ (fun o9 => ?_)  -- k36
        · clear h; exact ⟨rfl, rfl, fun z => absurd z (by decide)⟩
        · clear o9
          unfold cy21
          rw [if_neg c39, if_neg (fun z => q42.2.mpr z c43)]
  · skip
    refine hj28 _ _ _ ?_
    · refine and_5 ?_ (fun o9 => ?_)  -- k37
      · clear h; exact ⟨rfl, rfl, fun z => absurd z (by decide)⟩
      · clear o9
        unfold cy21
        rw [if_pos c39]

theorem play_g5 {C : rCx} (hC : cOK C) (T : Int32) {σ : rS} {a1 : Int64} {a3 : Int32} {Q : Int32 → rS → Prop} (hp : (σ.1 14 ≠ 0 → rI σ (σ.1 3) T) ∧ exP σ ∧ 0 ≤ σ.1 104 ∧ σ.1 104 ≤ 200 ∧ plN σ) (h : ∀ (v : Int32) (σ' : rS), ((frW (siU (slU σ 112 a1) 113 1) σ' ∧ plN σ') ∧ (GO21 a3 (siU (slU σ 112 a1) 113 1) σ' v)) → Q v σ') : cI C 11 m_play [.ref (co C), .long a1, .int a3] σ Q := by
  refine m_play_run hC ?_
  unfold w_play_0
  intro σ_1 hσ_1
  intro σ_2 hσ_2
  refine go2_g5 hC T ?_ (fun r3 σ_4 q5 => ?_)
  · clear h; rw [hσ_2, hσ_1]; exact go_pre hp (fun k hk => if_neg hk) rfl  -- p1
  obtain ⟨q5, z9⟩ := q5
  refine h _ _ ?_
  · refine and_5 ?_ (fun o9 => ?_)  -- q2
    · clear h; rw [hσ_2, hσ_1] at q5; exact q5
    · clear o9
      rw [hσ_2, hσ_1] at z9
      exact z9

theorem walk_g5 {C : rCx} (hC : cOK C) (T : Int32) {σ : rS} {a1 : Int32} {Q : Int32 → rS → Prop} (hp : (σ.1 14 ≠ 0 → rI σ (σ.1 3) T) ∧ exP σ ∧ 0 ≤ σ.1 104 ∧ σ.1 104 ≤ 200 ∧ plN σ) (h : ∀ (v : Int32) (σ' : rS), ((frW (siU σ 113 0) σ' ∧ plN σ') ∧ (GO21 a1 (siU σ 113 0) σ' v)) → Q v σ') : cI C 11 m_walk [.ref (co C), .int a1] σ Q := by
  refine m_walk_run hC ?_
  unfold w_walk_0
  intro σ_1 hσ_1
  refine go2_g5 hC T ?_ (fun r2 σ_3 q4 => ?_)
  · clear h; rw [hσ_1]; exact go_pre hp (fun k hk => if_neg hk) rfl  -- p1
  obtain ⟨q4, z9⟩ := q4
  refine h _ _ ?_
  · refine and_5 ?_ (fun o9 => ?_)  -- q2
    · clear h; rw [hσ_1] at q4; exact q4
    · clear o9
      rw [hσ_1] at z9
      exact z9
