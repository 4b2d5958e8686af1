section
set_option maxHeartbeats 1600000
/-! the reference: best by what it answers -/
def wbW8 (σ : rS) (k : Nat) : Rat := wnW8 (trW8 σ) (σ.1 70).toNatClampNeg k
def pbW8 (σ : rS) (k : Nat) : Int32 := if σ.2.2.1 81 k = 0 then 0 else Int32.ofNat (maW8 (trW8 σ) (wbW8 σ) k)
def ftW8 (p : Rat) : Prop := p.num.natAbs < 65536 ^ 16 ∧ p.den < 65536 ^ 16
/-- a worth as it is kept -/
def wqW8 (τ : rS) (r q k : Nat) (p : Rat) : Prop := slV τ r (34 * k) = p.num.natAbs ∧ slV τ r (34 * k + 17) = p.den ∧ wVW8 τ r q k = p
def bsW8 (σ τ : rS) : Prop := ¬ σ.1 69 = 0 ∧ τ.1 0 = 0 ∧ σ.1 88 = 0
def dwW8 (σ τ : rS) (k : Nat) : Prop := wqW8 τ 117 118 k (wbW8 σ k) ∧ ftW8 (wbW8 σ k) ∧ (σ.2.2.1 81 k ≠ 0 → τ.2.2.1 119 k = Int32.ofNat (maW8 (trW8 σ) (wbW8 σ) k))
def dnW8 (σ τ : rS) (s : Nat) : Prop := ∀ k, k < s → τ.2.2.1 96 k ≠ 0 → dwW8 σ τ k
def alW8 (σ τ : rS) (s : Nat) : Prop := ∀ k, k < s → dwW8 σ τ k
/-- nothing of it is changed -/
def bkW8 (σ σ' : rS) : Prop := (∀ g, g = 83 ∨ g = 115 ∨ g = 116 → σ'.2.2.1 g = σ.2.2.1 g) ∧ σ'.1 94 = σ.1 94 ∧ σ'.1 114 = σ.1 114
def XB8 (σ σ' : rS) (v : Int32) : Prop := (σ.1 69 = 0 ∧ σ'.1 0 = 1 ∧ bkW8 σ σ') ∨ (¬ σ.1 69 = 0 ∧ σ'.1 0 = 0 ∧ ((¬ σ.1 88 = 0 ∧ v = -2 ∧ bkW8 σ σ') ∨ (σ.1 88 = 0 ∧ ((v = -3 ∧ (∃ k, k < (σ.1 70).toNatClampNeg ∧ ¬ ftW8 (wbW8 σ k)) ∧ bkW8 σ σ') ∨ (v = 0 ∧ (∀ k, k < (σ.1 70).toNatClampNeg → wqW8 σ' 115 116 k (wbW8 σ k) ∧ ftW8 (wbW8 σ k) ∧ σ'.2.2.1 83 k = pbW8 σ k) ∧ σ'.1 94 = 0 ∧ ¬ σ'.1 114 = 0)))))
theorem bk_B8 {σ τ : rS} (F : frM beF beR σ τ) : bkW8 σ τ := ⟨fun g q => F.2.2.1 g (by rcases q with q | q | q <;> rw [q] <;> decide), F.1 94 (by decide), F.1 114 (by decide)⟩
theorem tr_B8 {σ τ : rS} (h : ∀ g, g = 76 ∨ g = 77 ∨ g = 78 ∨ g = 79 ∨ g = 80 ∨ g = 81 ∨ g = 82 → τ.2.2.1 g = σ.2.2.1 g) : trW8 τ = trW8 σ := by
  unfold trW8
  rw [h 76 (by decide), h 77 (by decide), h 78 (by decide), h 79 (by decide), h 80 (by decide), h 81 (by decide), h 82 (by decide)]
theorem wq_f8 {σ τ : rS} {r q k : Nat} {p : Rat} (h1 : τ.2.2.1 r = σ.2.2.1 r) (h2 : τ.2.2.1 q = σ.2.2.1 q) (h : wqW8 σ r q k p) : wqW8 τ r q k p := by
  unfold wqW8 wVW8 at *
  rw [(sl_f (m := 16) h1).1, (sl_f (m := 16) h1).1, h2]
  exact h
theorem wq_e8 {σ τ : rS} {r r' q q' k : Nat} {p : Rat} (h : ∀ i, 34 * k ≤ i → i < 34 * k + 34 → τ.2.2.1 r' i = σ.2.2.1 r i) (hq : τ.2.2.1 q' k = σ.2.2.1 q k) (hw : wkO σ r q k) (W : wqW8 σ r q k p) : wqW8 τ r' q' k p := by
  obtain ⟨h1, h2, h3, h4⟩ := hw
  have L1 : (σ.2.2.1 r (34 * k)).toNatClampNeg ≤ 16 := cn_le (y := 16) rfl h1.2.1
  have L2 : (σ.2.2.1 r (34 * k + 17)).toNatClampNeg ≤ 16 := cn_le (y := 16) rfl h2.2.1
  have a := gO_c (g := τ.2.2.1 r') (M := τ.2.2.1 r' (34 * k)) (p := 34 * k + 1) (m' := 16) h1 (h (34 * k) (Nat.le_refl _) (by omega)) h1.2.1 (fun i hi => h (34 * k + 1 + i) (by omega) (by omega))
  have b := gO_c (g := τ.2.2.1 r') (M := τ.2.2.1 r' (34 * k + 17)) (p := 34 * k + 17 + 1) (m' := 16) h2 (h (34 * k + 17) (by omega) (by omega)) h2.2.1 (fun i hi => h (34 * k + 17 + 1 + i) (by omega) (by omega))
  have ea : slV τ r' (34 * k) = slV σ r (34 * k) := a.2
  have eb : slV τ r' (34 * k + 17) = slV σ r (34 * k + 17) := b.2
  unfold wqW8 wVW8 at *
  rw [ea, eb, hq]
  exact W
theorem hS_n8 {σ : rS} {p : Rat} (h : hS σ p) : nV σ 4 = p.num.natAbs ∧ nV σ 5 = p.den ∧ sgq (σ.1 92) (mkRat (nV σ 4 : Int) (nV σ 5)) = p := by
  obtain ⟨q, hq, w⟩ := h
  have Q : mkRat (nV σ 4 : Int) (nV σ 5) = q := (hR_q hq).1
  obtain ⟨_, _, n4, n5⟩ := hq
  rw [Q]
  rcases w with ⟨s, z⟩ | ⟨s, z⟩
  · rw [z, s, sgq_1]
    exact ⟨by omega, n5, rfl⟩
  · rw [z, s, sgq_m]
    exact ⟨by rw [Rat.neg_num]; omega, by rw [Rat.neg_den]; exact n5, rfl⟩
theorem lo_r8 {σ : rS} (hO : exO σ) {x : Nat} (hx : x < (σ.1 70).toNatClampNeg) : (0 ≤ (σ.2.2.1 76 x).toInt ∧ (σ.2.2.1 76 x).toInt < (σ.2.2.1 76 (x + 1)).toInt ∧ (σ.2.2.1 76 (x + 1)).toInt ≤ 20000) ∧ (σ.2.2.1 76 (x + 1)) ≤ σ.1 72 := by
  have n1 := hO.1.2
  have n0 := hO.1.1
  rw [lei, t0i] at n0
  rw [lei, show (1000 : Int32).toInt = 1000 from rfl] at n1
  have cn := cnk n0
  have ex : (Int32.ofNat x).toNatClampNeg = x := cl_5 (by omega)
  have e0 : (0 : Int32) ≤ Int32.ofNat x := by rw [lei, t0i, ofn_i (by omega)]; omega
  have e1 : Int32.ofNat x < σ.1 70 := by rw [lti, ofn_i (by omega)]; omega
  have st := ex_st hO e0 e1
  have q := (hO.2.2.2.1 _ e0 e1).1.2.1
  rw [rd, rd, st.2.2.2.1, ex] at q
  have a := st.1.1
  have c := st.2.2.1
  have d := hO.2.2.1.2
  rw [ex] at a c
  have c' := c
  rw [lti] at q
  rw [lei, t0i] at a
  rw [lei] at c
  rw [lei, show (20000 : Int32).toInt = 20000 from rfl] at d
  exact ⟨⟨a, q, by omega⟩, c'⟩
theorem eN_w8 {σ : rS} (hO : exO σ) {x y : Nat} (hx : x < (σ.1 70).toNatClampNeg) : eW8 (trW8 σ) x y ↔ edN σ 0 87 1 x y := by
  obtain ⟨⟨a0, a1, a2⟩, _⟩ := lo_r8 hO hx
  have l0 := cnk a0
  have l1 := cnk (x := σ.2.2.1 76 (x + 1)) (by omega)
  constructor
  · rintro ⟨i, i1, i2, i3, i4⟩
    have i1' : (σ.2.2.1 76 x).toNatClampNeg ≤ i := i1
    have i2' : i < (σ.2.2.1 76 (x + 1)).toNatClampNeg := i2
    have ci : (Int32.ofNat i).toNatClampNeg = i := cl_5 (by omega)
    have li := ofn_i (n := i) (by omega)
    refine ⟨Int32.ofNat i, ?_, ?_, ?_, ?_, Or.inl rfl, Or.inl (by decide)⟩
    · rw [lei, li]; omega
    · rw [lti, li]; omega
    · rw [rd, ci]; exact i3
    · rw [rd, ci]; exact i4
  · rintro ⟨i, i1, i2, i3, i4, _⟩
    rw [lei] at i1
    rw [lti] at i2
    have ci := cnk (x := i) (by omega)
    refine ⟨i.toNatClampNeg, ?_, ?_, i3, i4⟩
    · show (σ.2.2.1 76 x).toNatClampNeg ≤ i.toNatClampNeg
      omega
    · show i.toNatClampNeg < (σ.2.2.1 76 (x + 1)).toNatClampNeg
      omega
theorem eN_c8 {σ : rS} (hO : exO σ) {x y : Nat} (hx : x < (σ.1 70).toNatClampNeg) (e : edN σ 0 87 1 x y) : y < (σ.1 70).toNatClampNeg := by
  obtain ⟨⟨a0, a1, a2⟩, c⟩ := lo_r8 hO hx
  obtain ⟨i, i1, i2, i3, i4, _⟩ := e
  have i0 : 0 ≤ i := by rw [lei] at i1; rw [lei, t0i]; omega
  have q := (hO.2.2.2.2 _ (cn_lt i0 (Int32.lt_of_lt_of_le i2 c))).2.1 i3
  rw [← i4]
  exact cn_lt q.1 q.2
theorem lw_b8 {σ : rS} (hO : exO σ) {x : Nat} (hx : x < (σ.1 70).toNatClampNeg) : loW8 (trW8 σ) x < loW8 (trW8 σ) (x + 1) := by
  obtain ⟨⟨a0, a1, a2⟩, _⟩ := lo_r8 hO hx
  have l0 := cnk a0
  have l1 := cnk (x := σ.2.2.1 76 (x + 1)) (by omega)
  show (σ.2.2.1 76 x).toNatClampNeg < (σ.2.2.1 76 (x + 1)).toNatClampNeg
  omega
/-- a worth is what it is by those behind it -/
theorem fx_r8 {σ : rS} (hP : exP σ) (h88 : σ.1 88 = 0) {k : Nat} (hk : k < (σ.1 70).toNatClampNeg) : wbW8 σ k = wsW8 (trW8 σ) (wbW8 σ) k := by
  have irr := hP.2.2.2.2 h88
  have hO := hP.1
  exact wn_f8 (rk := rkW8 (edN σ 0 87 1) (σ.1 70).toNatClampNeg) (fun x y hx e => rk_8 (fun x y hx e => eN_c8 hO hx e) irr hx ((eN_w8 hO hx).mp e)) (fun x hx => rk_n8 irr hx) (fun x hx => lw_b8 hO hx) hk
theorem wb_d8 {σ τ : rS} {s k : Nat} (hP : exP σ) (h88 : σ.1 88 = 0) (hs : s = (σ.1 70).toNatClampNeg) (hk : k < s) (F : frM beF beR σ τ) (D : dnW8 σ τ s) (hd : ∀ i : Int32, τ.2.2.1 76 k ≤ i → i < τ.2.2.1 76 (k + 1) → τ.2.2.1 77 i.toNatClampNeg = 0 → τ.2.2.1 96 (τ.2.2.1 78 i.toNatClampNeg).toNatClampNeg ≠ 0) : wsW8 (trW8 τ) (wVW8 τ 117 118) k = wbW8 σ k ∧ (maW8 (trW8 τ) (wVW8 τ 117 118) k = maW8 (trW8 σ) (wbW8 σ) k) := by
  have et : trW8 τ = trW8 σ := tr_B8 (fun g q => F.2.2.1 g (by rcases q with q | q | q | q | q | q | q <;> rw [q] <;> decide))
  have hk' : k < (σ.1 70).toNatClampNeg := by rw [← hs]; exact hk
  have hO := hP.1
  rw [et]
  have V : ∀ y, eW8 (trW8 σ) k y → wVW8 τ 117 118 y = wbW8 σ y := fun y e => by
    have e' := (eN_w8 hO hk').mp e
    have hy := eN_c8 hO hk' e'
    obtain ⟨i, i1, i2, i3, i4, _⟩ := e'
    have n := hd i (by rw [F.2.2.1 76 (by decide)]; exact i1) (by rw [F.2.2.1 76 (by decide)]; exact i2) (by rw [F.2.2.1 77 (by decide)]; exact i3)
    rw [F.2.2.1 78 (by decide), show (σ.2.2.1 78 i.toNatClampNeg).toNatClampNeg = y from i4] at n
    exact (D y (by rw [hs]; exact hy) n).1.2.2
  exact ⟨(ws_c8 V (lw_b8 hO hk')).trans (fx_r8 hP h88 hk').symm, ma_c8 V (lw_b8 hO hk')⟩
theorem dw_f8 {σ τ υ : rS} {k : Nat} (h : dwW8 σ τ k) (h1 : υ.2.2.1 117 = τ.2.2.1 117) (h2 : υ.2.2.1 118 = τ.2.2.1 118) (h3 : υ.2.2.1 119 = τ.2.2.1 119) : dwW8 σ υ k := ⟨wq_f8 h1 h2 h.1, h.2.1, by rw [h3]; exact h.2.2⟩
theorem best_g5 {C : rCx} (hC : cOK C) (s : Nat) {σ : rS}  {Q : Int32 → rS → Prop} (hp : exP σ ∧ s = (σ.1 70).toNatClampNeg ∧ (σ.1 114 ≠ 0 → ∀ k, k < s → wkO σ 115 116 k)) (h : ∀ (v : Int32) (σ' : rS), ((frM bfF bfR σ σ' ∧ exP σ' ∧ (σ'.1 114 ≠ 0 → ∀ k, k < s → wkO σ' 115 116 k) ∧ (σ'.1 94 ≠ 0 → σ.1 94 ≠ 0) ∧ nK σ σ') ∧ (XB8 σ σ' v)) → Q v σ') : cI C 7 m_best [.ref (co C)] σ Q := by
  refine m_best_run hC ?_
  unfold w_best_0
  obtain ⟨hP, hs, hb⟩ := hp
  have hO := pOK_of hP
  have n1000 := hO.1.1.2
  have hj13 : ∀ (s1 : Int32) (τ : rS), ((τ = σ) ∧ ((s1 = 0 ∧ ¬ σ.1 69 = 0) ∨ (s1 = 1 ∧ σ.1 69 = 0))) → w_best_13 C Q  s1 τ := by
    rintro y13_s1 τ13 ⟨j13, hE⟩
    unfold w_best_13
    intro σ_1 hσ_1
    refine ⟨fun c2 => ?_, fun c2 => ?_⟩
    · skip
      refine ⟨fun c3 => ?_, fun c3 => ?_⟩
      · skip
        unfold w_best_39
        refine ⟨fun n l1 l2 τ => n = (σ.1 70 - l2).toNatClampNeg ∧ ((l1 = 0 ∧ frM beF beR σ τ ∧ 0 ≤ l2 ∧ l2 ≤ σ.1 70 ∧ (∀ k, k < l2.toNatClampNeg → τ.2.2.1 96 k = 0) ∧ nK σ τ) ∧ bsW8 σ τ), ⟨_, rfl, ?_⟩, ?_⟩
        · refine and_5 ?_ (fun o9 => ?_)  -- j1
          · clear h; have F1 : frM beF beR σ σ_1 := by rw [hσ_1, j13]; exact frM_0 (by decide)
            exact ⟨rfl, F1, by decide, hO.1.1.1, fun k hk => absurd hk (Nat.not_lt_zero k), by rw [hσ_1, j13]; exact nK_r rfl rfl⟩
          · clear o9
            have e0 : σ_1.1 0 = y13_s1 := by rw [hσ_1, si1, if_pos rfl]
            have e88 : σ_1.1 88 = σ.1 88 := by rw [hσ_1, si1, if_neg (by decide), j13]
            rcases hE with ⟨z1, z2⟩ | ⟨z1, z2⟩
            · exact ⟨z2, e0.trans z1, Int32.le_antisymm (by rw [← e88]; exact c3) hP.2.2.2.1⟩
            · rw [e0, z1] at c2; exact absurd c2 (by decide)
        rintro n39 x39_1 x39_2 σ39 ⟨hn39, i39, hE⟩
        obtain ⟨e1, F, a0, a1, U, K39⟩ := i39
        have e70 := F.1 70 (by decide)
        rw [e70]
        refine ⟨fun c4 => ?_, fun c4 => ?_⟩
        · skip
          unfold w_best_60
          refine ⟨fun n l1 τ => n = (σ.1 70 - l1).toNatClampNeg ∧ ((0 ≤ l1 ∧ l1 ≤ σ.1 70 ∧ bsJ σ τ s ∧ cntB (τ.2.2.1 96) s = l1.toNatClampNeg) ∧ bsW8 σ τ ∧ dnW8 σ τ s), ⟨_, rfl, ?_⟩, ?_⟩
          · refine and_5 ?_ (fun o9 => ?_)  -- j2
            · clear h; have e : x39_2 = σ.1 70 := Int32.le_antisymm a1 c4
              rw [e, ← hs] at U
              exact ⟨by rw [e1]; decide, by rw [e1]; exact hO.1.1.1, ⟨F, fun k hk z => absurd (U k hk) z, K39⟩, by rw [cntB_0 U, e1]; rfl⟩
            · clear o9
              have e : x39_2 = σ.1 70 := Int32.le_antisymm a1 c4
              rw [e, ← hs] at U
              exact ⟨hE, fun k hk z => absurd (U k hk) z⟩
          rintro n60 x60_1 σ60 ⟨hn60, i60, hE⟩
          obtain ⟨b0, b1, J, ct⟩ := i60
          have g70 := J.1.1 70 (by decide)
          rw [g70]
          refine ⟨fun c5 => ?_, fun c5 => ?_⟩
          · skip
            unfold w_best_146
            refine ⟨fun n l2 τ => n = (σ.1 70 - l2).toNatClampNeg ∧ ((frM beF bfR σ τ ∧ 0 ≤ l2 ∧ l2 ≤ σ.1 70 ∧ beA σ τ s ∧ (∀ k, k < l2.toNatClampNeg → wkO τ 115 116 k ∧ plP σ k (τ.2.2.1 83 k)) ∧ nK σ τ) ∧ bsW8 σ τ ∧ alW8 σ τ s ∧ ∀ k, k < l2.toNatClampNeg → wqW8 τ 115 116 k (wbW8 σ k) ∧ τ.2.2.1 83 k = pbW8 σ k), ⟨_, rfl, ?_⟩, ?_⟩
            · refine and_5 ?_ (fun o9 => ?_)  -- j3
              · clear h; have e : x60_1 = σ.1 70 := Int32.le_antisymm b1 c5
                have al := cntB_all (by rw [ct, e, ← hs])
                exact ⟨frM_w J.1 (fun k hk => hk) (sub_of rfl), by decide, hO.1.1.1, fun k hk => J.2.1 k hk (al k hk), fun k hk => absurd hk (Nat.not_lt_zero k), J.2.2⟩
              · clear o9
                have e : x60_1 = σ.1 70 := Int32.le_antisymm b1 c5
                have al := cntB_all (by rw [ct, e, ← hs])
                exact ⟨hE.1, fun k hk => hE.2 k hk (al k hk), fun k hk => absurd hk (Nat.not_lt_zero k)⟩
            rintro n146 x146_2 σ146 ⟨hn146, i146, hE⟩
            have hj178 : ∀ (l2 : Int32) (s1 : Int32) (s2 : Int32) (τ : rS), ((l2 = x146_2 ∧ s1 = x146_2 ∧ ¬ σ.1 70 ≤ x146_2 ∧ τ = σ146 ∧ plP σ x146_2.toNatClampNeg s2) ∧ s2 = pbW8 σ x146_2.toNatClampNeg ∧ bsW8 σ σ146 ∧ alW8 σ σ146 s ∧ ∀ k, k < x146_2.toNatClampNeg → wqW8 σ146 115 116 k (wbW8 σ k) ∧ σ146.2.2.1 83 k = pbW8 σ k) → w_best_178 C Q (fun l2' τ => ∃ k < n146, (fun n l2 τ => n = (σ.1 70 - l2).toNatClampNeg ∧ ((frM beF bfR σ τ ∧ 0 ≤ l2 ∧ l2 ≤ σ.1 70 ∧ beA σ τ s ∧ (∀ k, k < l2.toNatClampNeg → wkO τ 115 116 k ∧ plP σ k (τ.2.2.1 83 k)) ∧ nK σ τ) ∧ bsW8 σ τ ∧ alW8 σ τ s ∧ ∀ k, k < l2.toNatClampNeg → wqW8 τ 115 116 k (wbW8 σ k) ∧ τ.2.2.1 83 k = pbW8 σ k)) k l2' τ) l2 s1 s2 τ := by
              rintro y178_2 y178_s1 y178_s2 τ178 ⟨j178, hE⟩
              unfold w_best_178
              obtain ⟨G, w0, w1, A, D, K146⟩ := i146
              obtain ⟨y1, y2, y3, y4, y5⟩ := j178
              have u := uk w0 y3 n1000
              have as := cn_succ w0 (Int32.lt_trans u.2.2.2.2.2 (by decide))
              have ks : x146_2.toNatClampNeg < s := by rw [hs]; exact cn_lt w0 u.2.2.2.2.1
              have v0 := vx0 w0 u.2.2.2.2.2
              have c34 := c_34 w0 u.2.2.2.2.2
              rw [y2, y4, y1]
              refine ⟨ib_1000.mpr ?_, ?_⟩
              · clear h; exact ⟨w0, u.2.2.2.2.2⟩  -- b4
              intro σ_6 hσ_6
              refine ⟨ib_1000.mpr ?_, ?_⟩
              · clear h; exact ⟨w0, u.2.2.2.2.2⟩  -- b5
              refine ⟨ib_1000.mpr ?_, ?_⟩
              · clear h; exact ⟨w0, u.2.2.2.2.2⟩  -- b6
              intro σ_7 hσ_7
              intro x8 hx8
              unfold w_best_196
              refine ⟨fun n l2 l3 τ => n = (34 * x146_2 + 34 - l3).toNatClampNeg ∧ ((l2 = x146_2 ∧ 34 * x146_2 ≤ l3 ∧ l3 ≤ 34 * x146_2 + 34 ∧ frM beF bfR σ τ ∧ beA σ τ s ∧ (∀ j, 34 * x146_2.toNatClampNeg ≤ j → j < l3.toNatClampNeg → τ.2.2.1 115 j = τ.2.2.1 117 j) ∧ (∀ k, k < x146_2.toNatClampNeg → wkO τ 115 116 k ∧ plP σ k (τ.2.2.1 83 k)) ∧ τ.2.2.1 116 x146_2.toNatClampNeg = τ.2.2.1 118 x146_2.toNatClampNeg ∧ plP σ x146_2.toNatClampNeg (τ.2.2.1 83 x146_2.toNatClampNeg) ∧ nK σ τ) ∧ bsW8 σ τ ∧ alW8 σ τ s ∧ (∀ k, k < x146_2.toNatClampNeg → wqW8 τ 115 116 k (wbW8 σ k) ∧ τ.2.2.1 83 k = pbW8 σ k) ∧ τ.2.2.1 83 x146_2.toNatClampNeg = pbW8 σ x146_2.toNatClampNeg), ⟨_, rfl, ?_⟩, ?_⟩
              · refine and_5 ?_ (fun o9 => ?_)  -- j7
                · clear h; have r117 : σ_7.2.2.1 117 = σ146.2.2.1 117 := by rw [hσ_7, ri3 (by decide), hσ_6, ri3 (by decide)]
                  have r118 : σ_7.2.2.1 118 = σ146.2.2.1 118 := by rw [hσ_7, ri3 (by decide), hσ_6, ri3 (by decide)]
                  have r119 : σ_7.2.2.1 119 = σ146.2.2.1 119 := by rw [hσ_7, ri3 (by decide), hσ_6, ri3 (by decide)]
                  have r115 : σ_7.2.2.1 115 = σ146.2.2.1 115 := by rw [hσ_7, ri3 (by decide), hσ_6, ri3 (by decide)]
                  have r116 : ∀ i, σ_7.2.2.1 116 i = if i = x146_2.toNatClampNeg then σ146.2.2.1 118 x146_2.toNatClampNeg else σ146.2.2.1 116 i := fun i => by rw [hσ_7, ri34, if_pos rfl, hσ_6, ri3 (by decide), ri3 (by decide)]
                  have r83 : ∀ i, σ_7.2.2.1 83 i = if i = x146_2.toNatClampNeg then y178_s2 else σ146.2.2.1 83 i := fun i => by rw [hσ_7, ri3 (by decide), hσ_6, ri34, if_pos rfl]
                  rw [hx8]
                  refine ⟨rfl, Int32.le_refl _, c34.1, frM_tr G (by rw [hσ_7, hσ_6]; exact frM_tr (frM_1 (by decide)) (frM_1 (by decide))), beA_f A r117 r118 r119, fun j j1 j2 => absurd j2 (by rw [v0.2]; omega), fun k hk => ⟨wk_e (fun i _ _ => by rw [r115]) (by rw [r116, if_neg (by omega)]) (D k hk).1, by rw [r83, if_neg (by omega)]; exact (D k hk).2⟩, by rw [r116, if_pos rfl, r118], by rw [r83, if_pos rfl]; exact y5, nK_tr K146 (nK_r (by rw [hσ_7, ri3 (by decide), hσ_6, ri3 (by decide)]) (by rw [hσ_7, ri3 (by decide), hσ_6, ri3 (by decide)]))⟩
                · clear o9
                  have r117 : σ_7.2.2.1 117 = σ146.2.2.1 117 := by rw [hσ_7, ri3 (by decide), hσ_6, ri3 (by decide)]
                  have r118 : σ_7.2.2.1 118 = σ146.2.2.1 118 := by rw [hσ_7, ri3 (by decide), hσ_6, ri3 (by decide)]
                  have r119 : σ_7.2.2.1 119 = σ146.2.2.1 119 := by rw [hσ_7, ri3 (by decide), hσ_6, ri3 (by decide)]
                  have r115 : σ_7.2.2.1 115 = σ146.2.2.1 115 := by rw [hσ_7, ri3 (by decide), hσ_6, ri3 (by decide)]
                  have r116 : ∀ i, σ_7.2.2.1 116 i = if i = x146_2.toNatClampNeg then σ146.2.2.1 118 x146_2.toNatClampNeg else σ146.2.2.1 116 i := fun i => by rw [hσ_7, ri34, if_pos rfl, hσ_6, ri3 (by decide), ri3 (by decide)]
                  have r83 : ∀ i, σ_7.2.2.1 83 i = if i = x146_2.toNatClampNeg then y178_s2 else σ146.2.2.1 83 i := fun i => by rw [hσ_7, ri3 (by decide), hσ_6, ri34, if_pos rfl]
                  obtain ⟨E1, E2, E3, E4⟩ := hE
                  have e0 : σ_7.1 0 = σ146.1 0 := by rw [hσ_7, ri1, hσ_6, ri1]
                  exact ⟨⟨E2.1, e0.trans E2.2.1, E2.2.2⟩, fun k hk => dw_f8 (E3 k hk) r117 r118 r119, fun k hk => ⟨wq_e8 (fun i _ _ => by rw [r115]) (by rw [r116, if_neg (by omega)]) (D k hk).1 (E4 k hk).1, by rw [r83, if_neg (by omega)]; exact (E4 k hk).2⟩, by rw [r83, if_pos rfl]; exact E1⟩
              rintro n196 x196_2 x196_3 σ196 ⟨hn196, i196, hE⟩
              obtain ⟨f1, f2, f3, H, A2, C2, D2, s116, p83, K196⟩ := i196
              have lo := cn_l f2 v0.1.1
              rw [v0.2] at lo
              rw [f1]
              refine ⟨fun c9 => ?_, fun c9 => ?_⟩
              · skip
                intro x10 hx10
                refine lp_b5 (cn_lt2 hn146 ?_ ?_) (fun d9 => ⟨rfl, ?_⟩)
                · clear h; rw [hx10]; exact u.1  -- d8
                · clear h; rw [hx10]; exact u.2.1  -- d9
                · refine and_5 ?_ (fun o9 => ?_)  -- i10
                  · clear h; have e : x196_3 = 34 * x146_2 + 34 := Int32.le_antisymm f3 c9
                    rw [e, c34.2] at C2
                    rw [hx10, as]
                    refine ⟨H, u.2.2.1, u.2.2.2.1, A2, fun k hk => ?_, K196⟩
                    by_cases q : k = x146_2.toNatClampNeg
                    · rw [q]
                      exact ⟨wk_e (r := 117) (q := 118) (fun i i1 i2 => C2 i i1 i2) s116 (A2 _ ks).1, p83⟩
                    · exact D2 k (by omega)
                  · clear o9
                    have e : x196_3 = 34 * x146_2 + 34 := Int32.le_antisymm f3 c9
                    rw [e, c34.2] at C2
                    rw [hx10, as]
                    obtain ⟨E1, E2, E3, E4⟩ := hE
                    refine ⟨E1, E2, fun k hk => ?_⟩
                    by_cases q : k = x146_2.toNatClampNeg
                    · rw [q]
                      exact ⟨wq_e8 (r := 117) (q := 118) (fun i i1 i2 => C2 i i1 i2) s116 (A2 _ ks).1 (E2 _ ks).1, E4⟩
                    · exact E3 k (by omega)
              · skip
                have v := b_34 v0.1.1 v0.1.2 f2 c9 (c_35 w0 u.2.2.2.2.2)
                have vs := cn_succ v.2.2.2.2.1 v.2.2.2.2.2.2
                refine ⟨ib_34000.mpr ?_, ?_⟩
                · clear h; exact ⟨v.2.2.2.2.1, v.2.2.2.2.2.1⟩  -- b11
                refine ⟨ib_34000.mpr ?_, ?_⟩
                · clear h; exact ⟨v.2.2.2.2.1, v.2.2.2.2.2.1⟩  -- b12
                intro σ_11 hσ_11
                intro x12 hx12
                refine lp_b5 (cn_lt2 hn196 ?_ ?_) (fun d9 => ⟨rfl, ?_⟩)
                · clear h; rw [hx12]; exact v.1  -- d13
                · clear h; rw [hx12]; exact v.2.1  -- d14
                · refine and_5 ?_ (fun o9 => ?_)  -- i15
                  · clear h; have r117 : σ_11.2.2.1 117 = σ196.2.2.1 117 := by rw [hσ_11, ri3 (by decide)]
                    have r118 : σ_11.2.2.1 118 = σ196.2.2.1 118 := by rw [hσ_11, ri3 (by decide)]
                    have r119 : σ_11.2.2.1 119 = σ196.2.2.1 119 := by rw [hσ_11, ri3 (by decide)]
                    have r116 : σ_11.2.2.1 116 = σ196.2.2.1 116 := by rw [hσ_11, ri3 (by decide)]
                    have r83 : σ_11.2.2.1 83 = σ196.2.2.1 83 := by rw [hσ_11, ri3 (by decide)]
                    have r115 : ∀ i, σ_11.2.2.1 115 i = if i = x196_3.toNatClampNeg then σ196.2.2.1 117 x196_3.toNatClampNeg else σ196.2.2.1 115 i := fun i => by rw [hσ_11, ri34, if_pos rfl]
                    rw [hx12, vs]
                    refine ⟨rfl, v.2.2.1, v.2.2.2.1, frM_tr H (by rw [hσ_11]; exact frM_1 (by decide)), beA_f A2 r117 r118 r119, fun j j1 j2 => ?_, fun k hk => ⟨wk_e (fun i _ i2 => by rw [r115, if_neg (by omega)]) (by rw [r116]) (D2 k hk).1, by rw [r83]; exact (D2 k hk).2⟩, by rw [r116, r118]; exact s116, by rw [r83]; exact p83, nK_tr K196 (nK_r (by rw [hσ_11, ri3 (by decide)]) (by rw [hσ_11, ri3 (by decide)]))⟩
                    rw [r115, r117]
                    split
                    · rename_i q; rw [q]
                    · exact C2 j j1 (by omega)
                  · clear o9
                    have r117 : σ_11.2.2.1 117 = σ196.2.2.1 117 := by rw [hσ_11, ri3 (by decide)]
                    have r118 : σ_11.2.2.1 118 = σ196.2.2.1 118 := by rw [hσ_11, ri3 (by decide)]
                    have r119 : σ_11.2.2.1 119 = σ196.2.2.1 119 := by rw [hσ_11, ri3 (by decide)]
                    have r116 : σ_11.2.2.1 116 = σ196.2.2.1 116 := by rw [hσ_11, ri3 (by decide)]
                    have r83 : σ_11.2.2.1 83 = σ196.2.2.1 83 := by rw [hσ_11, ri3 (by decide)]
                    have r115 : ∀ i, σ_11.2.2.1 115 i = if i = x196_3.toNatClampNeg then σ196.2.2.1 117 x196_3.toNatClampNeg else σ196.2.2.1 115 i := fun i => by rw [hσ_11, ri34, if_pos rfl]
                    obtain ⟨E1, E2, E3, E4⟩ := hE
                    have e0 : σ_11.1 0 = σ196.1 0 := by rw [hσ_11, ri1]
                    exact ⟨⟨E1.1, e0.trans E1.2.1, E1.2.2⟩, fun k hk => dw_f8 (E2 k hk) r117 r118 r119, fun k hk => ⟨wq_e8 (fun i _ i2 => by rw [r115, if_neg (by omega)]) (by rw [r116]) (D2 k hk).1 (E3 k hk).1, by rw [r83]; exact (E3 k hk).2⟩, by rw [r83]; exact E4⟩
            obtain ⟨G, w0, w1, A, D, K146⟩ := i146
            have h70 := G.1 70 (by decide)
            rw [h70]
            refine ⟨fun c13 => ?_, fun c13 => ?_⟩
            · skip
              intro σ_14 hσ_14
              intro σ_15 hσ_15
              refine h _ _ ?_
              · refine and_5 ?_ (fun o9 => ?_)  -- q16
                · clear h; have e : x146_2 = σ.1 70 := Int32.le_antisymm w1 c13
                  rw [e, ← hs] at D
                  have G2 : frM bfF bfR σ σ_15 := by rw [hσ_15, hσ_14]; exact frM_tr (frM_w G (sub_of rfl) (fun k hk => hk)) (frM_tr (frM_0 (by decide)) (frM_0 (by decide)))
                  have e2 : σ_15.2 = σ146.2 := by rw [hσ_15, hσ_14]; rfl
                  refine ⟨G2, exP_pl hP (fun k hk => G2.1 k (by rcases hk with z | z | z | z <;> rw [z] <;> decide)) (fun k hk => G2.2.2.1 k (by rcases hk with z | z | z | z | z | z | z <;> rw [z] <;> decide)) (fun j j0 j1 => ?_), fun _ k hk => wkO_f (by rw [e2]) (by rw [e2]) (D k hk).1, fun z => absurd (by rw [hσ_15]; rfl) z, nK_tr K146 (nK_r (by rw [e2]) (by rw [e2]))⟩
                  rw [e2]
                  exact (D _ (by rw [hs]; exact cn_lt j0 j1)).2
                · clear o9
                  have e : x146_2 = σ.1 70 := Int32.le_antisymm w1 c13
                  have e2 : σ_15.2 = σ146.2 := by rw [hσ_15, hσ_14]; rfl
                  have e0 : σ_15.1 0 = σ146.1 0 := by rw [hσ_15, si1, if_neg (by decide), hσ_14, si1, if_neg (by decide)]
                  obtain ⟨E1, E2, E3⟩ := hE
                  rw [e] at E3
                  refine Or.inr ⟨E1.1, e0.trans E1.2.1, Or.inr ⟨E1.2.2, Or.inr ⟨rfl, fun k hk => ⟨wq_f8 (by rw [e2]) (by rw [e2]) (E3 k hk).1, (E2 k (by rw [hs]; exact hk)).2.1, by rw [e2]; exact (E3 k hk).2⟩, ?_, ?_⟩⟩⟩
                  · rw [hσ_15, si1, if_pos rfl]
                  · rw [hσ_15, si1, if_neg (by decide), hσ_14, si1, if_pos rfl]; decide
            · skip
              have u := uk w0 c13 n1000
              have ks : x146_2.toNatClampNeg < s := by rw [hs]; exact cn_lt w0 u.2.2.2.2.1
              refine ⟨ib_1000.mpr ?_, ?_⟩
              · clear h; exact ⟨w0, u.2.2.2.2.2⟩  -- b17
              refine ⟨fun c16 => ?_, fun c16 => ?_⟩
              · skip
                refine hj178 _ _ _ _ ?_
                · refine and_5 ?_ (fun o9 => ?_)  -- k18
                  · clear h; rw [G.2.2.1 81 (by decide)] at c16
                    exact ⟨rfl, rfl, c13, rfl, fun _ => rfl, fun z => absurd c16 z⟩
                  · clear o9
                    rw [G.2.2.1 81 (by decide)] at c16
                    exact ⟨(if_pos c16).symm, hE⟩
              · skip
                refine ⟨ib_1000.mpr ?_, ?_⟩
                · clear h; exact ⟨w0, u.2.2.2.2.2⟩  -- b19
                refine hj178 _ _ _ _ ?_
                · refine and_5 ?_ (fun o9 => ?_)  -- k20
                  · clear h; rw [G.2.2.1 81 (by decide)] at c16
                    exact ⟨rfl, rfl, c13, rfl, fun z => absurd z c16, (A _ ks).2⟩
                  · clear o9
                    rw [G.2.2.1 81 (by decide)] at c16
                    exact ⟨((hE.2.1 _ ks).2.2 c16).trans (if_neg c16).symm, hE⟩
          · skip
            intro x17 hx17
            unfold w_best_75
            refine ⟨fun n l1 l2 τ => n = (l2 + 1).toNatClampNeg ∧ ((x60_1 ≤ l1 ∧ l1 ≤ σ.1 70 ∧ 0 ≤ l2 + 1 ∧ l2 + 1 ≤ σ.1 70 ∧ bsJ σ τ s ∧ cntB (τ.2.2.1 96) s = l1.toNatClampNeg ∧ (l1 = x60_1 → ∀ k, k < s → (l2 + 1).toNatClampNeg ≤ k → τ.2.2.1 96 k = 0 → ∃ b, b < s ∧ edN σ 0 87 1 k b ∧ τ.2.2.1 96 b = 0)) ∧ bsW8 σ τ ∧ dnW8 σ τ s), ⟨_, rfl, ?_⟩, ?_⟩
            · refine and_5 ?_ (fun o9 => hE)  -- j21
              clear h; have lt := Int32.not_le.mp c5
              rw [hx17, b_m1 hO.1.1.1 n1000]
              exact ⟨Int32.le_refl _, b1, hO.1.1.1, Int32.le_refl _, J, ct, fun _ k hk hl => absurd hk (by rw [hs]; omega)⟩
            rintro n75 x75_1 x75_2 σ75 ⟨hn75, i75, hE⟩
            obtain ⟨g1, g2, g3, g4, J2, ct2, N⟩ := i75
            have l0 := Int32.le_trans b0 g1
            refine ⟨fun c18 => ?_, fun c18 => ?_⟩
            · skip
              refine lp_b5 (cn_lt2 hn60 ?_ ?_) (fun d9 => ⟨rfl, ?_⟩)
              · clear h; have lt : x60_1 < x75_1 := by
                  by_cases e : x75_1 = x60_1
                  · exfalso
                    have e0 := b_en c18 g3 g4 n1000
                    have irr := hP.2.2.2.2 (Int32.le_antisymm (by rw [hσ_1, j13] at c3; exact c3) hP.2.2.2.1)
                    rw [← hs] at irr
                    refine be_no irr ?_ (fun k hk z => N e k hk (by rw [e0]; exact Nat.zero_le _) z)
                    rw [ct2, e, hs]
                    exact cn_lt b0 (Int32.not_le.mp c5)
                  · exact Int32.lt_of_le_of_ne g1 (fun z => e z.symm)
                exact (b_st b0 lt g2 n1000).1
              · clear h; have lt : x60_1 < x75_1 := by
                  by_cases e : x75_1 = x60_1
                  · exfalso
                    have e0 := b_en c18 g3 g4 n1000
                    have irr := hP.2.2.2.2 (Int32.le_antisymm (by rw [hσ_1, j13] at c3; exact c3) hP.2.2.2.1)
                    rw [← hs] at irr
                    refine be_no irr ?_ (fun k hk z => N e k hk (by rw [e0]; exact Nat.zero_le _) z)
                    rw [ct2, e, hs]
                    exact cn_lt b0 (Int32.not_le.mp c5)
                  · exact Int32.lt_of_le_of_ne g1 (fun z => e z.symm)
                exact (b_st b0 lt g2 n1000).2
              · refine and_5 ?_ (fun o9 => hE)  -- i24
                clear h; exact ⟨l0, g2, J2, ct2⟩
            · skip
              have dn := b_dn c18 g3 g4 n1000
              have ns := cn_succ dn.1 dn.2.2.2.2.2.2
              have hO75 := pOK_B hO J2.1
              have h70 := J2.1.1 70 (by decide)
              have ks : x75_2.toNatClampNeg < s := by rw [hs]; exact cn_lt dn.1 dn.2.1
              have st := ex_st hO.1 dn.1 dn.2.1
              refine ⟨ib_1000.mpr ?_, ?_⟩
              · clear h; exact ⟨dn.1, dn.2.2.1⟩  -- b25
              refine ⟨fun c19 => ?_, fun c19 => ?_⟩
              · skip
                intro x20 hx20
                refine lp_b5 (cn_lt2 hn75 ?_ ?_) (fun d9 => ⟨rfl, ?_⟩)
                · clear h; rw [hx20, dn.2.2.2.1]; exact dn.1  -- d26
                · clear h; rw [hx20, dn.2.2.2.1]; exact dn.2.2.2.2.1  -- d27
                · refine and_5 ?_ (fun o9 => hE)  -- i28
                  clear h; rw [hx20, dn.2.2.2.1]
                  refine ⟨g1, g2, dn.1, dn.2.2.2.2.2.1, J2, ct2, fun e k hk hl z => ?_⟩
                  by_cases q : k = x75_2.toNatClampNeg
                  · rw [q] at z; exact absurd z c19
                  · exact N e k hk (by rw [ns]; omega) z
              · skip
                refine isWorthDone_c hC  ?_ (fun r21 q23 => ?_)
                · clear h; exact ⟨hO75.1, dn.1, by rw [h70]; exact dn.2.1⟩  -- p29
                have qw := q23.2
                rw [J2.1.2.2.1 76 (by decide), J2.1.2.2.1 77 (by decide), J2.1.2.2.1 78 (by decide)] at qw
                refine ⟨fun c24 => ?_, fun c24 => ?_⟩
                · skip
                  intro x25 hx25
                  refine lp_b5 (cn_lt2 hn75 ?_ ?_) (fun d9 => ⟨rfl, ?_⟩)
                  · clear h; rw [hx25, dn.2.2.2.1]; exact dn.1  -- d30
                  · clear h; rw [hx25, dn.2.2.2.1]; exact dn.2.2.2.2.1  -- d31
                  · refine and_5 ?_ (fun o9 => hE)  -- i32
                    clear h; have ex : ∃ i : Int32, σ.2.2.1 76 x75_2.toNatClampNeg ≤ i ∧ i < σ.2.2.1 76 (x75_2.toNatClampNeg + 1) ∧ σ.2.2.1 77 i.toNatClampNeg = 0 ∧ σ75.2.2.1 96 (σ.2.2.1 78 i.toNatClampNeg).toNatClampNeg = 0 := Classical.byContradiction (fun ne => qw.mpr (fun i i1 i2 z1 z2 => ne ⟨i, i1, i2, z1, z2⟩) c24)
                    rw [hx25, dn.2.2.2.1]
                    refine ⟨g1, g2, dn.1, dn.2.2.2.2.2.1, J2, ct2, fun e k hk hl z => ?_⟩
                    by_cases q : k = x75_2.toNatClampNeg
                    · obtain ⟨i, i1, i2, z1, z2⟩ := ex
                      have i0 := Int32.le_trans st.1.1 i1
                      have tq := (hO.1.2.2.2.2 _ (cn_lt i0 (Int32.lt_of_lt_of_le i2 st.2.2.1))).2.1 z1
                      rw [q]
                      exact ⟨_, by rw [hs]; exact cn_lt tq.1 tq.2, ⟨i, i1, i2, z1, rfl, Or.inl rfl, Or.inl (by decide)⟩, z2⟩
                    · exact N e k hk (by rw [ns]; omega) z
                · skip
                  refine findWorth_g5 hC s ?_ (fun σ_26 q27 => ?_)
                  · clear h; rw [h70]
                    exact ⟨hO75, hs, dn.1, dn.2.1, fun k hk z => (J2.2.1 k hk z).1, q23.2.mp c24⟩
                  obtain ⟨q27, z9⟩ := q27
                  have F26 : frM beF beR σ σ_26 := frM_tr J2.1 (frM_Z q27.1)
                  have K26 : nK σ σ_26 := nK_tr J2.2.2 q27.1.2.2.2.2.2
                  refine isLong_c hC  ?_ (fun r28 q30 => ?_)
                  · clear h; exact ⟨by decide, by decide⟩  -- p34
                  refine ⟨fun c31 => ?_, fun c31 => ?_⟩
                  · skip
                    refine h _ _ ?_
                    · refine and_5 ?_ (fun o9 => ?_)  -- q35
                      · clear h; exact be_fin hP hb F26 K26
                      · clear o9
                        obtain ⟨wd, _⟩ := wb_d8 hP hE.1.2.2 hs ks J2.1 hE.2 (q23.2.mp c24)
                        rw [wd] at z9
                        have N4 := (hS_n8 z9.1).1
                        have nf : ¬ ftW8 (wbW8 σ x75_2.toNatClampNeg) := fun y => by
                          have l := nL_lt q27.2.1 (k := 16) (by rw [N4]; exact y.1)
                          have g := q30.2.mp c31
                          rw [lti, show (16 : Int32).toInt = 16 from rfl] at g
                          have c := cnk (x := rd σ_26 91 4) (by omega)
                          have l' : (rd σ_26 91 4).toNatClampNeg ≤ 16 := l
                          omega
                        exact Or.inr ⟨hE.1.1, (q27.1.1 0 (by decide)).trans hE.1.2.1, Or.inr ⟨hE.1.2.2, Or.inl ⟨rfl, ⟨x75_2.toNatClampNeg, by rw [← hs]; exact ks, nf⟩, bk_B8 F26⟩⟩⟩
                  · skip
                    refine isLong_c hC  ?_ (fun r32 q34 => ?_)
                    · clear h; exact ⟨by decide, by decide⟩  -- p36
                    refine ⟨fun c35 => ?_, fun c35 => ?_⟩
                    · skip
                      refine keepWorth_c hC  ?_ (fun σ_36 q37 => ?_)
                      · clear h; exact ⟨dn.1, dn.2.2.1, q27.2.1, q27.2.2.1⟩  -- p37
                      have l4 : nL σ_26 4 ≤ 16 := cn_le (x := σ_26.2.2.1 91 4) (y := 16) rfl (Int32.not_lt.mp (fun z => q30.2.mpr z c31))
                      have l5 : nL σ_26 5 ≤ 16 := cn_le (x := σ_26.2.2.1 91 5) (y := 16) rfl (Int32.not_lt.mp (fun z => q34.2.mpr z c35))
                      have s4 := q37.2.1 l4
                      have s5 := q37.2.2 l5
                      refine ⟨ib_1000.mpr ?_, ?_⟩
                      · clear h; exact ⟨dn.1, dn.2.2.1⟩  -- b38
                      intro σ_38 hσ_38
                      intro x39 hx39
                      intro x40 hx40
                      refine lp_b5 (cn_lt2 hn75 ?_ ?_) (fun d9 => ⟨rfl, ?_⟩)
                      · clear h; rw [hx40, dn.2.2.2.1]; exact dn.1  -- d39
                      · clear h; rw [hx40, dn.2.2.2.1]; exact dn.2.2.2.2.1  -- d40
                      · refine and_5 ?_ (fun o9 => ?_)  -- i41
                        · clear h; have F38 : frM beF beR σ σ_38 := by rw [hσ_38]; exact frM_tr F26 (frM_tr (frM_1 (by decide)) (frM_tr (frM_R q37.1 (by decide)) (frM_1 (by decide))))
                          have r96 : ∀ i, σ_38.2.2.1 96 i = if i = x75_2.toNatClampNeg then vp_nar .boolean 1 else σ75.2.2.1 96 i := fun i => by
                            rw [hσ_38, ri34, if_pos rfl, q37.1.2.2.1 96 (by decide), ri3 (by decide), q27.1.2.2.1 96 (by decide) (by decide) (by decide)]
                          have K38 : nK σ σ_38 := nK_tr K26 (nK_r (by rw [hσ_38, ri3 (by decide), q37.1.2.2.1 90 (by decide), ri3 (by decide)]) (by rw [hσ_38, ri3 (by decide), q37.1.2.2.1 91 (by decide), ri3 (by decide)]))
                          have r117 : σ_38.2.2.1 117 = σ_36.2.2.1 117 := by rw [hσ_38, ri3 (by decide)]
                          have r118 : ∀ i, σ_38.2.2.1 118 i = if i = x75_2.toNatClampNeg then σ_26.1 92 else σ75.2.2.1 118 i := fun i => by
                            rw [hσ_38, ri3 (by decide), q37.1.2.2.1 118 (by decide), ri34, if_pos rfl, q27.1.2.2.1 118 (by decide) (by decide) (by decide)]
                          have r119 : σ_38.2.2.1 119 = σ_26.2.2.1 119 := by rw [hσ_38, ri3 (by decide), q37.1.2.2.1 119 (by decide), ri3 (by decide)]
                          have up := cntB_up (r := σ75.2.2.1 96) (r' := σ_38.2.2.1 96) (j := x75_2.toNatClampNeg) c19 (by rw [r96, if_pos rfl]; exact nar_1) (fun i hi => by rw [r96, if_neg hi]) ks
                          have le := cntB_le (r := σ_38.2.2.1 96) (n := s)
                          have lt := cn_ltr l0 hO.1.1.1 (by rw [← hs]; omega)
                          have bu := b_up b0 g1 lt n1000
                          have xs := cn_succ l0 bu.2.2.2.2
                          rw [hx39, hx40, dn.2.2.2.1, xs, up, ct2]
                          refine ⟨bu.1, bu.2.1, dn.1, dn.2.2.2.2.2.1, ⟨F38, fun k hk z => ?_, K38⟩, rfl, fun e => absurd e bu.2.2.1⟩
                          by_cases q : k = x75_2.toNatClampNeg
                          · rw [q]
                            refine ⟨⟨(sl_f (m := 16) r117).2.mpr s4.1, (sl_f (m := 16) r117).2.mpr s5.1, by rw [(sl_f (m := 16) r117).1, s5.2]; exact q27.2.2.2.1, by rw [r118, if_pos rfl]; exact q27.2.2.2.2.1⟩, ?_⟩
                            have pl := q27.2.2.2.2.2
                            rw [J2.1.2.2.1 76 (by decide), J2.1.2.2.1 81 (by decide)] at pl
                            rw [r119]
                            exact pl
                          · rw [r96, if_neg q] at z
                            have w := J2.2.1 k hk z
                            refine ⟨wk_e (fun i i1 i2 => ?_) (by rw [r118, if_neg q]) w.1, ?_⟩
                            · rw [r117, q37.1.2.2.2.2 i (by omega), ri3 (by decide), q27.1.2.2.1 117 (by decide) (by decide) (by decide)]
                            · rw [r119, q27.1.2.2.2.2.1 k q]; exact w.2
                        · clear o9
                          obtain ⟨wd, wm⟩ := wb_d8 hP hE.1.2.2 hs ks J2.1 hE.2 (q23.2.mp c24)
                          have e81 : σ75.2.2.1 81 = σ.2.2.1 81 := J2.1.2.2.1 81 (by decide)
                          rw [wd, wm, e81] at z9
                          obtain ⟨N4, N5, N6⟩ := hS_n8 z9.1
                          have r96 : ∀ i, σ_38.2.2.1 96 i = if i = x75_2.toNatClampNeg then vp_nar .boolean 1 else σ75.2.2.1 96 i := fun i => by
                            rw [hσ_38, ri34, if_pos rfl, q37.1.2.2.1 96 (by decide), ri3 (by decide), q27.1.2.2.1 96 (by decide) (by decide) (by decide)]
                          have r117 : σ_38.2.2.1 117 = σ_36.2.2.1 117 := by rw [hσ_38, ri3 (by decide)]
                          have r118 : ∀ i, σ_38.2.2.1 118 i = if i = x75_2.toNatClampNeg then σ_26.1 92 else σ75.2.2.1 118 i := fun i => by
                            rw [hσ_38, ri3 (by decide), q37.1.2.2.1 118 (by decide), ri34, if_pos rfl, q27.1.2.2.1 118 (by decide) (by decide) (by decide)]
                          have r119 : σ_38.2.2.1 119 = σ_26.2.2.1 119 := by rw [hσ_38, ri3 (by decide), q37.1.2.2.1 119 (by decide), ri3 (by decide)]
                          have e0 : σ_38.1 0 = σ75.1 0 := by rw [hσ_38, ri1, q37.1.1, ri1]; exact q27.1.1 0 (by decide)
                          refine ⟨⟨hE.1.1, e0.trans hE.1.2.1, hE.1.2.2⟩, fun k hk z => ?_⟩
                          by_cases q : k = x75_2.toNatClampNeg
                          · rw [q]
                            have a4 : slV σ_38 117 (34 * x75_2.toNatClampNeg) = nV σ_26 4 := by rw [(sl_f (m := 16) r117).1]; exact s4.2
                            have a5 : slV σ_38 117 (34 * x75_2.toNatClampNeg + 17) = nV σ_26 5 := by rw [(sl_f (m := 16) r117).1]; exact s5.2
                            refine ⟨⟨a4.trans N4, a5.trans N5, ?_⟩, ⟨by rw [← N4]; exact nV_lt q27.2.1 l4, by rw [← N5]; exact nV_lt q27.2.2.1 l5⟩, fun y => by rw [r119]; exact z9.2 y⟩
                            unfold wVW8
                            rw [r118, if_pos rfl, a4, a5]
                            exact N6
                          · rw [r96, if_neg q] at z
                            have w := J2.2.1 k hk z
                            have w2 := hE.2 k hk z
                            refine ⟨wq_e8 (fun i i1 i2 => ?_) (by rw [r118, if_neg q]) w.1 w2.1, w2.2.1, fun y => ?_⟩
                            · rw [r117, q37.1.2.2.2.2 i (by omega), ri3 (by decide), q27.1.2.2.1 117 (by decide) (by decide) (by decide)]
                            · rw [r119, q27.1.2.2.2.2.1 k q]
                              exact w2.2.2 y
                    · skip
                      refine h _ _ ?_
                      · refine and_5 ?_ (fun o9 => ?_)  -- q42
                        · clear h; exact be_fin hP hb F26 K26
                        · clear o9
                          obtain ⟨wd, _⟩ := wb_d8 hP hE.1.2.2 hs ks J2.1 hE.2 (q23.2.mp c24)
                          rw [wd] at z9
                          have N4 := (hS_n8 z9.1).2.1
                          have nf : ¬ ftW8 (wbW8 σ x75_2.toNatClampNeg) := fun y => by
                            have l := nL_lt q27.2.2.1 (k := 16) (by rw [N4]; exact y.2)
                            have g := q34.2.mp c35
                            rw [lti, show (16 : Int32).toInt = 16 from rfl] at g
                            have c := cnk (x := rd σ_26 91 5) (by omega)
                            have l' : (rd σ_26 91 5).toNatClampNeg ≤ 16 := l
                            omega
                          exact Or.inr ⟨hE.1.1, (q27.1.1 0 (by decide)).trans hE.1.2.1, Or.inr ⟨hE.1.2.2, Or.inl ⟨rfl, ⟨x75_2.toNatClampNeg, by rw [← hs]; exact ks, nf⟩, bk_B8 F26⟩⟩⟩
        · skip
          have u := uk a0 c4 n1000
          have as := cn_succ a0 (Int32.lt_trans u.2.2.2.2.2 (by decide))
          refine ⟨ib_1000.mpr ?_, ?_⟩
          · clear h; exact ⟨a0, u.2.2.2.2.2⟩  -- b43
          intro σ_41 hσ_41
          intro x42 hx42
          refine lp_b5 (cn_lt2 hn39 ?_ ?_) (fun d9 => ⟨rfl, ?_⟩)
          · clear h; rw [hx42]; exact u.1  -- d44
          · clear h; rw [hx42]; exact u.2.1  -- d45
          · refine and_5 ?_ (fun o9 => ?_)  -- i46
            · clear h; rw [hx42, as, hσ_41]
              refine ⟨e1, frM_tr F (frM_1 (by decide)), u.2.2.1, u.2.2.2.1, fun k hk => ?_, nK_tr K39 (nK_r (ri3 (by decide)) (ri3 (by decide)))⟩
              rw [ri34, if_pos rfl]
              split
              · rfl
              · exact U k (by omega)
            · clear o9
              rw [hσ_41]
              exact ⟨hE.1, by rw [ri1]; exact hE.2.1, hE.2.2⟩
      · skip
        refine h _ _ ?_
        · refine and_5 ?_ (fun o9 => ?_)  -- q47
          · clear h; exact be_fin hP hb (by rw [hσ_1, j13]; exact frM_0 (by decide)) (by rw [hσ_1, j13]; exact nK_r rfl rfl)
          · clear o9
            have e0 : σ_1.1 0 = y13_s1 := by rw [hσ_1, si1, if_pos rfl]
            have e88 : σ_1.1 88 = σ.1 88 := by rw [hσ_1, si1, if_neg (by decide), j13]
            have F : frM beF beR σ σ_1 := by rw [hσ_1, j13]; exact frM_0 (by decide)
            rcases hE with ⟨z1, z2⟩ | ⟨z1, z2⟩
            · exact Or.inr ⟨z2, e0.trans z1, Or.inl ⟨fun z => c3 (by rw [e88, z]; decide), rfl, bk_B8 F⟩⟩
            · rw [e0, z1] at c2; exact absurd c2 (by decide)
    · skip
      refine h _ _ ?_
      · refine and_5 ?_ (fun o9 => ?_)  -- q48
        · clear h; exact be_fin hP hb (by rw [hσ_1, j13]; exact frM_0 (by decide)) (by rw [hσ_1, j13]; exact nK_r rfl rfl)
        · clear o9
          have e0 : σ_1.1 0 = y13_s1 := by rw [hσ_1, si1, if_pos rfl]
          have F : frM beF beR σ σ_1 := by rw [hσ_1, j13]; exact frM_0 (by decide)
          rcases hE with ⟨z1, z2⟩ | ⟨z1, z2⟩
          · exact absurd (by rw [e0, z1]; decide) c2
          · exact Or.inl ⟨z2, e0.trans z1, bk_B8 F⟩
  refine ⟨fun c43 => ?_, fun c43 => ?_⟩
  · skip
    refine hj13 _ _ ?_
    · refine and_5 ?_ (fun o9 => Or.inr ⟨rfl, c43⟩)  -- k49
      clear h; rfl
  · skip
    refine hj13 _ _ ?_
    · refine and_5 ?_ (fun o9 => Or.inl ⟨rfl, c43⟩)  -- k50
      clear h; rfl

end
section
set_option maxHeartbeats 1600000
/-! the class: fractions by their values -/
/-- a fraction in lowest terms -/
def rqW8 (κ : zS) (p : Nat) (q : Rat) : Prop := (zI κ raSign p).toInt = q.num.sign ∧ nuN κ (zR κ raTop p) = q.num.natAbs ∧ nuN κ (zR κ raBottom p) = q.den
theorem sg_p8 {n : Int} (h : 0 < n) : n.sign = 1 := Int.sign_eq_one_of_pos h
theorem sg_n8 {n : Int} (h : n < 0) : n.sign = -1 := Int.sign_eq_neg_one_of_neg h
theorem sg_w8 {r : Int} {S L : Nat} (h : (r = -1 ∧ S < L) ∨ (r = 0 ∧ S = L) ∨ (r = 1 ∧ L < S)) : r = ((S : Int) - (L : Int)).sign := by
  rcases h with ⟨e, h⟩ | ⟨e, h⟩ | ⟨e, h⟩
  · rw [e, sg_n8 (by omega)]
  · rw [e, h, Int.sub_self, Int.sign_zero]
  · rw [e, sg_p8 (by omega)]
/-- a fraction's parts -/
theorem mk_n8 {n : Int} {d : Nat} (hd : 0 < d) : (mkRat n d).num.natAbs = n.natAbs / Nat.gcd n.natAbs d ∧ (mkRat n d).den = d / Nat.gcd n.natAbs d ∧ (mkRat n d).num.sign = n.sign := by
  have z2 : ¬ d = 0 := by omega
  have g0 : 0 < Nat.gcd n.natAbs d := Nat.gcd_pos_of_pos_right _ hd
  have pos : ∀ m : Nat, (mkRat (m : Int) d).num = ((m / Nat.gcd m d : Nat) : Int) ∧ (mkRat (m : Int) d).den = d / Nat.gcd m d := fun m => by
    refine ⟨?_, ?_⟩
    · rw [Rat.num_mkRat, if_neg z2, Int.natAbs_natCast, Nat.gcd_comm, Int.natCast_ediv]
    · rw [Rat.den_mkRat, if_neg z2, Int.natAbs_natCast, Nat.gcd_comm]
  have sp : ∀ m : Nat, 0 < m → 0 < m / Nat.gcd m d := fun m hm => Nat.div_pos (Nat.le_of_dvd hm (Nat.gcd_dvd_left m d)) (Nat.gcd_pos_of_pos_right _ hd)
  rcases Int.lt_trichotomy n 0 with c | c | c
  · have e : n = -((n.natAbs : Nat) : Int) := by omega
    have q := pos n.natAbs
    have w := sp n.natAbs (by omega)
    have f : mkRat n d = -mkRat ((n.natAbs : Nat) : Int) d := by rw [Rat.neg_mkRat, ← e]
    rw [f, Rat.neg_num, Rat.neg_den, q.1, q.2]
    exact ⟨by omega, rfl, by rw [sg_n8 c, sg_n8 (by omega)]⟩
  · have q := pos 0
    rw [c]
    refine ⟨?_, ?_, ?_⟩
    · show (mkRat ((0 : Nat) : Int) d).num.natAbs = _
      rw [q.1]; rfl
    · exact q.2
    · show (mkRat ((0 : Nat) : Int) d).num.sign = _
      rw [q.1]
      show (((0 / Nat.gcd 0 d : Nat)) : Int).sign = (0 : Int).sign
      rw [Nat.zero_div]; rfl
  · have e : n = ((n.natAbs : Nat) : Int) := by omega
    have q := pos n.natAbs
    have w := sp n.natAbs (by omega)
    have f : mkRat n d = mkRat ((n.natAbs : Nat) : Int) d := by rw [← e]
    rw [f, q.1, q.2]
    exact ⟨by omega, rfl, by rw [sg_p8 c, sg_p8 (by omega)]⟩
/-- what settle leaves -/
theorem st_q8 {κ κ' : zS} {p S L B : Nat} (hB : 0 < B) (h : stO κ κ' p (zR κ' raTop p) (zR κ' raBottom p) S L B) (s : (zI κ' raSign p).toInt = ((S : Int) - (L : Int)).sign) : rqW8 κ' p (mkRat ((S : Int) - (L : Int)) B) := by
  have m := mk_n8 (n := (S : Int) - (L : Int)) hB
  refine ⟨s.trans m.2.2.symm, ?_, ?_⟩
  · rw [m.1]
    rcases h with ⟨e, _, t, _⟩ | ⟨_, _, t, _⟩
    · rw [t, e, Int.sub_self]
      show 0 = 0 / _
      rw [Nat.zero_div]
    · rw [t, show ((S : Int) - (L : Int)).natAbs = S - L + (L - S) by omega]
  · rw [m.2.1]
    rcases h with ⟨e, _, _, b⟩ | ⟨_, _, _, b⟩
    · rw [b, e, Int.sub_self]
      show 1 = B / Nat.gcd 0 B
      rw [Nat.gcd_zero_left, Nat.div_self hB]
    · rw [b, show ((S : Int) - (L : Int)).natAbs = S - L + (L - S) by omega]
/-- a whole number more -/
theorem ad_q8 {q : Rat} {w : Int} : (q + (w : Rat)).num = q.num + w * q.den ∧ (q + (w : Rat)).den = q.den := by
  have c : (q.num + w * (q.den : Int)).natAbs.gcd q.den = 1 := by
    have e := Int.gcd_add_mul_right_left (q.den : Int) q.num w
    have r : Int.gcd q.num (q.den : Int) = 1 := q.reduced
    rw [r] at e
    exact e
  have e : q + (w : Rat) = ⟨q.num + w * (q.den : Int), q.den, q.den_nz, c⟩ := by
    rw [Rat.mk_eq_mkRat, Rat.add_def']
    show mkRat (q.num * ((1 : Nat) : Int) + w * (q.den : Int)) (q.den * 1) = _
    rw [Nat.mul_one, show q.num * ((1 : Nat) : Int) = q.num from Int.mul_one _]
  rw [e]
  exact ⟨rfl, rfl⟩
theorem aw_q8 {κ' : zS} {p : Nat} {q : Rat} {w : Int} (s : (zI κ' raSign p).toInt = (q.num + w * q.den).sign) (t : nuN κ' (zR κ' raTop p) = (q.num + w * q.den).natAbs) (b : nuN κ' (zR κ' raBottom p) = q.den) : rqW8 κ' p (q + (w : Rat)) := by
  have e := ad_q8 (q := q) (w := w)
  refine ⟨by rw [e.1]; exact s, by rw [e.1]; exact t, by rw [e.2]; exact b⟩
/-- order by signs -/
theorem ps_q8 {a : Rat} : (a.num.sign = 1 ↔ 0 < a) ∧ (a.num.sign = 0 ↔ a = 0) ∧ (a.num.sign = -1 ↔ a < 0) := by
  have p : 0 < a ↔ 0 < a.num := by
    rw [Rat.lt_iff, Rat.zero_num, Rat.zero_den, Int.zero_mul]
    show 0 < a.num * 1 ↔ _
    rw [Int.mul_one]
  have n : a < 0 ↔ a.num < 0 := by
    rw [Rat.lt_iff, Rat.zero_num, Rat.zero_den, Int.zero_mul]
    show a.num * 1 < 0 ↔ _
    rw [Int.mul_one]
  have z : a = 0 ↔ a.num = 0 := Rat.num_eq_zero.symm
  rw [p, n, z]
  rcases Int.lt_trichotomy a.num 0 with c | c | c
  · rw [sg_n8 c]
    omega
  · rw [c]
    exact ⟨⟨fun y => absurd y (by decide), fun y => absurd y (by decide)⟩, ⟨fun _ => rfl, fun _ => rfl⟩, ⟨fun y => absurd y (by decide), fun y => absurd y (by decide)⟩⟩
  · rw [sg_p8 c]
    omega
theorem sn_q8 {a : Rat} : a.num.sign = 1 ∨ a.num.sign = 0 ∨ a.num.sign = -1 := by
  rcases Int.lt_trichotomy a.num 0 with c | c | c
  · exact Or.inr (Or.inr (sg_n8 c))
  · exact Or.inr (Or.inl (by rw [c]; rfl))
  · exact Or.inl (sg_p8 c)
theorem lt_q8 {a b : Rat} (h : ¬ a.num.sign = b.num.sign) : b < a ↔ b.num.sign < a.num.sign := by
  have pa := ps_q8 (a := a)
  have pb := ps_q8 (a := b)
  rcases sn_q8 (a := a) with x | x | x <;> rcases sn_q8 (a := b) with y | y | y <;> rw [x, y] at h ⊢
  · exact absurd rfl h
  · have u := pa.1.mp x
    have v := pb.2.1.mp y
    rw [v]
    exact ⟨fun _ => by decide, fun _ => u⟩
  · have u := pa.1.mp x
    have v := pb.2.2.mp y
    exact ⟨fun _ => by decide, fun _ => by grind⟩
  · have u := pa.2.1.mp x
    have v := pb.1.mp y
    rw [u]
    exact ⟨fun z => by grind, fun z => absurd z (by decide)⟩
  · exact absurd rfl h
  · have u := pa.2.1.mp x
    have v := pb.2.2.mp y
    rw [u]
    exact ⟨fun _ => by decide, fun _ => v⟩
  · have u := pa.2.2.mp x
    have v := pb.1.mp y
    exact ⟨fun z => by grind, fun z => absurd z (by decide)⟩
  · have u := pa.2.2.mp x
    have v := pb.2.1.mp y
    rw [v]
    exact ⟨fun z => by grind, fun z => absurd z (by decide)⟩
  · exact absurd rfl h
theorem ls_q8 {a b : Rat} (h : a.num.sign = b.num.sign) : (a.num.sign = 1 → (b < a ↔ b.num.natAbs * a.den < a.num.natAbs * b.den)) ∧ (a.num.sign = -1 → (b < a ↔ a.num.natAbs * b.den < b.num.natAbs * a.den)) := by
  have ea := Int.sign_mul_natAbs a.num
  have eb := Int.sign_mul_natAbs b.num
  rw [← h] at eb
  refine ⟨fun s => ?_, fun s => ?_⟩
  · rw [s, Int.one_mul] at ea eb
    rw [Rat.lt_iff]
    have x : a.num * (b.den : Int) = ((a.num.natAbs * b.den : Nat) : Int) := by
      rw [Int.natCast_mul, ea]
    have y : b.num * (a.den : Int) = ((b.num.natAbs * a.den : Nat) : Int) := by
      rw [Int.natCast_mul, eb]
    rw [x, y]
    omega
  · rw [s] at ea eb
    rw [Rat.lt_iff]
    have x : a.num * (b.den : Int) = -((a.num.natAbs * b.den : Nat) : Int) := by
      rw [Int.natCast_mul, ← Int.neg_mul]
      congr 1
      omega
    have y : b.num * (a.den : Int) = -((b.num.natAbs * a.den : Nat) : Int) := by
      rw [Int.natCast_mul, ← Int.neg_mul]
      congr 1
      omega
    rw [x, y]
    omega
theorem wa_q8 {n W : Int} (h0 : W ≠ 0) : (¬ n.sign = -W.sign → (n + W).natAbs = n.natAbs + W.natAbs ∧ (n + W).sign = W.sign) ∧ (n.sign = -W.sign → (W.natAbs < n.natAbs → (n + W).natAbs = n.natAbs - W.natAbs ∧ (n + W).sign = n.sign) ∧ (W.natAbs = n.natAbs → (n + W).natAbs = 0 ∧ (n + W).sign = 0) ∧ (n.natAbs < W.natAbs → (n + W).natAbs = W.natAbs - n.natAbs ∧ (n + W).sign = W.sign)) := by
  rcases Int.lt_trichotomy W 0 with w | w | w
  · rw [sg_n8 w]
    refine ⟨fun h => ?_, fun h => ?_⟩
    · have n0 : n ≤ 0 := by
        refine Decidable.byContradiction (fun c => h ?_)
        rw [sg_p8 (by omega)]
        rfl
      exact ⟨by omega, sg_n8 (by omega)⟩
    · have n0 : 0 < n := by
        rcases Int.lt_trichotomy n 0 with c | c | c
        · rw [sg_n8 c] at h; exact absurd h (by decide)
        · rw [c] at h; exact absurd h (by decide)
        · exact c
      exact ⟨fun c => ⟨by omega, by rw [sg_p8 n0, sg_p8 (by omega)]⟩, fun c => ⟨by omega, by rw [show n + W = 0 by omega]; rfl⟩, fun c => ⟨by omega, sg_n8 (by omega)⟩⟩
  · exact absurd w h0
  · rw [sg_p8 w]
    refine ⟨fun h => ?_, fun h => ?_⟩
    · have n0 : 0 ≤ n := by
        refine Decidable.byContradiction (fun c => h ?_)
        rw [sg_n8 (by omega)]
      exact ⟨by omega, sg_p8 (by omega)⟩
    · have n0 : n < 0 := by
        rcases Int.lt_trichotomy n 0 with c | c | c
        · exact c
        · rw [c] at h; exact absurd h (by decide)
        · rw [sg_p8 c] at h; exact absurd h (by decide)
      exact ⟨fun c => ⟨by omega, by rw [sg_n8 n0, sg_n8 (by omega)]⟩, fun c => ⟨by omega, by rw [show n + W = 0 by omega]; rfl⟩, fun c => ⟨by omega, sg_p8 (by omega)⟩⟩
theorem wd_q8 {q : Rat} {w : Int} (h : w ≠ 0) : (w * (q.den : Int)).natAbs = q.den * w.natAbs ∧ (w * (q.den : Int)).sign = w.sign ∧ w * (q.den : Int) ≠ 0 := by
  have d : (0 : Int) < (q.den : Int) := by have := q.den_nz; omega
  refine ⟨by rw [Int.natAbs_mul, Int.natAbs_natCast, Nat.mul_comm], by rw [Int.sign_mul, sg_p8 d, Int.mul_one], fun z => ?_⟩
  rcases Int.mul_eq_zero.mp z with y | y
  · exact h y
  · omega
theorem ng_s8 {x y : Int32} (h : y.toInt = 1 ∨ y.toInt = -1) : x = -y ↔ x.toInt = -y.toInt := by
  rcases h with h | h
  · have e : y = 1 := Int32.toInt_inj.mp (h.trans rfl)
    rw [e]
    exact ⟨fun z => by rw [z]; rfl, fun z => Int32.toInt_inj.mp (z.trans rfl)⟩
  · have e : y = -1 := Int32.toInt_inj.mp (h.trans rfl)
    rw [e]
    exact ⟨fun z => by rw [z]; rfl, fun z => Int32.toInt_inj.mp (z.trans rfl)⟩
theorem bt_08 {κ : zS} {w c : Nat} (I : nuI κ w c) (h : nuN κ w = 0) : nuK κ w = 0 := by
  have q := nuK_lt (k := 0) I (by rw [h]; decide)
  omega
theorem Ra_fits_q6 {C : zC} {n0 : Nat} {a0 : Nat} {κ : zS} {Q : Int32 → zS → Prop} (W : zW C n0 κ) (Ta0 : zT κ a0 = 11)  (hp : nuI κ (zR κ raTop a0) 30000000 ∧ nuI κ (zR κ raBottom a0) 30000000) (h : ∀ (v : Int32), ((nb v ∧ (v ≠ 0 → nuN κ (zR κ raTop a0) < 2 ^ 256 ∧ nuN κ (zR κ raBottom a0) < 2 ^ 256)) ∧ ((v ≠ 0 ↔ nuN κ (zR κ raTop a0) < 2 ^ 256 ∧ nuN κ (zR κ raBottom a0) < 2 ^ 256))) → Q v κ) : zRun C 1 mRa_fits [.ref a0] κ (oI Q noX) := by
  refine Ra_fits_run W Ta0 ?_
  replace W := W.lo (Nat.le_trans W.1.2.1 W.1.2.2) (Nat.le_refl (zn κ))
  unfold w_Ra_fits_0
  have t256 : (256 : Int32).toInt = 256 := rfl
  intro T1
  refine Nu_bits_c W T1 30000000 ?_ (fun r2 q4 => ?_)
  · exact ⟨hp.1, Nat.le_refl _⟩  -- p1
  intro W5
  intro M6
  refine ⟨fun c7 => ?_, fun c7 => ?_⟩
  · skip
    refine h _ ?_
    · refine and_5 ?_ (fun o9 => ?_)  -- q2
      · exact ⟨nb_0, fun z => absurd rfl z⟩
      · rw [lti, t256] at c7
        refine ⟨fun z => absurd rfl z, fun z => ?_⟩
        have n0 : 0 < nuN κ (zR κ raTop a0) := by
          refine Nat.pos_of_ne_zero (fun y => ?_)
          have k := bt_08 hp.1 y
          have a := q4.1.2
          rw [k] at a
          omega
        have b := q4.2.2 n0
        exact absurd (Nat.lt_of_lt_of_le z.1 (Nat.le_trans (Nat.pow_le_pow_right (by decide) (by omega)) b.2)) (Nat.lt_irrefl _)
  · skip
    intro T8
    refine Nu_bits_c W5 T8 30000000 ?_ (fun r9 q11 => ?_)
    · exact ⟨hp.2, Nat.le_refl _⟩  -- p3
    intro W12
    intro M13
    refine ⟨fun c14 => ?_, fun c14 => ?_⟩
    · skip
      refine h _ ?_
      · refine and_5 ?_ (fun o9 => ?_)  -- q4
        · exact ⟨nb_0, fun z => absurd rfl z⟩
        · rw [lti, t256] at c14
          refine ⟨fun z => absurd rfl z, fun z => ?_⟩
          have n0 : 0 < nuN κ (zR κ raBottom a0) := by
            refine Nat.pos_of_ne_zero (fun y => ?_)
            have k := bt_08 hp.2 y
            have a := q11.1.2
            rw [k] at a
            omega
          have b := q11.2.2 n0
          exact absurd (Nat.lt_of_lt_of_le z.2 (Nat.le_trans (Nat.pow_le_pow_right (by decide) (by omega)) b.2)) (Nat.lt_irrefl _)
    · skip
      refine h _ ?_
      · refine and_5 ?_ (fun o9 => ⟨o9.2, fun _ => by decide⟩)  -- q5
        rw [lti, t256] at c7 c14
        have a := q4.1
        have b := q11.1
        exact ⟨nb_1, fun _ => ⟨Nat.lt_of_lt_of_le q4.2.1 (Nat.pow_le_pow_right (by decide) (by omega)), Nat.lt_of_lt_of_le q11.2.1 (Nat.pow_le_pow_right (by decide) (by omega))⟩⟩

theorem Ra_addWhole_q6 {C : zC} {n0 : Nat} {a0 : Nat} {a1 : Int32} {a2 : Nat} {κ : zS} {Q : zS → Prop} (W : zW C n0 κ) (Ta0 : zT κ a0 = 11) (Ta2 : zT κ a2 = 8) (c9 s9 : Nat) (q9 : Rat) (hq9 : rqW8 κ a0 q9) (hp : raJ κ a0 c9 ∧ nuI κ a2 s9 ∧ (a2 ≠ (zR κ raTop a0) ∧ a2 ≠ (zR κ raBottom a0)) ∧ (nuK κ (zR κ raBottom a0) + 2 + (nuK κ (zR κ raBottom a0) + 2) / 2 + 1 ≤ s9 ∧ s9 ≤ 30000000) ∧ (nuK κ (zR κ raBottom a0) + 2 + (nuK κ (zR κ raBottom a0) + 2) / 2 + 1 ≤ c9 ∧ nuK κ (zR κ raTop a0) + 1 + (nuK κ (zR κ raTop a0) + 1) / 2 + 1 ≤ c9) ∧ c9 ≤ 30000000) (h : ∀ (κ' : zS), ((awO κ κ' a0 a2 c9 s9 a1.toInt.natAbs) ∧ (rqW8 κ' a0 (q9 + (a1.toInt : Rat)))) → Q κ') : zRun C 4 mRa_addWhole [.ref a0, .int a1, .ref a2] κ (oV Q noX) := by
  refine Ra_addWhole_run W Ta0 Ta2 ?_
  replace W := W.lo (Nat.le_trans W.1.2.1 W.1.2.2) (Nat.le_refl (zn κ))
  unfold w_Ra_addWhole_0
  obtain ⟨⟨It, Ib, ne⟩, cs, ⟨n1, n2⟩, ⟨p1, p2⟩, ⟨p3, p4⟩, p5⟩ := hp
  have Tt := ty_raTop W Ta0
  have Tb := ty_raBottom W Ta0
  have ab : a1.toInt.natAbs ≤ 2147483648 := by
    have l := ilo a1
    have u := ihi a1
    omega
  have hj31 : ∀ (l0 : Nat) (l2 : Nat) (s0 : Int32) (τ : zS), zW C (zn κ) τ → zT τ l0 = 11 → zT τ l2 = 8 → ((a0 = l0 ∧ a2 = l2 ∧ zF (nuF a2) κ τ ∧ (nuI τ a2 s9 ∧ nuN τ a2 = nuN κ (zR κ raBottom a0) * a1.toInt.natAbs) ∧ (s0.toInt = 1 ∨ s0.toInt = -1)) ∧ s0.toInt = a1.toInt.sign ∧ a1.toInt ≠ 0) → w_Ra_addWhole_31 C (zn κ) Q  l0 l2 s0 τ := by
    rintro _ _ y31_s0 τ31 W31 T31_0 T31_1 ⟨⟨rfl, rfl, j31⟩, hE⟩
    unfold w_Ra_addWhole_31
    obtain ⟨Z1, ⟨I1, V1⟩, s1⟩ := j31
    have et1 : zR τ31 raTop a0 = (zR κ raTop a0) := nuF_r Z1 (by decide) (by decide)
    have eb1 : zR τ31 raBottom a0 = (zR κ raBottom a0) := nuF_r Z1 (by decide) (by decide)
    have bt := nuB_z (c := c9) W Tt Z1 (fun z => n1 z.1.symm) (fun z => n1 z.1.symm)
    have bb := nuB_z (c := c9) W Tb Z1 (fun z => n2 z.1.symm) (fun z => n2 z.1.symm)
    have Tt1 : zT τ31 (zR κ raTop a0) = 8 := Z1.t Tt (by decide)
    have Tb1 : zT τ31 (zR κ raBottom a0) = 8 := Z1.t Tb (by decide)
    have si1 : zI τ31 raSign a0 = zI κ raSign a0 := nuF_i Z1
    have ks : nuK τ31 a2 ≤ nuK κ (zR κ raBottom a0) + 1 := by
      refine nuK_lt I1 ?_
      have u := nuN_lt (κ := κ) (x := (zR κ raBottom a0))
      rw [V1, Nat.pow_succ]
      exact Nat.lt_of_le_of_lt (Nat.mul_le_mul_left _ ab) (Nat.mul_lt_mul_of_pos_right u (by decide))
    refine ⟨fun c1 => ?_, fun c1 => ?_⟩
    · skip
      intro T2
      intro T3
      refine Nu_plus_c W31 T2 T3 c9 30000000 ?_ (fun κ_4 q5 => ?_)
      · rw [et1, bt.2.2.2]
        exact ⟨bt.2.1 It, nuI_mono p2 I1, n1.symm, ⟨by omega, by omega⟩, p5⟩
      intro W6
      intro M7
      intro κ_8 hκ_8
      intro W9
      refine h _ ?_
      · refine and_5 ?_ (fun o9 => ?_)  -- q2
        · rw [et1, bt.2.2.1, V1] at q5
          obtain ⟨F4, I4, V4⟩ := q5
          have u := ui_s (z := (zR κ raTop a0)) (c := c9) hκ_8
          have v := ui_s (z := (zR κ raBottom a0)) (c := c9) hκ_8
          have w := ui_s (z := a2) (c := s9) hκ_8
          have bb4 := nuB_z (c := c9) W31 Tb1 F4 (fun z => ne z.1.symm) (fun z => ne z.1.symm)
          have b24 := nuB_z (c := s9) W31 T31_1 F4 (fun z => n1 z.1) (fun z => n1 z.1)
          have Z : zF (fun f x => raF (zR κ raTop a0) (zR κ raBottom a0) a0 f x ∨ nuF a2 f x) κ κ_8 := ((Z1.mono (fun f x z => Or.inr z)).tr ((raF_1 F4).mono (fun f x z => Or.inl z))).tr ((raF_s hκ_8).mono (fun f x z => Or.inl z))
          have et : zR κ_8 raTop a0 = (zR κ raTop a0) := by rw [u.1]; exact (nuF_r F4 (by decide) (by decide)).trans et1
          have eb : zR κ_8 raBottom a0 = (zR κ raBottom a0) := by rw [u.1]; exact (nuF_r F4 (by decide) (by decide)).trans eb1
          refine ⟨Z, ?_, (w.2.2.2.2.1 (b24.2.1 I1)), ?_, ?_, fun _ => ?_⟩
          · unfold raJ
            rw [et, eb]
            exact ⟨u.2.2.2.2.1 I4, v.2.2.2.2.1 (bb4.2.1 (bb.2.1 Ib)), ne⟩
          · rw [v.2.2.2.2.2.1, bb4.2.2.1, bb.2.2.1]
          · rw [u.2.2.2.2.2.1, V4]
            exact Nat.le_refl _
          · rw [u.2.2.2.1]
            omega
        · obtain ⟨nW, sW, W0⟩ := wd_q8 (q := q9) hE.2
          rw [et1, bt.2.2.1, V1] at q5
          obtain ⟨F4, I4, V4⟩ := q5
          have u := ui_s (z := (zR κ raTop a0)) (c := c9) hκ_8
          have v := ui_s (z := (zR κ raBottom a0)) (c := c9) hκ_8
          have bb4 := nuB_z (c := c9) W31 Tb1 F4 (fun z => ne z.1.symm) (fun z => ne z.1.symm)
          have et : zR κ_8 raTop a0 = (zR κ raTop a0) := by rw [u.1]; exact (nuF_r F4 (by decide) (by decide)).trans et1
          have eb : zR κ_8 raBottom a0 = (zR κ raBottom a0) := by rw [u.1]; exact (nuF_r F4 (by decide) (by decide)).trans eb1
          have A := (wa_q8 (n := q9.num) W0).1 (fun z => c1 ((ng_s8 s1).mpr (by rw [si1, hq9.1, z, sW, hE.1])))
          refine aw_q8 ?_ ?_ ?_
          · rw [u.2.2.2.1, hE.1, A.2, sW]
          · rw [et, u.2.2.2.2.2.1, V4, A.1, nW, hq9.2.1, hq9.2.2]
          · rw [eb, v.2.2.2.2.2.1, bb4.2.2.1, bb.2.2.1]; exact hq9.2.2
    · skip
      intro T10
      intro T11
      refine Nu_compare_c W31 T10 T11 30000000 30000000 ?_ (fun r12 q14 => ?_)
      · rw [et1]
        exact ⟨nuI_mono p2 I1, nuI_mono p5 (bt.2.1 It)⟩
      intro W15
      intro M16
      rw [et1] at q14
      refine ⟨fun c17 => ?_, fun c17 => ?_⟩
      · skip
        intro T18
        intro T19
        refine Nu_minus_c W15 T18 T19 s9 30000000 ?_ (fun κ_20 q21 => ?_)
        · rw [lei, t0i] at c17
          rw [et1]
          exact ⟨I1, nuI_mono p5 (bt.2.1 It), n1, by omega⟩
        rw [et1, V1, bt.2.2.1] at q21
        obtain ⟨F20, I20, V20⟩ := q21
        have et20 : zR κ_20 raTop a0 = (zR κ raTop a0) := (nuF_r F20 (by decide) (by decide)).trans et1
        have eb20 : zR κ_20 raBottom a0 = (zR κ raBottom a0) := (nuF_r F20 (by decide) (by decide)).trans eb1
        have bt20 := nuB_z (c := c9) W31 Tt1 F20 (fun z => n1 z.1.symm) (fun z => n1 z.1.symm)
        have bb20 := nuB_z (c := c9) W31 Tb1 F20 (fun z => n2 z.1.symm) (fun z => n2 z.1.symm)
        have Tb20 : zT κ_20 (zR κ raBottom a0) = 8 := F20.t Tb1 (by decide)
        have T220 : zT κ_20 a2 = 8 := F20.t T31_1 (by decide)
        have ks20 : nuK κ_20 a2 ≤ nuK κ (zR κ raBottom a0) + 1 := Nat.le_trans (nuK_le (τ := τ31) (y := a2) (d := 0) I20 (by rw [V20, V1]; exact Nat.sub_le _ _)) ks
        intro W22
        intro M23
        intro T24
        intro T25
        refine Nu_copy_c W22 T24 T25 c9 30000000 ?_ (fun κ_26 q27 => ?_)
        · rw [et20]
          exact ⟨(bt20.2.1 (bt.2.1 It)).1.2.1, nuB_mono p2 I20.1, n1.symm, by omega, p5⟩
        rw [et20, V20] at q27
        obtain ⟨F26, B26, V26, K26, Y26⟩ := q27
        have et26 : zR κ_26 raTop a0 = (zR κ raTop a0) := (nuF_r F26 (by decide) (by decide)).trans et20
        have eb26 : zR κ_26 raBottom a0 = (zR κ raBottom a0) := (nuF_r F26 (by decide) (by decide)).trans eb20
        have bb26 := nuB_z (c := c9) W22 Tb20 F26 (fun z => ne z.1.symm) (fun z => ne z.1.symm)
        have b226 := nuB_z (c := s9) W22 T220 F26 (fun z => n1 z.1) (fun z => n1 z.1)
        have Z26 : zF (fun f x => raF (zR κ raTop a0) (zR κ raBottom a0) a0 f x ∨ nuF a2 f x) κ κ_26 := ((Z1.mono (fun f x z => Or.inr z)).tr (F20.mono (fun f x z => Or.inr z))).tr ((raF_1 F26).mono (fun f x z => Or.inl z))
        have fin : ∀ (ρ : zS) (v : Int32), ρ = ui κ_26 raSign a0 v → (-1 ≤ v.toInt ∧ v.toInt ≤ 1) → awO κ ρ a0 a2 c9 s9 a1.toInt.natAbs := fun ρ v9 e hv => by
          have u := ui_s (z := (zR κ raTop a0)) (c := c9) e
          have v := ui_s (z := (zR κ raBottom a0)) (c := c9) e
          have w := ui_s (z := a2) (c := s9) e
          have et : zR ρ raTop a0 = (zR κ raTop a0) := by rw [u.1]; exact et26
          have eb : zR ρ raBottom a0 = (zR κ raBottom a0) := by rw [u.1]; exact eb26
          refine ⟨Z26.tr ((raF_s e).mono (fun f x z => Or.inl z)), ?_, (w.2.2.2.2.1 (b226.2.1 I20)), ?_, ?_, fun _ => ?_⟩
          · unfold raJ
            rw [et, eb]
            exact ⟨u.2.2.2.2.1 ⟨B26, Y26 I20.2⟩, v.2.2.2.2.1 (bb26.2.1 (bb20.2.1 (bb.2.1 Ib))), ne⟩
          · rw [v.2.2.2.2.2.1, bb26.2.2.1, bb20.2.2.1, bb.2.2.1]
          · rw [u.2.2.2.2.2.1, V26]
            omega
          · rw [u.2.2.2.1]
            exact hv
        intro W28
        intro M29
        refine ⟨fun c30 => ?_, fun c30 => ?_⟩
        · skip
          intro κ_31 hκ_31
          intro W32
          refine h _ ?_
          · refine and_5 ?_ (fun o9 => ?_)  -- q6
            · exact fin _ _ hκ_31 (by omega)
            · obtain ⟨nW, sW, W0⟩ := wd_q8 (q := q9) hE.2
              have sg : q9.num.sign = -(a1.toInt * (q9.den : Int)).sign := by rw [sW, ← hE.1, ← hq9.1, ← si1]; exact (ng_s8 s1).mp c1
              have u := ui_s (z := (zR κ raTop a0)) (c := c9) hκ_31
              have v := ui_s (z := (zR κ raBottom a0)) (c := c9) hκ_31
              have et : zR κ_31 raTop a0 = (zR κ raTop a0) := by rw [u.1]; exact et26
              have eb : zR κ_31 raBottom a0 = (zR κ raBottom a0) := by rw [u.1]; exact eb26
              rw [V1, bt.2.2.1] at q14
              rw [lei, t0i] at c17
              have lt : q9.num.natAbs < (a1.toInt * (q9.den : Int)).natAbs := by
                rw [nW, ← hq9.2.1, ← hq9.2.2]
                rcases q14 with y | y | y
                · omega
                · exact absurd (Int32.toInt_inj.mp (y.1.trans t0i.symm)) c30
                · exact y.2
              have A := ((wa_q8 (n := q9.num) W0).2 sg).2.2 lt
              refine aw_q8 ?_ ?_ ?_
              · rw [u.2.2.2.1, hE.1, A.2, sW]
              · rw [et, u.2.2.2.2.2.1, V26, A.1, nW, hq9.2.1, hq9.2.2]
              · rw [eb, v.2.2.2.2.2.1, bb26.2.2.1, bb20.2.2.1, bb.2.2.1]; exact hq9.2.2
        · skip
          intro κ_33 hκ_33
          intro W34
          refine h _ ?_
          · refine and_5 ?_ (fun o9 => ?_)  -- q7
            · exact fin _ _ hκ_33 ⟨by decide, by decide⟩
            · obtain ⟨nW, sW, W0⟩ := wd_q8 (q := q9) hE.2
              have sg : q9.num.sign = -(a1.toInt * (q9.den : Int)).sign := by rw [sW, ← hE.1, ← hq9.1, ← si1]; exact (ng_s8 s1).mp c1
              have u := ui_s (z := (zR κ raTop a0)) (c := c9) hκ_33
              have v := ui_s (z := (zR κ raBottom a0)) (c := c9) hκ_33
              have et : zR κ_33 raTop a0 = (zR κ raTop a0) := by rw [u.1]; exact et26
              have eb : zR κ_33 raBottom a0 = (zR κ raBottom a0) := by rw [u.1]; exact eb26
              rw [V1, bt.2.2.1] at q14
              have e0 : r12.toInt = 0 := by rw [c30]; rfl
              have eq : (a1.toInt * (q9.den : Int)).natAbs = q9.num.natAbs := by
                rw [nW, ← hq9.2.1, ← hq9.2.2]
                rcases q14 with y | y | y
                · omega
                · exact y.2
                · omega
              have A := ((wa_q8 (n := q9.num) W0).2 sg).2.1 eq
              have eq2 : nuN κ (zR κ raBottom a0) * a1.toInt.natAbs = nuN κ (zR κ raTop a0) := by rw [hq9.2.1, hq9.2.2, ← nW]; exact eq
              refine aw_q8 ?_ ?_ ?_
              · rw [u.2.2.2.1, A.2]; rfl
              · rw [et, u.2.2.2.2.2.1, V26, A.1, eq2, Nat.sub_self]
              · rw [eb, v.2.2.2.2.2.1, bb26.2.2.1, bb20.2.2.1, bb.2.2.1]; exact hq9.2.2
      · skip
        intro T35
        intro T36
        refine Nu_minus_c W15 T35 T36 c9 30000000 ?_ (fun κ_37 q38 => ?_)
        · rw [lei, t0i] at c17
          rw [et1]
          exact ⟨bt.2.1 It, nuI_mono p2 I1, n1.symm, by omega⟩
        intro W39
        intro M40
        refine h _ ?_
        · refine and_5 ?_ (fun o9 => ?_)  -- q9
          · rw [et1, V1, bt.2.2.1] at q38
            obtain ⟨F37, I37, V37⟩ := q38
            have bb37 := nuB_z (c := c9) W31 Tb1 F37 (fun z => ne z.1.symm) (fun z => ne z.1.symm)
            have b237 := nuB_z (c := s9) W31 T31_1 F37 (fun z => n1 z.1) (fun z => n1 z.1)
            have et : zR κ_37 raTop a0 = (zR κ raTop a0) := (nuF_r F37 (by decide) (by decide)).trans et1
            have eb : zR κ_37 raBottom a0 = (zR κ raBottom a0) := (nuF_r F37 (by decide) (by decide)).trans eb1
            have si : zI κ_37 raSign a0 = zI κ raSign a0 := (nuF_i F37).trans si1
            refine ⟨(Z1.mono (fun f x z => Or.inr z)).tr ((raF_1 F37).mono (fun f x z => Or.inl z)), ?_, (b237.2.1 I1), ?_, ?_, fun z => ?_⟩
            · unfold raJ
              rw [et, eb]
              exact ⟨I37, bb37.2.1 (bb.2.1 Ib), ne⟩
            · rw [bb37.2.2.1, bb.2.2.1]
            · rw [V37]
              omega
            · rw [si]
              exact z
          · obtain ⟨nW, sW, W0⟩ := wd_q8 (q := q9) hE.2
            have sg : q9.num.sign = -(a1.toInt * (q9.den : Int)).sign := by rw [sW, ← hE.1, ← hq9.1, ← si1]; exact (ng_s8 s1).mp c1
            rw [V1, bt.2.2.1] at q14
            rw [lei, t0i] at c17
            have lt : (a1.toInt * (q9.den : Int)).natAbs < q9.num.natAbs := by
              rw [nW, ← hq9.2.1, ← hq9.2.2]
              rcases q14 with y | y | y
              · exact y.2
              · omega
              · omega
            have A := ((wa_q8 (n := q9.num) W0).2 sg).1 lt
            rw [et1, V1, bt.2.2.1] at q38
            obtain ⟨F37, I37, V37⟩ := q38
            have bb37 := nuB_z (c := c9) W31 Tb1 F37 (fun z => ne z.1.symm) (fun z => ne z.1.symm)
            have et : zR κ_37 raTop a0 = (zR κ raTop a0) := (nuF_r F37 (by decide) (by decide)).trans et1
            have eb : zR κ_37 raBottom a0 = (zR κ raBottom a0) := (nuF_r F37 (by decide) (by decide)).trans eb1
            have si : zI κ_37 raSign a0 = zI κ raSign a0 := (nuF_i F37).trans si1
            refine aw_q8 ?_ ?_ ?_
            · rw [si, A.2]; exact hq9.1
            · rw [et, V37, A.1, nW, hq9.2.1, hq9.2.2]
            · rw [eb, bb37.2.2.1, bb.2.2.1]; exact hq9.2.2
  refine ⟨fun c41 => ?_, fun c41 => ?_⟩
  · skip
    intro T42
    intro T43
    refine Nu_copy_c W T42 T43 s9 30000000 ?_ (fun κ_44 q45 => ?_)
    · exact ⟨cs.1.2.1, nuB_mono p5 Ib.1, n2, by omega, p2⟩  -- p10
    obtain ⟨F44, B44, V44, K44, Y44⟩ := q45
    have T44 : zT κ_44 a2 = 8 := F44.t Ta2 (by decide)
    intro W46
    intro M47
    intro T48
    refine Nu_times_c W46 T48 s9 ?_ (fun κ_49 q50 => ?_)
    · rw [K44, j_abs]
      exact ⟨⟨B44, Y44 Ib.2⟩, ⟨by omega, by omega⟩, by omega, p2⟩
    intro W51
    intro M52
    rw [j_abs, Int.toNat_natCast, V44] at q50
    obtain ⟨F49, I49, V49⟩ := q50
    refine ⟨fun c53 => ?_, fun c53 => ?_⟩
    · skip
      refine hj31 _ _ _ _ W51 ?_ ?_ ?_
      · exact (F44.tr F49).t Ta0 (by decide)  -- t12
      · exact (F44.tr F49).t Ta2 (by decide)  -- t13
      · refine and_5 ?_ (fun o9 => ?_)  -- k14
        · exact ⟨rfl, rfl, F44.tr F49, ⟨I49, V49⟩, Or.inr rfl⟩
        · have n0 : a1.toInt ≠ 0 := fun z => c41 (Int32.toInt_inj.mp (z.trans t0i.symm))
          rw [lei, t0i] at c53
          exact ⟨by rw [sg_n8 (by omega)]; rfl, n0⟩
    · skip
      refine hj31 _ _ _ _ W51 ?_ ?_ ?_
      · exact (F44.tr F49).t Ta0 (by decide)  -- t15
      · exact (F44.tr F49).t Ta2 (by decide)  -- t16
      · refine and_5 ?_ (fun o9 => ?_)  -- k17
        · exact ⟨rfl, rfl, F44.tr F49, ⟨I49, V49⟩, Or.inl rfl⟩
        · have n0 : a1.toInt ≠ 0 := fun z => c41 (Int32.toInt_inj.mp (z.trans t0i.symm))
          rw [lei, t0i] at c53
          exact ⟨by rw [sg_p8 (by omega)]; rfl, n0⟩
  · skip
    refine h _ ?_
    · refine and_5 ?_ (fun o9 => ?_)  -- q18
      · refine ⟨zF.rf, ⟨It, Ib, ne⟩, cs, rfl, Nat.le_add_right _ _, fun z => z⟩
      · rw [c41, t0i, show ((0 : Int) : Rat) = 0 from rfl, Rat.add_zero]
        exact hq9

theorem So_settle_q6 {C : zC} {n0 : Nat} {a0 : Nat} {a1 : Nat} {κ : zS} {Q : zS → Prop} (W : zW C n0 κ) (Ta0 : zT κ a0 = 12) (Ta1 : zT κ a1 = 8) (ρ : Nat → Nat) (b9 : Nat) (hp : (nmI ρ κ ∧ soI ρ κ a0) ∧ (ρ a1 = b9 ∧ (b9 = 1 ∨ b9 = 15)) ∧ nuN κ a1 < pB9 4000 ∧ nuN κ (zR κ soSum a0) < pB9 4000 ∧ nuN κ (zR κ soLess a0) < pB9 4000) (h : ∀ (κ' : zS), ((zF (soF ρ stR9 (zR κ soCalc a0)) κ κ' ∧ (nmI ρ κ' ∧ soI ρ κ' a0) ∧ stO κ κ' (zR κ soPart a0) (zR κ raTop (zR κ soPart a0)) (zR κ raBottom (zR κ soPart a0)) (nuN κ (zR κ soSum a0)) (nuN κ (zR κ soLess a0)) (nuN κ a1)) ∧ ((zI κ' raSign (zR κ soPart a0)).toInt = ((nuN κ (zR κ soSum a0) : Int) - (nuN κ (zR κ soLess a0) : Int)).sign)) → Q κ') : zRun C 6 mSo_settle [.ref a0, .ref a1] κ (oV Q noX) := by
  refine So_settle_run W Ta0 Ta1 ?_
  replace W := W.lo (Nat.le_trans W.1.2.1 W.1.2.2) (Nat.le_refl (zn κ))
  unfold w_So_settle_0
  obtain ⟨⟨N0, S0⟩, ⟨hb, hb9⟩, p1, p2, p3⟩ := hp
  obtain ⟨⟨h1, h4, h5, h6, h7, h8, h20⟩, _, rS, h9⟩ := id S0
  have P20 := N0.2 (zR κ soPart a0) (by rw [h20]; exact Or.inl rfl)
  have h21 : ρ (zR κ raTop (zR κ soPart a0)) = 21 := by rw [P20.2.1, h20]
  have h22 : ρ (zR κ raBottom (zR κ soPart a0)) = 22 := by rw [P20.2.2, h20]
  have s20 : ∀ r, 1 ≤ r → r < 20 → nmR r := fun r x y => Or.inl ⟨x, y⟩
  have nb : nmR b9 ∧ b9 ≠ 10 ∧ ¬ stR9 b9 ∧ b9 ≠ 21 ∧ b9 ≠ 22 := by
    rcases hb9 with z | z <;> rw [z] <;> exact ⟨Or.inl ⟨by decide, by decide⟩, by decide, by unfold stR9; decide, by decide, by decide⟩
  have n7 : ¬ stR9 7 := by unfold stR9; decide
  have n8 : ¬ stR9 8 := by unfold stR9; decide
  clear hb9
  have g7 := nm_g N0 h7 (s20 _ (by decide) (by decide)) (by decide)
  have g8 := nm_g N0 h8 (s20 _ (by decide) (by decide)) (by decide)
  have gb := nm_g N0 hb nb.1 nb.2.1
  have tt7 := ty_soSum W Ta0
  have tt8 := ty_soLess W Ta0
  have tp21 : zT κ (zR κ raTop (zR κ soPart a0)) = 8 := ty_raTop W P20.1
  have tp22 : zT κ (zR κ raBottom (zR κ soPart a0)) = 8 := ty_raBottom W P20.1
  have k7 := nuK_lt g7.1 p2
  have k8 := nuK_lt g8.1 p3
  have kb := nuK_lt gb.1 p1
  have m21 : nmR 21 := Or.inr (Or.inl rfl)
  have m22 : nmR 22 := Or.inr (Or.inr (Or.inl rfl))
  have hj79 : ∀ (l0 : Nat) (l1 : Nat) (s0 : Nat) (s1 : Nat) (τ : zS), zW C (zn κ) τ → zT τ l0 = 12 → zT τ l1 = 8 → zT τ s0 = 8 → zT τ s1 = 8 → ((a0 = l0 ∧ a1 = l1 ∧ zF (soF ρ stR9 (zR κ soCalc a0)) κ τ ∧ (nmI ρ τ ∧ soI ρ τ a0) ∧ (∀ f b, f ≠ nuLimbs → f ≠ nuLength → zR τ f b = zR κ f b) ∧ ((zI τ raSign (zR κ soPart a0)).toInt = 1 ∨ (zI τ raSign (zR κ soPart a0)).toInt = -1) ∧ s0 = (zR κ raTop (zR κ soPart a0)) ∧ (s1 = (zR κ soSum a0) ∧ nuN τ (zR κ raTop (zR κ soPart a0)) = nuN κ (zR κ soLess a0) ∧ nuN κ (zR κ soSum a0) < nuN κ (zR κ soLess a0) ∨ s1 = (zR κ soLess a0) ∧ nuN τ (zR κ raTop (zR κ soPart a0)) = nuN κ (zR κ soSum a0) ∧ nuN κ (zR κ soLess a0) < nuN κ (zR κ soSum a0))) ∧ (zI τ raSign (zR κ soPart a0)).toInt = ((nuN κ (zR κ soSum a0) : Int) - (nuN κ (zR κ soLess a0) : Int)).sign) → w_So_settle_79 C (zn κ) Q  l0 l1 s0 s1 τ := by
    rintro _ _ y79_s0 y79_s1 τ79 W79 T79_0 T79_1 T79_2 T79_3 ⟨⟨rfl, rfl, j79⟩, hE⟩
    unfold w_So_settle_79
    intro T1
    intro T2
    obtain ⟨Z1, ⟨N1, S1⟩, hr1, sg1, rfl, s79⟩ := j79
    have v7 := soF_B (c := 30000000) W tt7 Z1 (by rw [h7]; exact n7)
    have v8 := soF_B (c := 30000000) W tt8 Z1 (by rw [h8]; exact n8)
    have vb := soF_B (c := 30000000) W Ta1 Z1 (by rw [hb]; exact nb.2.2.1)
    have f21 := nm_g N1 h21 m21 (by decide)
    have f22 := nm_g N1 h22 m22 (by decide)
    have tb1 : zT τ79 (zR κ raBottom (zR κ soPart a0)) = 8 := Z1.t tp22 (by decide)
    have eb1 : zR τ79 raBottom (zR τ79 soPart a0) = (zR κ raBottom (zR κ soPart a0)) := by rw [hr1 soPart _ (by decide) (by decide), hr1 raBottom _ (by decide) (by decide)]
    have gen : ∃ A9, y79_s1 = A9 ∧ ρ A9 ≠ 21 ∧ nuI τ79 A9 30000000 ∧ nuN τ79 A9 ≤ nuN τ79 (zR κ raTop (zR κ soPart a0)) ∧ nuN κ (zR κ soSum a0) ≠ nuN κ (zR κ soLess a0) ∧ nuN τ79 (zR κ raTop (zR κ soPart a0)) - nuN τ79 A9 = nuN κ (zR κ soSum a0) - nuN κ (zR κ soLess a0) + (nuN κ (zR κ soLess a0) - nuN κ (zR κ soSum a0)) ∧ nuN τ79 (zR κ raTop (zR κ soPart a0)) < pB9 4000 := by
      rcases s79 with ⟨z1, z2, z3⟩ | ⟨z1, z2, z3⟩
      · exact ⟨(zR κ soSum a0), z1, by rw [h7]; decide, v7.1 g7.2.1, by rw [v7.2.1, z2]; omega, by omega, by rw [v7.2.1, z2]; omega, by rw [z2]; exact p3⟩
      · exact ⟨(zR κ soLess a0), z1, by rw [h8]; decide, v8.1 g8.2.1, by rw [v8.2.1, z2]; omega, by omega, by rw [v8.2.1, z2]; omega, by rw [z2]; exact p2⟩
    clear s79
    obtain ⟨A9, rfl, a21, aI, aL, aN, aD, aT⟩ := gen
    refine Nu_minus_c W79 T1 T2 6500 30000000 ?_ (fun κ_3 q4 => ?_)
    · exact ⟨f21.1, aI, fun e => a21 (by rw [← e]; exact h21), aL⟩  -- p1
    rw [aD] at q4
    obtain ⟨F3, I3, V3⟩ := q4
    have N3 : nmI ρ κ_3 := nm_1 W79 N1 F3 (by rw [h21]; exact I3)
    have S3 : soI ρ κ_3 a0 := so_1 W79 T79_0 S1 F3
    have hr3 : ∀ f b, f ≠ nuLimbs → f ≠ nuLength → zR κ_3 f b = zR κ f b := fun f b x y => (nuF_r F3 x y).trans (hr1 f b x y)
    have eb3 : zR κ_3 raBottom (zR κ_3 soPart a0) = (zR κ raBottom (zR κ soPart a0)) := by rw [hr3 soPart _ (by decide) (by decide), hr3 raBottom _ (by decide) (by decide)]
    have f22' := nm_g N3 h22 m22 (by decide)
    have b3 := nuB_z (c := 30000000) W79 T79_1 F3 (fun z => ro_n hb h21 nb.2.2.2.1 z.1) (fun z => ro_n hb h21 nb.2.2.2.1 z.1)
    have T3 : zT κ_3 a0 = 12 := F3.t T79_0 (by decide)
    have tb3 : zT κ_3 (zR κ raTop (zR κ soPart a0)) = 8 := F3.t (Z1.t tp21 (by decide)) (by decide)
    intro W5
    intro M6
    intro T7
    intro T8
    refine Nu_copy_c W5 T7 T8 6500 30000000 ?_ (fun κ_9 q10 => ?_)
    · rw [eb3, b3.2.2.2, vb.2.2]
      exact ⟨f22'.2.2, (b3.2.1 (vb.1 gb.2.1)).1, (ro_n hb h22 nb.2.2.2.2).symm, by omega, by decide⟩
    rw [eb3, b3.2.2.1, vb.2.1] at q10
    obtain ⟨F9, B9, V9, K9, Z9⟩ := q10
    have I9 : nuI κ_9 (zR κ raBottom (zR κ soPart a0)) 6500 := ⟨B9, Z9 (b3.2.1 (vb.1 gb.2.1)).2⟩
    have N9 : nmI ρ κ_9 := nm_1 W5 N3 F9 (by rw [h22]; exact I9)
    have S9 : soI ρ κ_9 a0 := so_1 W5 T3 S3 F9
    have hr9 : ∀ f b, f ≠ nuLimbs → f ≠ nuLength → zR κ_9 f b = zR κ f b := fun f b x y => (nuF_r F9 x y).trans (hr3 f b x y)
    have ec9 : zR κ_9 soCalc a0 = (zR κ soCalc a0) := hr9 _ _ (by decide) (by decide)
    have et9 : zR κ_9 raTop (zR κ_9 soPart a0) = (zR κ raTop (zR κ soPart a0)) := by rw [hr9 soPart _ (by decide) (by decide), hr9 raTop _ (by decide) (by decide)]
    have eb9 : zR κ_9 raBottom (zR κ_9 soPart a0) = (zR κ raBottom (zR κ soPart a0)) := by rw [hr9 soPart _ (by decide) (by decide), hr9 raBottom _ (by decide) (by decide)]
    have bt9 := nuB_z (c := 6500) W5 tb3 F9 (fun z => ro_n h21 h22 (by decide) z.1) (fun z => ro_n h21 h22 (by decide) z.1)
    have VT9 : nuN κ_9 (zR κ raTop (zR κ soPart a0)) = nuN κ (zR κ soSum a0) - nuN κ (zR κ soLess a0) + (nuN κ (zR κ soLess a0) - nuN κ (zR κ soSum a0)) := by rw [bt9.2.2.1]; exact V3
    have lT : nuN κ_9 (zR κ raTop (zR κ soPart a0)) < pB9 4000 := by
      rw [VT9]
      omega
    intro W11
    intro M12
    intro T13
    intro T14
    intro T15
    refine Ca_reduce_c W11 T13 T14 T15 6500 4000 6500 ?_ (fun κ_16 q17 => ?_)
    · rw [et9, eb9]
      refine ⟨⟨bt9.2.1 I3, I9⟩, so_ca N9 S9, ⟨so_o S9 h21 (by decide), so_o S9 h22 (by decide), ro_n h21 h22 (by decide)⟩, ⟨lT, by rw [V9]; exact p1⟩, ⟨by decide, by decide, by decide⟩, by decide, by decide⟩
    intro W18
    intro M19
    refine h _ ?_
    · refine and_5 ?_ (fun o9 => ?_)  -- q4
      · rw [et9, eb9, VT9, V9] at q17
        obtain ⟨⟨Z16, C16, S16⟩, ⟨I16, V16⟩, J16, U16⟩ := q17
        have R := nm_ca9 W11 N9 S9 Z16 C16 S16 (fun b z => by
          rcases z with z | z | z
          · exact Or.inl z
          · right
            rw [z, h21]
            exact ⟨by decide, I16⟩
          · right
            rw [z, h22]
            exact ⟨by decide, J16⟩)
        have s16 : zI κ_16 raSign (zR κ soPart a0) = zI κ_9 raSign (zR κ soPart a0) := Z16.i (fun z => by
          rcases z with ⟨_, z | z⟩ | ⟨_, z | z | z | z⟩
          · exact absurd z (by decide)
          · exact absurd z (by decide)
          · exact absurd z (by decide)
          · exact absurd z (by decide)
          · exact absurd z (by decide)
          · exact absurd z (by decide))
        have sg : zI κ_16 raSign (zR κ soPart a0) = zI τ79 raSign (zR κ soPart a0) := s16.trans ((nuF_i F9).trans (nuF_i F3))
        rw [ec9] at Z16
        have Zf : zF (soF ρ stR9 (zR κ soCalc a0)) κ κ_16 := ((Z1.tr (soF_1 (by rw [h21]; exact Or.inr (Or.inr (Or.inl rfl))) F3)).tr (soF_1 (by rw [h22]; exact Or.inr (Or.inr (Or.inr rfl))) F9)).tr (soF_c (fun b z => by
          rcases z with z | z | z
          · have q := S9.2.2.1 b (by rw [ec9]; exact z)
            rw [q]
            exact Or.inl rfl
          · rw [z, h21]
            exact Or.inr (Or.inr (Or.inl rfl))
          · rw [z, h22]
            exact Or.inr (Or.inr (Or.inr rfl))) Z16)
        refine ⟨Zf, R, Or.inr ⟨aN, ?_, V16, U16⟩⟩
        rw [sg]
        exact sg1
      · obtain ⟨⟨Z16, C16, S16⟩, _⟩ := q17
        have s16 : zI κ_16 raSign (zR κ soPart a0) = zI κ_9 raSign (zR κ soPart a0) := Z16.i (fun z => by
          rcases z with ⟨_, z | z⟩ | ⟨_, z | z | z | z⟩
          · exact absurd z (by decide)
          · exact absurd z (by decide)
          · exact absurd z (by decide)
          · exact absurd z (by decide)
          · exact absurd z (by decide)
          · exact absurd z (by decide))
        rw [s16.trans ((nuF_i F9).trans (nuF_i F3))]
        exact hE
  have hj54 : ∀ (l0 : Nat) (l1 : Nat) (l2 : Int32) (s0 : Nat) (s1 : Nat) (τ : zS), zW C (zn κ) τ → zT τ l0 = 12 → zT τ l1 = 8 → zT τ s0 = 8 → zT τ s1 = 8 → ((a0 = l0 ∧ a1 = l1 ∧ zF (soF ρ stR9 (zR κ soCalc a0)) κ τ ∧ (nmI ρ τ ∧ soI ρ τ a0) ∧ (∀ f b, f ≠ nuLimbs → f ≠ nuLength → zR τ f b = zR κ f b) ∧ ((zI τ raSign (zR κ soPart a0)).toInt = l2.toInt ∧ (l2.toInt = 1 ∨ l2.toInt = -1)) ∧ s0 = (zR κ raTop (zR κ soPart a0)) ∧ (l2.toInt ≤ 0 ∧ s1 = (zR κ soLess a0) ∧ nuN κ (zR κ soSum a0) < nuN κ (zR κ soLess a0) ∨ ¬ l2.toInt ≤ 0 ∧ s1 = (zR κ soSum a0) ∧ nuN κ (zR κ soLess a0) < nuN κ (zR κ soSum a0))) ∧ (zI τ raSign (zR κ soPart a0)).toInt = ((nuN κ (zR κ soSum a0) : Int) - (nuN κ (zR κ soLess a0) : Int)).sign) → w_So_settle_54 C (zn κ) Q  l0 l1 l2 s0 s1 τ := by
    rintro _ _ y54_2 y54_s0 y54_s1 τ54 W54 T54_0 T54_1 T54_2 T54_3 ⟨⟨rfl, rfl, j54⟩, hE⟩
    unfold w_So_settle_54
    intro T20
    intro T21
    obtain ⟨Z1, ⟨N1, S1⟩, hr1, ⟨sg1, sg2⟩, rfl, s54⟩ := j54
    have v7 := soF_B (c := 30000000) W tt7 Z1 (by rw [h7]; exact n7)
    have v8 := soF_B (c := 30000000) W tt8 Z1 (by rw [h8]; exact n8)
    have f21 := nm_g N1 h21 m21 (by decide)
    refine Nu_copy_c W54 T20 T21 6500 30000000 ?_ (fun κ_22 q23 => ?_)
    · rcases s54 with ⟨z1, rfl, z3⟩ | ⟨z1, rfl, z3⟩
      · exact ⟨f21.2.2, (v8.1 g8.2.1).1, ro_n h21 h8 (by decide), by rw [v8.2.2]; omega, by decide⟩
      · exact ⟨f21.2.2, (v7.1 g7.2.1).1, ro_n h21 h7 (by decide), by rw [v7.2.2]; omega, by decide⟩
    obtain ⟨F22, B22, V22, K22, Y22⟩ := q23
    have I22 : nuI κ_22 (zR κ raTop (zR κ soPart a0)) 6500 := ⟨B22, Y22 (by
      rcases s54 with ⟨z1, rfl, z3⟩ | ⟨z1, rfl, z3⟩
      · exact (v8.1 g8.2.1).2
      · exact (v7.1 g7.2.1).2)⟩
    have N22 : nmI ρ κ_22 := nm_1 W54 N1 F22 (by rw [h21]; exact I22)
    have S22 : soI ρ κ_22 a0 := so_1 W54 T54_0 S1 F22
    have hr22 : ∀ f b, f ≠ nuLimbs → f ≠ nuLength → zR κ_22 f b = zR κ f b := fun f b x y => (nuF_r F22 x y).trans (hr1 f b x y)
    have et22 : zR κ_22 raTop (zR κ_22 soPart a0) = (zR κ raTop (zR κ soPart a0)) := by rw [hr22 soPart _ (by decide) (by decide), hr22 raTop _ (by decide) (by decide)]
    have Z22 : zF (soF ρ stR9 (zR κ soCalc a0)) κ κ_22 := Z1.tr (soF_1 (by rw [h21]; exact Or.inr (Or.inr (Or.inl rfl))) F22)
    have sg22 : (zI κ_22 raSign (zR κ soPart a0)).toInt = 1 ∨ (zI κ_22 raSign (zR κ soPart a0)).toInt = -1 := by
      rw [nuF_i F22, sg1]
      exact sg2
    have T22 : zT κ_22 a0 = 12 := F22.t T54_0 (by decide)
    intro W24
    intro M25
    refine ⟨fun c26 => ?_, fun c26 => ?_⟩
    · skip
      refine hj79 _ _ _ _ _ W24 ?_ ?_ ?_ ?_ ?_
      · exact T22  -- t6
      · exact F22.t T54_1 (by decide)  -- t7
      · rw [et22]; exact Z22.t tp21 (by decide)  -- t8
      · rw [hr22 soSum _ (by decide) (by decide)]; exact Z22.t tt7 (by decide)  -- t9
      · refine and_5 ?_ (fun o9 => ?_)  -- k10
        · rw [lei, t0i] at c26
          rcases s54 with ⟨z1, rfl, z3⟩ | ⟨z1, rfl, z3⟩
          · exact ⟨rfl, rfl, Z22, ⟨N22, S22⟩, hr22, sg22, et22, Or.inl ⟨hr22 _ _ (by decide) (by decide), by rw [V22, v8.2.1], z3⟩⟩
          · exact absurd c26 z1
        · rw [nuF_i F22]
          exact hE
    · skip
      refine hj79 _ _ _ _ _ W24 ?_ ?_ ?_ ?_ ?_
      · exact T22  -- t11
      · exact F22.t T54_1 (by decide)  -- t12
      · rw [et22]; exact Z22.t tp21 (by decide)  -- t13
      · rw [hr22 soLess _ (by decide) (by decide)]; exact Z22.t tt8 (by decide)  -- t14
      · refine and_5 ?_ (fun o9 => ?_)  -- k15
        · rw [lei, t0i] at c26
          rcases s54 with ⟨z1, rfl, z3⟩ | ⟨z1, rfl, z3⟩
          · exact absurd z1 c26
          · exact ⟨rfl, rfl, Z22, ⟨N22, S22⟩, hr22, sg22, et22, Or.inr ⟨hr22 _ _ (by decide) (by decide), by rw [V22, v7.2.1], z3⟩⟩
        · rw [nuF_i F22]
          exact hE
  intro T27
  intro T28
  refine Nu_compare_c W T27 T28 30000000 30000000 ?_ (fun r29 q31 => ?_)
  · exact ⟨g7.2.1, g8.2.1⟩  -- p16
  intro W32
  intro M33
  have q31' := q31
  refine ⟨fun c34 => ?_, fun c34 => ?_⟩
  · skip
    intro κ_35 hκ_35
    intro W36
    refine ⟨fun c37 => ?_, fun c37 => ?_⟩
    · skip
      refine hj54 _ _ _ _ _ _ W36 ?_ ?_ ?_ ?_ ?_
      · rw [hκ_35]; exact Ta0  -- t17
      · rw [hκ_35]; exact Ta1  -- t18
      · rw [hκ_35]; exact tp21  -- t19
      · rw [hκ_35]; exact tt8  -- t20
      · refine and_5 ?_ (fun o9 => ?_)  -- k21
        · rw [lei, t0i] at c37
          have nz : r29.toInt ≠ 0 := fun e => c34 (Int32.toInt_inj.mp (e.trans t0i.symm))
          have Q := nm_s W N0 S0 hκ_35
          exact ⟨rfl, rfl, soF_s (by rw [h20]; exact Or.inr (Or.inl rfl)) hκ_35, Q, fun f b _ _ => by rw [hκ_35]; rfl, ⟨by rw [hκ_35]; exact congrArg Int32.toInt (if_pos ⟨rfl, rfl⟩), by omega⟩, by rw [hκ_35]; rfl, Or.inl ⟨c37, by rw [hκ_35]; rfl, by omega⟩⟩
        · have e : zI κ_35 raSign (zR κ soPart a0) = r29 := by rw [hκ_35]; exact if_pos ⟨rfl, rfl⟩
          rw [e]
          exact sg_w8 q31
    · skip
      refine hj54 _ _ _ _ _ _ W36 ?_ ?_ ?_ ?_ ?_
      · rw [hκ_35]; exact Ta0  -- t22
      · rw [hκ_35]; exact Ta1  -- t23
      · rw [hκ_35]; exact tp21  -- t24
      · rw [hκ_35]; exact tt7  -- t25
      · refine and_5 ?_ (fun o9 => ?_)  -- k26
        · rw [lei, t0i] at c37
          have nz : r29.toInt ≠ 0 := fun e => c34 (Int32.toInt_inj.mp (e.trans t0i.symm))
          have Q := nm_s W N0 S0 hκ_35
          exact ⟨rfl, rfl, soF_s (by rw [h20]; exact Or.inr (Or.inl rfl)) hκ_35, Q, fun f b _ _ => by rw [hκ_35]; rfl, ⟨by rw [hκ_35]; exact congrArg Int32.toInt (if_pos ⟨rfl, rfl⟩), by omega⟩, by rw [hκ_35]; rfl, Or.inr ⟨c37, by rw [hκ_35]; rfl, by omega⟩⟩
        · have e : zI κ_35 raSign (zR κ soPart a0) = r29 := by rw [hκ_35]; exact if_pos ⟨rfl, rfl⟩
          rw [e]
          exact sg_w8 q31
  · skip
    intro T38
    refine Ra_putZero_c W32 T38 6500 ?_ (fun κ_39 q40 => ?_)
    · have f21 := nm_g N0 h21 m21 (by decide)
      have f22 := nm_g N0 h22 m22 (by decide)
      exact ⟨f21.2.2, f22.2.2, ro_n h21 h22 (by decide)⟩
    intro W41
    intro M42
    refine h _ ?_
    · refine and_5 ?_ (fun o9 => ?_)  -- q28
      · have e0 : r29.toInt = 0 := by rw [c34]; rfl
        obtain ⟨Z, J, V⟩ := q40
        have et : ∀ f b, f ≠ nuLimbs → f ≠ nuLength → f ≠ raSign → zR κ_39 f b = zR κ f b := fun f b x y z => raF_r Z x y z
        have e1 := et raTop (zR κ soPart a0) (by decide) (by decide) (by decide)
        have e2 := et raBottom (zR κ soPart a0) (by decide) (by decide) (by decide)
        unfold raJ at J
        unfold raV at V
        rw [e1, e2] at J V
        have Zs : zF (soF ρ stR9 (zR κ soCalc a0)) κ κ_39 := Z.mono (fun f b z => by
          rcases z with ⟨z | z, y⟩ | z
          · exact Or.inl ⟨by rw [z, h21]; exact Or.inr (Or.inr (Or.inl rfl)), y.elim Or.inl (fun q => Or.inr (Or.inl q))⟩
          · exact Or.inl ⟨by rw [z, h22]; exact Or.inr (Or.inr (Or.inr rfl)), y.elim Or.inl (fun q => Or.inr (Or.inl q))⟩
          · exact Or.inl ⟨by rw [z.1, h20]; exact Or.inr (Or.inl rfl), Or.inr (Or.inr z.2)⟩)
        have N : nmI ρ κ_39 := nm_k W N0 Z (fun w hw => by
          by_cases z1 : w = (zR κ raTop (zR κ soPart a0))
          · right
            rw [z1, h21]
            exact ⟨J.1.1.2.1, fun _ => J.1⟩
          · by_cases z2 : w = (zR κ raBottom (zR κ soPart a0))
            · right
              rw [z2, h22]
              exact ⟨J.2.1.1.2.1, fun _ => J.2.1⟩
            · left
              refine ⟨fun z => ?_, fun z => ?_⟩
              · rcases z with ⟨z | z, _⟩ | z
                · exact z1 z
                · exact z2 z
                · exact absurd z.2 (by decide)
              · rcases z with ⟨z | z, _⟩ | z
                · exact z1 z
                · exact z2 z
                · exact absurd z.2 (by decide)) (fun v => et _ _ (by decide) (by decide) (by decide)) (fun v => et _ _ (by decide) (by decide) (by decide))
        have S : soI ρ κ_39 a0 := by
          refine so_k' S0 (fun f b x y z => et f b x y z) (Z.l (ty_caFactors W (ty_soCalc W Ta0)))
        exact ⟨Zs, ⟨N, S⟩, Or.inl ⟨by omega, V.1, V.2.1, V.2.2⟩⟩
      · have e0 : r29.toInt = 0 := by rw [c34]; rfl
        rw [← sg_w8 q31, e0]
        exact q40.2.2.1

theorem So_keepPart_q6 {C : zC} {n0 : Nat} {a0 : Nat} {a1 : Nat} {κ : zS} {Q : Int32 → zS → Prop} (W : zW C n0 κ) (Ta0 : zT κ a0 = 12) (Ta1 : zT κ a1 = 11) (ρ : Nat → Nat) (w9 : Nat) (hp : (nmI ρ κ ∧ soI ρ κ a0) ∧ ρ a1 = w9 ∧ (100 ≤ w9 ∧ w9 < 999990 ∧ w9 % 4 = 0)) (h : ∀ (v : Int32) (κ' : zS), ((nb v ∧ (v = 0 → κ' = κ) ∧ (v ≠ 0 → (zF (soF ρ (fun q => q = w9 ∨ q = w9 + 1 ∨ q = w9 + 2) (zR κ soCalc a0)) κ κ' ∧ nmI ρ κ' ∧ soI ρ κ' a0) ∧ (nuN κ (zR κ raTop (zR κ soPart a0)) < 2 ^ 256 ∧ nuN κ (zR κ raBottom (zR κ soPart a0)) < 2 ^ 256) ∧ raV κ' a1 ((zI κ raSign (zR κ soPart a0)).toInt) (nuN κ (zR κ raTop (zR κ soPart a0))) (nuN κ (zR κ raBottom (zR κ soPart a0))))) ∧ ((v ≠ 0 ↔ nuN κ (zR κ raTop (zR κ soPart a0)) < 2 ^ 256 ∧ nuN κ (zR κ raBottom (zR κ soPart a0)) < 2 ^ 256))) → Q v κ') : zRun C 3 mSo_keepPart [.ref a0, .ref a1] κ (oI Q noX) := by
  refine So_keepPart_run W Ta0 Ta1 ?_
  replace W := W.lo (Nat.le_trans W.1.2.1 W.1.2.2) (Nat.le_refl (zn κ))
  unfold w_So_keepPart_0
  obtain ⟨⟨N0, S0⟩, hw, w1, w2, w3⟩ := hp
  have h20 := S0.1.2.2.2.2.2.2
  have P20 := N0.2 (zR κ soPart a0) (by rw [h20]; exact Or.inl rfl)
  have h21 : ρ (zR κ raTop (zR κ soPart a0)) = 21 := by rw [P20.2.1, h20]
  have h22 : ρ (zR κ raBottom (zR κ soPart a0)) = 22 := by rw [P20.2.2, h20]
  have rw9 : raR w9 := Or.inr (Or.inr ⟨w1, by omega, w3⟩)
  have PW := N0.2 a1 (by rw [hw]; exact rw9)
  have hw1 : ρ (zR κ raTop a1) = w9 + 1 := by rw [PW.2.1, hw]
  have hw2 : ρ (zR κ raBottom a1) = w9 + 2 := by rw [PW.2.2, hw]
  have cv := cap_v w1 w2
  have g21 := nm_g N0 h21 (Or.inr (Or.inl rfl)) (by decide)
  have g22 := nm_g N0 h22 (Or.inr (Or.inr (Or.inl rfl))) (by decide)
  have gw1 := nm_g N0 hw1 (raR_n rw9).1 (by omega)
  have gw2 := nm_g N0 hw2 (raR_n rw9).2 (by omega)
  rw [cv.2.1] at gw1
  rw [cv.2.2] at gw2
  intro T1
  refine Ra_fits_q6 W T1  ?_ (fun r2 q4 => ?_)
  · exact ⟨g21.2.1, g22.2.1⟩  -- p1
  obtain ⟨q4, z9⟩ := q4
  intro W5
  intro M6
  refine ⟨fun c7 => ?_, fun c7 => ?_⟩
  · skip
    refine ⟨?_, h _ _ ?_⟩
    · exact q4.1  -- b2
    · refine and_5 ?_ (fun o9 => z9)  -- q3
      exact ⟨q4.1, fun _ => rfl, fun z => absurd c7 z⟩
  · skip
    intro T8
    intro T9
    have fb := q4.2 c7
    have k1 := k256 g21.1 fb.1
    have k2 := k256 g22.1 fb.2
    refine Ra_copy_c W5 T8 T9 20 ?_ (fun κ_10 q11 => ?_)
    · exact ⟨⟨gw1.2.2, gw2.2.2, ro_n hw1 hw2 (by omega)⟩, ⟨g21.2.1, g22.2.1, ro_n h21 h22 (by decide)⟩, ⟨ro_n hw1 h21 (by omega), ro_n hw1 h22 (by omega), ro_n hw2 h21 (by omega), ro_n hw2 h22 (by omega)⟩, ⟨by omega, by omega⟩, by decide⟩  -- p4
    intro W12
    intro M13
    refine ⟨?_, h _ _ ?_⟩
    · exact q4.1  -- b5
    · refine and_5 ?_ (fun o9 => z9)  -- q6
      obtain ⟨Z, J, V⟩ := q11
      have e1 : zR κ_10 raTop a1 = zR κ raTop a1 := raF_r Z (by decide) (by decide) (by decide)
      have e2 : zR κ_10 raBottom a1 = zR κ raBottom a1 := raF_r Z (by decide) (by decide) (by decide)
      have J' := J
      unfold raJ at J'
      rw [e1, e2] at J'
      have R := nm_ra W Ta0 N0 S0 hw rw9 Z (by rw [cv.2.1]; exact J'.1) (by rw [cv.2.2]; exact J'.2.1)
      exact ⟨q4.1, fun z => absurd z c7, fun _ => ⟨⟨R.2 _, R.1⟩, fb, V⟩⟩

end
section
set_option maxHeartbeats 1600000
/-! the class: the worth of a state by its value -/
def ovW8 (κ : zS) (a : Option Nat) (x : Rat) : Prop := (∀ u, a = some u → rqW8 κ u x) ∧ (a = none → x = 0)
theorem mu_s8 {r y : Int32} (hr : r.toInt = -1 ∨ r.toInt = 0 ∨ r.toInt = 1) (hy : y.toInt = 1 ∨ y.toInt = -1) : (r * y).toInt = r.toInt * y.toInt := by
  rcases hr with e | e | e <;> rcases hy with f | f <;> rw [mul_i (by rw [e, f]; decide) (by rw [e, f]; decide)]
/-- both alike in sign: compared across -/
theorem ca_q8 {x1 x2 : Rat} {r y : Int32} {S L : Nat} (e1 : y.toInt = x1.num.sign) (e2 : y.toInt = x2.num.sign) (y0 : ¬ y = 0) (hS : S = x1.num.natAbs * x2.den) (hL : L = x2.num.natAbs * x1.den) (q : (r.toInt = -1 ∧ S < L) ∨ (r.toInt = 0 ∧ S = L) ∨ (r.toInt = 1 ∧ L < S)) : ¬ r * y ≤ 0 ↔ x2 < x1 := by
  have K := ls_q8 (a := x1) (b := x2) (e1.symm.trans e2)
  have hr : r.toInt = -1 ∨ r.toInt = 0 ∨ r.toInt = 1 := by
    rcases q with z | z | z
    · exact Or.inl z.1
    · exact Or.inr (Or.inl z.1)
    · exact Or.inr (Or.inr z.1)
  have ys : y.toInt = 1 ∨ y.toInt = -1 := by
    rcases sn_q8 (a := x1) with z | z | z
    · exact Or.inl (e1.trans z)
    · exact absurd (Int32.toInt_inj.mp ((e1.trans z).trans t0i.symm)) y0
    · exact Or.inr (e1.trans z)
  rw [lei, t0i, mu_s8 hr ys]
  rcases ys with z | z
  · rw [K.1 (e1.symm.trans z), ← hS, ← hL, z]
    rcases q with w | w | w <;> rw [w.1] <;> omega
  · rw [K.2 (e1.symm.trans z), ← hS, ← hL, z]
    rcases q with w | w | w <;> rw [w.1] <;> omega
theorem So_isAbove_q6 {C : zC} {n0 : Nat} {a0 : Nat} {a1 : Option Nat} {a2 : Option Nat} {κ : zS} {Q : Int32 → zS → Prop} (W : zW C n0 κ) (Ta0 : zT κ a0 = 12) (Ta1 : ∀ v, a1 = some v → zT κ v = 11) (Ta2 : ∀ v, a2 = some v → zT κ v = 11) (ρ : Nat → Nat) (n9 P9 : Nat) (x1 x2 : Rat) (hx9 : ovW8 κ a1 x1 ∧ ovW8 κ a2 x2) (hp : (nmI ρ κ ∧ soI ρ κ a0) ∧ wsI9 ρ κ a0 n9 P9 ∧ n9 ≤ 1000 ∧ (a1 = none ∨ ∃ j, j < n9 ∧ a1 = some (wU9 κ a0 j)) ∧ (a2 = none ∨ ∃ j, j < n9 ∧ a2 = some (wU9 κ a0 j))) (h : ∀ (v : Int32) (κ' : zS), (((zF (soF ρ (fun r => r = 7 ∨ r = 8) (zR κ soCalc a0)) κ κ' ∧ nmI ρ κ' ∧ soI ρ κ' a0) ∧ (nuN κ' (zR κ soLess a0) < pB9 4000 ∨ nuN κ' (zR κ soLess a0) = nuN κ (zR κ soLess a0))) ∧ ((v ≠ 0 ↔ x2 < x1))) → Q v κ') : zRun C 4 mSo_isAbove [.ref a0, va_rf a1, va_rf a2] κ (oI Q noX) := by
  refine So_isAbove_run W Ta0 Ta1 Ta2 ?_
  replace W := W.lo (Nat.le_trans W.1.2.1 W.1.2.2) (Nat.le_refl (zn κ))
  unfold w_So_isAbove_0
  obtain ⟨⟨N0, S0⟩, V0, hn, p3, p4⟩ := hp
  have h7 := S0.1.2.2.2.2.1
  have h8 := S0.1.2.2.2.2.2.1
  have ts := ty_soSum W Ta0
  have tl := ty_soLess W Ta0
  have hj45 : ∀ (l0 : Nat) (l3 : Int32) (l4 : Int32) (τ : zS), zW C (zn κ) τ → zT τ l0 = 12 → ((κ = τ ∧ a0 = l0 ∧ True) ∧ l3.toInt = x1.num.sign ∧ l4.toInt = x2.num.sign ∧ (x1.num.sign = x2.num.sign → x1.num.sign = 0)) → w_So_isAbove_45 C (zn κ) Q  l0 l3 l4 τ := by
    rintro _ y45_3 y45_4 _ W45 T45_0 ⟨⟨rfl, rfl, j45⟩, hE⟩
    unfold w_So_isAbove_45
    refine ⟨fun c1 => ?_, fun c1 => ?_⟩
    · skip
      refine h _ _ ?_
      · refine and_5 ?_ (fun o9 => ?_)  -- q1
        · exact ⟨⟨zF.rf, N0, S0⟩, Or.inr rfl⟩
        · rw [lei, hE.1, hE.2.1] at c1
          refine ⟨fun z => absurd rfl z, fun z => ?_⟩
          by_cases e : x1.num.sign = x2.num.sign
          · have a := hE.2.2 e
            have u := ps_q8.2.1.mp a
            have v := ps_q8.2.1.mp (e.symm.trans a)
            rw [u, v] at z
            exact absurd z Rat.lt_irrefl
          · have w := (lt_q8 e).mp z
            omega
    · skip
      refine h _ _ ?_
      · refine and_5 ?_ (fun o9 => ?_)  -- q2
        · exact ⟨⟨zF.rf, N0, S0⟩, Or.inr rfl⟩
        · rw [lei, hE.1, hE.2.1] at c1
          refine ⟨fun _ => (lt_q8 (fun e => c1 (by rw [e]; exact Int.le_refl _))).mpr (by omega), fun _ => by decide⟩
  have hj25 : ∀ (l0 : Nat) (l1 : Option Nat) (l2 : Option Nat) (l3 : Int32) (s0 : Int32) (τ : zS), zW C (zn κ) τ → zT τ l0 = 12 → (∀ v, l1 = some v → zT τ v = 11) → (∀ v, l2 = some v → zT τ v = 11) → ((κ = τ ∧ a0 = l0 ∧ a1 = l1 ∧ a2 = l2 ∧ True) ∧ l3.toInt = x1.num.sign ∧ s0.toInt = x2.num.sign) → w_So_isAbove_25 C (zn κ) Q  l0 l1 l2 l3 s0 τ := by
    rintro _ _ _ y25_3 y25_s0 _ W25 T25_0 T25_1 T25_2 ⟨⟨rfl, rfl, rfl, rfl, j25⟩, hE⟩
    unfold w_So_isAbove_25
    refine ⟨fun c2 => ?_, fun c2 => ?_⟩
    · skip
      refine hj45 _ _ _ _ W25 ?_ ?_
      · assumption  -- t3
      · refine and_5 ?_ (fun o9 => ⟨hE.1, hE.2, fun z => absurd (Int32.toInt_inj.mp (by rw [hE.1, hE.2, z])) c2⟩)  -- k4
        exact ⟨rfl, rfl, trivial⟩
    · skip
      refine ⟨fun c3 => ?_, fun uc3 c3 => ?_⟩
      · skip
        refine hj45 _ _ _ _ W25 ?_ ?_
        · assumption  -- t5
        · refine and_5 ?_ (fun o9 => ⟨hE.1, hE.2, fun _ => by rw [hx9.1.2 c3]; rfl⟩)  -- k6
          exact ⟨rfl, rfl, trivial⟩
      · skip
        refine ⟨fun c4 => ?_, fun uc4 c4 => ?_⟩
        · skip
          refine hj45 _ _ _ _ W25 ?_ ?_
          · assumption  -- t7
          · refine and_5 ?_ (fun o9 => ⟨hE.1, hE.2, fun z => by rw [z, hx9.2.2 c4]; rfl⟩)  -- k8
            exact ⟨rfl, rfl, trivial⟩
        · skip
          refine ⟨fun c5 => ?_, fun c5 => ?_⟩
          · skip
            refine ex_some ?_ (fun u6 hu6 => ?_)
            · exact ⟨_, c3⟩  -- e9
            refine ex_some ?_ (fun u7 hu7 => ?_)
            · exact ⟨_, c4⟩  -- e10
            intro T8
            intro T9
            intro T10
            obtain ⟨j1, hj1, f1⟩ : ∃ j, j < n9 ∧ wU9 κ a0 j = u6 := by
              rcases p3 with z | ⟨j, hj, z⟩
              · rw [z] at hu6; cases hu6
              · exact ⟨j, hj, Option.some.inj (z.symm.trans hu6)⟩
            obtain ⟨j2, hj2, f2⟩ : ∃ j, j < n9 ∧ wU9 κ a0 j = u7 := by
              rcases p4 with z | ⟨j, hj, z⟩
              · rw [z] at hu7; cases hu7
              · exact ⟨j, hj, Option.some.inj (z.symm.trans hu7)⟩
            obtain ⟨_, w1, x1⟩ := V0.2 j1 hj1
            obtain ⟨_, w2, x2⟩ := V0.2 j2 hj2
            rw [f1] at w1 x1
            rw [f2] at w2 x2
            have g1 := ra_g9 N0 w1 (by omega) (by omega) (by omega)
            have g2 := ra_g9 N0 w2 (by omega) (by omega) (by omega)
            have gs := nm_g N0 h7 (Or.inl ⟨by decide, by decide⟩) (by decide)
            have k1 := k256 g1.2.2.2.1 x1.1.1
            have k2 := k256 g2.2.2.2.2.1 x2.1.2
            refine Nu_product_c W25 T8 T9 T10 6500 30000000 30000000 ?_ (fun κ_11 q12 => ?_)
            · exact ⟨gs.2.2, ⟨nuI_mono (by decide) g1.2.2.2.1, nuI_mono (by decide) g2.2.2.2.2.1⟩, ⟨ro_n h7 g1.2.1.1 (by omega), ro_n h7 g2.2.1.2 (by omega)⟩, by omega, by decide⟩  -- p11
            obtain ⟨F1, I1, V1⟩ := q12
            have Z1 : zF (soF ρ (fun r => r = 7) (zR κ soCalc a0)) κ κ_11 := soF_1 h7 F1
            have N1 : nmI ρ κ_11 := nm_1 W25 N0 F1 (by rw [h7]; exact I1)
            have S1 : soI ρ κ_11 a0 := so_1 W25 Ta0 S0 F1
            have T11 : zT κ_11 a0 = 12 := F1.t Ta0 (by decide)
            have el1 : zR κ_11 soLess a0 = (zR κ soLess a0) := (soF_r9 Z1 (by decide)).1
            intro W13
            intro M14
            refine ex_some ?_ (fun u15 hu15 => ?_)
            · exact ⟨_, c4⟩  -- e12
            refine ex_some ?_ (fun u16 hu16 => ?_)
            · exact ⟨_, c3⟩  -- e13
            intro T17
            intro T18
            intro T19
            have e15 : u15 = u7 := Option.some.inj (hu15.symm.trans hu7)
            have e16 : u16 = u6 := Option.some.inj (hu16.symm.trans hu6)
            subst e15
            subst e16
            have r1 := ra_f9 W25 N0 Z1 w1 g1.1.2 ⟨by omega, by omega, by omega⟩
            have r2 := ra_f9 W25 N0 Z1 w2 g2.1.2 ⟨by omega, by omega, by omega⟩
            have d1 := ra_g9 N1 w1 (by omega) (by omega) (by omega)
            have d2 := ra_g9 N1 w2 (by omega) (by omega) (by omega)
            have gl := nm_g N1 (w := (zR κ soLess a0)) h8 (Or.inl ⟨by decide, by decide⟩) (by decide)
            have y1 : nuN κ_11 (zR κ_11 raBottom u16) < 2 ^ 256 := by rw [r1.2.1.2, r1.2.2.2]; exact x1.1.2
            have y2 : nuN κ_11 (zR κ_11 raTop u15) < 2 ^ 256 := by rw [r2.2.1.1, r2.2.2.1]; exact x2.1.1
            have k3 := k256 d1.2.2.2.2.1 y1
            have k4 := k256 d2.2.2.2.1 y2
            refine Nu_product_c W13 T17 T18 T19 6500 30000000 30000000 ?_ (fun κ_20 q21 => ?_)
            · rw [el1]
              exact ⟨gl.2.2, ⟨nuI_mono (by decide) d2.2.2.2.1, nuI_mono (by decide) d1.2.2.2.2.1⟩, ⟨ro_n h8 d2.2.1.1 (by omega), ro_n h8 d1.2.1.2 (by omega)⟩, by omega, by decide⟩
            intro W22
            intro M23
            intro T24
            intro T25
            rw [el1] at q21
            obtain ⟨F2, I2, V2⟩ := q21
            have Z2 : zF (soF ρ (fun r => r = 8) (zR κ soCalc a0)) κ_11 κ_20 := soF_1 h8 F2
            have N2 : nmI ρ κ_20 := nm_1 W13 N1 F2 (by rw [h8]; exact I2)
            have S2 : soI ρ κ_20 a0 := so_1 W13 T11 S1 F2
            have Zf : zF (soF ρ (fun r => r = 7 ∨ r = 8) (zR κ soCalc a0)) κ κ_20 := (soF_m (fun r z => Or.inl z) Z1).tr (soF_m (fun r z => Or.inr z) Z2)
            have es2 : zR κ_20 soSum a0 = (zR κ soSum a0) := (soF_r9 Zf (by decide)).1
            have el2 : zR κ_20 soLess a0 = (zR κ soLess a0) := (soF_r9 Zf (by decide)).1
            have gs2 := nm_g N2 (w := (zR κ soSum a0)) h7 (Or.inl ⟨by decide, by decide⟩) (by decide)
            have gl2 := nm_g N2 (w := (zR κ soLess a0)) h8 (Or.inl ⟨by decide, by decide⟩) (by decide)
            have lf : nuN κ_20 (zR κ soLess a0) < pB9 4000 := by
              rw [V2]
              have q : nuN κ_11 (zR κ_11 raTop u15) * nuN κ_11 (zR κ_11 raBottom u16) < 2 ^ 256 * 2 ^ 256 := Nat.mul_lt_mul'' y2 y1
              have q2 : 2 ^ 256 * 2 ^ 256 ≤ pB9 100 := by unfold pB9; decide
              exact Nat.lt_of_lt_of_le q (Nat.le_trans q2 (pB9_l (by decide)))
            refine Nu_compare_c W22 T24 T25 6500 6500 ?_ (fun r26 q28 => ?_)
            · rw [es2, el2]
              exact ⟨gs2.1, gl2.1⟩
            intro W29
            intro M30
            refine ⟨fun c31 => ?_, fun c31 => ?_⟩
            · skip
              refine h _ _ ?_
              · refine and_5 ?_ (fun o9 => ?_)  -- q16
                · exact ⟨⟨Zf, N2, S2⟩, Or.inl lf⟩
                · have ts11 : zT κ_11 (zR κ soSum a0) = 8 := F1.t ts (by decide)
                  have s20 : nuN κ_20 (zR κ soSum a0) = nuN κ_11 (zR κ soSum a0) := (nuB_z (c := 6500) W13 ts11 F2 (fun z => ro_n h7 h8 (by decide) z.1) (fun z => ro_n h7 h8 (by decide) z.1)).2.2.1
                  have R1 := hx9.1.1 u16 hu16
                  have R2 := hx9.2.1 u15 hu15
                  rw [es2, el2] at q28
                  have A := ca_q8 (r := r26) hE.1 (by rw [c2]; exact hE.2) c5 (S := nuN κ_20 (zR κ soSum a0)) (L := nuN κ_20 (zR κ soLess a0)) (by rw [s20, V1, R1.2.1, R2.2.2]) (by rw [V2, r2.2.1.1, r2.2.2.1, r1.2.1.2, r1.2.2.2, R2.2.1, R1.2.2]) q28
                  exact ⟨fun z => absurd rfl z, fun z => absurd c31 (A.mpr z)⟩
            · skip
              refine h _ _ ?_
              · refine and_5 ?_ (fun o9 => ?_)  -- q17
                · exact ⟨⟨Zf, N2, S2⟩, Or.inl lf⟩
                · have ts11 : zT κ_11 (zR κ soSum a0) = 8 := F1.t ts (by decide)
                  have s20 : nuN κ_20 (zR κ soSum a0) = nuN κ_11 (zR κ soSum a0) := (nuB_z (c := 6500) W13 ts11 F2 (fun z => ro_n h7 h8 (by decide) z.1) (fun z => ro_n h7 h8 (by decide) z.1)).2.2.1
                  have R1 := hx9.1.1 u16 hu16
                  have R2 := hx9.2.1 u15 hu15
                  rw [es2, el2] at q28
                  have A := ca_q8 (r := r26) hE.1 (by rw [c2]; exact hE.2) c5 (S := nuN κ_20 (zR κ soSum a0)) (L := nuN κ_20 (zR κ soLess a0)) (by rw [s20, V1, R1.2.1, R2.2.2]) (by rw [V2, r2.2.1.1, r2.2.2.1, r1.2.1.2, r1.2.2.2, R2.2.1, R1.2.2]) q28
                  exact ⟨fun _ => A.mp c31, fun _ => by decide⟩
          · skip
            refine hj45 _ _ _ _ W25 ?_ ?_
            · assumption  -- t18
            · refine and_5 ?_ (fun o9 => ⟨hE.1, hE.2, fun _ => by rw [← hE.1, c5]; rfl⟩)  -- k19
              exact ⟨rfl, rfl, trivial⟩
  have hj12 : ∀ (l0 : Nat) (l1 : Option Nat) (l2 : Option Nat) (s0 : Int32) (τ : zS), zW C (zn κ) τ → zT τ l0 = 12 → (∀ v, l1 = some v → zT τ v = 11) → (∀ v, l2 = some v → zT τ v = 11) → ((κ = τ ∧ a0 = l0 ∧ a1 = l1 ∧ a2 = l2 ∧ True) ∧ s0.toInt = x1.num.sign) → w_So_isAbove_12 C (zn κ) Q  l0 l1 l2 s0 τ := by
    rintro _ _ _ y12_s0 _ W12 T12_0 T12_1 T12_2 ⟨⟨rfl, rfl, rfl, rfl, j12⟩, hE⟩
    unfold w_So_isAbove_12
    refine ⟨fun uc32 c32 => ?_, fun c32 => ?_⟩
    · skip
      refine ex_some ?_ (fun u33 hu33 => ?_)
      · exact ⟨_, c32⟩  -- e20
      refine hj25 _ _ _ _ _ _ W12 ?_ ?_ ?_ ?_
      · assumption  -- t21
      · assumption  -- t22
      · assumption  -- t23
      · refine and_5 ?_ (fun o9 => ⟨hE, (hx9.2.1 u33 hu33).1⟩)  -- k24
        exact ⟨rfl, rfl, rfl, rfl, trivial⟩
    · skip
      refine hj25 _ _ _ _ _ _ W12 ?_ ?_ ?_ ?_
      · assumption  -- t25
      · assumption  -- t26
      · assumption  -- t27
      · refine and_5 ?_ (fun o9 => ⟨hE, by rw [hx9.2.2 c32]; rfl⟩)  -- k28
        exact ⟨rfl, rfl, rfl, rfl, trivial⟩
  refine ⟨fun uc34 c34 => ?_, fun c34 => ?_⟩
  · skip
    refine ex_some ?_ (fun u35 hu35 => ?_)
    · exact ⟨_, c34⟩  -- e29
    refine hj12 _ _ _ _ _ W ?_ ?_ ?_ ?_
    · assumption  -- t30
    · assumption  -- t31
    · assumption  -- t32
    · refine and_5 ?_ (fun o9 => (hx9.1.1 u35 hu35).1)  -- k33
      exact ⟨rfl, rfl, rfl, rfl, trivial⟩
  · skip
    refine hj12 _ _ _ _ _ W ?_ ?_ ?_ ?_
    · assumption  -- t34
    · assumption  -- t35
    · assumption  -- t36
    · refine and_5 ?_ (fun o9 => ?_)  -- k37
      · exact ⟨rfl, rfl, rfl, rfl, trivial⟩
      · rw [hx9.1.2 c34]
        rfl

theorem So_worthBehind_q6 {C : zC} {n0 : Nat} {a0 : Nat} {a1 : Int32} {κ : zS} {Q : Option Nat → zS → Prop} (W : zW C n0 κ) (Ta0 : zT κ a0 = 12) (ρ : Nat → Nat) (n9 P9 k9 : Nat) (hp : atW κ (zR κ soAtlas a0) n9 ∧ wsI9 ρ κ a0 n9 P9 ∧ k9 < n9 ∧ 0 ≤ a1.toInt ∧ (zA κ (zR κ atFirsts (zR κ soAtlas a0)) k9).toInt ≤ a1.toInt ∧ a1.toInt < (zA κ (zR κ atFirsts (zR κ soAtlas a0)) (k9 + 1)).toInt) (h : ∀ (v : Option Nat), ((v = none ∨ ∃ j, j < n9 ∧ v = some (wU9 κ a0 j)) ∧ (((zA κ (zR κ atSorts (zR κ soAtlas a0)) a1.toNatClampNeg = 0 ∧ v = some (wU9 κ a0 (zA κ (zR κ atNumbers (zR κ soAtlas a0)) a1.toNatClampNeg).toNatClampNeg)) ∨ (¬ zA κ (zR κ atSorts (zR κ soAtlas a0)) a1.toNatClampNeg = 0 ∧ v = none)))) → Q v κ) : zRun C 0 mSo_worthBehind [.ref a0, .int a1] κ (oQ 11 Q noX) := by
  refine So_worthBehind_run W Ta0 ?_
  replace W := W.lo (Nat.le_trans W.1.2.1 W.1.2.2) (Nat.le_refl (zn κ))
  unfold w_So_worthBehind_0
  obtain ⟨A0, V0, p1, p0, p2, p3⟩ := hp
  have k := cnk p0
  have nx := nx_9 A0 p1 (i := a1.toNatClampNeg) (by omega) (by omega)
  refine ⟨?_, ?_⟩
  · rw [inb_iff]; omega  -- b1
  refine ⟨fun c1 => ?_, fun c1 => ?_⟩
  · skip
    refine h _ ?_
    · refine and_5 ?_ (fun o9 => Or.inr ⟨c1, rfl⟩)  -- q2
      exact Or.inl rfl
  · skip
    refine ⟨?_, ?_⟩
    · rw [inb_iff]; omega  -- b3
    refine ⟨?_, ?_⟩
    · have q := nx.2.1 c1
      have v := V0.1
      rw [inb_iff]; omega
    refine h _ ?_
    · refine and_5 ?_ (fun o9 => ?_)  -- q5
      · have q := nx.2.1 c1
        have k2 := cnk q.1
        exact Or.inr ⟨_, by omega, (V0.2 (zA κ (zR κ atNumbers (zR κ soAtlas a0)) a1.toNatClampNeg).toNatClampNeg (by omega)).1⟩
      · have q := nx.2.1 c1
        have k2 := cnk q.1
        exact Or.inl ⟨c1, (V0.2 (zA κ (zR κ atNumbers (zR κ soAtlas a0)) a1.toNatClampNeg).toNatClampNeg (by omega)).1⟩

/-- the class's tables -/
def tcW8 (κ : zS) (t : Nat) : Tw8 := fun g => if g = 0 then zA κ (zR κ atFirsts t) else if g = 1 then zA κ (zR κ atSorts t) else if g = 2 then zA κ (zR κ atNumbers t) else if g = 3 then zA κ (zR κ atWeights t) else if g = 4 then zA κ (zR κ atTotals t) else if g = 5 then zA κ (zR κ atGains t) else zA κ (zR κ atChooses t)
theorem tc_f8 {C : zC} {n0 t : Nat} {κ τ : zS} {F : Nat → Nat → Prop} (W : zW C n0 κ) (T : zT κ t = 3) (Z : zF F κ τ) (h : ∀ f, f / 100 = 3 → ¬ F f t) : tcW8 τ t = tcW8 κ t := by
  have a0 := (Z.row W (show zr atFirsts = some 20 by decide +kernel) (by decide) T (h atFirsts (by decide))).1
  have a1 := (Z.row W (show zr atSorts = some 20 by decide +kernel) (by decide) T (h atSorts (by decide))).1
  have a2 := (Z.row W (show zr atNumbers = some 20 by decide +kernel) (by decide) T (h atNumbers (by decide))).1
  have a3 := (Z.row W (show zr atWeights = some 20 by decide +kernel) (by decide) T (h atWeights (by decide))).1
  have a4 := (Z.row W (show zr atTotals = some 20 by decide +kernel) (by decide) T (h atTotals (by decide))).1
  have a5 := (Z.row W (show zr atGains = some 20 by decide +kernel) (by decide) T (h atGains (by decide))).1
  have a6 := (Z.row W (show zr atChooses = some 23 by decide +kernel) (by decide) T (h atChooses (by decide))).1
  unfold tcW8
  rw [a0, a1, a2, a3, a4, a5, a6]
theorem pw_38 {ρ : Nat → Nat} {R : Nat → Prop} {ca a f t : Nat} (h : f / 100 = 3) : ¬ pwF9 ρ R ca a f t := fun z => by
  rcases z with (⟨_, z | z | z⟩ | ⟨_, z | z | z | z⟩) | z
  · rw [z] at h; exact absurd h (by decide)
  · rw [z] at h; exact absurd h (by decide)
  · rw [z] at h; exact absurd h (by decide)
  · rw [z] at h; exact absurd h (by decide)
  · rw [z] at h; exact absurd h (by decide)
  · rw [z] at h; exact absurd h (by decide)
  · rw [z] at h; exact absurd h (by decide)
  · rw [z.1] at h; exact absurd h (by decide)
/-- a fraction that isn't touched -/
theorem rq_p8 {C : zC} {n0 u r ca a : Nat} {ρ : Nat → Nat} {R : Nat → Prop} {κ τ : zS} {q : Rat} (W : zW C n0 κ) (N : nmI ρ κ) (Z : zF (pwF9 ρ R ca a) κ τ) (hu : ρ u = r) (hr : raR r) (h : ¬ R r ∧ ¬ R (r + 1) ∧ ¬ R (r + 2)) (q9 : rqW8 κ u q) : rqW8 τ u q := by
  have P := N.2 u (by rw [hu]; exact hr)
  have no : ∀ f b, (f = nuLimbs ∨ f = nuLength ∨ f = raSign ∨ f = raTop ∨ f = raBottom) → (f = raTop ∨ f = raBottom ∨ ¬ R (ρ b)) → ¬ pwF9 ρ R ca a f b := fun f b hf hb z => by
    rcases z with (⟨y, z⟩ | ⟨_, z⟩) | z
    · rcases hb with b1 | b1 | b1
      · rw [b1] at z; exact absurd z (by decide)
      · rw [b1] at z; exact absurd z (by decide)
      · exact b1 y
    · rcases hf with e | e | e | e | e <;> rw [e] at z <;> exact absurd z (by decide)
    · rcases hf with e | e | e | e | e <;> rw [e] at z <;> exact absurd z.1 (by decide)
  have e1 : zR τ raTop u = zR κ raTop u := Z.r (no _ _ (by decide) (Or.inl rfl))
  have e2 : zR τ raBottom u = zR κ raBottom u := Z.r (no _ _ (by decide) (Or.inr (Or.inl rfl)))
  have e3 : zI τ raSign u = zI κ raSign u := Z.i (no _ _ (by decide) (Or.inr (Or.inr (by rw [hu]; exact h.1))))
  have b1 := nuB_z (c := 0) W (ty_raTop W P.1) Z (no _ _ (by decide) (Or.inr (Or.inr (by rw [P.2.1, hu]; exact h.2.1)))) (no _ _ (by decide) (Or.inr (Or.inr (by rw [P.2.1, hu]; exact h.2.1))))
  have b2 := nuB_z (c := 0) W (ty_raBottom W P.1) Z (no _ _ (by decide) (Or.inr (Or.inr (by rw [P.2.2, hu]; exact h.2.2)))) (no _ _ (by decide) (Or.inr (Or.inr (by rw [P.2.2, hu]; exact h.2.2))))
  unfold rqW8
  rw [e1, e2, e3, b1.2.2.1, b2.2.2.1]
  exact q9
/-- what stands behind a next, as it is read -/
theorem ov_w8 {κ : zS} {a t i : Nat} {v : Option Nat} {T : Tw8} {V : Nat → Rat} (h : (zA κ (zR κ atSorts t) i = 0 ∧ v = some (wU9 κ a (zA κ (zR κ atNumbers t) i).toNatClampNeg)) ∨ (¬ zA κ (zR κ atSorts t) i = 0 ∧ v = none)) (e : tcW8 κ t = T) (hV : T 1 i = 0 → rqW8 κ (wU9 κ a (T 2 i).toNatClampNeg) (V (T 2 i).toNatClampNeg)) : ovW8 κ v (bhW8 T V i) := by
  subst e
  rcases h with ⟨h1, h2⟩ | ⟨h1, h2⟩
  · have b : bhW8 (tcW8 κ t) V i = V (zA κ (zR κ atNumbers t) i).toNatClampNeg := if_pos h1
    rw [b, h2]
    refine ⟨fun u hu => ?_, fun z => by cases z⟩
    rw [← Option.some.inj hu]
    exact hV h1
  · have b : bhW8 (tcW8 κ t) V i = 0 := if_neg h1
    rw [b, h2]
    exact ⟨fun u hu => (by cases hu), fun _ => rfl⟩

end
