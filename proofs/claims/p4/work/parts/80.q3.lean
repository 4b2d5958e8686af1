set_option maxHeartbeats 1600000
/-! the reference: products -/
theorem dv_upd {f g : Nat → Int32} {o j : Nat} (hg : ∀ i, i ≠ o + j → g i = f i) : ∀ {n : Nat}, j < n → dv g o n + (f (o + j)).toNatClampNeg * 65536 ^ j = dv f o n + (g (o + j)).toNatClampNeg * 65536 ^ j
  | 0, h => absurd h (Nat.not_lt_zero _)
  | n + 1, h => by
    rw [dv_s, dv_s]
    by_cases e : j = n
    · have o : dv g o n = dv f o n := dv_congr (fun i hi => hg _ (by omega))
      rw [o, e]
      omega
    · have ih := dv_upd hg (n := n) (by omega)
      rw [hg (o + n) (by omega)]
      omega
theorem dv_0 {f : Nat → Int32} {o n : Nat} (h : ∀ i, i < n → f (o + i) = 0) : dv f o n = 0 := by
  rw [dv_zero (m := 0) (Nat.zero_le n) (fun i _ hi => h i hi)]
  rfl
theorem ik {i k : Int32} (hi : 0 ≤ i) (hk : 0 ≤ k) (h : i.toNatClampNeg + k.toNatClampNeg < 40000) : 0 ≤ i + k ∧ i + k < 40000 ∧ i + k ≤ 40000 ∧ (i + k).toNatClampNeg = i.toNatClampNeg + k.toNatClampNeg := by
  have a := cn_int hi
  have b := cn_int hk
  have s := i_add hi hk (by omega)
  have z : 0 ≤ i + k := Int32.le_iff_toInt_le.mpr (by rw [s, Int32.toInt_zero]; omega)
  have c := cn_int z
  exact ⟨z, Int32.lt_iff_toInt_lt.mpr (by rw [s, show (40000 : Int32).toInt = 40000 from rfl]; omega), Int32.le_iff_toInt_le.mpr (by rw [s, show (40000 : Int32).toInt = 40000 from rfl]; omega), by omega⟩
theorem d_n {x : Int32} (h : 0 ≤ x ∧ x < 65536) : x.toNatClampNeg < 65536 ∧ (x.toNatClampNeg : Int) = x.toInt := by
  have := cn_lt h.1 h.2
  rw [show (65536 : Int32).toNatClampNeg = 65536 from rfl] at this
  exact ⟨this, cn_int h.1⟩
theorem m1616 {a b : Nat} (ha : a < 65536) (hb : b < 65536) : a * b ≤ 65535 * 65535 := Nat.mul_le_mul (by omega) (by omega)
theorem tm_v {x y : Int32} {a c : Int64} {A K : Nat} (hx : 0 ≤ x ∧ x < 65536) (hy : 0 ≤ y ∧ y < 65536) (ha : a.toInt = (A : Int)) (hA : A < 65536) (hc : c.toInt = (K : Int)) (hK : K < 65536) : (x.toInt64 + a * y.toInt64 + c).toInt = ((x.toNatClampNeg + A * y.toNatClampNeg + K : Nat) : Int) ∧ 0 ≤ x.toInt64 + a * y.toInt64 + c ∧ x.toNatClampNeg + A * y.toNatClampNeg + K < 65536 * 65536 := by
  have dx := d_n hx
  have dy := d_n hy
  have m := m1616 hA dy.1
  have e1 : (a * y.toInt64).toInt = ((A * y.toNatClampNeg : Nat) : Int) := by
    rw [Int64.toInt_mul, Int32.toInt_toInt64, ha, ← dy.2, ← Int.natCast_mul]
    exact Int.bmod_eq_of_le (by omega) (by omega)
  have e2 : (x.toInt64 + a * y.toInt64).toInt = ((x.toNatClampNeg + A * y.toNatClampNeg : Nat) : Int) := by
    rw [Int64.toInt_add, e1, Int32.toInt_toInt64, ← dx.2]
    rw [Int.bmod_eq_of_le (by omega) (by omega)]
    omega
  have e3 : (x.toInt64 + a * y.toInt64 + c).toInt = ((x.toNatClampNeg + A * y.toNatClampNeg + K : Nat) : Int) := by
    rw [Int64.toInt_add, e2, hc]
    rw [Int.bmod_eq_of_le (by omega) (by omega)]
    omega
  exact ⟨e3, by rw [Int64.le_iff_toInt_le, e3, Int64.toInt_zero]; omega, by omega⟩
theorem l_32 {c : Int64} {K : Nat} (hc : c.toInt = (K : Int)) (hK : K < 65536) : (0 ≤ c.toInt32 ∧ c.toInt32 < 65536) ∧ c.toInt32.toNatClampNeg = K := by
  have e : c.toInt32.toInt = (K : Int) := by
    rw [Int64.toInt_toInt32, hc]
    exact Int.bmod_eq_of_le (by omega) (by omega)
  have z : 0 ≤ c.toInt32 := by rw [Int32.le_iff_toInt_le, e, Int32.toInt_zero]; omega
  have n := cn_int z
  exact ⟨⟨z, by rw [Int32.lt_iff_toInt_lt, e, show (65536 : Int32).toInt = 65536 from rfl]; omega⟩, by omega⟩
/-- while the product is made: i places of the first number are done -/
def tmIR9 (σ τ : rS) (t r s : Nat) (i : Int32) : Prop := frN [t] σ τ ∧ τ.2.2.1 91 = σ.2.2.1 91 ∧ 0 ≤ i ∧ i ≤ σ.2.2.1 91 r ∧ dgO (τ.2.2.1 90) (40000 * t) (nL σ r + nL σ s) ∧ dv (τ.2.2.1 90) (40000 * t) (nL σ r + nL σ s) = dv (σ.2.2.1 90) (40000 * r) i.toNatClampNeg * nV σ s ∧ ∀ j, i.toNatClampNeg + nL σ s ≤ j → j < nL σ r + nL σ s → τ.2.2.1 90 (40000 * t + j) = 0
/-- and k places of the second, with c over -/
def tnI (σ τ : rS) (t r s : Nat) (i k : Int32) (c : Int64) : Prop := frN [t] σ τ ∧ τ.2.2.1 91 = σ.2.2.1 91 ∧ 0 ≤ k ∧ k ≤ σ.2.2.1 91 s ∧ dgO (τ.2.2.1 90) (40000 * t) (nL σ r + nL σ s) ∧ (∃ K : Nat, c.toInt = (K : Int) ∧ K < 65536 ∧ dv (τ.2.2.1 90) (40000 * t) (nL σ r + nL σ s) + K * 65536 ^ (i.toNatClampNeg + k.toNatClampNeg) = dv (σ.2.2.1 90) (40000 * r) i.toNatClampNeg * nV σ s + (σ.2.2.1 90 (40000 * r + i.toNatClampNeg)).toNatClampNeg * 65536 ^ i.toNatClampNeg * dv (σ.2.2.1 90) (40000 * s) k.toNatClampNeg) ∧ ∀ j, i.toNatClampNeg + nL σ s ≤ j → j < nL σ r + nL σ s → τ.2.2.1 90 (40000 * t + j) = 0
theorem ar_t {P p q d x y c v A S N N' : Nat} (h : N + c * (p * q) = A + d * p * S) (hv : v = x + d * y + c) (hn : N' + x * (p * q) = N + v % 65536 * (p * q)) : N' + v / 65536 * (65536 * (p * q)) = A + d * p * (S + y * q) := by
  have m := Nat.div_add_mod v 65536
  have e : (65536 * (v / 65536) + v % 65536) * (p * q) = (x + d * y + c) * (p * q) := by rw [m, hv]
  rw [Nat.add_mul, Nat.add_mul, Nat.add_mul] at e
  have f : v / 65536 * (65536 * (p * q)) = 65536 * (v / 65536) * (p * q) := by
    rw [← Nat.mul_assoc, Nat.mul_comm (v / 65536) 65536]
  have g : d * p * (S + y * q) = d * p * S + d * y * (p * q) := by
    rw [Nat.mul_add]
    congr 1
    rw [Nat.mul_mul_mul_comm]
  omega
theorem tn_step {σ τ υ : rS} {t r s : Nat} {i k : Int32} {c c' a v : Int64} {x y : Int32} (hts : s ≠ t) (hr : numO σ r) (hs : numO σ s) (hL : nL σ r + nL σ s ≤ 40000) (i0 : 0 ≤ i) (hi : i.toNatClampNeg < nL σ r) (h : tnI σ τ t r s i k c) (hk : ¬ σ.2.2.1 91 s ≤ k) (ha : a.toInt = ((σ.2.2.1 90 (40000 * r + i.toNatClampNeg)).toNatClampNeg : Int)) (hx : x = τ.2.2.1 90 (40000 * t + (i.toNatClampNeg + k.toNatClampNeg))) (hy : y = τ.2.2.1 90 (40000 * s + k.toNatClampNeg)) (hv : v = x.toInt64 + a * y.toInt64 + c) (hc : c' = (v.toUInt64 >>> ((16 : Int32).toInt64.toUInt64 &&& Int64.toUInt64 63)).toInt64) (hu : υ = riU τ 90 (40000 * t + (i.toNatClampNeg + k.toNatClampNeg)) (v &&& 65535).toInt32) : tnI σ υ t r s i (k + 1) c' := by
  obtain ⟨g1, g2, g3, g4, g5, ⟨K, gk, gl, gv⟩, g6⟩ := h
  have u := mn_u g3 hk hs.2.1
  have cs := cn_succ g3 u.2.2.2.2.2.2.1
  have ks : k.toNatClampNeg < nL σ s := cn_lt g3 u.2.2.2.2.2.2.2
  have ey : y = σ.2.2.1 90 (40000 * s + k.toNatClampNeg) := by rw [hy]; exact (g1.2.2.2.2 s (fun z => hts (List.mem_singleton.mp z))).2 _ (by omega)
  have dx : 0 ≤ x ∧ x < 65536 := by rw [hx]; exact g5 _ (by omega)
  have dy : 0 ≤ y ∧ y < 65536 := by rw [ey]; exact hs.2.2.1 _ ks
  have dd := d_n (hr.2.2.1 _ hi)
  have w := tm_v dx dy ha dd.1 gk gl
  rw [← hv] at w
  have la := l_and w.2.1
  have ls := l_shr w.2.1
  rw [← hc] at ls
  have r90 : ∀ j, υ.2.2.1 90 j = if j = 40000 * t + (i.toNatClampNeg + k.toNatClampNeg) then (v &&& 65535).toInt32 else τ.2.2.1 90 j := fun j => by rw [hu, ri4]
  have up := dv_upd (f := τ.2.2.1 90) (g := υ.2.2.1 90) (o := 40000 * t) (j := i.toNatClampNeg + k.toNatClampNeg) (fun j hj => by rw [r90, if_neg hj]) (n := nL σ r + nL σ s) (by omega)
  rw [r90, if_pos rfl, ← hx] at up
  have ca := cn_int la.2.1
  have an : (v &&& 65535).toInt32.toNatClampNeg = (x.toNatClampNeg + (σ.2.2.1 90 (40000 * r + i.toNatClampNeg)).toNatClampNeg * y.toNatClampNeg + K) % 65536 := by
    rw [la.1, w.1] at ca
    omega
  rw [an] at up
  refine ⟨frN_tr g1 (by rw [hu]; exact frN_90 (by omega)), by rw [hu, ri3 (by decide)]; exact g2, u.1, u.2.1, fun j hj => ?_, ⟨(x.toNatClampNeg + (σ.2.2.1 90 (40000 * r + i.toNatClampNeg)).toNatClampNeg * y.toNatClampNeg + K) / 65536, by rw [ls.1, w.1]; omega, by omega, ?_⟩, fun j hj hj2 => ?_⟩
  · rw [r90]
    by_cases e : j = i.toNatClampNeg + k.toNatClampNeg
    · rw [e, if_pos rfl]; exact la.2
    · rw [if_neg (by omega)]; exact g5 j hj
  · rw [cs, dv_s, ← ey, ← Nat.add_assoc, pw_s, Nat.pow_add]
    rw [Nat.pow_add] at gv up
    exact ar_t (P := 0) gv rfl up
  · rw [r90, if_neg (by omega)]
    exact g6 j hj hj2
theorem tm_step {σ τ υ : rS} {t r s : Nat} {i k : Int32} {c : Int64} (hr : numO σ r) (hs : numO σ s) (hL : nL σ r + nL σ s ≤ 40000) (i0 : 0 ≤ i) (hi : ¬ σ.2.2.1 91 r ≤ i) (h : tnI σ τ t r s i k c) (hk : σ.2.2.1 91 s ≤ k) (hu : υ = riU τ 90 (40000 * t + (i.toNatClampNeg + nL σ s)) c.toInt32) : tmIR9 σ υ t r s (i + 1) := by
  obtain ⟨g1, g2, g3, g4, g5, ⟨K, gk, gl, gv⟩, g6⟩ := h
  have ek : k = σ.2.2.1 91 s := Int32.le_antisymm g4 hk
  have u := mn_u i0 hi hr.2.1
  have cs := cn_succ i0 u.2.2.2.2.2.2.1
  have ir : i.toNatClampNeg < nL σ r := cn_lt i0 u.2.2.2.2.2.2.2
  have l := l_32 gk gl
  have r90 : ∀ j, υ.2.2.1 90 j = if j = 40000 * t + (i.toNatClampNeg + nL σ s) then c.toInt32 else τ.2.2.1 90 j := fun j => by rw [hu, ri4]
  have up := dv_upd (f := τ.2.2.1 90) (g := υ.2.2.1 90) (o := 40000 * t) (j := i.toNatClampNeg + nL σ s) (fun j hj => by rw [r90, if_neg hj]) (n := nL σ r + nL σ s) (by omega)
  rw [r90, if_pos rfl, l.2, g6 _ (Nat.le_refl _) (by omega), show (0 : Int32).toNatClampNeg = 0 from rfl, Nat.zero_mul] at up
  rw [ek] at gv
  refine ⟨frN_tr g1 (by rw [hu]; exact frN_90 (by omega)), by rw [hu, ri3 (by decide)]; exact g2, u.1, u.2.1, fun j hj => ?_, ?_, fun j hj hj2 => ?_⟩
  · rw [r90]
    by_cases e : j = i.toNatClampNeg + nL σ s
    · rw [e, if_pos rfl]; exact l.1
    · rw [if_neg (by omega)]; exact g5 j hj
  · rw [cs, dv_s, Nat.add_mul]
    have e : dv (τ.2.2.1 90) (40000 * t) (nL σ r + nL σ s) + K * 65536 ^ (i.toNatClampNeg + nL σ s) = dv (σ.2.2.1 90) (40000 * r) i.toNatClampNeg * nV σ s + (σ.2.2.1 90 (40000 * r + i.toNatClampNeg)).toNatClampNeg * 65536 ^ i.toNatClampNeg * nV σ s := gv
    omega
  · rw [cs] at hj
    rw [r90, if_neg (by omega)]
    exact g6 j (by omega) hj2
theorem ad_nR9 {σ : rS} {r s : Nat} (hr : numO σ r) (hs : numO σ s) (hL : nL σ r + nL σ s ≤ 40000) : 0 ≤ σ.2.2.1 91 r + σ.2.2.1 91 s ∧ σ.2.2.1 91 r + σ.2.2.1 91 s ≤ 40000 ∧ (σ.2.2.1 91 r + σ.2.2.1 91 s).toNatClampNeg = nL σ r + nL σ s := by
  have a := cn_int hr.1
  have b := cn_int hs.1
  rw [show (σ.2.2.1 91 r).toNatClampNeg = nL σ r from rfl] at a
  rw [show (σ.2.2.1 91 s).toNatClampNeg = nL σ s from rfl] at b
  have e := i_add hr.1 hs.1 (by omega)
  have z : 0 ≤ σ.2.2.1 91 r + σ.2.2.1 91 s := Int32.le_iff_toInt_le.mpr (by rw [e, Int32.toInt_zero]; omega)
  have c := cn_int z
  exact ⟨z, Int32.le_iff_toInt_le.mpr (by rw [e, show (40000 : Int32).toInt = 40000 from rfl]; omega), by omega⟩
theorem times_c {C : rCx} (hC : cOK C)  {σ : rS} {a1 : Int32} {a2 : Int32} {a3 : Int32} {Q : rS → Prop} (hp : 0 ≤ a1 ∧ a1 < 30 ∧ 0 ≤ a2 ∧ a2 < 30 ∧ 0 ≤ a3 ∧ a3 < 30 ∧ a2 ≠ a1 ∧ a3 ≠ a1 ∧ numO σ a2.toNatClampNeg ∧ numO σ a3.toNatClampNeg ∧ nL σ a2.toNatClampNeg + nL σ a3.toNatClampNeg ≤ 40000) (h : ∀ (σ' : rS), (frN [a1.toNatClampNeg] σ σ' ∧ numO σ' a1.toNatClampNeg ∧ nV σ' a1.toNatClampNeg = nV σ a2.toNatClampNeg * nV σ a3.toNatClampNeg ∧ nL σ' a1.toNatClampNeg ≤ nL σ a2.toNatClampNeg + nL σ a3.toNatClampNeg) → Q σ') : cV C 1 m_times [.ref (co C), .int a1, .int a2, .int a3] σ Q := by
  refine m_times_run hC ?_
  unfold w_times_0
  obtain ⟨h0, h1, h2, h3, h4, h5, hne, hnf, hr, hs, hL⟩ := hp
  have rne : a2.toNatClampNeg ≠ a1.toNatClampNeg := fun e => hne (cn_inj h2 h0 e)
  have sne : a3.toNatClampNeg ≠ a1.toNatClampNeg := fun e => hnf (cn_inj h4 h0 e)
  refine ⟨ib_30.mpr ?_, ?_⟩
  · clear h; exact ⟨h2, h3⟩  -- b1
  refine ⟨ib_30.mpr ?_, ?_⟩
  · clear h; exact ⟨h4, h5⟩  -- b2
  intro x1 hx1
  have nn := ad_nR9 hr hs hL
  rw [← hx1] at nn
  unfold w_times_18
  refine ⟨fun n l1 l2 l3 l4 l5 τ => n = (l4 - l5).toNatClampNeg ∧ (l1 = a1 ∧ l2 = a2 ∧ l3 = a3 ∧ 0 ≤ l4 ∧ l4 ≤ 40000 ∧ l4.toNatClampNeg = nL σ a2.toNatClampNeg + nL σ a3.toNatClampNeg ∧ frN [a1.toNatClampNeg] σ τ ∧ τ.2.2.1 91 = σ.2.2.1 91 ∧ 0 ≤ l5 ∧ l5 ≤ l4 ∧ ∀ i, i < l5.toNatClampNeg → τ.2.2.1 90 (40000 * a1.toNatClampNeg + i) = 0), ⟨_, rfl, ?_⟩, ?_⟩
  · clear h; exact ⟨rfl, rfl, rfl, nn.1, nn.2.1, nn.2.2, frN_refl, rfl, by decide, nn.1, fun i hi => absurd hi (Nat.not_lt_zero i)⟩  -- j3
  rintro n18 x18_1 x18_2 x18_3 x18_4 x18_5 σ18 ⟨hn18, i18⟩
  obtain ⟨e1, e2, e3, n0, n1, nm, z1, z2, z3, z4, z5⟩ := i18
  refine ⟨fun c2 => ?_, fun c2 => ?_⟩
  · skip
    unfold w_times_48
    refine ⟨fun n l1 l2 l3 l4 l5 τ => n = (rd σ 91 a2 - l5).toNatClampNeg ∧ (l1 = a1 ∧ l2 = a2 ∧ l3 = a3 ∧ l4 = x18_4 ∧ tmIR9 σ τ a1.toNatClampNeg a2.toNatClampNeg a3.toNatClampNeg l5), ⟨_, rfl, ?_⟩, ?_⟩
    · clear h; have ek : x18_5 = x18_4 := Int32.le_antisymm z4 c2
      rw [ek, nm] at z5
      refine ⟨e1, e2, e3, rfl, z1, z2, by decide, hr.1, fun i hi => ?_, ?_, fun j _ hj => z5 j hj⟩
      · rw [z5 i hi]; exact ⟨by decide, by decide⟩
      · rw [dv_0 z5]
        exact (Nat.zero_mul _).symm
    rintro n48 x48_1 x48_2 x48_3 x48_4 x48_5 σ48 ⟨hn48, i48⟩
    obtain ⟨f1, f2, f3, f4, I⟩ := i48
    refine ⟨ib_30.mpr ?_, ?_⟩
    · clear h; rw [f2]; exact ⟨h2, h3⟩  -- b5
    refine ⟨fun c3 => ?_, fun c3 => ?_⟩
    · skip
      refine ⟨ib_30.mpr ?_, ?_⟩
      · clear h; rw [f1]; exact ⟨h0, h1⟩  -- b6
      intro σ_4 hσ_4
      refine trim_v hC  ?_ (fun σ_5 q6 => ?_)
      · clear h; rw [f1, f4] at hσ_4
        have el : σ_4.2.2.1 91 a1.toNatClampNeg = x18_4 := by rw [hσ_4, ri4, if_pos rfl]
        have r90 : σ_4.2.2.1 90 = σ48.2.2.1 90 := by rw [hσ_4, ri3 (by decide)]
        rw [f1]
        refine ⟨h0, h1, by rw [rd, el]; exact n0, by rw [rd, el]; exact n1, ?_⟩
        show dgO _ _ (σ_4.2.2.1 91 a1.toNatClampNeg).toNatClampNeg
        rw [el, nm, r90]
        exact I.2.2.2.2.1
      rw [f1] at q6
      refine h _ ?_
      · clear h; rw [f1, f4] at hσ_4
        have el : nL σ_4 a1.toNatClampNeg = nL σ a2.toNatClampNeg + nL σ a3.toNatClampNeg := by show (σ_4.2.2.1 91 a1.toNatClampNeg).toNatClampNeg = _; rw [hσ_4, ri4, if_pos rfl, nm]
        have r90 : σ_4.2.2.1 90 = σ48.2.2.1 90 := by rw [hσ_4, ri3 (by decide)]
        have F : frN [a1.toNatClampNeg] σ48 σ_4 := by rw [hσ_4]; exact frN_91
        rw [f2, I.2.1] at c3
        have ek : x48_5 = σ.2.2.1 91 a2.toNatClampNeg := Int32.le_antisymm I.2.2.2.1 c3
        refine ⟨frN_tr I.1 (frN_tr F q6.1), q6.2.1, ?_, by rw [← el]; exact q6.2.2.2⟩
        rw [q6.2.2.1, el, r90, I.2.2.2.2.2.1, ek]
        rfl
    · skip
      rw [f2, I.2.1] at c3
      have u := mn_u I.2.2.1 c3 hr.2.1
      have bi := bx h2 h3 I.2.2.1 u.2.2.2.2.2.1
      have ir : x48_5.toNatClampNeg < nL σ a2.toNatClampNeg := cn_lt I.2.2.1 u.2.2.2.2.2.2.2
      refine ⟨ib_1200000.mpr ?_, ?_⟩
      · clear h; rw [f2]; exact ⟨bi.1, bi.2.2.1 u.2.2.2.2.1⟩  -- b9
      intro x7 hx7
      intro x8 hx8
      unfold w_times_91
      refine ⟨fun n l1 l2 l3 l4 l5 l6 l8 l10 l11 τ => n = (rd σ 91 a3 - l11).toNatClampNeg ∧ (l1 = a1 ∧ l2 = a2 ∧ l3 = a3 ∧ l4 = x18_4 ∧ l5 = x48_5 ∧ l6.toInt = ((σ.2.2.1 90 (40000 * a2.toNatClampNeg + x48_5.toNatClampNeg)).toNatClampNeg : Int) ∧ l10 = 40000 * a1 + x48_5 ∧ tnI σ τ a1.toNatClampNeg a2.toNatClampNeg a3.toNatClampNeg x48_5 l11 l8), ⟨_, rfl, ?_⟩, ?_⟩
      · clear h; refine ⟨f1, f2, f3, f4, rfl, ?_, by rw [hx8, f1], I.1, I.2.1, by decide, hs.1, I.2.2.2.2.1, ⟨0, rfl, by decide, ?_⟩, I.2.2.2.2.2.2⟩
        · rw [hx7, Int32.toInt_toInt64, f2, bi.2.1, (I.1.2.2.2.2 a2.toNatClampNeg (fun z => rne (List.mem_singleton.mp z))).2 _ (by omega)]
          exact (cn_int (hr.2.2.1 _ ir).1).symm
        · rw [I.2.2.2.2.2.1, Nat.zero_mul]
          rfl
      rintro n91 x91_1 x91_2 x91_3 x91_4 x91_5 x91_6 x91_8 x91_10 x91_11 σ91 ⟨hn91, i91⟩
      obtain ⟨k1, k2, k3, k4, k5, k6, k7, J⟩ := i91
      refine ⟨ib_30.mpr ?_, ?_⟩
      · clear h; rw [k3]; exact ⟨h4, h5⟩  -- b11
      have e9 : rd σ91 91 x91_3 = σ.2.2.1 91 a3.toNatClampNeg := by rw [rd, k3, J.2.1]
      have wx := ik I.2.2.1 hs.1 (by show _ + nL σ a3.toNatClampNeg < _; omega)
      have bw := bx h0 h1 wx.1 wx.2.2.1
      have ew : x91_10 + rd σ91 91 x91_3 = 40000 * a1 + (x48_5 + σ.2.2.1 91 a3.toNatClampNeg) := by rw [e9, k7, Int32.add_assoc]
      refine ⟨fun c9 => ?_, fun c9 => ?_⟩
      · skip
        refine ⟨ib_30.mpr ?_, ?_⟩
        · clear h; rw [k3]; exact ⟨h4, h5⟩  -- b12
        refine ⟨ib_1200000.mpr ?_, ?_⟩
        · clear h; show 0 ≤ x91_10 + rd σ91 91 x91_3 ∧ x91_10 + rd σ91 91 x91_3 < _
          rw [ew]; exact ⟨bw.1, bw.2.2.1 wx.2.1⟩
        intro σ_10 hσ_10
        intro x11 hx11
        refine ⟨_, cn_lt2 hn48 ?_ ?_, rfl, ?_⟩
        · clear h; rw [hx11, k5]; exact u.2.2.1  -- d14
        · clear h; rw [hx11, k5]; exact u.2.2.2.1  -- d15
        · clear h; rw [hx11, k5]
          refine ⟨k1, k2, k3, k4, tm_step hr hs hL I.2.2.1 c3 J (by rw [← e9]; exact c9) ?_⟩
          rw [hσ_10]
          show riU σ91 90 (x91_10 + rd σ91 91 x91_3).toNatClampNeg _ = _
          rw [ew, bw.2.1, wx.2.2.2]
      · skip
        rw [k3, J.2.1] at c9
        have v := mn_u J.2.2.1 c9 hs.2.1
        have ks : x91_11.toNatClampNeg < nL σ a3.toNatClampNeg := cn_lt J.2.2.1 v.2.2.2.2.2.2.2
        have wx := ik I.2.2.1 J.2.2.1 (by omega)
        have bw := bx h0 h1 wx.1 wx.2.2.1
        have bk := bx h4 h5 J.2.2.1 v.2.2.2.2.2.1
        have ew : x91_10 + x91_11 = 40000 * a1 + (x48_5 + x91_11) := by rw [k7, Int32.add_assoc]
        refine ⟨ib_1200000.mpr ?_, ?_⟩
        · clear h; rw [ew]; exact ⟨bw.1, bw.2.2.1 wx.2.1⟩  -- b17
        refine ⟨ib_1200000.mpr ?_, ?_⟩
        · clear h; rw [k3]; exact ⟨bk.1, bk.2.2.1 v.2.2.2.2.1⟩  -- b18
        intro x12 hx12
        refine ⟨ib_1200000.mpr ?_, ?_⟩
        · clear h; rw [ew]; exact ⟨bw.1, bw.2.2.1 wx.2.1⟩  -- b19
        intro σ_13 hσ_13
        intro x14 hx14
        intro x15 hx15
        refine ⟨_, cn_lt2 hn91 ?_ ?_, rfl, ?_⟩
        · clear h; rw [hx15]; exact v.2.2.1  -- d20
        · clear h; rw [hx15]; exact v.2.2.2.1  -- d21
        · clear h; rw [hx15]
          rw [ew, bw.2.1, wx.2.2.2] at hσ_13 hx12
          rw [k3, bk.2.1] at hx12
          exact ⟨k1, k2, k3, k4, k5, k6, k7, tn_step sne hr hs hL I.2.2.1 ir J c9 k6 rfl rfl hx12 hx14 hσ_13⟩
  · skip
    have u := mn_u z3 c2 n1
    have bb := bx h0 h1 z3 u.2.2.2.2.2.1
    have kl : x18_5.toNatClampNeg < 40000 := by have := cn_lt z3 u.2.2.2.2.1; rwa [show (40000 : Int32).toNatClampNeg = 40000 from rfl] at this
    refine ⟨ib_1200000.mpr ?_, ?_⟩
    · clear h; rw [e1]; exact ⟨bb.1, bb.2.2.1 u.2.2.2.2.1⟩  -- b23
    intro σ_16 hσ_16
    intro x17 hx17
    refine ⟨_, cn_lt2 hn18 ?_ ?_, rfl, ?_⟩
    · clear h; rw [hx17]; exact u.2.2.1  -- d24
    · clear h; rw [hx17]; exact u.2.2.2.1  -- d25
    · clear h; rw [hx17]
      rw [e1, bb.2.1] at hσ_16
      have cs := cn_succ z3 u.2.2.2.2.2.2.1
      refine ⟨e1, e2, e3, n0, n1, nm, frN_tr z1 (by rw [hσ_16]; exact frN_90 kl), by rw [hσ_16, ri3 (by decide)]; exact z2, u.1, u.2.1, fun i hi => ?_⟩
      rw [cs] at hi
      rw [hσ_16, ri4]
      by_cases e : i = x18_5.toNatClampNeg
      · rw [e, if_pos rfl]
      · rw [if_neg (by omega)]; exact z5 i (by omega)
