set_option maxHeartbeats 1600000
/-! the reference: fractions kept in rows -/
/-- only places from l below u of the row k differ -/
def frR (k l u : Nat) (σ τ : rS) : Prop := τ.1 = σ.1 ∧ τ.2.1 = σ.2.1 ∧ (∀ j, j ≠ k → τ.2.2.1 j = σ.2.2.1 j) ∧ τ.2.2.2 = σ.2.2.2 ∧ ∀ i, (i < l ∨ u ≤ i) → τ.2.2.1 k i = σ.2.2.1 k i
theorem frR_refl {k l u : Nat} {σ : rS} : frR k l u σ σ := ⟨rfl, rfl, fun _ _ => rfl, rfl, fun _ _ => rfl⟩
theorem frR_tr {k l u : Nat} {σ τ υ : rS} (h : frR k l u σ τ) (g : frR k l u τ υ) : frR k l u σ υ := ⟨g.1.trans h.1, g.2.1.trans h.2.1, fun j z => (g.2.2.1 j z).trans (h.2.2.1 j z), g.2.2.2.1.trans h.2.2.2.1, fun i z => (g.2.2.2.2 i z).trans (h.2.2.2.2 i z)⟩
theorem frR_w {k l u i : Nat} {σ : rS} {x : Int32} (h1 : l ≤ i) (h2 : i < u) : frR k l u σ (riU σ k i x) := ⟨rfl, rfl, fun j z => ri3 z, rfl, fun j z => by rw [ri4, if_neg (by omega)]⟩
/-- a number of at most m places, its length L apart -/
def gO (f : Nat → Int32) (L : Int32) (o : Nat) (m : Int32) : Prop := 0 ≤ L ∧ L ≤ m ∧ dgO f o L.toNatClampNeg ∧ (L.toNatClampNeg = 0 ∨ ∃ t, L.toNatClampNeg = t + 1 ∧ (f (o + t)).toNatClampNeg ≠ 0)
theorem gO_c {f g : Nat → Int32} {L M m m' : Int32} {o p : Nat} (h : gO f L o m) (e : M = L) (hm : L ≤ m') (hc : ∀ i, i < L.toNatClampNeg → g (p + i) = f (o + i)) : gO g M p m' ∧ dv g p M.toNatClampNeg = dv f o L.toNatClampNeg := by
  rw [e]
  refine ⟨⟨h.1, hm, fun i hi => by rw [hc i hi]; exact h.2.2.1 i hi, ?_⟩, dv_congr hc⟩
  rcases h.2.2.2 with z | ⟨t, z1, z2⟩
  · exact Or.inl z
  · exact Or.inr ⟨t, z1, by rw [hc t (by omega)]; exact z2⟩
/-- a number in a row, its length before it -/
def slN (σ : rS) (k c : Nat) (m : Int32) : Prop := gO (σ.2.2.1 k) (σ.2.2.1 k c) (c + 1) m
def slV (σ : rS) (k c : Nat) : Nat := dv (σ.2.2.1 k) (c + 1) (σ.2.2.1 k c).toNatClampNeg
theorem m260 {a : Int32} (h0 : 0 ≤ a) (h1 : a < 2176) : 0 ≤ 260 * a ∧ (260 * a).toInt = 260 * a.toInt ∧ a.toNatClampNeg < 2176 ∧ (260 * a).toNatClampNeg = 260 * a.toNatClampNeg := by
  have a2 := t0 h0
  have a3 := Int32.lt_iff_toInt_lt.mp h1
  rw [show (2176 : Int32).toInt = 2176 from rfl] at a3
  have e : (260 * a).toInt = 260 * a.toInt := by
    rw [Int32.toInt_mul, show (260 : Int32).toInt = 260 from rfl]
    exact Int.bmod_eq_of_le (by omega) (by omega)
  have z : 0 ≤ 260 * a := Int32.le_iff_toInt_le.mpr (by rw [e, Int32.toInt_zero]; omega)
  have c := cn_int h0
  have d := cn_int z
  exact ⟨z, e, by omega, by omega⟩
theorem sx {a j k : Int32} (h0 : 0 ≤ a) (h1 : a < 2176) (hj : 0 ≤ j) (hk : 0 ≤ k) (h : j.toNatClampNeg + k.toNatClampNeg < 260) : (0 ≤ 260 * a + j + k ∧ 260 * a + j + k < 566000) ∧ (260 * a + j + k).toNatClampNeg = 260 * a.toNatClampNeg + j.toNatClampNeg + k.toNatClampNeg := by
  have m := m260 h0 h1
  have a2 := t0 h0
  have a3 := Int32.lt_iff_toInt_lt.mp h1
  rw [show (2176 : Int32).toInt = 2176 from rfl] at a3
  have cj := cn_int hj
  have ck := cn_int hk
  have ca := cn_int h0
  have e1 := i_add m.1 hj (by omega)
  have z1 : 0 ≤ 260 * a + j := Int32.le_iff_toInt_le.mpr (by rw [e1, Int32.toInt_zero]; omega)
  have e2 := i_add z1 hk (by omega)
  have z2 : 0 ≤ 260 * a + j + k := Int32.le_iff_toInt_le.mpr (by rw [e2, Int32.toInt_zero]; omega)
  have c := cn_int z2
  exact ⟨⟨z2, Int32.lt_iff_toInt_lt.mpr (by rw [e2, show (566000 : Int32).toInt = 566000 from rfl]; omega)⟩, by omega⟩
theorem sx1 {a j : Int32} (h0 : 0 ≤ a) (h1 : a < 2176) (hj : 0 ≤ j) (h : j.toNatClampNeg < 260) : (0 ≤ 260 * a + j ∧ 260 * a + j < 566000) ∧ (260 * a + j).toNatClampNeg = 260 * a.toNatClampNeg + j.toNatClampNeg := by
  have s := sx h0 h1 hj (k := 0) (by decide) (by show _ + 0 < _; omega)
  rw [Int32.add_zero] at s
  exact s
theorem le129 {σ : rS} {r : Nat} (hr : numO σ r) (h : nL σ r ≤ 129) : σ.2.2.1 91 r ≤ 129 := (cn_li hr.1 (by decide)).mpr h
/-- while a number is copied out: k places are done -/
def kpI (f g : Nat → Int32) (o p : Nat) (L k : Int32) : Prop := 0 ≤ k ∧ k ≤ L ∧ ∀ i, i < k.toNatClampNeg → g (p + i) = f (o + i)
theorem kp_s {f g g' : Nat → Int32} {o p : Nat} {L k : Int32} (h : kpI f g o p L k) (hL : L ≤ 40000) (hk : ¬ L ≤ k) (hg : ∀ i, g' i = if i = p + k.toNatClampNeg then f (o + k.toNatClampNeg) else g i) : kpI f g' o p L (k + 1) := by
  have u := mn_u h.1 hk hL
  refine ⟨u.1, u.2.1, fun i hi => ?_⟩
  rw [cn_succ h.1 u.2.2.2.2.2.2.1] at hi
  rw [hg]
  by_cases e : i = k.toNatClampNeg
  · rw [e, if_pos rfl]
  · rw [if_neg (by omega)]
    exact h.2.2 i (by omega)
theorem kp_k {f g g' : Nat → Int32} {o p : Nat} {L k : Int32} (h : kpI f g o p L k) (hg : ∀ i, i < k.toNatClampNeg → g' (p + i) = g (p + i)) : kpI f g' o p L k := ⟨h.1, h.2.1, fun i hi => by rw [hg i hi]; exact h.2.2 i hi⟩
theorem keepIn_c {C : rCx} (hC : cOK C)  {σ : rS} {a1 : Int32} {a2 : Int32} {a3 : Int32} {Q : rS → Prop} (hp : 0 ≤ a1 ∧ a1 < 2176 ∧ 0 ≤ a2 ∧ a2 < 30 ∧ 0 ≤ a3 ∧ a3 < 30 ∧ numO σ a2.toNatClampNeg ∧ numO σ a3.toNatClampNeg ∧ nL σ a2.toNatClampNeg ≤ 129 ∧ nL σ a3.toNatClampNeg ≤ 129) (h : ∀ (σ' : rS), (frR 93 (260 * a1.toNatClampNeg) (260 * a1.toNatClampNeg + 260) σ σ' ∧ slN σ' 93 (260 * a1.toNatClampNeg) 129 ∧ slN σ' 93 (260 * a1.toNatClampNeg + 130) 129 ∧ slV σ' 93 (260 * a1.toNatClampNeg) = nV σ a2.toNatClampNeg ∧ slV σ' 93 (260 * a1.toNatClampNeg + 130) = nV σ a3.toNatClampNeg) → Q σ') : cV C 0 m_keepIn [.ref (co C), .int a1, .int a2, .int a3] σ Q := by
  refine m_keepIn_run hC ?_
  unfold w_keepIn_0
  obtain ⟨h0, h1, h2, h3, h4, h5, hn, hd, ln, ld⟩ := hp
  have ma := m260 h0 h1
  have mb := sx1 h0 h1 (j := 0) (by decide) (by decide)
  rw [Int32.add_zero] at mb
  have mc := sx1 h0 h1 (j := 130) (by decide) (by decide)
  rw [show (130 : Int32).toNatClampNeg = 130 from rfl] at mc
  have l1 := le129 hn ln
  have l2 := le129 hd ld
  have ln' : (σ.2.2.1 91 a2.toNatClampNeg).toNatClampNeg ≤ 129 := ln
  have ld' : (σ.2.2.1 91 a3.toNatClampNeg).toNatClampNeg ≤ 129 := ld
  intro x1 hx1
  refine ⟨ib_30.mpr ?_, ?_⟩
  · clear h; exact ⟨h2, h3⟩  -- b1
  refine ⟨ib_566000.mpr ?_, ?_⟩
  · clear h; rw [hx1]; exact mb.1  -- b2
  intro σ_2 hσ_2
  refine ⟨ib_30.mpr ?_, ?_⟩
  · clear h; exact ⟨h4, h5⟩  -- b3
  refine ⟨ib_566000.mpr ?_, ?_⟩
  · clear h; rw [hx1]; exact mc.1  -- b4
  intro σ_3 hσ_3
  unfold w_keepIn_40
  refine ⟨fun n l2 l3 l4 l5 τ => n = (rd σ 91 a2 - l5).toNatClampNeg ∧ (l2 = a2 ∧ l3 = a3 ∧ l4 = 260 * a1 ∧ frR 93 (260 * a1.toNatClampNeg) (260 * a1.toNatClampNeg + 260) σ τ ∧ τ.2.2.1 93 (260 * a1.toNatClampNeg) = σ.2.2.1 91 a2.toNatClampNeg ∧ τ.2.2.1 93 (260 * a1.toNatClampNeg + 130) = σ.2.2.1 91 a3.toNatClampNeg ∧ kpI (σ.2.2.1 90) (τ.2.2.1 93) (40000 * a2.toNatClampNeg) (260 * a1.toNatClampNeg + 1) (σ.2.2.1 91 a2.toNatClampNeg) l5), ⟨_, rfl, ?_⟩, ?_⟩
  · clear h; rw [hx1, ma.2.2.2] at hσ_2
    rw [hx1, mc.2] at hσ_3
    refine ⟨rfl, rfl, hx1, frR_tr (τ := σ_2) (by rw [hσ_2]; exact frR_w (by omega) (by omega)) (by rw [hσ_3]; exact frR_w (by omega) (by omega)), ?_, ?_, by decide, hn.1, fun i hi => absurd hi (Nat.not_lt_zero i)⟩
    · rw [hσ_3, ri4, if_neg (by omega), hσ_2, ri4, if_pos rfl]
    · rw [hσ_3, ri4, if_pos rfl, hσ_2, ri3 (by decide)]
  rintro n40 x40_2 x40_3 x40_4 x40_5 σ40 ⟨hn40, i40⟩
  obtain ⟨e2, e3, e4, F, c0, c1, K⟩ := i40
  have r91 : σ40.2.2.1 91 = σ.2.2.1 91 := F.2.2.1 91 (by decide)
  have r90 : σ40.2.2.1 90 = σ.2.2.1 90 := F.2.2.1 90 (by decide)
  refine ⟨ib_30.mpr ?_, ?_⟩
  · clear h; rw [e2]; exact ⟨h2, h3⟩  -- b6
  refine ⟨fun c4 => ?_, fun c4 => ?_⟩
  · skip
    unfold w_keepIn_85
    refine ⟨fun n l3 l4 l5 τ => n = (rd σ 91 a3 - l5).toNatClampNeg ∧ (l3 = a3 ∧ l4 = 260 * a1 ∧ frR 93 (260 * a1.toNatClampNeg) (260 * a1.toNatClampNeg + 260) σ τ ∧ τ.2.2.1 93 (260 * a1.toNatClampNeg) = σ.2.2.1 91 a2.toNatClampNeg ∧ τ.2.2.1 93 (260 * a1.toNatClampNeg + 130) = σ.2.2.1 91 a3.toNatClampNeg ∧ kpI (σ.2.2.1 90) (τ.2.2.1 93) (40000 * a2.toNatClampNeg) (260 * a1.toNatClampNeg + 1) (σ.2.2.1 91 a2.toNatClampNeg) (σ.2.2.1 91 a2.toNatClampNeg) ∧ kpI (σ.2.2.1 90) (τ.2.2.1 93) (40000 * a3.toNatClampNeg) (260 * a1.toNatClampNeg + 130 + 1) (σ.2.2.1 91 a3.toNatClampNeg) l5), ⟨_, rfl, ?_⟩, ?_⟩
    · clear h; rw [e2, r91] at c4
      rw [show x40_5 = σ.2.2.1 91 a2.toNatClampNeg from Int32.le_antisymm K.2.1 c4] at K
      exact ⟨e3, e4, F, c0, c1, K, by decide, hd.1, fun i hi => absurd hi (Nat.not_lt_zero i)⟩
    rintro n85 x85_3 x85_4 x85_5 σ85 ⟨hn85, i85⟩
    obtain ⟨f3, f4, G, d0, d1, K1, K2⟩ := i85
    have t91 : σ85.2.2.1 91 = σ.2.2.1 91 := G.2.2.1 91 (by decide)
    have t90 : σ85.2.2.1 90 = σ.2.2.1 90 := G.2.2.1 90 (by decide)
    refine ⟨ib_30.mpr ?_, ?_⟩
    · clear h; rw [f3]; exact ⟨h4, h5⟩  -- b8
    refine ⟨fun c5 => ?_, fun c5 => ?_⟩
    · skip
      refine h _ ?_
      · clear h; rw [f3, t91] at c5
        rw [show x85_5 = σ.2.2.1 91 a3.toNatClampNeg from Int32.le_antisymm K2.2.1 c5] at K2
        have N := gO_c (m := 40000) hn d0 l1 K1.2.2
        have D := gO_c (m := 40000) hd d1 l2 K2.2.2
        exact ⟨G, N.1, D.1, N.2, D.2⟩
    · skip
      rw [f3, t91] at c5
      have u := mn_u K2.1 c5 hd.2.1
      have kl : x85_5.toNatClampNeg < (σ.2.2.1 91 a3.toNatClampNeg).toNatClampNeg := cn_lt K2.1 u.2.2.2.2.2.2.2
      have b9 := bx h4 h5 K2.1 u.2.2.2.2.2.1
      have s := sx h0 h1 (j := 131) (by decide) K2.1 (by show 131 + _ < _; omega)
      have s2 : (260 * a1 + 131 + x85_5).toNatClampNeg = 260 * a1.toNatClampNeg + 130 + 1 + x85_5.toNatClampNeg := s.2
      have ea : x85_4 + 130 + 1 + x85_5 = 260 * a1 + 131 + x85_5 := by rw [f4, Int32.add_assoc (260 * a1), show (130 : Int32) + 1 = 131 from rfl]
      refine ⟨ib_1200000.mpr ?_, ?_⟩
      · clear h; rw [f3]; exact ⟨b9.1, b9.2.2.1 u.2.2.2.2.1⟩  -- b10
      refine ⟨ib_566000.mpr ?_, ?_⟩
      · clear h; rw [ea]; exact s.1  -- b11
      intro σ_6 hσ_6
      intro x7 hx7
      refine ⟨_, cn_lt2 hn85 ?_ ?_, rfl, ?_⟩
      · clear h; rw [hx7]; exact u.2.2.1  -- d12
      · clear h; rw [hx7]; exact u.2.2.2.1  -- d13
      · clear h; rw [ea, s2, f3, b9.2.1, t90] at hσ_6
        have r93 : ∀ i, σ_6.2.2.1 93 i = if i = 260 * a1.toNatClampNeg + 130 + 1 + x85_5.toNatClampNeg then σ.2.2.1 90 (40000 * a3.toNatClampNeg + x85_5.toNatClampNeg) else σ85.2.2.1 93 i := fun i => by rw [hσ_6, ri4]
        refine ⟨f3, f4, frR_tr G (by rw [hσ_6]; exact frR_w (by omega) (by omega)), by rw [r93, if_neg (by omega)]; exact d0, by rw [r93, if_neg (by omega)]; exact d1, kp_k K1 (fun i hi => by rw [r93, if_neg (by omega)]), ?_⟩
        rw [hx7]
        exact kp_s K2 hd.2.1 c5 r93
  · skip
    rw [e2, r91] at c4
    have u := mn_u K.1 c4 hn.2.1
    have kl : x40_5.toNatClampNeg < (σ.2.2.1 91 a2.toNatClampNeg).toNatClampNeg := cn_lt K.1 u.2.2.2.2.2.2.2
    have b9 := bx h2 h3 K.1 u.2.2.2.2.2.1
    have s := sx h0 h1 (j := 1) (by decide) K.1 (by show 1 + _ < _; omega)
    have s2 : (260 * a1 + 1 + x40_5).toNatClampNeg = 260 * a1.toNatClampNeg + 1 + x40_5.toNatClampNeg := s.2
    refine ⟨ib_1200000.mpr ?_, ?_⟩
    · clear h; rw [e2]; exact ⟨b9.1, b9.2.2.1 u.2.2.2.2.1⟩  -- b15
    refine ⟨ib_566000.mpr ?_, ?_⟩
    · clear h; rw [e4]; exact s.1  -- b16
    intro σ_8 hσ_8
    intro x9 hx9
    refine ⟨_, cn_lt2 hn40 ?_ ?_, rfl, ?_⟩
    · clear h; rw [hx9]; exact u.2.2.1  -- d17
    · clear h; rw [hx9]; exact u.2.2.2.1  -- d18
    · clear h; rw [e4, s2, e2, b9.2.1, r90] at hσ_8
      have r93 : ∀ i, σ_8.2.2.1 93 i = if i = 260 * a1.toNatClampNeg + 1 + x40_5.toNatClampNeg then σ.2.2.1 90 (40000 * a2.toNatClampNeg + x40_5.toNatClampNeg) else σ40.2.2.1 93 i := fun i => by rw [hσ_8, ri4]
      refine ⟨e2, e3, e4, frR_tr F (by rw [hσ_8]; exact frR_w (by omega) (by omega)), by rw [r93, if_neg (by omega)]; exact c0, by rw [r93, if_neg (by omega)]; exact c1, ?_⟩
      rw [hx9]
      exact kp_s K hn.2.1 c4 r93

theorem load_c {C : rCx} (hC : cOK C)  {σ : rS} {a1 : Int32} {a2 : Int32} {a3 : Int32} {Q : rS → Prop} (hp : 0 ≤ a1 ∧ a1 < 2176 ∧ 0 ≤ a2 ∧ a2 < 30 ∧ 0 ≤ a3 ∧ a3 < 30 ∧ a2 ≠ a3 ∧ slN σ 93 (260 * a1.toNatClampNeg) 129 ∧ slN σ 93 (260 * a1.toNatClampNeg + 130) 129) (h : ∀ (σ' : rS), (frN [a2.toNatClampNeg, a3.toNatClampNeg] σ σ' ∧ numO σ' a2.toNatClampNeg ∧ numO σ' a3.toNatClampNeg ∧ nV σ' a2.toNatClampNeg = slV σ 93 (260 * a1.toNatClampNeg) ∧ nV σ' a3.toNatClampNeg = slV σ 93 (260 * a1.toNatClampNeg + 130) ∧ nL σ' a2.toNatClampNeg ≤ 129 ∧ nL σ' a3.toNatClampNeg ≤ 129) → Q σ') : cV C 0 m_load [.ref (co C), .int a1, .int a2, .int a3] σ Q := by
  refine m_load_run hC ?_
  unfold w_load_0
  obtain ⟨h0, h1, h2, h3, h4, h5, hne, hn, hd⟩ := hp
  have cne : a2.toNatClampNeg ≠ a3.toNatClampNeg := fun e => hne (cn_inj h2 h4 e)
  have ma := m260 h0 h1
  have mb := sx1 h0 h1 (j := 0) (by decide) (by decide)
  rw [Int32.add_zero] at mb
  have mc := sx1 h0 h1 (j := 130) (by decide) (by decide)
  rw [show (130 : Int32).toNatClampNeg = 130 from rfl] at mc
  have ln : (σ.2.2.1 93 (260 * a1.toNatClampNeg)).toNatClampNeg ≤ 129 := (cn_li hn.1 (by decide)).mp hn.2.1
  have ld : (σ.2.2.1 93 (260 * a1.toNatClampNeg + 130)).toNatClampNeg ≤ 129 := (cn_li hd.1 (by decide)).mp hd.2.1
  have l1 : σ.2.2.1 93 (260 * a1.toNatClampNeg) ≤ 40000 := Int32.le_trans hn.2.1 (by decide)
  have l2 : σ.2.2.1 93 (260 * a1.toNatClampNeg + 130) ≤ 40000 := Int32.le_trans hd.2.1 (by decide)
  intro x1 hx1
  refine ⟨ib_566000.mpr ?_, ?_⟩
  · clear h; rw [hx1]; exact mb.1  -- b1
  refine ⟨ib_30.mpr ?_, ?_⟩
  · clear h; exact ⟨h2, h3⟩  -- b2
  intro σ_2 hσ_2
  refine ⟨ib_566000.mpr ?_, ?_⟩
  · clear h; rw [hx1]; exact mc.1  -- b3
  refine ⟨ib_30.mpr ?_, ?_⟩
  · clear h; exact ⟨h4, h5⟩  -- b4
  intro σ_3 hσ_3
  have mq : ∀ k, k ∈ [a2.toNatClampNeg] → k ∈ [a2.toNatClampNeg, a3.toNatClampNeg] := fun k hk => by rw [List.mem_singleton.mp hk]; exact List.mem_cons_self
  have mr : ∀ k, k ∈ [a3.toNatClampNeg] → k ∈ [a2.toNatClampNeg, a3.toNatClampNeg] := fun k hk => List.mem_cons_of_mem _ hk
  unfold w_load_40
  refine ⟨fun n l2 l3 l4 l5 τ => n = (σ.2.2.1 93 (260 * a1.toNatClampNeg) - l5).toNatClampNeg ∧ (l2 = a2 ∧ l3 = a3 ∧ l4 = 260 * a1 ∧ frN [a2.toNatClampNeg, a3.toNatClampNeg] σ τ ∧ τ.2.2.1 91 a2.toNatClampNeg = σ.2.2.1 93 (260 * a1.toNatClampNeg) ∧ τ.2.2.1 91 a3.toNatClampNeg = σ.2.2.1 93 (260 * a1.toNatClampNeg + 130) ∧ kpI (σ.2.2.1 93) (τ.2.2.1 90) (260 * a1.toNatClampNeg + 1) (40000 * a2.toNatClampNeg) (σ.2.2.1 93 (260 * a1.toNatClampNeg)) l5), ⟨_, rfl, ?_⟩, ?_⟩
  · clear h; rw [hx1, ma.2.2.2] at hσ_2
    rw [hx1, mc.2] at hσ_3
    refine ⟨rfl, rfl, hx1, frN_tr (τ := σ_2) (frN_mono (by rw [hσ_2]; exact frN_91) mq) (frN_mono (by rw [hσ_3]; exact frN_91) mr), ?_, ?_, by decide, hn.1, fun i hi => absurd hi (Nat.not_lt_zero i)⟩
    · rw [hσ_3, ri4, if_neg cne, hσ_2, ri4, if_pos rfl]
    · rw [hσ_3, ri4, if_pos rfl, hσ_2, ri3 (by decide)]
  rintro n40 x40_2 x40_3 x40_4 x40_5 σ40 ⟨hn40, i40⟩
  obtain ⟨e2, e3, e4, F, c0, c1, K⟩ := i40
  have r93 : σ40.2.2.1 93 = σ.2.2.1 93 := F.2.2.1 93 (by decide) (by decide)
  refine ⟨ib_30.mpr ?_, ?_⟩
  · clear h; rw [e2]; exact ⟨h2, h3⟩  -- b6
  refine ⟨fun c4 => ?_, fun c4 => ?_⟩
  · skip
    unfold w_load_85
    refine ⟨fun n l3 l4 l5 τ => n = (σ.2.2.1 93 (260 * a1.toNatClampNeg + 130) - l5).toNatClampNeg ∧ (l3 = a3 ∧ l4 = 260 * a1 ∧ frN [a2.toNatClampNeg, a3.toNatClampNeg] σ τ ∧ τ.2.2.1 91 a2.toNatClampNeg = σ.2.2.1 93 (260 * a1.toNatClampNeg) ∧ τ.2.2.1 91 a3.toNatClampNeg = σ.2.2.1 93 (260 * a1.toNatClampNeg + 130) ∧ kpI (σ.2.2.1 93) (τ.2.2.1 90) (260 * a1.toNatClampNeg + 1) (40000 * a2.toNatClampNeg) (σ.2.2.1 93 (260 * a1.toNatClampNeg)) (σ.2.2.1 93 (260 * a1.toNatClampNeg)) ∧ kpI (σ.2.2.1 93) (τ.2.2.1 90) (260 * a1.toNatClampNeg + 130 + 1) (40000 * a3.toNatClampNeg) (σ.2.2.1 93 (260 * a1.toNatClampNeg + 130)) l5), ⟨_, rfl, ?_⟩, ?_⟩
    · clear h; rw [e2, c0] at c4
      rw [show x40_5 = σ.2.2.1 93 (260 * a1.toNatClampNeg) from Int32.le_antisymm K.2.1 c4] at K
      exact ⟨e3, e4, F, c0, c1, K, by decide, hd.1, fun i hi => absurd hi (Nat.not_lt_zero i)⟩
    rintro n85 x85_3 x85_4 x85_5 σ85 ⟨hn85, i85⟩
    obtain ⟨f3, f4, G, d0, d1, K1, K2⟩ := i85
    have t93 : σ85.2.2.1 93 = σ.2.2.1 93 := G.2.2.1 93 (by decide) (by decide)
    refine ⟨ib_30.mpr ?_, ?_⟩
    · clear h; rw [f3]; exact ⟨h4, h5⟩  -- b8
    refine ⟨fun c5 => ?_, fun c5 => ?_⟩
    · skip
      refine h _ ?_
      · clear h; rw [f3, d1] at c5
        rw [show x85_5 = σ.2.2.1 93 (260 * a1.toNatClampNeg + 130) from Int32.le_antisymm K2.2.1 c5] at K2
        have N := gO_c (m' := 40000) hn d0 l1 K1.2.2
        have D := gO_c (m' := 40000) hd d1 l2 K2.2.2
        refine ⟨G, N.1, D.1, N.2, D.2, ?_, ?_⟩
        · show (σ85.2.2.1 91 a2.toNatClampNeg).toNatClampNeg ≤ 129
          rw [d0]; exact ln
        · show (σ85.2.2.1 91 a3.toNatClampNeg).toNatClampNeg ≤ 129
          rw [d1]; exact ld
    · skip
      rw [f3, d1] at c5
      have u := mn_u K2.1 c5 l2
      have kl : x85_5.toNatClampNeg < (σ.2.2.1 93 (260 * a1.toNatClampNeg + 130)).toNatClampNeg := cn_lt K2.1 u.2.2.2.2.2.2.2
      have b9 := bx h4 h5 K2.1 u.2.2.2.2.2.1
      have s := sx h0 h1 (j := 131) (by decide) K2.1 (by show 131 + _ < _; omega)
      have s2 : (260 * a1 + 131 + x85_5).toNatClampNeg = 260 * a1.toNatClampNeg + 130 + 1 + x85_5.toNatClampNeg := s.2
      have ea : x85_4 + 130 + 1 + x85_5 = 260 * a1 + 131 + x85_5 := by rw [f4, Int32.add_assoc (260 * a1), show (130 : Int32) + 1 = 131 from rfl]
      refine ⟨ib_566000.mpr ?_, ?_⟩
      · clear h; rw [ea]; exact s.1  -- b10
      refine ⟨ib_1200000.mpr ?_, ?_⟩
      · clear h; rw [f3]; exact ⟨b9.1, b9.2.2.1 u.2.2.2.2.1⟩  -- b11
      intro σ_6 hσ_6
      intro x7 hx7
      refine ⟨_, cn_lt2 hn85 ?_ ?_, rfl, ?_⟩
      · clear h; rw [hx7]; exact u.2.2.1  -- d12
      · clear h; rw [hx7]; exact u.2.2.2.1  -- d13
      · clear h; rw [ea, s2, f3, b9.2.1, t93] at hσ_6
        have r90 : ∀ i, σ_6.2.2.1 90 i = if i = 40000 * a3.toNatClampNeg + x85_5.toNatClampNeg then σ.2.2.1 93 (260 * a1.toNatClampNeg + 130 + 1 + x85_5.toNatClampNeg) else σ85.2.2.1 90 i := fun i => by rw [hσ_6, ri4]
        have r91 : σ_6.2.2.1 91 = σ85.2.2.1 91 := by rw [hσ_6, ri3 (by decide)]
        refine ⟨f3, f4, frN_tr G (frN_mono (by rw [hσ_6]; exact frN_90 (by omega)) mr), by rw [r91]; exact d0, by rw [r91]; exact d1, kp_k K1 (fun i hi => by rw [r90, if_neg (by omega)]), ?_⟩
        rw [hx7]
        exact kp_s K2 l2 c5 r90
  · skip
    rw [e2, c0] at c4
    have u := mn_u K.1 c4 l1
    have kl : x40_5.toNatClampNeg < (σ.2.2.1 93 (260 * a1.toNatClampNeg)).toNatClampNeg := cn_lt K.1 u.2.2.2.2.2.2.2
    have b9 := bx h2 h3 K.1 u.2.2.2.2.2.1
    have s := sx h0 h1 (j := 1) (by decide) K.1 (by show 1 + _ < _; omega)
    have s2 : (260 * a1 + 1 + x40_5).toNatClampNeg = 260 * a1.toNatClampNeg + 1 + x40_5.toNatClampNeg := s.2
    refine ⟨ib_566000.mpr ?_, ?_⟩
    · clear h; rw [e4]; exact s.1  -- b15
    refine ⟨ib_1200000.mpr ?_, ?_⟩
    · clear h; rw [e2]; exact ⟨b9.1, b9.2.2.1 u.2.2.2.2.1⟩  -- b16
    intro σ_8 hσ_8
    intro x9 hx9
    refine ⟨_, cn_lt2 hn40 ?_ ?_, rfl, ?_⟩
    · clear h; rw [hx9]; exact u.2.2.1  -- d17
    · clear h; rw [hx9]; exact u.2.2.2.1  -- d18
    · clear h; rw [e4, s2, e2, b9.2.1, r93] at hσ_8
      have r90 : ∀ i, σ_8.2.2.1 90 i = if i = 40000 * a2.toNatClampNeg + x40_5.toNatClampNeg then σ.2.2.1 93 (260 * a1.toNatClampNeg + 1 + x40_5.toNatClampNeg) else σ40.2.2.1 90 i := fun i => by rw [hσ_8, ri4]
      have r91 : σ_8.2.2.1 91 = σ40.2.2.1 91 := by rw [hσ_8, ri3 (by decide)]
      refine ⟨e2, e3, e4, frN_tr F (frN_mono (by rw [hσ_8]; exact frN_90 (by omega)) mq), by rw [r91]; exact c0, by rw [r91]; exact c1, ?_⟩
      rw [hx9]
      exact kp_s K l1 c4 r90
