set_option maxHeartbeats 1600000
/-! the reference: numbers by their values: trim, copy, set -/
/-- only the numbers of a list differ -/
def frN (l : List Nat) (σ τ : rS) : Prop := τ.1 = σ.1 ∧ τ.2.1 = σ.2.1 ∧ (∀ k, k ≠ 90 → k ≠ 91 → τ.2.2.1 k = σ.2.2.1 k) ∧ τ.2.2.2 = σ.2.2.2 ∧ ∀ k, k ∉ l → τ.2.2.1 91 k = σ.2.2.1 91 k ∧ ∀ i, i < 40000 → τ.2.2.1 90 (40000 * k + i) = σ.2.2.1 90 (40000 * k + i)
theorem frN_refl {l : List Nat} {σ : rS} : frN l σ σ := ⟨rfl, rfl, fun _ _ _ => rfl, rfl, fun _ _ => ⟨rfl, fun _ _ => rfl⟩⟩
theorem frN_tr {l : List Nat} {σ τ υ : rS} (h : frN l σ τ) (g : frN l τ υ) : frN l σ υ := ⟨g.1.trans h.1, g.2.1.trans h.2.1, fun k z1 z2 => (g.2.2.1 k z1 z2).trans (h.2.2.1 k z1 z2), g.2.2.2.1.trans h.2.2.2.1, fun k z => ⟨(g.2.2.2.2 k z).1.trans (h.2.2.2.2 k z).1, fun i hi => ((g.2.2.2.2 k z).2 i hi).trans ((h.2.2.2.2 k z).2 i hi)⟩⟩
theorem frN_mono {l m : List Nat} {σ τ : rS} (h : frN l σ τ) (hl : ∀ k, k ∈ l → k ∈ m) : frN m σ τ := ⟨h.1, h.2.1, h.2.2.1, h.2.2.2.1, fun k z => h.2.2.2.2 k (fun e => z (hl k e))⟩
theorem nL_le {σ : rS} {r : Nat} (h : numO σ r) : nL σ r ≤ 40000 := cn_le (y := 40000) rfl h.2.1
theorem nV_fr {l : List Nat} {σ τ : rS} {k : Nat} (f : frN l σ τ) (hk : k ∉ l) (h : numO σ k) : numO τ k ∧ nV τ k = nV σ k ∧ nL τ k = nL σ k := by
  have g := f.2.2.2.2 k hk
  have el : nL τ k = nL σ k := by show (τ.2.2.1 91 k).toNatClampNeg = _; rw [g.1]
  have le := nL_le h
  refine ⟨⟨by rw [g.1]; exact h.1, by rw [g.1]; exact h.2.1, fun i hi => ?_, ?_⟩, ?_, el⟩
  · rw [el] at hi
    rw [g.2 i (by omega)]; exact h.2.2.1 i hi
  · rw [el]
    rcases h.2.2.2 with z | ⟨m, z1, z2⟩
    · exact Or.inl z
    · exact Or.inr ⟨m, z1, by rw [g.2 m (by omega)]; exact z2⟩
  · unfold nV
    rw [el]
    exact dv_congr (fun i hi => g.2 i (by omega))
/-- a number's places alone are changed -/
theorem frN_90 {σ : rS} {r i : Nat} {x : Int32} (hi : i < 40000) : frN [r] σ (riU σ 90 (40000 * r + i) x) := by
  refine ⟨rfl, rfl, fun k z1 _ => ri3 z1, rfl, fun k hk => ⟨by rw [ri3 (by decide)], fun j hj => ?_⟩⟩
  have ne : k ≠ r := fun e => hk (by rw [e]; exact List.mem_singleton.mpr rfl)
  rw [ri4, if_neg (by omega)]
theorem frN_91 {σ : rS} {r : Nat} {x : Int32} : frN [r] σ (riU σ 91 r x) := by
  refine ⟨rfl, rfl, fun k _ z2 => ri3 z2, rfl, fun k hk => ⟨?_, fun j hj => by rw [ri3 (by decide)]⟩⟩
  have ne : k ≠ r := fun e => hk (by rw [e]; exact List.mem_singleton.mpr rfl)
  rw [ri4, if_neg ne]
theorem FR_funext {σ τ : rS} (h : (∀ k,  τ.1 k = σ.1 k) ∧ (∀ k,  τ.2.1 k = σ.2.1 k) ∧ (∀ k, k ≠ 91 → τ.2.2.1 k = σ.2.2.1 k) ∧ (∀ k j, k ≠ 91 → τ.2.2.1 k j = σ.2.2.1 k j) ∧ (∀ k j,  τ.2.2.2 k j = σ.2.2.2 k j)) : τ.1 = σ.1 ∧ τ.2.1 = σ.2.1 ∧ τ.2.2.2 = σ.2.2.2 := ⟨funext h.1, funext h.2.1, funext (fun k => funext (h.2.2.2.2 k))⟩
/-- trim, by values: the number of n places in order -/
theorem trim_v {C : rCx} (hC : cOK C) {σ : rS} {a1 : Int32} {Q : rS → Prop} (hp : 0 ≤ a1 ∧ a1 < 30 ∧ 0 ≤ rd σ 91 a1 ∧ rd σ 91 a1 ≤ 40000 ∧ dgO (σ.2.2.1 90) (40000 * a1.toNatClampNeg) (nL σ a1.toNatClampNeg)) (h : ∀ (σ' : rS), (frN [a1.toNatClampNeg] σ σ' ∧ numO σ' a1.toNatClampNeg ∧ nV σ' a1.toNatClampNeg = dv (σ.2.2.1 90) (40000 * a1.toNatClampNeg) (nL σ a1.toNatClampNeg) ∧ nL σ' a1.toNatClampNeg ≤ nL σ a1.toNatClampNeg) → Q σ') : cV C 0 m_trim [.ref (co C), .int a1] σ Q := by
  obtain ⟨h0, h1, h2, h3, hd⟩ := hp
  refine trim_c hC ⟨h0, h1, h2, h3⟩ (fun σ' q => h σ' ?_)
  obtain ⟨f, q1, q2, q3, q4, q5⟩ := q
  have fx := FR_funext f
  have r90 : σ'.2.2.1 90 = σ.2.2.1 90 := f.2.2.1 90 (by decide)
  have le : nL σ' a1.toNatClampNeg ≤ nL σ a1.toNatClampNeg := by
    have e1 := cn_int q2
    have e2 := cn_int h2
    have l := Int32.le_iff_toInt_le.mp q3
    show (rd σ' 91 a1).toNatClampNeg ≤ (rd σ 91 a1).toNatClampNeg
    omega
  refine ⟨⟨fx.1, fx.2.1, fun k _ z2 => f.2.2.1 k z2, fx.2.2, fun k hk => ⟨q1 k (fun e => hk (by rw [e]; exact List.mem_singleton.mpr rfl)), fun i _ => by rw [r90]⟩⟩, ⟨q2, Int32.le_trans q3 h3, fun i hi => by rw [r90]; exact hd i (by omega), ?_⟩, ?_, le⟩
  · rcases q5 with z | z
    · exact Or.inl (cn_zero z)
    · by_cases e : rd σ' 91 a1 ≤ 0
      · exact Or.inl (cn_zero e)
      · have pm := pos_m e (Int32.le_trans q3 h3)
        refine Or.inr ⟨(rd σ' 91 a1 - 1).toNatClampNeg, cn_pred pm.2.2.2.2.1 pm.2.2.2.2.2.1, ?_⟩
        rw [r90]
        intro zz
        have dd := hd (rd σ' 91 a1 - 1).toNatClampNeg (by have := cn_pred pm.2.2.2.2.1 pm.2.2.2.2.2.1; show _ < _; have l2 : (rd σ' 91 a1).toNatClampNeg ≤ nL σ a1.toNatClampNeg := le; omega)
        exact z (cn_inj dd.1 (Int32.le_refl 0) (by rw [zz]; rfl))
  · unfold nV
    rw [r90]
    exact (dv_zero le (fun i hi1 hi2 => q4 i hi1 hi2)).symm
theorem copy_v {C : rCx} (hC : cOK C) {σ : rS} {a1 a2 : Int32} {Q : rS → Prop} (hp : 0 ≤ a1 ∧ a1 < 30 ∧ 0 ≤ a2 ∧ a2 < 30 ∧ a1 ≠ a2 ∧ numO σ a2.toNatClampNeg) (h : ∀ (σ' : rS), (frN [a1.toNatClampNeg] σ σ' ∧ numO σ' a1.toNatClampNeg ∧ nV σ' a1.toNatClampNeg = nV σ a2.toNatClampNeg ∧ nL σ' a1.toNatClampNeg = nL σ a2.toNatClampNeg) → Q σ') : cV C 0 m_copy [.ref (co C), .int a1, .int a2] σ Q := by
  obtain ⟨h0, h1, h2, h3, hne, hn⟩ := hp
  refine copy_c hC ⟨h0, h1, h2, h3, hne, hn.1, hn.2.1⟩ (fun σ' q => h σ' ?_)
  obtain ⟨f, q1, q2, q3, q4⟩ := q
  have el : nL σ' a1.toNatClampNeg = nL σ a2.toNatClampNeg := by show (rd σ' 91 a1).toNatClampNeg = _; rw [q2]
  have le := nL_le hn
  refine ⟨⟨funext f.1, funext f.2.1, fun k z1 z2 => f.2.2.1 k z1 z2, funext (fun k => funext (f.2.2.2.2 k)), fun k hk => ?_⟩, ⟨by show 0 ≤ rd σ' 91 a1; rw [q2]; exact hn.1, by show rd σ' 91 a1 ≤ 40000; rw [q2]; exact hn.2.1, fun i hi => ?_, ?_⟩, ?_, el⟩
  · have ne : k ≠ a1.toNatClampNeg := fun e => hk (by rw [e]; exact List.mem_singleton.mpr rfl)
    exact ⟨q1 k ne, fun i hi => q4 _ (by omega)⟩
  · rw [el] at hi
    rw [q3 i hi]; exact hn.2.2.1 i hi
  · rw [el]
    rcases hn.2.2.2 with z | ⟨m, z1, z2⟩
    · exact Or.inl z
    · exact Or.inr ⟨m, z1, by rw [q3 m (by rw [show (rd σ 91 a2).toNatClampNeg = nL σ a2.toNatClampNeg from rfl]; omega)]; exact z2⟩
  · unfold nV
    rw [el]
    exact dv_congr (fun i hi => q3 i hi)
/-- the first k places, none behind the number's own -/
theorem dv_min {f : Nat → Int32} {o L k : Nat} : dv f o (min (k + 1) L) = dv f o (min k L) + (if k < L then (f (o + k)).toNatClampNeg * 65536 ^ k else 0) := by
  by_cases h : k < L
  · rw [if_pos h, show min (k + 1) L = k + 1 by omega, show min k L = k by omega]
    rfl
  · rw [if_neg h, show min (k + 1) L = L by omega, show min k L = L by omega]
    rfl
theorem c300 {a : Int32} (h0 : 0 ≤ a) (h1 : a < 30) : a.toNatClampNeg < 30 := by have := cn_lt h0 h1; rwa [show (30 : Int32).toNatClampNeg = 30 from rfl] at this
/-! the reference: a long number set -/
theorem l_nn {x : Int64} (h : 0 ≤ x) : x.toInt = x.toBitVec.toNat := by
  have h := Int64.le_iff_toInt_le.mp h
  rw [Int64.toInt_zero] at h
  have c : x.toInt = if 2 * x.toBitVec.toNat < 2 ^ 64 then (x.toBitVec.toNat : Int) else (x.toBitVec.toNat : Int) - (2 ^ 64 : Nat) := BitVec.toInt_eq_toNat_cond x.toBitVec
  have l : x.toBitVec.toNat < 2 ^ 64 := x.toBitVec.isLt
  split at c <;> omega
/-- the lowest 16 bits of a long number that is not negative -/
theorem l_and {x : Int64} (h : 0 ≤ x) : ((x &&& 65535).toInt32).toInt = x.toInt % 65536 ∧ 0 ≤ (x &&& 65535).toInt32 ∧ (x &&& 65535).toInt32 < 65536 := by
  have e : (x &&& 65535).toBitVec.toNat = x.toBitVec.toNat % 65536 := by
    rw [Int64.toBitVec_and, BitVec.toNat_and, show (65535 : Int64).toBitVec.toNat = 2 ^ 16 - 1 from rfl, Nat.and_two_pow_sub_one_eq_mod]
  have e2 : ((x &&& 65535).toInt32).toBitVec.toNat = x.toBitVec.toNat % 65536 := by
    have m : (x &&& 65535).toBitVec.msb = false := by
      rw [BitVec.msb_eq_decide, e]
      simp only [decide_eq_false_iff_not]
      omega
    rw [Int64.toBitVec_toInt32, BitVec.signExtend_eq_setWidth_of_msb_false m, BitVec.toNat_setWidth, e]
    omega
  have t : ((x &&& 65535).toInt32).toInt = (((x &&& 65535).toInt32).toBitVec.toNat : Int) := BitVec.toInt_eq_toNat_of_lt (by rw [e2]; omega)
  have b := l_nn h
  have r : ((x &&& 65535).toInt32).toInt = x.toInt % 65536 := by rw [t, e2, b]; omega
  refine ⟨r, ?_, ?_⟩
  · rw [Int32.le_iff_toInt_le, Int32.toInt_zero, r]; omega
  · rw [Int32.lt_iff_toInt_lt, r, show (65536 : Int32).toInt = 65536 from rfl]; omega
theorem l_shr {x : Int64} (h : 0 ≤ x) : ((x.toUInt64 >>> ((16 : Int32).toInt64.toUInt64 &&& Int64.toUInt64 63)).toInt64).toInt = x.toInt / 65536 ∧ 0 ≤ (x.toUInt64 >>> ((16 : Int32).toInt64.toUInt64 &&& Int64.toUInt64 63)).toInt64 := by
  have e : ((x.toUInt64 >>> ((16 : Int32).toInt64.toUInt64 &&& Int64.toUInt64 63)).toInt64).toBitVec.toNat = x.toBitVec.toNat / 65536 := by
    rw [UInt64.toBitVec_toInt64, UInt64.toBitVec_shiftRight, Int64.toBitVec_toUInt64, BitVec.ushiftRight_eq', BitVec.toNat_ushiftRight, Nat.shiftRight_eq_div_pow]
    rfl
  have b := l_nn h
  have lt : x.toBitVec.toNat < 2 ^ 64 := x.toBitVec.isLt
  have t : ((x.toUInt64 >>> ((16 : Int32).toInt64.toUInt64 &&& Int64.toUInt64 63)).toInt64).toInt = (((x.toUInt64 >>> ((16 : Int32).toInt64.toUInt64 &&& Int64.toUInt64 63)).toInt64).toBitVec.toNat : Int) := BitVec.toInt_eq_toNat_of_lt (by rw [e]; omega)
  have r : ((x.toUInt64 >>> ((16 : Int32).toInt64.toUInt64 &&& Int64.toUInt64 63)).toInt64).toInt = x.toInt / 65536 := by rw [t, e, b]; omega
  exact ⟨r, by rw [Int64.le_iff_toInt_le, Int64.toInt_zero, r]; have := Int64.le_iff_toInt_le.mp h; rw [Int64.toInt_zero] at this; omega⟩
theorem lc_0 {x : Int64} : lg_cmp x 0 = 0 ↔ x = 0 := lgc0
theorem dv_s {f : Nat → Int32} {o n : Nat} : dv f o (n + 1) = dv f o n + (f (o + n)).toNatClampNeg * 65536 ^ n := rfl
theorem pw_s {n : Nat} : 65536 ^ (n + 1) = 65536 * 65536 ^ n := by rw [Nat.pow_succ, Nat.mul_comm]
theorem l_pos {x : Int64} (h : 0 ≤ x) (hz : ¬ x = 0) : 0 < x.toInt.toNat ∧ (x.toInt.toNat : Int) = x.toInt := by
  have h1 := Int64.le_iff_toInt_le.mp h
  rw [Int64.toInt_zero] at h1
  have h2 : x.toInt ≠ 0 := fun z => hz (Int64.toInt_inj.mp (by rw [z]; rfl))
  omega
/-- while a number is set: k places are written, x is left -/
def stI (f : Nat → Int32) (o k : Nat) (v x : Int64) : Prop := 0 ≤ x ∧ dgO f o k ∧ v.toInt.toNat = dv f o k + x.toInt.toNat * 65536 ^ k ∧ (x = 0 → k = 0 ∨ ∃ m, k = m + 1 ∧ (f (o + m)).toNatClampNeg ≠ 0)
theorem st_k {v : Nat} {k d x : Nat} (h : v = d + x * 65536 ^ k) (hx : 0 < x) (hv : v < 2 ^ 63) : k ≤ 3 := by
  by_cases e : k ≤ 3
  · exact e
  · have p : 65536 ^ 4 ≤ 65536 ^ k := Nat.pow_le_pow_right (by decide) (by omega)
    have q : 1 * 65536 ^ k ≤ x * 65536 ^ k := Nat.mul_le_mul_right _ hx
    have r : 65536 ^ 4 = 2 ^ 64 := by decide
    omega
theorem v_lt {v : Int64} : v.toInt.toNat < 2 ^ 63 := by
  have := Int64.toInt_lt v
  omega
theorem st_u {x : Int32} (h0 : 0 ≤ x) (h : x ≤ 3) : 0 ≤ x + 1 ∧ x + 1 ≤ 4 ∧ x ≤ 40000 ∧ x < 40000 ∧ x < 1000000 ∧ x ≤ 4 := by grind
theorem set_c {C : rCx} (hC : cOK C)  {σ : rS} {a1 : Int32} {a2 : Int64} {Q : rS → Prop} (hp : 0 ≤ a1 ∧ a1 < 30 ∧ 0 ≤ a2) (h : ∀ (σ' : rS), (frN [a1.toNatClampNeg] σ σ' ∧ numO σ' a1.toNatClampNeg ∧ nV σ' a1.toNatClampNeg = a2.toInt.toNat ∧ nL σ' a1.toNatClampNeg ≤ 4) → Q σ') : cV C 0 m_set [.ref (co C), .int a1, .long a2] σ Q := by
  refine m_set_run hC ?_
  unfold w_set_0
  obtain ⟨h0, h1, h2⟩ := hp
  unfold w_set_6
  refine ⟨fun n l1 l4 l5 τ => n = l5.toInt.toNat ∧ (l1 = a1 ∧ frN [a1.toNatClampNeg] σ τ ∧ 0 ≤ l4 ∧ l4 ≤ 4 ∧ stI (τ.2.2.1 90) (40000 * a1.toNatClampNeg) l4.toNatClampNeg a2 l5), ⟨_, rfl, ?_⟩, ?_⟩
  · clear h; refine ⟨rfl, frN_refl, by decide, by decide, h2, fun i hi => absurd hi (Nat.not_lt_zero i), ?_, fun _ => Or.inl rfl⟩
    show a2.toInt.toNat = 0 + a2.toInt.toNat * 65536 ^ 0
    omega
  rintro n6 x6_1 x6_4 x6_5 σ6 ⟨hn6, i6⟩
  obtain ⟨e1, g1, g2, g3, g4, g5, g6, g7⟩ := i6
  refine ⟨fun c1 => ?_, fun c1 => ?_⟩
  · skip
    refine ⟨ib_30.mpr ?_, ?_⟩
    · clear h; rw [e1]; exact ⟨h0, h1⟩  -- b2
    intro σ_2 hσ_2
    refine h _ ?_
    · clear h; rw [lc_0] at c1
      rw [e1] at hσ_2
      have el : σ_2.2.2.1 91 a1.toNatClampNeg = x6_4 := by rw [hσ_2, ri4, if_pos rfl]
      have r90 : σ_2.2.2.1 90 = σ6.2.2.1 90 := by rw [hσ_2, ri3 (by decide)]
      have n4 : x6_4.toNatClampNeg ≤ 4 := cn_le (y := 4) rfl g3
      refine ⟨frN_tr g1 (by rw [hσ_2]; exact frN_91), ⟨by rw [el]; exact g2, by rw [el]; exact Int32.le_trans g3 (by decide), ?_, ?_⟩, ?_, by show (σ_2.2.2.1 91 a1.toNatClampNeg).toNatClampNeg ≤ 4; rw [el]; exact n4⟩
      · show dgO _ _ (σ_2.2.2.1 91 a1.toNatClampNeg).toNatClampNeg
        rw [el, r90]; exact g5
      · show (σ_2.2.2.1 91 a1.toNatClampNeg).toNatClampNeg = 0 ∨ _
        rw [el, r90]
        rcases g7 c1 with z | ⟨m, z1, z2⟩
        · exact Or.inl z
        · exact Or.inr ⟨m, by show (σ_2.2.2.1 91 a1.toNatClampNeg).toNatClampNeg = _; rw [el]; exact z1, z2⟩
      · show dv (σ_2.2.2.1 90) _ (σ_2.2.2.1 91 a1.toNatClampNeg).toNatClampNeg = _
        rw [el, r90, g6, c1]
        show _ = _ + 0 * _
        omega
  · skip
    have nz : ¬ x6_5 = 0 := fun z => c1 (lc_0.mpr z)
    have lp := l_pos g4 nz
    have k3 := st_k g6 lp.1 v_lt
    have i3 : x6_4 ≤ 3 := Int32.le_iff_toInt_le.mpr (by rw [← cn_int g2, show (3 : Int32).toInt = 3 from rfl]; omega)
    have u := st_u g2 i3
    have bb := bx h0 h1 g2 u.2.2.1
    have la := l_and g4
    have ls := l_shr g4
    refine ⟨ib_1200000.mpr ?_, ?_⟩
    · clear h; rw [e1]; exact ⟨bb.1, bb.2.2.1 u.2.2.2.1⟩  -- b4
    intro σ_3 hσ_3
    intro x4 hx4
    intro x5 hx5
    refine ⟨_, ?_, rfl, ?_⟩
    · clear h; show x5.toInt.toNat < n6
      rw [hn6, hx5, ls.1]
      omega
    · clear h; rw [e1, bb.2.1] at hσ_3
      have cs := cn_succ g2 u.2.2.2.2.1
      have r90 : ∀ j, σ_3.2.2.1 90 j = if j = 40000 * a1.toNatClampNeg + x6_4.toNatClampNeg then (x6_5 &&& 65535).toInt32 else σ6.2.2.1 90 j := fun j => by rw [hσ_3, ri4]
      have dt : ((x6_5 &&& 65535).toInt32).toNatClampNeg = x6_5.toInt.toNat % 65536 := by
        have c := cn_int la.2.1
        rw [la.1] at c
        omega
      have xt : x5.toInt.toNat = x6_5.toInt.toNat / 65536 := by rw [hx5, ls.1]; omega
      have old : dv (σ_3.2.2.1 90) (40000 * a1.toNatClampNeg) x6_4.toNatClampNeg = dv (σ6.2.2.1 90) (40000 * a1.toNatClampNeg) x6_4.toNatClampNeg := dv_congr (fun i hi => by rw [r90, if_neg (by omega)])
      refine ⟨e1, frN_tr g1 (by rw [hσ_3]; exact frN_90 (by omega)), by rw [hx4]; exact u.1, by rw [hx4]; exact u.2.1, by rw [hx5]; exact ls.2, fun i hi => ?_, ?_, fun z => ?_⟩
      · rw [hx4, cs] at hi
        rw [r90]
        by_cases e : i = x6_4.toNatClampNeg
        · rw [e, if_pos rfl]; exact la.2
        · rw [if_neg (by omega)]; exact g5 i (by omega)
      · rw [hx4, cs, dv_s, old, r90, if_pos rfl, dt, xt, pw_s, g6]
        have dm := Nat.div_add_mod x6_5.toInt.toNat 65536
        have e2 : x6_5.toInt.toNat * 65536 ^ x6_4.toNatClampNeg = (65536 * (x6_5.toInt.toNat / 65536) + x6_5.toInt.toNat % 65536) * 65536 ^ x6_4.toNatClampNeg := by rw [dm]
        rw [e2, Nat.add_mul, Nat.mul_assoc, Nat.mul_left_comm]
        omega
      · refine Or.inr ⟨x6_4.toNatClampNeg, by rw [hx4, cs], ?_⟩
        rw [r90, if_pos rfl, dt]
        have z0 : x5.toInt.toNat = 0 := by rw [z]; rfl
        omega
