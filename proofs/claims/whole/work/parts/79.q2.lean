section
set_option maxHeartbeats 1600000
/-! the reference: differences -/
theorem and16g {x : Int32} : (x &&& 65535).toInt = x.toInt % 65536 ∧ 0 ≤ x &&& 65535 ∧ x &&& 65535 < 65536 := by
  have e : (x &&& 65535).toBitVec.toNat = x.toBitVec.toNat % 65536 := by
    rw [Int32.toBitVec_and, BitVec.toNat_and, show (65535 : Int32).toBitVec.toNat = 2 ^ 16 - 1 from rfl, Nat.and_two_pow_sub_one_eq_mod]
  have t : (x &&& 65535).toInt = ((x &&& 65535).toBitVec.toNat : Int) := BitVec.toInt_eq_toNat_of_lt (by rw [e]; omega)
  have c : x.toInt = if 2 * x.toBitVec.toNat < 2 ^ 32 then (x.toBitVec.toNat : Int) else (x.toBitVec.toNat : Int) - (2 ^ 32 : Nat) := BitVec.toInt_eq_toNat_cond x.toBitVec
  have r : (x &&& 65535).toInt = x.toInt % 65536 := by
    rw [t, e]
    split at c <;> omega
  refine ⟨r, ?_, ?_⟩
  · rw [Int32.le_iff_toInt_le, Int32.toInt_zero, r]; omega
  · rw [Int32.lt_iff_toInt_lt, r, show (65536 : Int32).toInt = 65536 from rfl]; omega
theorem i3m {x y c : Int32} (hx : 0 ≤ x ∧ x < 65536) (hy : 0 ≤ y ∧ y < 65536) (hc : c = 0 ∨ c = 1) : (x - y - c).toInt = x.toInt - y.toInt - c.toInt := by
  have x0 := t0 hx.1
  have y0 := t0 hy.1
  have x1 := Int32.lt_iff_toInt_lt.mp hx.2
  have y1 := Int32.lt_iff_toInt_lt.mp hy.2
  rw [show (65536 : Int32).toInt = 65536 from rfl] at x1 y1
  have c1 : 0 ≤ c.toInt ∧ c.toInt ≤ 1 := by rcases hc with rfl | rfl <;> decide
  rw [Int32.toInt_sub, i_sub hx.1 hy.1]
  exact Int.bmod_eq_of_le (by omega) (by omega)
def mnI (σ τ : rS) (r s : Nat) (c k : Int32) : Prop := frN [r] σ τ ∧ τ.2.2.1 91 = σ.2.2.1 91 ∧ 0 ≤ k ∧ k ≤ σ.2.2.1 91 r ∧ (c = 0 ∨ c = 1) ∧ dgO (τ.2.2.1 90) (40000 * r) k.toNatClampNeg ∧ dv (τ.2.2.1 90) (40000 * r) k.toNatClampNeg + dv (σ.2.2.1 90) (40000 * s) (min k.toNatClampNeg (nL σ s)) = dv (σ.2.2.1 90) (40000 * r) k.toNatClampNeg + c.toNatClampNeg * 65536 ^ k.toNatClampNeg ∧ ∀ i, k.toNatClampNeg ≤ i → i < 40000 → τ.2.2.1 90 (40000 * r + i) = σ.2.2.1 90 (40000 * r + i)
theorem mn_u {k n : Int32} (k0 : 0 ≤ k) (h : ¬ n ≤ k) (n1 : n ≤ 40000) : 0 ≤ k + 1 ∧ k + 1 ≤ n ∧ 0 ≤ n - (k + 1) ∧ n - (k + 1) < n - k ∧ k < 40000 ∧ k ≤ 40000 ∧ k < 1000000 ∧ k < n := by grind
theorem ar_m {p a b c d x y z dd : Nat} (h : d + b = a + c * p) (hv : dd + y + c = x + 65536 * z) : d + dd * p + (b + y * p) = a + x * p + z * (65536 * p) := by
  have e : (dd + y + c) * p = (x + 65536 * z) * p := by rw [hv]
  rw [Nat.add_mul, Nat.add_mul, Nat.add_mul, Nat.mul_assoc] at e
  have f : z * (65536 * p) = 65536 * (z * p) := by rw [Nat.mul_left_comm]
  omega
theorem mn_step {σ τ υ : rS} {r s : Nat} {c c' k x y v : Int32} (h : mnI σ τ r s c k) (hn : σ.2.2.1 91 r ≤ 40000) (hk : ¬ σ.2.2.1 91 r ≤ k) (hx : (0 ≤ x ∧ x < 65536) ∧ x = σ.2.2.1 90 (40000 * r + k.toNatClampNeg)) (hy : plc (σ.2.2.1 90) (40000 * s) (nL σ s) k.toNatClampNeg y) (hv : v = x - y - c) (hc : (0 ≤ v ∧ c' = 0) ∨ (¬ 0 ≤ v ∧ c' = 1)) (hu : υ = riU τ 90 (40000 * r + k.toNatClampNeg) (v &&& 65535)) : mnI σ υ r s c' (k + 1) := by
  obtain ⟨g1, g2, g3, g4, g5, g6, g7, ga⟩ := h
  have u := mn_u g3 hk hn
  have w := i3m hx.1 hy.1 g5
  rw [← hv] at w
  have a16 := and16g (x := v)
  have cs := cn_succ g3 u.2.2.2.2.2.2.1
  have kl : k.toNatClampNeg < 40000 := by have := cn_lt g3 u.2.2.2.2.1; rwa [show (40000 : Int32).toNatClampNeg = 40000 from rfl] at this
  have r90 : ∀ j, υ.2.2.1 90 j = if j = 40000 * r + k.toNatClampNeg then v &&& 65535 else τ.2.2.1 90 j := fun j => by rw [hu, ri4]
  have old : dv (υ.2.2.1 90) (40000 * r) k.toNatClampNeg = dv (τ.2.2.1 90) (40000 * r) k.toNatClampNeg := dv_congr (fun i hi => by rw [r90, if_neg (by omega)])
  have x0 := t0 hx.1.1
  have y0 := t0 hy.1.1
  have x1 := Int32.lt_iff_toInt_lt.mp hx.1.2
  have y1 := Int32.lt_iff_toInt_lt.mp hy.1.2
  rw [show (65536 : Int32).toInt = 65536 from rfl] at x1 y1
  have c0 : 0 ≤ c ∧ 0 ≤ c.toInt ∧ c.toInt ≤ 1 := by rcases g5 with rfl | rfl <;> decide
  have cx := cn_int hx.1.1
  have cy := cn_int hy.1.1
  have cc := cn_int c0.1
  have cd := cn_int a16.2.1
  rw [a16.1] at cd
  have hz : (v &&& 65535).toNatClampNeg + y.toNatClampNeg + c.toNatClampNeg = x.toNatClampNeg + 65536 * c'.toNatClampNeg := by
    rcases hc with ⟨q1, q2⟩ | ⟨q1, q2⟩
    · have v0 := t0 q1
      have e : c'.toNatClampNeg = 0 := by rw [q2]; rfl
      omega
    · have v0 : v.toInt < 0 := by
        have := Int32.not_le.mp q1
        have := Int32.lt_iff_toInt_lt.mp this
        rwa [Int32.toInt_zero] at this
      have e : c'.toNatClampNeg = 1 := by rw [q2]; rfl
      omega
  refine ⟨frN_tr g1 (by rw [hu]; exact frN_90 kl), by rw [hu, ri3 (by decide)]; exact g2, u.1, u.2.1, ?_, fun i hi => ?_, ?_, fun i hi hi2 => ?_⟩
  · rcases hc with q | q
    · exact Or.inl q.2
    · exact Or.inr q.2
  · rw [cs] at hi
    rw [r90]
    by_cases e : i = k.toNatClampNeg
    · rw [e, if_pos rfl]; exact a16.2
    · rw [if_neg (by omega)]; exact g6 i (by omega)
  · rw [cs, dv_s, dv_s, old, r90, if_pos rfl, pw_s, dv_min, ← hy.2, ← hx.2]
    exact ar_m g7 hz
  · rw [cs] at hi
    rw [r90, if_neg (by omega)]
    exact ga i (by omega) hi2
theorem minus_c {C : rCx} (hC : cOK C)  {σ : rS} {a1 : Int32} {a2 : Int32} {Q : rS → Prop} (hp : 0 ≤ a1 ∧ a1 < 30 ∧ 0 ≤ a2 ∧ a2 < 30 ∧ a1 ≠ a2 ∧ numO σ a1.toNatClampNeg ∧ numO σ a2.toNatClampNeg ∧ nV σ a2.toNatClampNeg ≤ nV σ a1.toNatClampNeg) (h : ∀ (σ' : rS), (frN [a1.toNatClampNeg] σ σ' ∧ numO σ' a1.toNatClampNeg ∧ nV σ' a1.toNatClampNeg = nV σ a1.toNatClampNeg - nV σ a2.toNatClampNeg ∧ nL σ' a1.toNatClampNeg ≤ nL σ a1.toNatClampNeg) → Q σ') : cV C 1 m_minus [.ref (co C), .int a1, .int a2] σ Q := by
  refine m_minus_run hC ?_
  unfold w_minus_0
  obtain ⟨h0, h1, h2, h3, hne, hr, hs, hle⟩ := hp
  have cne : a1.toNatClampNeg ≠ a2.toNatClampNeg := fun e => hne (cn_inj h0 h2 e)
  have hll : nL σ a2.toNatClampNeg ≤ nL σ a1.toNatClampNeg := Nat.le_of_not_lt (fun z => by have := nV_len hr hs z; omega)
  unfold w_minus_5
  refine ⟨fun n l1 l2 l3 l4 τ => n = (rd σ 91 a1 - l4).toNatClampNeg ∧ (l1 = a1 ∧ l2 = a2 ∧ mnI σ τ a1.toNatClampNeg a2.toNatClampNeg l3 l4), ⟨_, rfl, ?_⟩, ?_⟩
  · clear h; refine ⟨rfl, rfl, frN_refl, rfl, by decide, hr.1, Or.inl rfl, fun i hi => absurd hi (Nat.not_lt_zero i), ?_, fun i _ _ => rfl⟩
    show 0 + dv _ _ (min 0 _) = 0 + 0 * 65536 ^ 0
    rw [Nat.zero_min]
    rfl
  rintro n5 x5_1 x5_2 x5_3 x5_4 σ5 ⟨hn5, i5⟩
  have hj72 : ∀ (l1 : Int32) (l2 : Int32) (l4 : Int32) (l5 : Int32) (s0 : Int32) (τ : rS), (l1 = a1 ∧ l2 = a2 ∧ τ = σ5 ∧ l4 = x5_4 ∧ ¬ rd σ 91 a1 ≤ x5_4 ∧ ∃ x y, ((0 ≤ x ∧ x < 65536) ∧ x = σ.2.2.1 90 (40000 * a1.toNatClampNeg + x5_4.toNatClampNeg)) ∧ plc (σ.2.2.1 90) (40000 * a2.toNatClampNeg) (nL σ a2.toNatClampNeg) x5_4.toNatClampNeg y ∧ l5 = x - y - x5_3 ∧ ((0 ≤ l5 ∧ s0 = 0) ∨ (¬ 0 ≤ l5 ∧ s0 = 1))) → w_minus_72 C Q (fun l1' l2' l3' l4' τ => ∃ k < n5, (fun n l1 l2 l3 l4 τ => n = (rd σ 91 a1 - l4).toNatClampNeg ∧ (l1 = a1 ∧ l2 = a2 ∧ mnI σ τ a1.toNatClampNeg a2.toNatClampNeg l3 l4)) k l1' l2' l3' l4' τ) l1 l2 l4 l5 s0 τ := by
    rintro y72_1 y72_2 y72_4 y72_5 y72_s0 τ72 j72
    unfold w_minus_72
    obtain ⟨e1, e2, I⟩ := i5
    obtain ⟨f1, f2, f3, f4, f5, x, y, f6, f7, f8, f9⟩ := j72
    have u := mn_u I.2.2.1 f5 hr.2.1
    have bb := bx h0 h1 I.2.2.1 u.2.2.2.2.2.1
    refine ⟨ib_1200000.mpr ?_, ?_⟩
    · clear h; rw [f1, f4]; exact ⟨bb.1, bb.2.2.1 u.2.2.2.2.1⟩  -- b2
    intro σ_1 hσ_1
    intro x2 hx2
    refine ⟨_, cn_lt2 hn5 ?_ ?_, rfl, ?_⟩
    · clear h; rw [hx2, f4]; exact u.2.2.1  -- d3
    · clear h; rw [hx2, f4]; exact u.2.2.2.1  -- d4
    · clear h; rw [hx2, f4]
      exact ⟨f1, f2, mn_step I hr.2.1 f5 f6 f7 f8 f9 (by rw [hσ_1, f3, f1, f4, bb.2.1])⟩
  have hj57 : ∀ (l1 : Int32) (l2 : Int32) (l3 : Int32) (l4 : Int32) (s0 : Int32) (s1 : Int32) (τ : rS), (l1 = a1 ∧ l2 = a2 ∧ τ = σ5 ∧ l3 = x5_3 ∧ l4 = x5_4 ∧ ¬ rd σ 91 a1 ≤ x5_4 ∧ ((0 ≤ s0 ∧ s0 < 65536) ∧ s0 = σ.2.2.1 90 (40000 * a1.toNatClampNeg + x5_4.toNatClampNeg)) ∧ plc (σ.2.2.1 90) (40000 * a2.toNatClampNeg) (nL σ a2.toNatClampNeg) x5_4.toNatClampNeg s1) → w_minus_57 C Q (fun l1' l2' l3' l4' τ => ∃ k < n5, (fun n l1 l2 l3 l4 τ => n = (rd σ 91 a1 - l4).toNatClampNeg ∧ (l1 = a1 ∧ l2 = a2 ∧ mnI σ τ a1.toNatClampNeg a2.toNatClampNeg l3 l4)) k l1' l2' l3' l4' τ) l1 l2 l3 l4 s0 s1 τ := by
    rintro y57_1 y57_2 y57_3 y57_4 y57_s0 y57_s1 τ57 j57
    unfold w_minus_57
    intro x3 hx3
    refine ⟨fun c4 => ?_, fun c4 => ?_⟩
    · skip
      refine hj72 _ _ _ _ _ _ ?_
      · clear h; obtain ⟨f1, f2, f3, f4, f5, f6, f7, f8⟩ := j57
        exact ⟨f1, f2, f3, f5, f6, _, _, f7, f8, by rw [hx3, f4], Or.inl ⟨c4, rfl⟩⟩
    · skip
      refine hj72 _ _ _ _ _ _ ?_
      · clear h; obtain ⟨f1, f2, f3, f4, f5, f6, f7, f8⟩ := j57
        exact ⟨f1, f2, f3, f5, f6, _, _, f7, f8, by rw [hx3, f4], Or.inr ⟨c4, rfl⟩⟩
  obtain ⟨e1, e2, I⟩ := i5
  have br := bx h0 h1 I.2.2.1 (Int32.le_trans I.2.2.2.1 hr.2.1)
  refine ⟨ib_30.mpr ?_, ?_⟩
  · clear h; rw [e1]; exact ⟨h0, h1⟩  -- b8
  refine ⟨fun c5 => ?_, fun c5 => ?_⟩
  · skip
    refine trim_v hC  ?_ (fun σ_6 q7 => ?_)
    · clear h; rw [e1, I.2.1] at c5
      have ek : x5_4 = σ.2.2.1 91 a1.toNatClampNeg := Int32.le_antisymm I.2.2.2.1 c5
      have L : nL σ5 a1.toNatClampNeg = x5_4.toNatClampNeg := by show (σ5.2.2.1 91 a1.toNatClampNeg).toNatClampNeg = _; rw [I.2.1, ek]
      have L2 : x5_4.toNatClampNeg = nL σ a1.toNatClampNeg := by rw [ek]
      rw [e1]
      refine ⟨h0, h1, by rw [rd, I.2.1]; exact hr.1, by rw [rd, I.2.1]; exact hr.2.1, ?_⟩
      rw [L]
      exact I.2.2.2.2.2.1
    refine h _ ?_
    · clear h; rw [e1, I.2.1] at c5
      have ek : x5_4 = σ.2.2.1 91 a1.toNatClampNeg := Int32.le_antisymm I.2.2.2.1 c5
      have L : nL σ5 a1.toNatClampNeg = x5_4.toNatClampNeg := by show (σ5.2.2.1 91 a1.toNatClampNeg).toNatClampNeg = _; rw [I.2.1, ek]
      have L2 : x5_4.toNatClampNeg = nL σ a1.toNatClampNeg := by rw [ek]
      rw [e1, L] at q7
      have v := I.2.2.2.2.2.2.1
      have lt := dv_lt I.2.2.2.2.2.1
      rw [L2] at q7 v lt
      rw [show min (nL σ a1.toNatClampNeg) (nL σ a2.toNatClampNeg) = nL σ a2.toNatClampNeg by omega] at v
      have vv : dv (σ5.2.2.1 90) (40000 * a1.toNatClampNeg) (nL σ a1.toNatClampNeg) + nV σ a2.toNatClampNeg = nV σ a1.toNatClampNeg + x5_3.toNatClampNeg * 65536 ^ nL σ a1.toNatClampNeg := v
      refine ⟨frN_tr I.1 q7.1, q7.2.1, ?_, q7.2.2.2⟩
      rw [q7.2.2.1]
      rcases I.2.2.2.2.1 with z | z
      · rw [z, show (0 : Int32).toNatClampNeg = 0 from rfl] at vv
        omega
      · rw [z, show (1 : Int32).toNatClampNeg = 1 from rfl] at vv
        omega
  · skip
    rw [e1, I.2.1] at c5
    have u := mn_u I.2.2.1 c5 hr.2.1
    have kl : x5_4.toNatClampNeg < 40000 := by have := cn_lt I.2.2.1 u.2.2.2.2.1; rwa [show (40000 : Int32).toNatClampNeg = 40000 from rfl] at this
    have bs := bx h2 h3 I.2.2.1 u.2.2.2.2.2.1
    have ls := cn_li (x := σ.2.2.1 91 a2.toNatClampNeg) (y := x5_4) hs.1 I.2.2.1
    have kr : x5_4.toNatClampNeg < nL σ a1.toNatClampNeg := cn_lt I.2.2.1 u.2.2.2.2.2.2.2
    have e9 : σ5.2.2.1 90 (40000 * a1.toNatClampNeg + x5_4.toNatClampNeg) = σ.2.2.1 90 (40000 * a1.toNatClampNeg + x5_4.toNatClampNeg) := I.2.2.2.2.2.2.2 _ (Nat.le_refl _) kl
    refine ⟨ib_1200000.mpr ?_, ?_⟩
    · clear h; rw [e1]; exact ⟨br.1, br.2.2.1 u.2.2.2.2.1⟩  -- b11
    refine ⟨ib_30.mpr ?_, ?_⟩
    · clear h; rw [e2]; exact ⟨h2, h3⟩  -- b12
    refine ⟨fun c8 => ?_, fun c8 => ?_⟩
    · skip
      refine hj57 _ _ _ _ _ _ _ ?_
      · clear h; rw [e2, I.2.1, ls] at c8
        refine ⟨e1, e2, rfl, rfl, rfl, c5, ⟨?_, ?_⟩, plc_0 (Nat.not_lt.mpr c8)⟩
        · rw [e1, br.2.1, e9]; exact hr.2.2.1 _ kr
        · rw [e1, br.2.1, e9]
    · skip
      refine ⟨ib_1200000.mpr ?_, ?_⟩
      · clear h; rw [e2]; exact ⟨bs.1, bs.2.2.1 u.2.2.2.2.1⟩  -- b14
      refine hj57 _ _ _ _ _ _ _ ?_
      · clear h; rw [e2, I.2.1, ls] at c8
        refine ⟨e1, e2, rfl, rfl, rfl, c5, ⟨?_, ?_⟩, plc_1 (Nat.not_le.mp c8) ?_ hs.2.2.1⟩
        · rw [e1, br.2.1, e9]; exact hr.2.2.1 _ kr
        · rw [e1, br.2.1, e9]
        · rw [e2, bs.2.1]
          exact (I.1.2.2.2.2 a2.toNatClampNeg (fun z => cne (List.mem_singleton.mp z).symm)).2 _ kl

end
section
set_option maxHeartbeats 1600000
/-! the reference: products -/
theorem dv_upd {f g : Nat → Int32} {o j : Nat} (hg : ∀ i, i ≠ o + j → g i = f i) : ∀ {n : Nat}, j < n → dv g o n + (f (o + j)).toNatClampNeg * 65536 ^ j = dv f o n + (g (o + j)).toNatClampNeg * 65536 ^ j
  | 0, h => absurd h (Nat.not_lt_zero _)
  | n + 1, h => by
    rw [dv_s, dv_s]
    by_cases e : j = n
    · have o : dv g o n = dv f o n := dv_congr (fun i hi => hg _ (by omega))
      rw [o, e]
      omega
    · have ih := dv_upd hg (n := n) (by omega)
      rw [hg (o + n) (by omega)]
      omega
theorem dv_0 {f : Nat → Int32} {o n : Nat} (h : ∀ i, i < n → f (o + i) = 0) : dv f o n = 0 := by
  rw [dv_zero (m := 0) (Nat.zero_le n) (fun i _ hi => h i hi)]
  rfl
theorem ik {i k : Int32} (hi : 0 ≤ i) (hk : 0 ≤ k) (h : i.toNatClampNeg + k.toNatClampNeg < 40000) : 0 ≤ i + k ∧ i + k < 40000 ∧ i + k ≤ 40000 ∧ (i + k).toNatClampNeg = i.toNatClampNeg + k.toNatClampNeg := by
  have a := cn_int hi
  have b := cn_int hk
  have s := i_add hi hk (by omega)
  have z : 0 ≤ i + k := Int32.le_iff_toInt_le.mpr (by rw [s, Int32.toInt_zero]; omega)
  have c := cn_int z
  exact ⟨z, Int32.lt_iff_toInt_lt.mpr (by rw [s, show (40000 : Int32).toInt = 40000 from rfl]; omega), Int32.le_iff_toInt_le.mpr (by rw [s, show (40000 : Int32).toInt = 40000 from rfl]; omega), by omega⟩
theorem d_n {x : Int32} (h : 0 ≤ x ∧ x < 65536) : x.toNatClampNeg < 65536 ∧ (x.toNatClampNeg : Int) = x.toInt := by
  have := cn_lt h.1 h.2
  rw [show (65536 : Int32).toNatClampNeg = 65536 from rfl] at this
  exact ⟨this, cn_int h.1⟩
theorem m1616 {a b : Nat} (ha : a < 65536) (hb : b < 65536) : a * b ≤ 65535 * 65535 := Nat.mul_le_mul (by omega) (by omega)
theorem tm_v {x y : Int32} {a c : Int64} {A K : Nat} (hx : 0 ≤ x ∧ x < 65536) (hy : 0 ≤ y ∧ y < 65536) (ha : a.toInt = (A : Int)) (hA : A < 65536) (hc : c.toInt = (K : Int)) (hK : K < 65536) : (x.toInt64 + a * y.toInt64 + c).toInt = ((x.toNatClampNeg + A * y.toNatClampNeg + K : Nat) : Int) ∧ 0 ≤ x.toInt64 + a * y.toInt64 + c ∧ x.toNatClampNeg + A * y.toNatClampNeg + K < 65536 * 65536 := by
  have dx := d_n hx
  have dy := d_n hy
  have m := m1616 hA dy.1
  have e1 : (a * y.toInt64).toInt = ((A * y.toNatClampNeg : Nat) : Int) := by
    rw [Int64.toInt_mul, Int32.toInt_toInt64, ha, ← dy.2, ← Int.natCast_mul]
    exact Int.bmod_eq_of_le (by omega) (by omega)
  have e2 : (x.toInt64 + a * y.toInt64).toInt = ((x.toNatClampNeg + A * y.toNatClampNeg : Nat) : Int) := by
    rw [Int64.toInt_add, e1, Int32.toInt_toInt64, ← dx.2]
    rw [Int.bmod_eq_of_le (by omega) (by omega)]
    omega
  have e3 : (x.toInt64 + a * y.toInt64 + c).toInt = ((x.toNatClampNeg + A * y.toNatClampNeg + K : Nat) : Int) := by
    rw [Int64.toInt_add, e2, hc]
    rw [Int.bmod_eq_of_le (by omega) (by omega)]
    omega
  exact ⟨e3, by rw [Int64.le_iff_toInt_le, e3, Int64.toInt_zero]; omega, by omega⟩
theorem l_32 {c : Int64} {K : Nat} (hc : c.toInt = (K : Int)) (hK : K < 65536) : (0 ≤ c.toInt32 ∧ c.toInt32 < 65536) ∧ c.toInt32.toNatClampNeg = K := by
  have e : c.toInt32.toInt = (K : Int) := by
    rw [Int64.toInt_toInt32, hc]
    exact Int.bmod_eq_of_le (by omega) (by omega)
  have z : 0 ≤ c.toInt32 := by rw [Int32.le_iff_toInt_le, e, Int32.toInt_zero]; omega
  have n := cn_int z
  exact ⟨⟨z, by rw [Int32.lt_iff_toInt_lt, e, show (65536 : Int32).toInt = 65536 from rfl]; omega⟩, by omega⟩
/-- while the product is made: i places of the first number are done -/
def tmIR9 (σ τ : rS) (t r s : Nat) (i : Int32) : Prop := frN [t] σ τ ∧ τ.2.2.1 91 = σ.2.2.1 91 ∧ 0 ≤ i ∧ i ≤ σ.2.2.1 91 r ∧ dgO (τ.2.2.1 90) (40000 * t) (nL σ r + nL σ s) ∧ dv (τ.2.2.1 90) (40000 * t) (nL σ r + nL σ s) = dv (σ.2.2.1 90) (40000 * r) i.toNatClampNeg * nV σ s ∧ ∀ j, i.toNatClampNeg + nL σ s ≤ j → j < nL σ r + nL σ s → τ.2.2.1 90 (40000 * t + j) = 0
/-- and k places of the second, with c over -/
def tnI (σ τ : rS) (t r s : Nat) (i k : Int32) (c : Int64) : Prop := frN [t] σ τ ∧ τ.2.2.1 91 = σ.2.2.1 91 ∧ 0 ≤ k ∧ k ≤ σ.2.2.1 91 s ∧ dgO (τ.2.2.1 90) (40000 * t) (nL σ r + nL σ s) ∧ (∃ K : Nat, c.toInt = (K : Int) ∧ K < 65536 ∧ dv (τ.2.2.1 90) (40000 * t) (nL σ r + nL σ s) + K * 65536 ^ (i.toNatClampNeg + k.toNatClampNeg) = dv (σ.2.2.1 90) (40000 * r) i.toNatClampNeg * nV σ s + (σ.2.2.1 90 (40000 * r + i.toNatClampNeg)).toNatClampNeg * 65536 ^ i.toNatClampNeg * dv (σ.2.2.1 90) (40000 * s) k.toNatClampNeg) ∧ ∀ j, i.toNatClampNeg + nL σ s ≤ j → j < nL σ r + nL σ s → τ.2.2.1 90 (40000 * t + j) = 0
theorem ar_t {P p q d x y c v A S N N' : Nat} (h : N + c * (p * q) = A + d * p * S) (hv : v = x + d * y + c) (hn : N' + x * (p * q) = N + v % 65536 * (p * q)) : N' + v / 65536 * (65536 * (p * q)) = A + d * p * (S + y * q) := by
  have m := Nat.div_add_mod v 65536
  have e : (65536 * (v / 65536) + v % 65536) * (p * q) = (x + d * y + c) * (p * q) := by rw [m, hv]
  rw [Nat.add_mul, Nat.add_mul, Nat.add_mul] at e
  have f : v / 65536 * (65536 * (p * q)) = 65536 * (v / 65536) * (p * q) := by
    rw [← Nat.mul_assoc, Nat.mul_comm (v / 65536) 65536]
  have g : d * p * (S + y * q) = d * p * S + d * y * (p * q) := by
    rw [Nat.mul_add]
    congr 1
    rw [Nat.mul_mul_mul_comm]
  omega
theorem tn_step {σ τ υ : rS} {t r s : Nat} {i k : Int32} {c c' a v : Int64} {x y : Int32} (hts : s ≠ t) (hr : numO σ r) (hs : numO σ s) (hL : nL σ r + nL σ s ≤ 40000) (i0 : 0 ≤ i) (hi : i.toNatClampNeg < nL σ r) (h : tnI σ τ t r s i k c) (hk : ¬ σ.2.2.1 91 s ≤ k) (ha : a.toInt = ((σ.2.2.1 90 (40000 * r + i.toNatClampNeg)).toNatClampNeg : Int)) (hx : x = τ.2.2.1 90 (40000 * t + (i.toNatClampNeg + k.toNatClampNeg))) (hy : y = τ.2.2.1 90 (40000 * s + k.toNatClampNeg)) (hv : v = x.toInt64 + a * y.toInt64 + c) (hc : c' = (v.toUInt64 >>> ((16 : Int32).toInt64.toUInt64 &&& Int64.toUInt64 63)).toInt64) (hu : υ = riU τ 90 (40000 * t + (i.toNatClampNeg + k.toNatClampNeg)) (v &&& 65535).toInt32) : tnI σ υ t r s i (k + 1) c' := by
  obtain ⟨g1, g2, g3, g4, g5, ⟨K, gk, gl, gv⟩, g6⟩ := h
  have u := mn_u g3 hk hs.2.1
  have cs := cn_succ g3 u.2.2.2.2.2.2.1
  have ks : k.toNatClampNeg < nL σ s := cn_lt g3 u.2.2.2.2.2.2.2
  have ey : y = σ.2.2.1 90 (40000 * s + k.toNatClampNeg) := by rw [hy]; exact (g1.2.2.2.2 s (fun z => hts (List.mem_singleton.mp z))).2 _ (by omega)
  have dx : 0 ≤ x ∧ x < 65536 := by rw [hx]; exact g5 _ (by omega)
  have dy : 0 ≤ y ∧ y < 65536 := by rw [ey]; exact hs.2.2.1 _ ks
  have dd := d_n (hr.2.2.1 _ hi)
  have w := tm_v dx dy ha dd.1 gk gl
  rw [← hv] at w
  have la := l_and w.2.1
  have ls := l_shr w.2.1
  rw [← hc] at ls
  have r90 : ∀ j, υ.2.2.1 90 j = if j = 40000 * t + (i.toNatClampNeg + k.toNatClampNeg) then (v &&& 65535).toInt32 else τ.2.2.1 90 j := fun j => by rw [hu, ri4]
  have up := dv_upd (f := τ.2.2.1 90) (g := υ.2.2.1 90) (o := 40000 * t) (j := i.toNatClampNeg + k.toNatClampNeg) (fun j hj => by rw [r90, if_neg hj]) (n := nL σ r + nL σ s) (by omega)
  rw [r90, if_pos rfl, ← hx] at up
  have ca := cn_int la.2.1
  have an : (v &&& 65535).toInt32.toNatClampNeg = (x.toNatClampNeg + (σ.2.2.1 90 (40000 * r + i.toNatClampNeg)).toNatClampNeg * y.toNatClampNeg + K) % 65536 := by
    rw [la.1, w.1] at ca
    omega
  rw [an] at up
  refine ⟨frN_tr g1 (by rw [hu]; exact frN_90 (by omega)), by rw [hu, ri3 (by decide)]; exact g2, u.1, u.2.1, fun j hj => ?_, ⟨(x.toNatClampNeg + (σ.2.2.1 90 (40000 * r + i.toNatClampNeg)).toNatClampNeg * y.toNatClampNeg + K) / 65536, by rw [ls.1, w.1]; omega, by omega, ?_⟩, fun j hj hj2 => ?_⟩
  · rw [r90]
    by_cases e : j = i.toNatClampNeg + k.toNatClampNeg
    · rw [e, if_pos rfl]; exact la.2
    · rw [if_neg (by omega)]; exact g5 j hj
  · rw [cs, dv_s, ← ey, ← Nat.add_assoc, pw_s, Nat.pow_add]
    rw [Nat.pow_add] at gv up
    exact ar_t (P := 0) gv rfl up
  · rw [r90, if_neg (by omega)]
    exact g6 j hj hj2
theorem tm_step {σ τ υ : rS} {t r s : Nat} {i k : Int32} {c : Int64} (hr : numO σ r) (hs : numO σ s) (hL : nL σ r + nL σ s ≤ 40000) (i0 : 0 ≤ i) (hi : ¬ σ.2.2.1 91 r ≤ i) (h : tnI σ τ t r s i k c) (hk : σ.2.2.1 91 s ≤ k) (hu : υ = riU τ 90 (40000 * t + (i.toNatClampNeg + nL σ s)) c.toInt32) : tmIR9 σ υ t r s (i + 1) := by
  obtain ⟨g1, g2, g3, g4, g5, ⟨K, gk, gl, gv⟩, g6⟩ := h
  have ek : k = σ.2.2.1 91 s := Int32.le_antisymm g4 hk
  have u := mn_u i0 hi hr.2.1
  have cs := cn_succ i0 u.2.2.2.2.2.2.1
  have ir : i.toNatClampNeg < nL σ r := cn_lt i0 u.2.2.2.2.2.2.2
  have l := l_32 gk gl
  have r90 : ∀ j, υ.2.2.1 90 j = if j = 40000 * t + (i.toNatClampNeg + nL σ s) then c.toInt32 else τ.2.2.1 90 j := fun j => by rw [hu, ri4]
  have up := dv_upd (f := τ.2.2.1 90) (g := υ.2.2.1 90) (o := 40000 * t) (j := i.toNatClampNeg + nL σ s) (fun j hj => by rw [r90, if_neg hj]) (n := nL σ r + nL σ s) (by omega)
  rw [r90, if_pos rfl, l.2, g6 _ (Nat.le_refl _) (by omega), show (0 : Int32).toNatClampNeg = 0 from rfl, Nat.zero_mul] at up
  rw [ek] at gv
  refine ⟨frN_tr g1 (by rw [hu]; exact frN_90 (by omega)), by rw [hu, ri3 (by decide)]; exact g2, u.1, u.2.1, fun j hj => ?_, ?_, fun j hj hj2 => ?_⟩
  · rw [r90]
    by_cases e : j = i.toNatClampNeg + nL σ s
    · rw [e, if_pos rfl]; exact l.1
    · rw [if_neg (by omega)]; exact g5 j hj
  · rw [cs, dv_s, Nat.add_mul]
    have e : dv (τ.2.2.1 90) (40000 * t) (nL σ r + nL σ s) + K * 65536 ^ (i.toNatClampNeg + nL σ s) = dv (σ.2.2.1 90) (40000 * r) i.toNatClampNeg * nV σ s + (σ.2.2.1 90 (40000 * r + i.toNatClampNeg)).toNatClampNeg * 65536 ^ i.toNatClampNeg * nV σ s := gv
    omega
  · rw [cs] at hj
    rw [r90, if_neg (by omega)]
    exact g6 j (by omega) hj2
theorem ad_nR9 {σ : rS} {r s : Nat} (hr : numO σ r) (hs : numO σ s) (hL : nL σ r + nL σ s ≤ 40000) : 0 ≤ σ.2.2.1 91 r + σ.2.2.1 91 s ∧ σ.2.2.1 91 r + σ.2.2.1 91 s ≤ 40000 ∧ (σ.2.2.1 91 r + σ.2.2.1 91 s).toNatClampNeg = nL σ r + nL σ s := by
  have a := cn_int hr.1
  have b := cn_int hs.1
  rw [show (σ.2.2.1 91 r).toNatClampNeg = nL σ r from rfl] at a
  rw [show (σ.2.2.1 91 s).toNatClampNeg = nL σ s from rfl] at b
  have e := i_add hr.1 hs.1 (by omega)
  have z : 0 ≤ σ.2.2.1 91 r + σ.2.2.1 91 s := Int32.le_iff_toInt_le.mpr (by rw [e, Int32.toInt_zero]; omega)
  have c := cn_int z
  exact ⟨z, Int32.le_iff_toInt_le.mpr (by rw [e, show (40000 : Int32).toInt = 40000 from rfl]; omega), by omega⟩
theorem times_c {C : rCx} (hC : cOK C)  {σ : rS} {a1 : Int32} {a2 : Int32} {a3 : Int32} {Q : rS → Prop} (hp : 0 ≤ a1 ∧ a1 < 30 ∧ 0 ≤ a2 ∧ a2 < 30 ∧ 0 ≤ a3 ∧ a3 < 30 ∧ a2 ≠ a1 ∧ a3 ≠ a1 ∧ numO σ a2.toNatClampNeg ∧ numO σ a3.toNatClampNeg ∧ nL σ a2.toNatClampNeg + nL σ a3.toNatClampNeg ≤ 40000) (h : ∀ (σ' : rS), (frN [a1.toNatClampNeg] σ σ' ∧ numO σ' a1.toNatClampNeg ∧ nV σ' a1.toNatClampNeg = nV σ a2.toNatClampNeg * nV σ a3.toNatClampNeg ∧ nL σ' a1.toNatClampNeg ≤ nL σ a2.toNatClampNeg + nL σ a3.toNatClampNeg) → Q σ') : cV C 1 m_times [.ref (co C), .int a1, .int a2, .int a3] σ Q := by
  refine m_times_run hC ?_
  unfold w_times_0
  obtain ⟨h0, h1, h2, h3, h4, h5, hne, hnf, hr, hs, hL⟩ := hp
  have rne : a2.toNatClampNeg ≠ a1.toNatClampNeg := fun e => hne (cn_inj h2 h0 e)
  have sne : a3.toNatClampNeg ≠ a1.toNatClampNeg := fun e => hnf (cn_inj h4 h0 e)
  refine ⟨ib_30.mpr ?_, ?_⟩
  · clear h; exact ⟨h2, h3⟩  -- b1
  refine ⟨ib_30.mpr ?_, ?_⟩
  · clear h; exact ⟨h4, h5⟩  -- b2
  intro x1 hx1
  have nn := ad_nR9 hr hs hL
  rw [← hx1] at nn
  unfold w_times_18
  refine ⟨fun n l1 l2 l3 l4 l5 τ => n = (l4 - l5).toNatClampNeg ∧ (l1 = a1 ∧ l2 = a2 ∧ l3 = a3 ∧ 0 ≤ l4 ∧ l4 ≤ 40000 ∧ l4.toNatClampNeg = nL σ a2.toNatClampNeg + nL σ a3.toNatClampNeg ∧ frN [a1.toNatClampNeg] σ τ ∧ τ.2.2.1 91 = σ.2.2.1 91 ∧ 0 ≤ l5 ∧ l5 ≤ l4 ∧ ∀ i, i < l5.toNatClampNeg → τ.2.2.1 90 (40000 * a1.toNatClampNeg + i) = 0), ⟨_, rfl, ?_⟩, ?_⟩
  · clear h; exact ⟨rfl, rfl, rfl, nn.1, nn.2.1, nn.2.2, frN_refl, rfl, by decide, nn.1, fun i hi => absurd hi (Nat.not_lt_zero i)⟩  -- j3
  rintro n18 x18_1 x18_2 x18_3 x18_4 x18_5 σ18 ⟨hn18, i18⟩
  obtain ⟨e1, e2, e3, n0, n1, nm, z1, z2, z3, z4, z5⟩ := i18
  refine ⟨fun c2 => ?_, fun c2 => ?_⟩
  · skip
    unfold w_times_48
    refine ⟨fun n l1 l2 l3 l4 l5 τ => n = (rd σ 91 a2 - l5).toNatClampNeg ∧ (l1 = a1 ∧ l2 = a2 ∧ l3 = a3 ∧ l4 = x18_4 ∧ tmIR9 σ τ a1.toNatClampNeg a2.toNatClampNeg a3.toNatClampNeg l5), ⟨_, rfl, ?_⟩, ?_⟩
    · clear h; have ek : x18_5 = x18_4 := Int32.le_antisymm z4 c2
      rw [ek, nm] at z5
      refine ⟨e1, e2, e3, rfl, z1, z2, by decide, hr.1, fun i hi => ?_, ?_, fun j _ hj => z5 j hj⟩
      · rw [z5 i hi]; exact ⟨by decide, by decide⟩
      · rw [dv_0 z5]
        exact (Nat.zero_mul _).symm
    rintro n48 x48_1 x48_2 x48_3 x48_4 x48_5 σ48 ⟨hn48, i48⟩
    obtain ⟨f1, f2, f3, f4, I⟩ := i48
    refine ⟨ib_30.mpr ?_, ?_⟩
    · clear h; rw [f2]; exact ⟨h2, h3⟩  -- b5
    refine ⟨fun c3 => ?_, fun c3 => ?_⟩
    · skip
      refine ⟨ib_30.mpr ?_, ?_⟩
      · clear h; rw [f1]; exact ⟨h0, h1⟩  -- b6
      intro σ_4 hσ_4
      refine trim_v hC  ?_ (fun σ_5 q6 => ?_)
      · clear h; rw [f1, f4] at hσ_4
        have el : σ_4.2.2.1 91 a1.toNatClampNeg = x18_4 := by rw [hσ_4, ri4, if_pos rfl]
        have r90 : σ_4.2.2.1 90 = σ48.2.2.1 90 := by rw [hσ_4, ri3 (by decide)]
        rw [f1]
        refine ⟨h0, h1, by rw [rd, el]; exact n0, by rw [rd, el]; exact n1, ?_⟩
        show dgO _ _ (σ_4.2.2.1 91 a1.toNatClampNeg).toNatClampNeg
        rw [el, nm, r90]
        exact I.2.2.2.2.1
      rw [f1] at q6
      refine h _ ?_
      · clear h; rw [f1, f4] at hσ_4
        have el : nL σ_4 a1.toNatClampNeg = nL σ a2.toNatClampNeg + nL σ a3.toNatClampNeg := by show (σ_4.2.2.1 91 a1.toNatClampNeg).toNatClampNeg = _; rw [hσ_4, ri4, if_pos rfl, nm]
        have r90 : σ_4.2.2.1 90 = σ48.2.2.1 90 := by rw [hσ_4, ri3 (by decide)]
        have F : frN [a1.toNatClampNeg] σ48 σ_4 := by rw [hσ_4]; exact frN_91
        rw [f2, I.2.1] at c3
        have ek : x48_5 = σ.2.2.1 91 a2.toNatClampNeg := Int32.le_antisymm I.2.2.2.1 c3
        refine ⟨frN_tr I.1 (frN_tr F q6.1), q6.2.1, ?_, by rw [← el]; exact q6.2.2.2⟩
        rw [q6.2.2.1, el, r90, I.2.2.2.2.2.1, ek]
        rfl
    · skip
      rw [f2, I.2.1] at c3
      have u := mn_u I.2.2.1 c3 hr.2.1
      have bi := bx h2 h3 I.2.2.1 u.2.2.2.2.2.1
      have ir : x48_5.toNatClampNeg < nL σ a2.toNatClampNeg := cn_lt I.2.2.1 u.2.2.2.2.2.2.2
      refine ⟨ib_1200000.mpr ?_, ?_⟩
      · clear h; rw [f2]; exact ⟨bi.1, bi.2.2.1 u.2.2.2.2.1⟩  -- b9
      intro x7 hx7
      intro x8 hx8
      unfold w_times_91
      refine ⟨fun n l1 l2 l3 l4 l5 l6 l8 l10 l11 τ => n = (rd σ 91 a3 - l11).toNatClampNeg ∧ (l1 = a1 ∧ l2 = a2 ∧ l3 = a3 ∧ l4 = x18_4 ∧ l5 = x48_5 ∧ l6.toInt = ((σ.2.2.1 90 (40000 * a2.toNatClampNeg + x48_5.toNatClampNeg)).toNatClampNeg : Int) ∧ l10 = 40000 * a1 + x48_5 ∧ tnI σ τ a1.toNatClampNeg a2.toNatClampNeg a3.toNatClampNeg x48_5 l11 l8), ⟨_, rfl, ?_⟩, ?_⟩
      · clear h; refine ⟨f1, f2, f3, f4, rfl, ?_, by rw [hx8, f1], I.1, I.2.1, by decide, hs.1, I.2.2.2.2.1, ⟨0, rfl, by decide, ?_⟩, I.2.2.2.2.2.2⟩
        · rw [hx7, Int32.toInt_toInt64, f2, bi.2.1, (I.1.2.2.2.2 a2.toNatClampNeg (fun z => rne (List.mem_singleton.mp z))).2 _ (by omega)]
          exact (cn_int (hr.2.2.1 _ ir).1).symm
        · rw [I.2.2.2.2.2.1, Nat.zero_mul]
          rfl
      rintro n91 x91_1 x91_2 x91_3 x91_4 x91_5 x91_6 x91_8 x91_10 x91_11 σ91 ⟨hn91, i91⟩
      obtain ⟨k1, k2, k3, k4, k5, k6, k7, J⟩ := i91
      refine ⟨ib_30.mpr ?_, ?_⟩
      · clear h; rw [k3]; exact ⟨h4, h5⟩  -- b11
      have e9 : rd σ91 91 x91_3 = σ.2.2.1 91 a3.toNatClampNeg := by rw [rd, k3, J.2.1]
      have wx := ik I.2.2.1 hs.1 (by show _ + nL σ a3.toNatClampNeg < _; omega)
      have bw := bx h0 h1 wx.1 wx.2.2.1
      have ew : x91_10 + rd σ91 91 x91_3 = 40000 * a1 + (x48_5 + σ.2.2.1 91 a3.toNatClampNeg) := by rw [e9, k7, Int32.add_assoc]
      refine ⟨fun c9 => ?_, fun c9 => ?_⟩
      · skip
        refine ⟨ib_30.mpr ?_, ?_⟩
        · clear h; rw [k3]; exact ⟨h4, h5⟩  -- b12
        refine ⟨ib_1200000.mpr ?_, ?_⟩
        · clear h; show 0 ≤ x91_10 + rd σ91 91 x91_3 ∧ x91_10 + rd σ91 91 x91_3 < _
          rw [ew]; exact ⟨bw.1, bw.2.2.1 wx.2.1⟩
        intro σ_10 hσ_10
        intro x11 hx11
        refine ⟨_, cn_lt2 hn48 ?_ ?_, rfl, ?_⟩
        · clear h; rw [hx11, k5]; exact u.2.2.1  -- d14
        · clear h; rw [hx11, k5]; exact u.2.2.2.1  -- d15
        · clear h; rw [hx11, k5]
          refine ⟨k1, k2, k3, k4, tm_step hr hs hL I.2.2.1 c3 J (by rw [← e9]; exact c9) ?_⟩
          rw [hσ_10]
          show riU σ91 90 (x91_10 + rd σ91 91 x91_3).toNatClampNeg _ = _
          rw [ew, bw.2.1, wx.2.2.2]
      · skip
        rw [k3, J.2.1] at c9
        have v := mn_u J.2.2.1 c9 hs.2.1
        have ks : x91_11.toNatClampNeg < nL σ a3.toNatClampNeg := cn_lt J.2.2.1 v.2.2.2.2.2.2.2
        have wx := ik I.2.2.1 J.2.2.1 (by omega)
        have bw := bx h0 h1 wx.1 wx.2.2.1
        have bk := bx h4 h5 J.2.2.1 v.2.2.2.2.2.1
        have ew : x91_10 + x91_11 = 40000 * a1 + (x48_5 + x91_11) := by rw [k7, Int32.add_assoc]
        refine ⟨ib_1200000.mpr ?_, ?_⟩
        · clear h; rw [ew]; exact ⟨bw.1, bw.2.2.1 wx.2.1⟩  -- b17
        refine ⟨ib_1200000.mpr ?_, ?_⟩
        · clear h; rw [k3]; exact ⟨bk.1, bk.2.2.1 v.2.2.2.2.1⟩  -- b18
        intro x12 hx12
        refine ⟨ib_1200000.mpr ?_, ?_⟩
        · clear h; rw [ew]; exact ⟨bw.1, bw.2.2.1 wx.2.1⟩  -- b19
        intro σ_13 hσ_13
        intro x14 hx14
        intro x15 hx15
        refine ⟨_, cn_lt2 hn91 ?_ ?_, rfl, ?_⟩
        · clear h; rw [hx15]; exact v.2.2.1  -- d20
        · clear h; rw [hx15]; exact v.2.2.2.1  -- d21
        · clear h; rw [hx15]
          rw [ew, bw.2.1, wx.2.2.2] at hσ_13 hx12
          rw [k3, bk.2.1] at hx12
          exact ⟨k1, k2, k3, k4, k5, k6, k7, tn_step sne hr hs hL I.2.2.1 ir J c9 k6 rfl rfl hx12 hx14 hσ_13⟩
  · skip
    have u := mn_u z3 c2 n1
    have bb := bx h0 h1 z3 u.2.2.2.2.2.1
    have kl : x18_5.toNatClampNeg < 40000 := by have := cn_lt z3 u.2.2.2.2.1; rwa [show (40000 : Int32).toNatClampNeg = 40000 from rfl] at this
    refine ⟨ib_1200000.mpr ?_, ?_⟩
    · clear h; rw [e1]; exact ⟨bb.1, bb.2.2.1 u.2.2.2.2.1⟩  -- b23
    intro σ_16 hσ_16
    intro x17 hx17
    refine ⟨_, cn_lt2 hn18 ?_ ?_, rfl, ?_⟩
    · clear h; rw [hx17]; exact u.2.2.1  -- d24
    · clear h; rw [hx17]; exact u.2.2.2.1  -- d25
    · clear h; rw [hx17]
      rw [e1, bb.2.1] at hσ_16
      have cs := cn_succ z3 u.2.2.2.2.2.2.1
      refine ⟨e1, e2, e3, n0, n1, nm, frN_tr z1 (by rw [hσ_16]; exact frN_90 kl), by rw [hσ_16, ri3 (by decide)]; exact z2, u.1, u.2.1, fun i hi => ?_⟩
      rw [cs] at hi
      rw [hσ_16, ri4]
      by_cases e : i = x18_5.toNatClampNeg
      · rw [e, if_pos rfl]
      · rw [if_neg (by omega)]; exact z5 i (by omega)

end
section
set_option maxHeartbeats 1600000
/-! the reference: numbers shifted by bits -/
theorem bn_n {x : Int32} (h : 0 ≤ x) : x.toBitVec.toNat = x.toNatClampNeg := by
  have e1 := bv_nn h
  have e2 := cn_int h
  omega
theorem s31 {b : Int32} (h0 : 0 ≤ b) (h1 : b < 32) : ((b &&& 31).toBitVec.smod 32).toNat = b.toNatClampNeg := by
  have l := cn_lt h0 h1
  rw [show (32 : Int32).toNatClampNeg = 32 from rfl] at l
  have s : (b &&& 31).toBitVec.toNat = b.toNatClampNeg := by
    rw [Int32.toBitVec_and, BitVec.toNat_and, show (31 : Int32).toBitVec.toNat = 2 ^ 5 - 1 from rfl, Nat.and_two_pow_sub_one_eq_mod, bn_n h0]
    omega
  have ms : (b &&& 31).toBitVec.msb = false := by
    rw [BitVec.msb_eq_decide, s]
    simp only [decide_eq_false_iff_not]
    omega
  rw [BitVec.smod_eq, ms, show (BitVec.msb (32 : BitVec 32)) = false from by decide]
  show ((b &&& 31).toBitVec.umod 32).toNat = _
  rw [show (((b &&& 31).toBitVec.umod 32).toNat) = (b &&& 31).toBitVec.toNat % 32 from rfl, s]
  omega
theorem p16 {n : Nat} (h : n ≤ 16) : 0 < 2 ^ n ∧ 2 ^ n ≤ 65536 ∧ 2 ^ n * 2 ^ (16 - n) = 65536 := by
  refine ⟨Nat.two_pow_pos n, Nat.pow_le_pow_right (n := 2) (by decide) h, ?_⟩
  rw [← Nat.pow_add, show n + (16 - n) = 16 by omega]
theorem shl_n {x b : Int32} (hx : 0 ≤ x ∧ x < 65536) (h0 : 0 ≤ b) (h1 : b ≤ 16) : (x <<< (b &&& 31)).toBitVec.toNat = x.toNatClampNeg * 2 ^ b.toNatClampNeg ∧ x.toNatClampNeg * 2 ^ b.toNatClampNeg < 2 ^ 32 := by
  have l := cn_le (y := 16) (n := 16) rfl h1
  have d := (d_n hx).1
  have p := p16 l
  have m : x.toNatClampNeg * 2 ^ b.toNatClampNeg ≤ 65535 * 65536 := Nat.mul_le_mul (by omega) p.2.1
  refine ⟨?_, by omega⟩
  rw [Int32.toBitVec_shiftLeft, BitVec.shiftLeft_eq', s31 h0 (Int32.lt_of_le_of_lt h1 (by decide)), BitVec.toNat_shiftLeft, bn_n hx.1, Nat.shiftLeft_eq]
  exact Nat.mod_eq_of_lt (by omega)
theorem sar_n {x b : Int32} (hx : 0 ≤ x ∧ x < 65536) (h0 : 0 ≤ b) (h1 : b ≤ 16) : (x >>> (b &&& 31)).toBitVec.toNat = x.toNatClampNeg / 2 ^ b.toNatClampNeg := by
  have ms : x.toBitVec.msb = false := by
    rw [BitVec.msb_eq_decide, bn_n hx.1]
    have := (d_n hx).1
    simp only [decide_eq_false_iff_not]
    omega
  rw [Int32.toBitVec_shiftRight, BitVec.sshiftRight_eq', s31 h0 (Int32.lt_of_le_of_lt h1 (by decide)), BitVec.sshiftRight_eq_of_msb_false ms, BitVec.toNat_ushiftRight, bn_n hx.1, Nat.shiftRight_eq_div_pow]
theorem up_v {x b c : Int32} (hx : 0 ≤ x ∧ x < 65536) (h0 : 0 ≤ b) (h1 : b ≤ 15) (c0 : 0 ≤ c) (c1 : c.toNatClampNeg < 2 ^ b.toNatClampNeg) : 0 ≤ (x <<< (b &&& 31)) ||| c ∧ ((x <<< (b &&& 31)) ||| c).toInt = ((x.toNatClampNeg * 2 ^ b.toNatClampNeg + c.toNatClampNeg : Nat) : Int) ∧ x.toNatClampNeg * 2 ^ b.toNatClampNeg + c.toNatClampNeg < 65536 * 2 ^ b.toNatClampNeg := by
  have l := cn_le (y := 15) (n := 15) rfl h1
  have s := shl_n hx h0 (Int32.le_trans h1 (by decide))
  have d := (d_n hx).1
  have p : 2 ^ b.toNatClampNeg ≤ 32768 := Nat.pow_le_pow_right (n := 2) (j := 15) (by decide) l
  have m : x.toNatClampNeg * 2 ^ b.toNatClampNeg ≤ 65535 * 2 ^ b.toNatClampNeg := Nat.mul_le_mul_right _ (by omega)
  have e : ((x <<< (b &&& 31)) ||| c).toBitVec.toNat = x.toNatClampNeg * 2 ^ b.toNatClampNeg + c.toNatClampNeg := by
    rw [Int32.toBitVec_or, BitVec.toNat_or, s.1, bn_n c0, ← Nat.shiftLeft_eq, Nat.shiftLeft_add_eq_or_of_lt c1]
  have t : ((x <<< (b &&& 31)) ||| c).toInt = ((x.toNatClampNeg * 2 ^ b.toNatClampNeg + c.toNatClampNeg : Nat) : Int) := by
    rw [← e]
    exact BitVec.toInt_eq_toNat_of_lt (by rw [e]; omega)
  exact ⟨Int32.le_iff_toInt_le.mpr (by rw [t, Int32.toInt_zero]; omega), t, by omega⟩
theorem ush {v : Int32} (h : 0 ≤ v) : 0 ≤ (v.toUInt32 >>> ((16 : Int32).toUInt32 &&& Int32.toUInt32 31)).toInt32 ∧ (v.toUInt32 >>> ((16 : Int32).toUInt32 &&& Int32.toUInt32 31)).toInt32.toNatClampNeg = v.toNatClampNeg / 65536 := by
  have e : ((v.toUInt32 >>> ((16 : Int32).toUInt32 &&& Int32.toUInt32 31)).toInt32).toBitVec.toNat = v.toBitVec.toNat / 65536 := by
    rw [UInt32.toBitVec_toInt32, UInt32.toBitVec_shiftRight, Int32.toBitVec_toUInt32, BitVec.ushiftRight_eq', BitVec.toNat_ushiftRight, Nat.shiftRight_eq_div_pow]
    rfl
  have lt : v.toBitVec.toNat < 2 ^ 32 := v.toBitVec.isLt
  have t : ((v.toUInt32 >>> ((16 : Int32).toUInt32 &&& Int32.toUInt32 31)).toInt32).toInt = (((v.toUInt32 >>> ((16 : Int32).toUInt32 &&& Int32.toUInt32 31)).toInt32).toBitVec.toNat : Int) := BitVec.toInt_eq_toNat_of_lt (by rw [e]; omega)
  have z : 0 ≤ (v.toUInt32 >>> ((16 : Int32).toUInt32 &&& Int32.toUInt32 31)).toInt32 := Int32.le_iff_toInt_le.mpr (by rw [t, Int32.toInt_zero]; omega)
  refine ⟨z, ?_⟩
  rw [← bn_n z, e, bn_n h]
def upI (σ τ : rS) (r : Nat) (b c k : Int32) : Prop := frN [r] σ τ ∧ τ.2.2.1 91 = σ.2.2.1 91 ∧ 0 ≤ k ∧ k ≤ σ.2.2.1 91 r ∧ 0 ≤ c ∧ c.toNatClampNeg < 2 ^ b.toNatClampNeg ∧ dgO (τ.2.2.1 90) (40000 * r) k.toNatClampNeg ∧ dv (τ.2.2.1 90) (40000 * r) k.toNatClampNeg + c.toNatClampNeg * 65536 ^ k.toNatClampNeg = dv (σ.2.2.1 90) (40000 * r) k.toNatClampNeg * 2 ^ b.toNatClampNeg ∧ ∀ i, k.toNatClampNeg ≤ i → i < 40000 → τ.2.2.1 90 (40000 * r + i) = σ.2.2.1 90 (40000 * r + i)
theorem ar_u {q p D S c x v : Nat} (h : D + c * p = S * q) (hv : v = x * q + c) : D + v % 65536 * p + v / 65536 * (65536 * p) = (S + x * p) * q := by
  have m := Nat.div_add_mod v 65536
  have e : (65536 * (v / 65536) + v % 65536) * p = (x * q + c) * p := by rw [m, hv]
  rw [Nat.add_mul, Nat.add_mul] at e
  have f : v / 65536 * (65536 * p) = 65536 * (v / 65536) * p := by
    rw [← Nat.mul_assoc, Nat.mul_comm (v / 65536) 65536]
  rw [Nat.add_mul, Nat.mul_right_comm x p q]
  omega
theorem up_step {σ τ υ : rS} {r : Nat} {b c c' k v : Int32} (h : upI σ τ r b c k) (hr : numO σ r) (b0 : 0 ≤ b) (b1 : b ≤ 15) (hk : ¬ σ.2.2.1 91 r ≤ k) (hv : v = (τ.2.2.1 90 (40000 * r + k.toNatClampNeg) <<< (b &&& 31)) ||| c) (hc : c' = (v.toUInt32 >>> ((16 : Int32).toUInt32 &&& Int32.toUInt32 31)).toInt32) (hu : υ = riU τ 90 (40000 * r + k.toNatClampNeg) (v &&& 65535)) : upI σ υ r b c' (k + 1) := by
  obtain ⟨g1, g2, g3, g4, g5, g6, g7, g8, g9⟩ := h
  have u := mn_u g3 hk hr.2.1
  have cs := cn_succ g3 u.2.2.2.2.2.2.1
  have kr : k.toNatClampNeg < nL σ r := cn_lt g3 u.2.2.2.2.2.2.2
  have kl : k.toNatClampNeg < 40000 := by have := nL_le hr; omega
  have ex := g9 _ (Nat.le_refl _) kl
  rw [ex] at hv
  have w := up_v (hr.2.2.1 _ kr) b0 b1 g5 g6
  rw [← hv] at w
  have a := and16 w.1
  have s := ush w.1
  rw [← hc] at s
  have cv := cn_int w.1
  have vn : v.toNatClampNeg = (σ.2.2.1 90 (40000 * r + k.toNatClampNeg)).toNatClampNeg * 2 ^ b.toNatClampNeg + c.toNatClampNeg := by rw [w.2.1] at cv; omega
  have an : (v &&& 65535).toNatClampNeg = v.toNatClampNeg % 65536 := by
    have ca := cn_int a.2.1
    rw [a.1] at ca
    omega
  have r90 : ∀ j, υ.2.2.1 90 j = if j = 40000 * r + k.toNatClampNeg then v &&& 65535 else τ.2.2.1 90 j := fun j => by rw [hu, ri4]
  have old : dv (υ.2.2.1 90) (40000 * r) k.toNatClampNeg = dv (τ.2.2.1 90) (40000 * r) k.toNatClampNeg := dv_congr (fun i hi => by rw [r90, if_neg (by omega)])
  refine ⟨frN_tr g1 (by rw [hu]; exact frN_90 kl), by rw [hu, ri3 (by decide)]; exact g2, u.1, u.2.1, s.1, ?_, fun i hi => ?_, ?_, fun i hi hi2 => ?_⟩
  · rw [s.2, vn]
    exact Nat.div_lt_of_lt_mul w.2.2
  · rw [cs] at hi
    rw [r90]
    by_cases e : i = k.toNatClampNeg
    · rw [e, if_pos rfl]; exact a.2
    · rw [if_neg (by omega)]; exact g7 i (by omega)
  · rw [cs, dv_s, dv_s, old, r90, if_pos rfl, pw_s, s.2, an]
    exact ar_u g8 vn
  · rw [cs] at hi
    rw [r90, if_neg (by omega)]
    exact g9 i (by omega) hi2
theorem dg_c {b c : Int32} (h1 : b ≤ 15) (c0 : 0 ≤ c) (c1 : c.toNatClampNeg < 2 ^ b.toNatClampNeg) : 0 ≤ c ∧ c < 65536 := by
  have l := cn_le (y := 15) (n := 15) rfl h1
  have p : 2 ^ b.toNatClampNeg ≤ 32768 := Nat.pow_le_pow_right (n := 2) (j := 15) (by decide) l
  refine ⟨c0, Int32.lt_iff_toInt_lt.mpr ?_⟩
  have := cn_int c0
  rw [show (65536 : Int32).toInt = 65536 from rfl]
  omega
theorem shiftUp_c {C : rCx} (hC : cOK C)  {σ : rS} {a1 : Int32} {a2 : Int32} {Q : rS → Prop} (hp : 0 ≤ a1 ∧ a1 < 30 ∧ 0 ≤ a2 ∧ a2 ≤ 15 ∧ numO σ a1.toNatClampNeg ∧ nL σ a1.toNatClampNeg < 40000) (h : ∀ (σ' : rS), (frN [a1.toNatClampNeg] σ σ' ∧ numO σ' a1.toNatClampNeg ∧ nV σ' a1.toNatClampNeg = nV σ a1.toNatClampNeg * 2 ^ a2.toNatClampNeg ∧ nL σ' a1.toNatClampNeg ≤ nL σ a1.toNatClampNeg + 1) → Q σ') : cV C 1 m_shiftUp [.ref (co C), .int a1, .int a2] σ Q := by
  refine m_shiftUp_run hC ?_
  unfold w_shiftUp_0
  obtain ⟨h0, h1, h2, h3, hr, hL⟩ := hp
  unfold w_shiftUp_5
  refine ⟨fun n l1 l2 l3 l4 τ => n = (rd σ 91 a1 - l4).toNatClampNeg ∧ (l1 = a1 ∧ l2 = a2 ∧ upI σ τ a1.toNatClampNeg a2 l3 l4), ⟨_, rfl, ?_⟩, ?_⟩
  · clear h; refine ⟨rfl, rfl, frN_refl, rfl, by decide, hr.1, by decide, Nat.two_pow_pos _, fun i hi => absurd hi (Nat.not_lt_zero i), ?_, fun i _ _ => rfl⟩
    show 0 + 0 * 65536 ^ 0 = 0 * _
    rw [Nat.zero_mul, Nat.zero_mul]
  rintro n5 x5_1 x5_2 x5_3 x5_4 σ5 ⟨hn5, i5⟩
  obtain ⟨e1, e2, I⟩ := i5
  refine ⟨ib_30.mpr ?_, ?_⟩
  · clear h; rw [e1]; exact ⟨h0, h1⟩  -- b2
  refine ⟨fun c1 => ?_, fun c1 => ?_⟩
  · skip
    refine ⟨ib_30.mpr ?_, ?_⟩
    · clear h; rw [e1]; exact ⟨h0, h1⟩  -- b3
    rw [e1, I.2.1] at c1
    have ek : x5_4 = σ.2.2.1 91 a1.toNatClampNeg := Int32.le_antisymm I.2.2.2.1 c1
    have L2 : x5_4.toNatClampNeg = nL σ a1.toNatClampNeg := by rw [ek]
    have np := n1p hr.1 (le_of_n hr.1 hL)
    have bn := bx h0 h1 hr.1 np.2.2.2.1
    have cs := cn_succ hr.1 np.2.2.2.2
    have eq : rd σ5 91 x5_1 = σ.2.2.1 91 a1.toNatClampNeg := by rw [rd, e1, I.2.1]
    refine ⟨ib_1200000.mpr ?_, ?_⟩
    · clear h; show 0 ≤ 40000 * x5_1 + rd σ5 91 x5_1 ∧ 40000 * x5_1 + rd σ5 91 x5_1 < _
      rw [eq, e1]; exact ⟨bn.1, bn.2.2.1 np.2.2.1⟩
    intro σ_2 hσ_2
    refine ⟨ib_30.mpr ?_, ?_⟩
    · clear h; rw [e1]; exact ⟨h0, h1⟩  -- b5
    refine ⟨ib_30.mpr ?_, ?_⟩
    · clear h; rw [e1]; exact ⟨h0, h1⟩  -- b6
    intro σ_3 hσ_3
    have s2 : σ_2 = riU σ5 90 (40000 * a1.toNatClampNeg + nL σ a1.toNatClampNeg) x5_3 := by
      rw [hσ_2]
      show riU σ5 90 (40000 * x5_1 + rd σ5 91 x5_1).toNatClampNeg _ = _
      rw [eq, e1, bn.2.1]
    have s3 : σ_3 = riU σ_2 91 a1.toNatClampNeg (σ.2.2.1 91 a1.toNatClampNeg + 1) := by rw [hσ_3, e1, s2, ri3 (by decide), I.2.1]
    have el : σ_3.2.2.1 91 a1.toNatClampNeg = σ.2.2.1 91 a1.toNatClampNeg + 1 := by rw [s3, ri4, if_pos rfl]
    have r90 : ∀ j, σ_3.2.2.1 90 j = if j = 40000 * a1.toNatClampNeg + nL σ a1.toNatClampNeg then x5_3 else σ5.2.2.1 90 j := fun j => by rw [s3, ri3 (by decide), s2, ri4]
    have LL : nL σ_3 a1.toNatClampNeg = nL σ a1.toNatClampNeg + 1 := by show (σ_3.2.2.1 91 a1.toNatClampNeg).toNatClampNeg = _; rw [el, cs]
    have dd := I.2.2.2.2.2.2.1
    rw [L2] at dd
    refine trim_v hC  ?_ (fun σ_4 q5 => ?_)
    · clear h; rw [e1]
      refine ⟨h0, h1, by rw [rd, el]; exact np.1, by rw [rd, el]; exact np.2.1, fun i hi => ?_⟩
      rw [LL] at hi
      rw [r90]
      by_cases e : i = nL σ a1.toNatClampNeg
      · rw [e, if_pos rfl]; exact dg_c h3 I.2.2.2.2.1 I.2.2.2.2.2.1
      · rw [if_neg (by omega)]; exact dd i (by omega)
    rw [e1] at q5
    refine h _ ?_
    · clear h; have F : frN [a1.toNatClampNeg] σ5 σ_3 := by rw [s3, s2]; exact frN_tr (frN_90 hL) frN_91
      refine ⟨frN_tr I.1 (frN_tr F q5.1), q5.2.1, ?_, by rw [← LL]; exact q5.2.2.2⟩
      have o : dv (σ_3.2.2.1 90) (40000 * a1.toNatClampNeg) (nL σ a1.toNatClampNeg) = dv (σ5.2.2.1 90) (40000 * a1.toNatClampNeg) (nL σ a1.toNatClampNeg) := dv_congr (fun i hi => by rw [r90, if_neg (by omega)])
      have v := I.2.2.2.2.2.2.2.1
      rw [L2] at v
      rw [q5.2.2.1, LL, dv_s, r90, if_pos rfl, o, v]
      rfl
  · skip
    rw [e1, I.2.1] at c1
    have u := mn_u I.2.2.1 c1 hr.2.1
    have bb := bx h0 h1 I.2.2.1 u.2.2.2.2.2.1
    refine ⟨ib_1200000.mpr ?_, ?_⟩
    · clear h; rw [e1]; exact ⟨bb.1, bb.2.2.1 u.2.2.2.2.1⟩  -- b9
    intro x6 hx6
    refine ⟨ib_1200000.mpr ?_, ?_⟩
    · clear h; rw [e1]; exact ⟨bb.1, bb.2.2.1 u.2.2.2.2.1⟩  -- b10
    intro σ_7 hσ_7
    intro x8 hx8
    intro x9 hx9
    refine ⟨_, cn_lt2 hn5 ?_ ?_, rfl, ?_⟩
    · clear h; rw [hx9]; exact u.2.2.1  -- d11
    · clear h; rw [hx9]; exact u.2.2.2.1  -- d12
    · clear h; rw [hx9]
      rw [e1, bb.2.1] at hσ_7 hx6
      rw [e2] at hx6
      exact ⟨e1, e2, up_step I hr h2 h3 c1 hx6 hx8 hσ_7⟩

/-- the place k of a number, 0 behind its own places -/
def dgt (σ : rS) (r k : Nat) : Nat := if k < nL σ r then (σ.2.2.1 90 (40000 * r + k)).toNatClampNeg else 0
theorem ar_q {q h x y w : Nat} (hq : 0 < q) (e : q * h = 65536) (hw : w = x / q + y % q * h) : q * w + x % q = x + y % q * 65536 := by
  have m := Nat.div_add_mod x q
  rw [hw, Nat.mul_add, Nat.mul_left_comm q (y % q) h, e]
  omega
theorem dn_v {x y b : Int32} (hx : 0 ≤ x ∧ x < 65536) (hy : 0 ≤ y ∧ y < 65536) (h0 : 0 ≤ b) (h1 : b ≤ 15) : (0 ≤ ((x >>> (b &&& 31)) ||| (y <<< ((16 - b) &&& 31))) &&& 65535 ∧ ((x >>> (b &&& 31)) ||| (y <<< ((16 - b) &&& 31))) &&& 65535 < 65536) ∧ 2 ^ b.toNatClampNeg * (((x >>> (b &&& 31)) ||| (y <<< ((16 - b) &&& 31))) &&& 65535).toNatClampNeg + x.toNatClampNeg % 2 ^ b.toNatClampNeg = x.toNatClampNeg + y.toNatClampNeg % 2 ^ b.toNatClampNeg * 65536 := by
  have l := cn_le (y := 15) (n := 15) rfl h1
  have c : 0 ≤ 16 - b ∧ 16 - b ≤ 16 := by grind
  have cb : (16 - b).toNatClampNeg = 16 - b.toNatClampNeg := by
    have a := cn_int c.1
    have e := i_sub (x := 16) (y := b) (by decide) h0
    rw [e, show (16 : Int32).toInt = 16 from rfl] at a
    have d := cn_int h0
    omega
  have p := p16 (n := b.toNatClampNeg) (by omega)
  have s := shl_n hy c.1 c.2
  have t := sar_n hx h0 (Int32.le_trans h1 (by decide))
  have dx := (d_n hx).1
  have dy := (d_n hy).1
  rw [cb] at s
  have lt : x.toNatClampNeg / 2 ^ b.toNatClampNeg < 2 ^ (16 - b.toNatClampNeg) := Nat.div_lt_of_lt_mul (by omega)
  have a := and16g (x := (x >>> (b &&& 31)) ||| (y <<< ((16 - b) &&& 31)))
  have e : (((x >>> (b &&& 31)) ||| (y <<< ((16 - b) &&& 31))) &&& 65535).toBitVec.toNat = x.toNatClampNeg / 2 ^ b.toNatClampNeg + y.toNatClampNeg % 2 ^ b.toNatClampNeg * 2 ^ (16 - b.toNatClampNeg) := by
    rw [Int32.toBitVec_and, BitVec.toNat_and, show (65535 : Int32).toBitVec.toNat = 2 ^ 16 - 1 from rfl, Nat.and_two_pow_sub_one_eq_mod, Int32.toBitVec_or, BitVec.toNat_or, s.1, t, Nat.or_comm, ← Nat.shiftLeft_eq, ← Nat.shiftLeft_add_eq_or_of_lt lt, Nat.shiftLeft_eq]
    rw [show (2 : Nat) ^ 16 = 2 ^ b.toNatClampNeg * 2 ^ (16 - b.toNatClampNeg) from p.2.2.symm]
    rw [Nat.add_comm, Nat.add_mod, Nat.mul_mod_mul_right]
    have l1 : x.toNatClampNeg / 2 ^ b.toNatClampNeg % (2 ^ b.toNatClampNeg * 2 ^ (16 - b.toNatClampNeg)) = x.toNatClampNeg / 2 ^ b.toNatClampNeg := Nat.mod_eq_of_lt (Nat.lt_of_lt_of_le lt (Nat.le_mul_of_pos_left _ p.1))
    rw [l1]
    refine Nat.mod_eq_of_lt ?_
    have m : y.toNatClampNeg % 2 ^ b.toNatClampNeg + 1 ≤ 2 ^ b.toNatClampNeg := Nat.mod_lt _ p.1
    have m2 := Nat.mul_le_mul_right (2 ^ (16 - b.toNatClampNeg)) m
    rw [Nat.add_mul] at m2
    omega
  refine ⟨a.2, ?_⟩
  refine ar_q p.1 p.2.2 ?_
  rw [← e]
  exact (bn_n a.2.1).symm
def dnI (σ τ : rS) (r : Nat) (b k : Int32) : Prop := frN [r] σ τ ∧ τ.2.2.1 91 = σ.2.2.1 91 ∧ 0 ≤ k ∧ k ≤ σ.2.2.1 91 r ∧ dgO (τ.2.2.1 90) (40000 * r) k.toNatClampNeg ∧ 2 ^ b.toNatClampNeg * dv (τ.2.2.1 90) (40000 * r) k.toNatClampNeg + dgt σ r 0 % 2 ^ b.toNatClampNeg = dv (σ.2.2.1 90) (40000 * r) k.toNatClampNeg + dgt σ r k.toNatClampNeg % 2 ^ b.toNatClampNeg * 65536 ^ k.toNatClampNeg ∧ ∀ i, k.toNatClampNeg ≤ i → i < 40000 → τ.2.2.1 90 (40000 * r + i) = σ.2.2.1 90 (40000 * r + i)
theorem ar_d {q p D S w m n e x : Nat} (h : q * D + e = S + m * p) (hw : q * w + m = x + n * 65536) : q * (D + w * p) + e = S + x * p + n * (65536 * p) := by
  have g : (q * w + m) * p = (x + n * 65536) * p := by rw [hw]
  rw [Nat.add_mul, Nat.add_mul, Nat.mul_assoc, Nat.mul_assoc] at g
  rw [Nat.mul_add]
  omega
theorem dn_step {σ τ υ : rS} {r : Nat} {b k y : Int32} (h : dnI σ τ r b k) (hr : numO σ r) (b0 : 0 ≤ b) (b1 : b ≤ 15) (hk : ¬ σ.2.2.1 91 r ≤ k) (hy : (0 ≤ y ∧ y < 65536) ∧ y.toNatClampNeg = dgt σ r (k.toNatClampNeg + 1)) (hu : υ = riU τ 90 (40000 * r + k.toNatClampNeg) (((τ.2.2.1 90 (40000 * r + k.toNatClampNeg) >>> (b &&& 31)) ||| (y <<< ((16 - b) &&& 31))) &&& 65535)) : dnI σ υ r b (k + 1) := by
  obtain ⟨g1, g2, g3, g4, g5, g6, g7⟩ := h
  have u := mn_u g3 hk hr.2.1
  have cs := cn_succ g3 u.2.2.2.2.2.2.1
  have kr : k.toNatClampNeg < nL σ r := cn_lt g3 u.2.2.2.2.2.2.2
  have kl : k.toNatClampNeg < 40000 := by have := nL_le hr; omega
  rw [g7 _ (Nat.le_refl _) kl] at hu
  have w := dn_v (hr.2.2.1 _ kr) hy.1 b0 b1
  have r90 : ∀ j, υ.2.2.1 90 j = if j = 40000 * r + k.toNatClampNeg then (((σ.2.2.1 90 (40000 * r + k.toNatClampNeg) >>> (b &&& 31)) ||| (y <<< ((16 - b) &&& 31))) &&& 65535) else τ.2.2.1 90 j := fun j => by rw [hu, ri4]
  have old : dv (υ.2.2.1 90) (40000 * r) k.toNatClampNeg = dv (τ.2.2.1 90) (40000 * r) k.toNatClampNeg := dv_congr (fun i hi => by rw [r90, if_neg (by omega)])
  refine ⟨frN_tr g1 (by rw [hu]; exact frN_90 kl), by rw [hu, ri3 (by decide)]; exact g2, u.1, u.2.1, fun i hi => ?_, ?_, fun i hi hi2 => ?_⟩
  · rw [cs] at hi
    rw [r90]
    by_cases e : i = k.toNatClampNeg
    · rw [e, if_pos rfl]; exact w.1
    · rw [if_neg (by omega)]; exact g5 i (by omega)
  · rw [cs, dv_s, dv_s, old, r90, if_pos rfl, pw_s, ← hy.2]
    refine ar_d g6 ?_
    rw [show dgt σ r k.toNatClampNeg = (σ.2.2.1 90 (40000 * r + k.toNatClampNeg)).toNatClampNeg from if_pos kr]
    exact w.2
  · rw [cs] at hi
    rw [r90, if_neg (by omega)]
    exact g7 i (by omega) hi2
theorem dn_u {k n : Int32} (k0 : 0 ≤ k) (h : ¬ n ≤ k) (n1 : n ≤ 40000) (h2 : ¬ n ≤ k + 1) : 0 ≤ k + 1 ∧ k + 1 ≤ 40000 ∧ k + 1 < 40000 := by grind
theorem dv_q {q x r : Nat} (hq : 0 < q) : (q * x + r % q) / q = x := by
  rw [Nat.mul_add_div hq, Nat.div_eq_of_lt (Nat.mod_lt r hq), Nat.add_zero]
theorem shiftDown_c {C : rCx} (hC : cOK C)  {σ : rS} {a1 : Int32} {a2 : Int32} {Q : rS → Prop} (hp : 0 ≤ a1 ∧ a1 < 30 ∧ 0 ≤ a2 ∧ a2 ≤ 15 ∧ numO σ a1.toNatClampNeg) (h : ∀ (σ' : rS), (frN [a1.toNatClampNeg] σ σ' ∧ numO σ' a1.toNatClampNeg ∧ nV σ' a1.toNatClampNeg = nV σ a1.toNatClampNeg / 2 ^ a2.toNatClampNeg ∧ nL σ' a1.toNatClampNeg ≤ nL σ a1.toNatClampNeg) → Q σ') : cV C 1 m_shiftDown [.ref (co C), .int a1, .int a2] σ Q := by
  refine m_shiftDown_run hC ?_
  unfold w_shiftDown_0
  obtain ⟨h0, h1, h2, h3, hr⟩ := hp
  unfold w_shiftDown_2
  refine ⟨fun n l1 l2 l3 τ => n = (rd σ 91 a1 - l3).toNatClampNeg ∧ (l1 = a1 ∧ l2 = a2 ∧ dnI σ τ a1.toNatClampNeg a2 l3), ⟨_, rfl, ?_⟩, ?_⟩
  · clear h; refine ⟨rfl, rfl, frN_refl, rfl, by decide, hr.1, fun i hi => absurd hi (Nat.not_lt_zero i), ?_, fun i _ _ => rfl⟩
    show _ * 0 + dgt σ a1.toNatClampNeg 0 % _ = 0 + dgt σ a1.toNatClampNeg 0 % _ * 1
    omega
  rintro n2 x2_1 x2_2 x2_3 σ2 ⟨hn2, i2⟩
  have hj42 : ∀ (l1 : Int32) (l2 : Int32) (l3 : Int32) (s0 : Int32) (τ : rS), (l1 = a1 ∧ l2 = a2 ∧ τ = σ2 ∧ l3 = x2_3 ∧ ¬ rd σ 91 a1 ≤ x2_3 ∧ (0 ≤ s0 ∧ s0 < 65536) ∧ s0.toNatClampNeg = dgt σ a1.toNatClampNeg (x2_3.toNatClampNeg + 1)) → w_shiftDown_42 C Q (fun l1' l2' l3' τ => ∃ k < n2, (fun n l1 l2 l3 τ => n = (rd σ 91 a1 - l3).toNatClampNeg ∧ (l1 = a1 ∧ l2 = a2 ∧ dnI σ τ a1.toNatClampNeg a2 l3)) k l1' l2' l3' τ) l1 l2 l3 s0 τ := by
    rintro y42_1 y42_2 y42_3 y42_s0 τ42 j42
    unfold w_shiftDown_42
    obtain ⟨e1, e2, I⟩ := i2
    obtain ⟨f1, f2, f3, f4, f5, f6⟩ := j42
    have u := mn_u I.2.2.1 f5 hr.2.1
    have bb := bx h0 h1 I.2.2.1 u.2.2.2.2.2.1
    refine ⟨ib_1200000.mpr ?_, ?_⟩
    · clear h; rw [f1, f4]; exact ⟨bb.1, bb.2.2.1 u.2.2.2.2.1⟩  -- b2
    refine ⟨ib_1200000.mpr ?_, ?_⟩
    · clear h; rw [f1, f4]; exact ⟨bb.1, bb.2.2.1 u.2.2.2.2.1⟩  -- b3
    intro σ_1 hσ_1
    intro x2 hx2
    refine ⟨_, cn_lt2 hn2 ?_ ?_, rfl, ?_⟩
    · clear h; rw [hx2, f4]; exact u.2.2.1  -- d4
    · clear h; rw [hx2, f4]; exact u.2.2.2.1  -- d5
    · clear h; rw [hx2, f4]
      rw [f1, f2, f3, f4, bb.2.1] at hσ_1
      exact ⟨f1, f2, dn_step I hr h2 h3 f5 f6 hσ_1⟩
  obtain ⟨e1, e2, I⟩ := i2
  refine ⟨ib_30.mpr ?_, ?_⟩
  · clear h; rw [e1]; exact ⟨h0, h1⟩  -- b7
  refine ⟨fun c3 => ?_, fun c3 => ?_⟩
  · skip
    refine trim_v hC  ?_ (fun σ_4 q5 => ?_)
    · clear h; rw [e1, I.2.1] at c3
      have ek : x2_3 = σ.2.2.1 91 a1.toNatClampNeg := Int32.le_antisymm I.2.2.2.1 c3
      rw [e1]
      refine ⟨h0, h1, by rw [rd, I.2.1]; exact hr.1, by rw [rd, I.2.1]; exact hr.2.1, ?_⟩
      show dgO _ _ (σ2.2.2.1 91 a1.toNatClampNeg).toNatClampNeg
      rw [I.2.1, ← ek]
      exact I.2.2.2.2.1
    refine h _ ?_
    · clear h; rw [e1, I.2.1] at c3
      have ek : x2_3 = σ.2.2.1 91 a1.toNatClampNeg := Int32.le_antisymm I.2.2.2.1 c3
      have L2 : x2_3.toNatClampNeg = nL σ a1.toNatClampNeg := by rw [ek]
      have LL : nL σ2 a1.toNatClampNeg = nL σ a1.toNatClampNeg := by show (σ2.2.2.1 91 a1.toNatClampNeg).toNatClampNeg = _; rw [I.2.1]
      rw [e1, LL] at q5
      refine ⟨frN_tr I.1 q5.1, q5.2.1, ?_, q5.2.2.2⟩
      have v := I.2.2.2.2.2.1
      rw [L2, show dgt σ a1.toNatClampNeg (nL σ a1.toNatClampNeg) = 0 from if_neg (Nat.lt_irrefl _), Nat.zero_mod, Nat.zero_mul] at v
      rw [q5.2.2.1]
      have z : 2 ^ a2.toNatClampNeg * dv (σ2.2.2.1 90) (40000 * a1.toNatClampNeg) (nL σ a1.toNatClampNeg) + dgt σ a1.toNatClampNeg 0 % 2 ^ a2.toNatClampNeg = nV σ a1.toNatClampNeg := v
      rw [← z]
      exact (dv_q (Nat.two_pow_pos _)).symm
  · skip
    rw [e1, I.2.1] at c3
    have u := mn_u I.2.2.1 c3 hr.2.1
    have cs := cn_succ I.2.2.1 u.2.2.2.2.2.2.1
    refine ⟨ib_30.mpr ?_, ?_⟩
    · clear h; rw [e1]; exact ⟨h0, h1⟩  -- b10
    refine ⟨fun c6 => ?_, fun c6 => ?_⟩
    · skip
      refine hj42 _ _ _ _ _ ?_
      · clear h; rw [e1, I.2.1, cn_li hr.1 u.1, cs] at c6
        refine ⟨e1, e2, rfl, rfl, c3, ⟨by decide, by decide⟩, ?_⟩
        exact (if_neg (Nat.not_lt.mpr c6)).symm
    · skip
      rw [e1, I.2.1] at c6
      have w := dn_u I.2.2.1 c3 hr.2.1 c6
      have bs := bx h0 h1 w.1 w.2.1
      have ea : 40000 * x2_1 + x2_3 + 1 = 40000 * a1 + (x2_3 + 1) := by rw [e1, Int32.add_assoc]
      refine ⟨ib_1200000.mpr ?_, ?_⟩
      · clear h; rw [ea]; exact ⟨bs.1, bs.2.2.1 w.2.2⟩  -- b12
      refine hj42 _ _ _ _ _ ?_
      · clear h; rw [cn_li hr.1 u.1, cs] at c6
        have lt : x2_3.toNatClampNeg + 1 < nL σ a1.toNatClampNeg := Nat.not_le.mp c6
        have e9 : σ2.2.2.1 90 (40000 * x2_1 + x2_3 + 1).toNatClampNeg = σ.2.2.1 90 (40000 * a1.toNatClampNeg + (x2_3.toNatClampNeg + 1)) := by
          rw [ea, bs.2.1, cs]
          exact I.2.2.2.2.2.2 _ (by omega) (by have := nL_le hr; omega)
        refine ⟨e1, e2, rfl, rfl, c3, ?_, ?_⟩
        · rw [e9]; exact hr.2.2.1 _ lt
        · rw [e9]; exact (if_pos lt).symm

end
section
set_option maxHeartbeats 1600000
/-! the reference: one place of a quotient -/
theorem lg_le {x y : Int64} : lg_cmp x y ≤ 0 ↔ x ≤ y := by
  unfold lg_cmp
  by_cases h : x > y
  · rw [if_pos h]
    exact ⟨fun z => absurd z (by decide), fun z => absurd (Int64.lt_of_le_of_lt z h) (Int64.lt_irrefl)⟩
  · rw [if_neg h]
    refine ⟨fun _ => Int64.not_lt.mp h, fun _ => ?_⟩
    by_cases e : x = y
    · rw [if_pos e]; decide
    · rw [if_neg e]; decide
theorem lg_ge {x y : Int64} : 0 ≤ lg_cmp x y ↔ y ≤ x := by
  unfold lg_cmp
  by_cases h : x > y
  · rw [if_pos h]
    exact ⟨fun _ => Int64.le_of_lt h, fun _ => by decide⟩
  · rw [if_neg h]
    by_cases e : x = y
    · rw [if_pos e]
      exact ⟨fun _ => by rw [e]; exact Int64.le_refl y, fun _ => by decide⟩
    · rw [if_neg e]
      exact ⟨fun z => absurd z (by decide), fun z => absurd (Int64.lt_of_le_of_ne z (fun w => e w.symm)) h⟩
theorem l_andg {x : Int64} : (x &&& 65535).toInt = x.toInt % 65536 ∧ ((x &&& 65535).toInt32).toInt = x.toInt % 65536 ∧ 0 ≤ (x &&& 65535).toInt32 ∧ (x &&& 65535).toInt32 < 65536 := by
  have e : (x &&& 65535).toBitVec.toNat = x.toBitVec.toNat % 65536 := by
    rw [Int64.toBitVec_and, BitVec.toNat_and, show (65535 : Int64).toBitVec.toNat = 2 ^ 16 - 1 from rfl, Nat.and_two_pow_sub_one_eq_mod]
  have t : (x &&& 65535).toInt = ((x &&& 65535).toBitVec.toNat : Int) := BitVec.toInt_eq_toNat_of_lt (by rw [e]; omega)
  have c : x.toInt = if 2 * x.toBitVec.toNat < 2 ^ 64 then (x.toBitVec.toNat : Int) else (x.toBitVec.toNat : Int) - (2 ^ 64 : Nat) := BitVec.toInt_eq_toNat_cond x.toBitVec
  have r : (x &&& 65535).toInt = x.toInt % 65536 := by
    rw [t, e]
    split at c <;> omega
  have r2 : ((x &&& 65535).toInt32).toInt = x.toInt % 65536 := by
    rw [Int64.toInt_toInt32, r]
    exact Int.bmod_eq_of_le (by omega) (by omega)
  refine ⟨r, r2, ?_, ?_⟩
  · rw [Int32.le_iff_toInt_le, Int32.toInt_zero, r2]; omega
  · rw [Int32.lt_iff_toInt_lt, r2, show (65536 : Int32).toInt = 65536 from rfl]; omega
theorem x64 {x : Int32} (h : 0 ≤ x) : (x.toInt64).toBitVec.toNat = x.toNatClampNeg := by
  have m : x.toBitVec.msb = false := by
    rw [BitVec.msb_eq_decide, bn_n h]
    have := cn_int h
    have := Int32.toInt_lt x
    simp only [decide_eq_false_iff_not]
    omega
  have l : x.toNatClampNeg < 2 ^ 32 := by rw [← bn_n h]; exact x.toBitVec.isLt
  rw [Int32.toBitVec_toInt64, BitVec.signExtend_eq_setWidth_of_msb_false m, BitVec.toNat_setWidth, bn_n h]
  exact Nat.mod_eq_of_lt (by omega)
theorem top_v {x y : Int32} (hx : 0 ≤ x ∧ x < 65536) (hy : 0 ≤ y ∧ y < 65536) : ((x.toInt64 <<< ((16 : Int32).toInt64 &&& 63)) ||| y.toInt64).toInt = ((x.toNatClampNeg * 65536 + y.toNatClampNeg : Nat) : Int) := by
  have dx := (d_n hx).1
  have dy := (d_n hy).1
  have e : ((x.toInt64 <<< ((16 : Int32).toInt64 &&& 63)) ||| y.toInt64).toBitVec.toNat = x.toNatClampNeg * 65536 + y.toNatClampNeg := by
    rw [Int64.toBitVec_or, BitVec.toNat_or, x64 hy.1, Int64.toBitVec_shiftLeft, BitVec.shiftLeft_eq', show (((16 : Int32).toInt64 &&& 63).toBitVec.smod 64).toNat = 16 from rfl, BitVec.toNat_shiftLeft, x64 hx.1, Nat.mod_eq_of_lt (by rw [Nat.shiftLeft_eq]; omega), ← Nat.shiftLeft_add_eq_or_of_lt (by omega), Nat.shiftLeft_eq]
  rw [← e]
  exact BitVec.toInt_eq_toNat_of_lt (by rw [e]; omega)
theorem ar_g {D E x y t p R S : Nat} (hR : R = D + y * p + x * (65536 * p)) (hS : S = E + t * p) (hD : D < p) (ht : 0 < t) : R < ((x * 65536 + y) / t + 1) * S := by
  have q := Nat.lt_div_mul_add (a := x * 65536 + y) ht
  have q2 : x * 65536 + y + 1 ≤ ((x * 65536 + y) / t + 1) * t := by
    rw [Nat.add_mul]
    omega
  have m := Nat.mul_le_mul_right p q2
  have s : ((x * 65536 + y) / t + 1) * (t * p) ≤ ((x * 65536 + y) / t + 1) * S := Nat.mul_le_mul_left _ (by omega)
  rw [Nat.mul_assoc] at m
  have e : (x * 65536 + y + 1) * p = x * (65536 * p) + y * p + p := by
    rw [Nat.add_mul, Nat.add_mul, Nat.mul_assoc]
    omega
  omega
/-- only the places o to o + n differ -/
def frP (o n : Nat) (σ τ : rS) : Prop := τ.1 = σ.1 ∧ τ.2.1 = σ.2.1 ∧ (∀ k, k ≠ 90 → τ.2.2.1 k = σ.2.2.1 k) ∧ τ.2.2.2 = σ.2.2.2 ∧ ∀ i, (i < o ∨ o + n < i) → τ.2.2.1 90 i = σ.2.2.1 90 i
theorem frP_refl {o n : Nat} {σ : rS} : frP o n σ σ := ⟨rfl, rfl, fun _ _ => rfl, rfl, fun _ _ => rfl⟩
theorem frP_tr {o n : Nat} {σ τ υ : rS} (h : frP o n σ τ) (g : frP o n τ υ) : frP o n σ υ := ⟨g.1.trans h.1, g.2.1.trans h.2.1, fun k z => (g.2.2.1 k z).trans (h.2.2.1 k z), g.2.2.2.1.trans h.2.2.2.1, fun i z => (g.2.2.2.2 i z).trans (h.2.2.2.2 i z)⟩
theorem frP_w {o n i : Nat} {σ : rS} {x : Int32} (hi : i ≤ n) : frP o n σ (riU σ 90 (o + i) x) := ⟨rfl, rfl, fun k z => ri3 z, rfl, fun j hj => by rw [ri4, if_neg (by omega)]⟩
theorem ox {a j k : Int32} (h0 : 0 ≤ a) (h1 : a < 30) (hj : 0 ≤ j) (hk : 0 ≤ k) (h : j.toNatClampNeg + k.toNatClampNeg < 40000) : (0 ≤ 40000 * a + j + k ∧ 40000 * a + j + k < 1200000) ∧ (40000 * a + j + k).toNatClampNeg = 40000 * a.toNatClampNeg + j.toNatClampNeg + k.toNatClampNeg := by
  have w := ik hj hk h
  have b := bx h0 h1 w.1 w.2.2.1
  rw [Int32.add_assoc]
  exact ⟨⟨b.1, b.2.2.1 w.2.1⟩, by rw [b.2.1, w.2.2.2, Nat.add_assoc]⟩
theorem sb1 {x n : Int32} : x + n - 1 = x + (n - 1) := by rw [Int32.sub_eq_add_neg, Int32.sub_eq_add_neg, Int32.add_assoc]
/-- while the divisor is taken away: k places are done -/
def odI (σ τ : rS) (o s : Nat) (g c b : Int64) (k : Int32) : Prop := frP o (nL σ s) σ τ ∧ 0 ≤ k ∧ k ≤ σ.2.2.1 91 s ∧ dgO (τ.2.2.1 90) o k.toNatClampNeg ∧ (∀ i, k.toNatClampNeg ≤ i → τ.2.2.1 90 (o + i) = σ.2.2.1 90 (o + i)) ∧ ∃ G K H : Nat, g.toInt = (G : Int) ∧ c.toInt = (K : Int) ∧ b.toInt = (H : Int) ∧ G < 65536 ∧ K < 65536 ∧ H ≤ 1 ∧ dv (τ.2.2.1 90) o k.toNatClampNeg + G * dv (σ.2.2.1 90) (40000 * s) k.toNatClampNeg = dv (σ.2.2.1 90) o k.toNatClampNeg + (K + H) * 65536 ^ k.toNatClampNeg
theorem ar_o {D D' S p G K H x y d K' H' : Nat} (h : D + G * S = D' + (K + H) * p) (hv : K + H + d + G * y = x + 65536 * K' + 65536 * H') : D + d * p + G * (S + y * p) = D' + x * p + (K' + H') * (65536 * p) := by
  have e : (K + H + d + G * y) * p = (x + 65536 * K' + 65536 * H') * p := by rw [hv]
  rw [Nat.add_mul, Nat.add_mul, Nat.add_mul, Nat.add_mul, Nat.add_mul, Nat.mul_assoc, Nat.mul_assoc, Nat.mul_assoc] at e
  have f : (K' + H') * (65536 * p) = 65536 * (K' * p) + 65536 * (H' * p) := by rw [Nat.add_mul, Nat.mul_left_comm K', Nat.mul_left_comm H']
  have g : (K + H) * p = K * p + H * p := Nat.add_mul ..
  rw [Nat.mul_add]
  omega
theorem mc_v {y : Int32} {a c : Int64} {A K : Nat} (hy : 0 ≤ y ∧ y < 65536) (ha : a.toInt = (A : Int)) (hA : A < 65536) (hc : c.toInt = (K : Int)) (hK : K < 65536) : (c + a * y.toInt64).toInt = ((K + A * y.toNatClampNeg : Nat) : Int) ∧ 0 ≤ c + a * y.toInt64 ∧ K + A * y.toNatClampNeg < 65536 * 65536 := by
  have dy := d_n hy
  have m := m1616 hA dy.1
  have e1 : (a * y.toInt64).toInt = ((A * y.toNatClampNeg : Nat) : Int) := by
    rw [Int64.toInt_mul, Int32.toInt_toInt64, ha, ← dy.2, ← Int.natCast_mul]
    exact Int.bmod_eq_of_le (by omega) (by omega)
  have e2 : (c + a * y.toInt64).toInt = ((K + A * y.toNatClampNeg : Nat) : Int) := by
    rw [Int64.toInt_add, e1, hc]
    rw [Int.bmod_eq_of_le (by omega) (by omega)]
    omega
  exact ⟨e2, by rw [Int64.le_iff_toInt_le, e2, Int64.toInt_zero]; omega, by omega⟩
theorem od_step {σ τ υ : rS} {o s : Nat} {g c b c2 c' v b' : Int64} {k : Int32} (h : odI σ τ o s g c b k) (hs : numO σ s) (hd : dgO (σ.2.2.1 90) o (nL σ s + 1)) (hk : ¬ σ.2.2.1 91 s ≤ k) (hc2 : c2 = c + g * (σ.2.2.1 90 (40000 * s + k.toNatClampNeg)).toInt64) (hv : v = (σ.2.2.1 90 (o + k.toNatClampNeg)).toInt64 - (c2 &&& 65535) - b) (hb : (0 ≤ v ∧ b' = 0) ∨ (¬ 0 ≤ v ∧ b' = 1)) (hc : c' = (c2.toUInt64 >>> ((16 : Int32).toInt64.toUInt64 &&& Int64.toUInt64 63)).toInt64) (hu : υ = riU τ 90 (o + k.toNatClampNeg) (v &&& 65535).toInt32) : odI σ υ o s g c' b' (k + 1) := by
  obtain ⟨g1, g2, g3, g4, g5, G, K, H, g6, g7, g8, g9, ga, gb, gc⟩ := h
  have u := mn_u g2 hk hs.2.1
  have cs := cn_succ g2 u.2.2.2.2.2.2.1
  have ks : k.toNatClampNeg < nL σ s := cn_lt g2 u.2.2.2.2.2.2.2
  have dy := hs.2.2.1 _ ks
  have dx := d_n (hd k.toNatClampNeg (by omega))
  have w := mc_v dy g6 g9 g7 ga
  rw [← hc2] at w
  have la := l_andg (x := c2)
  have ls := l_shr w.2.1
  rw [← hc] at ls
  have lv := l_andg (x := v)
  have ev : v.toInt = ((σ.2.2.1 90 (o + k.toNatClampNeg)).toNatClampNeg : Int) - ((K + G * (σ.2.2.1 90 (40000 * s + k.toNatClampNeg)).toNatClampNeg : Nat) : Int) % 65536 - (H : Int) := by
    have e1 : ((σ.2.2.1 90 (o + k.toNatClampNeg)).toInt64 - (c2 &&& 65535)).toInt = ((σ.2.2.1 90 (o + k.toNatClampNeg)).toNatClampNeg : Int) - ((K + G * (σ.2.2.1 90 (40000 * s + k.toNatClampNeg)).toNatClampNeg : Nat) : Int) % 65536 := by
      rw [Int64.toInt_sub, Int32.toInt_toInt64, la.1, w.1, ← dx.2]
      exact Int.bmod_eq_of_le (by omega) (by omega)
    rw [hv, Int64.toInt_sub, e1, g8]
    exact Int.bmod_eq_of_le (by omega) (by omega)
  have cd := cn_int lv.2.2.1
  rw [lv.2.1] at cd
  have r90 : ∀ j, υ.2.2.1 90 j = if j = o + k.toNatClampNeg then (v &&& 65535).toInt32 else τ.2.2.1 90 j := fun j => by rw [hu, ri4]
  have old : dv (υ.2.2.1 90) o k.toNatClampNeg = dv (τ.2.2.1 90) o k.toNatClampNeg := dv_congr (fun i hi => by rw [r90, if_neg (by omega)])
  have hb2 : ∃ H' : Nat, b'.toInt = (H' : Int) ∧ H' ≤ 1 ∧ K + H + (v &&& 65535).toInt32.toNatClampNeg + G * (σ.2.2.1 90 (40000 * s + k.toNatClampNeg)).toNatClampNeg = (σ.2.2.1 90 (o + k.toNatClampNeg)).toNatClampNeg + 65536 * ((K + G * (σ.2.2.1 90 (40000 * s + k.toNatClampNeg)).toNatClampNeg) / 65536) + 65536 * H' := by
    rcases hb with ⟨q1, q2⟩ | ⟨q1, q2⟩
    · have v0 := Int64.le_iff_toInt_le.mp q1
      rw [Int64.toInt_zero] at v0
      exact ⟨0, by rw [q2]; rfl, by omega, by omega⟩
    · have v0 := Int64.lt_iff_toInt_lt.mp (Int64.not_le.mp q1)
      rw [Int64.toInt_zero] at v0
      exact ⟨1, by rw [q2]; rfl, by omega, by omega⟩
  obtain ⟨H', i1, i2, i3⟩ := hb2
  refine ⟨frP_tr g1 (by rw [hu]; exact frP_w (by omega)), u.1, u.2.1, fun i hi => ?_, fun i hi => ?_, G, (K + G * (σ.2.2.1 90 (40000 * s + k.toNatClampNeg)).toNatClampNeg) / 65536, H', g6, by rw [ls.1, w.1]; omega, i1, g9, by omega, i2, ?_⟩
  · rw [cs] at hi
    rw [r90]
    by_cases e : i = k.toNatClampNeg
    · rw [e, if_pos rfl]; exact lv.2.2
    · rw [if_neg (by omega)]; exact g4 i (by omega)
  · rw [cs] at hi
    rw [r90, if_neg (by omega)]
    exact g5 i (by omega)
  · rw [cs, dv_s, dv_s, dv_s, old, r90, if_pos rfl, pw_s]
    exact ar_o gc i3
/-- while the divisor is given back -/
def ooI (σ τ : rS) (o s : Nat) (g a : Int64) : Prop := frP o (nL σ s) σ τ ∧ dgO (τ.2.2.1 90) o (nL σ s) ∧ τ.2.2.1 90 (o + nL σ s) = (a &&& 65535).toInt32 ∧ ∃ G : Nat, g.toInt = (G : Int) ∧ G < 65536 ∧ -65537 ≤ a.toInt ∧ a.toInt ≤ 65535 ∧ (dv (τ.2.2.1 90) o (nL σ s) : Int) + a.toInt * (65536 ^ nL σ s : Nat) = (dv (σ.2.2.1 90) o (nL σ s + 1) : Int) - ((G * nV σ s : Nat) : Int) ∧ dv (σ.2.2.1 90) o (nL σ s + 1) < (G + 1) * nV σ s
theorem oo_0 {σ τ υ : rS} {o s : Nat} {g c b a : Int64} {k : Int32} (h : odI σ τ o s g c b k) (hd : dgO (σ.2.2.1 90) o (nL σ s + 1)) (hk : σ.2.2.1 91 s ≤ k) (hg : ∀ G : Nat, g.toInt = (G : Int) → dv (σ.2.2.1 90) o (nL σ s + 1) < (G + 1) * nV σ s) (ha : a = (τ.2.2.1 90 (o + nL σ s)).toInt64 - c - b) (hu : υ = riU τ 90 (o + nL σ s) (a &&& 65535).toInt32) : ooI σ υ o s g a := by
  obtain ⟨g1, g2, g3, g4, g5, G, K, H, g6, g7, g8, g9, ga, gb, gc⟩ := h
  have ek : k = σ.2.2.1 91 s := Int32.le_antisymm g3 hk
  have L : k.toNatClampNeg = nL σ s := by rw [ek]
  rw [L] at g4 g5 gc
  rw [g5 _ (Nat.le_refl _)] at ha
  have dx := d_n (hd _ (Nat.lt_succ_self (nL σ s)))
  have ev : a.toInt = ((σ.2.2.1 90 (o + nL σ s)).toNatClampNeg : Int) - K - H := by
    have e1 : ((σ.2.2.1 90 (o + nL σ s)).toInt64 - c).toInt = ((σ.2.2.1 90 (o + nL σ s)).toNatClampNeg : Int) - K := by
      rw [Int64.toInt_sub, Int32.toInt_toInt64, g7, ← dx.2]
      exact Int.bmod_eq_of_le (by omega) (by omega)
    rw [ha, Int64.toInt_sub, e1, g8]
    exact Int.bmod_eq_of_le (by omega) (by omega)
  have r90 : ∀ j, υ.2.2.1 90 j = if j = o + nL σ s then (a &&& 65535).toInt32 else τ.2.2.1 90 j := fun j => by rw [hu, ri4]
  have old : dv (υ.2.2.1 90) o (nL σ s) = dv (τ.2.2.1 90) o (nL σ s) := dv_congr (fun i hi => by rw [r90, if_neg (by omega)])
  refine ⟨frP_tr g1 (by rw [hu]; exact frP_w (Nat.le_refl _)), fun i hi => by rw [r90, if_neg (by omega)]; exact g4 i hi, by rw [r90, if_pos rfl], G, g6, g9, by omega, by omega, ?_, hg G g6⟩
  rw [old, dv_s, ev]
  have z : dv (τ.2.2.1 90) o (nL σ s) + G * nV σ s = dv (σ.2.2.1 90) o (nL σ s) + (K + H) * 65536 ^ nL σ s := gc
  generalize 65536 ^ nL σ s = P at z ⊢
  generalize G * nV σ s = M at z ⊢
  rw [Nat.add_mul] at z
  rw [Int.sub_mul, Int.sub_mul, ← Int.natCast_mul, ← Int.natCast_mul, ← Int.natCast_mul]
  omega
def abI (σ υ τ : rS) (o s : Nat) (c k : Int32) : Prop := frP o (nL σ s) υ τ ∧ 0 ≤ k ∧ k ≤ σ.2.2.1 91 s ∧ (c = 0 ∨ c = 1) ∧ dgO (τ.2.2.1 90) o k.toNatClampNeg ∧ (∀ i, k.toNatClampNeg ≤ i → τ.2.2.1 90 (o + i) = υ.2.2.1 90 (o + i)) ∧ dv (τ.2.2.1 90) o k.toNatClampNeg + c.toNatClampNeg * 65536 ^ k.toNatClampNeg = dv (υ.2.2.1 90) o k.toNatClampNeg + dv (σ.2.2.1 90) (40000 * s) k.toNatClampNeg
theorem ab_step {σ υ τ ω : rS} {o s : Nat} {c k v : Int32} (h : abI σ υ τ o s c k) (hs : numO σ s) (hd : dgO (υ.2.2.1 90) o (nL σ s)) (hk : ¬ σ.2.2.1 91 s ≤ k) (hv : v = υ.2.2.1 90 (o + k.toNatClampNeg) + σ.2.2.1 90 (40000 * s + k.toNatClampNeg) + c) (hu : ω = riU τ 90 (o + k.toNatClampNeg) (v &&& 65535)) : abI σ υ ω o s (v >>> ((16 : Int32) &&& 31)) (k + 1) := by
  obtain ⟨g1, g2, g3, g4, g5, g6, g7⟩ := h
  have u := mn_u g2 hk hs.2.1
  have cs := cn_succ g2 u.2.2.2.2.2.2.1
  have ks : k.toNatClampNeg < nL σ s := cn_lt g2 u.2.2.2.2.2.2.2
  have dx := hd _ ks
  have dy := hs.2.2.1 _ ks
  have w := i3 dx dy g4
  rw [← hv] at w
  have a16 := and16 w.1
  have s16 := shr16 (x := v)
  have nx := d_n dx
  have ny := d_n dy
  have c0 : 0 ≤ c ∧ c.toInt ≤ 1 := by rcases g4 with rfl | rfl <;> decide
  have cc := cn_int c0.1
  have cv := cn_int w.1
  have cd := cn_int a16.2.1
  have z0 : 0 ≤ v >>> ((16 : Int32) &&& 31) := Int32.le_iff_toInt_le.mpr (by rw [s16, Int32.toInt_zero]; omega)
  have cz := cn_int z0
  rw [a16.1] at cd
  rw [s16] at cz
  have r90 : ∀ j, ω.2.2.1 90 j = if j = o + k.toNatClampNeg then v &&& 65535 else τ.2.2.1 90 j := fun j => by rw [hu, ri4]
  have old : dv (ω.2.2.1 90) o k.toNatClampNeg = dv (τ.2.2.1 90) o k.toNatClampNeg := dv_congr (fun i hi => by rw [r90, if_neg (by omega)])
  refine ⟨frP_tr g1 (by rw [hu]; exact frP_w (by omega)), u.1, u.2.1, ?_, fun i hi => ?_, fun i hi => ?_, ?_⟩
  · by_cases e : (v >>> ((16 : Int32) &&& 31)).toInt = 0
    · exact Or.inl (Int32.toInt_inj.mp (by rw [e]; rfl))
    · exact Or.inr (Int32.toInt_inj.mp (by rw [s16] at e ⊢; rw [show (1 : Int32).toInt = 1 from rfl]; omega))
  · rw [cs] at hi
    rw [r90]
    by_cases e : i = k.toNatClampNeg
    · rw [e, if_pos rfl]; exact a16.2
    · rw [if_neg (by omega)]; exact g5 i (by omega)
  · rw [cs] at hi
    rw [r90, if_neg (by omega)]
    exact g6 i (by omega)
  · rw [cs, dv_s, dv_s, dv_s, old, r90, if_pos rfl, pw_s]
    exact ar_p (x := (υ.2.2.1 90 (o + k.toNatClampNeg)).toNatClampNeg) (y := (σ.2.2.1 90 (40000 * s + k.toNatClampNeg)).toNatClampNeg) (v := v.toNatClampNeg) g7 (by omega) (by omega) (by omega)
theorem oo_g {σ τ : rS} {o s : Nat} {g a : Int64} (h : ooI σ τ o s g a) (ha : ¬ 0 ≤ a) : 0 < g.toInt ∧ (g - 1).toInt = g.toInt - 1 := by
  obtain ⟨g1, g2, g3, G, g4, g5, g6, g7, g8, g9⟩ := h
  have a0 := Int64.lt_iff_toInt_lt.mp (Int64.not_le.mp ha)
  rw [Int64.toInt_zero] at a0
  have lt := dv_lt g2
  have m : a.toInt * (65536 ^ nL σ s : Nat) ≤ -1 * (65536 ^ nL σ s : Nat) := Int.mul_le_mul_of_nonneg_right (by omega) (by omega)
  have gz : 0 < G := by
    by_cases e : G = 0
    · rw [e, Nat.zero_mul] at g8
      omega
    · omega
  refine ⟨by rw [g4]; omega, ?_⟩
  rw [Int64.toInt_sub, g4, show (1 : Int64).toInt = 1 from rfl]
  exact Int.bmod_eq_of_le (by omega) (by omega)
theorem oo_step {σ υ τ ω : rS} {o s : Nat} {g a a' : Int64} {c k : Int32} (h : ooI σ υ o s g a) (ha : ¬ 0 ≤ a) (hi : abI σ υ τ o s c k) (hk : σ.2.2.1 91 s ≤ k) (ha2 : a' = a + c.toInt64) (hu : ω = riU τ 90 (o + nL σ s) (a' &&& 65535).toInt32) : ooI σ ω o s (g - 1) a' := by
  have gg := oo_g h ha
  obtain ⟨g1, g2, g3, G, g4, g5, g6, g7, g8, g9⟩ := h
  obtain ⟨k1, k2, k3, k4, k5, k6, k7⟩ := hi
  have ek : k = σ.2.2.1 91 s := Int32.le_antisymm k3 hk
  have L : k.toNatClampNeg = nL σ s := by rw [ek]
  rw [L] at k5 k6 k7
  have a0 := Int64.lt_iff_toInt_lt.mp (Int64.not_le.mp ha)
  rw [Int64.toInt_zero] at a0
  have c0 : 0 ≤ c ∧ c.toInt ≤ 1 := by rcases k4 with rfl | rfl <;> decide
  have cc := cn_int c0.1
  have ev : a'.toInt = a.toInt + c.toInt := by
    rw [ha2, Int64.toInt_add, Int32.toInt_toInt64]
    exact Int.bmod_eq_of_le (by omega) (by omega)
  have r90 : ∀ j, ω.2.2.1 90 j = if j = o + nL σ s then (a' &&& 65535).toInt32 else τ.2.2.1 90 j := fun j => by rw [hu, ri4]
  have old : dv (ω.2.2.1 90) o (nL σ s) = dv (τ.2.2.1 90) o (nL σ s) := dv_congr (fun i hi => by rw [r90, if_neg (by omega)])
  have lt := dv_lt g2
  have m : a.toInt * (65536 ^ nL σ s : Nat) ≤ -1 * (65536 ^ nL σ s : Nat) := Int.mul_le_mul_of_nonneg_right (by omega) (by omega)
  have gs : (G : Int) = ((G - 1 : Nat) : Int) + 1 := by omega
  have gm : G * nV σ s = (G - 1) * nV σ s + nV σ s := by
    have : G = (G - 1) + 1 := by omega
    conv => lhs; rw [this, Nat.add_mul, Nat.one_mul]
  refine ⟨frP_tr g1 (frP_tr k1 (by rw [hu]; exact frP_w (Nat.le_refl _))), fun i hi => by rw [r90, if_neg (by omega)]; exact k5 i hi, by rw [r90, if_pos rfl], G - 1, by rw [gg.2, g4]; omega, by omega, by omega, by omega, ?_, ?_⟩
  · have z : dv (τ.2.2.1 90) o (nL σ s) + c.toNatClampNeg * 65536 ^ nL σ s = dv (υ.2.2.1 90) o (nL σ s) + nV σ s := k7
    rw [old, ev, Int.add_mul, ← cc, ← Int.natCast_mul]
    omega
  · rw [show G - 1 + 1 = G by omega]
    omega
theorem oo_end {σ τ : rS} {o s : Nat} {g a : Int64} (h : ooI σ τ o s g a) (hs : numO σ s) (ha : 0 ≤ a) : frP o (nL σ s) σ τ ∧ dgO (τ.2.2.1 90) o (nL σ s) ∧ τ.2.2.1 90 (o + nL σ s) = 0 ∧ (0 ≤ g.toInt32 ∧ g.toInt32 < 65536) ∧ dv (τ.2.2.1 90) o (nL σ s) + g.toInt32.toNatClampNeg * nV σ s = dv (σ.2.2.1 90) o (nL σ s + 1) ∧ dv (τ.2.2.1 90) o (nL σ s) < nV σ s := by
  obtain ⟨g1, g2, g3, G, g4, g5, g6, g7, g8, g9⟩ := h
  have a0 := Int64.le_iff_toInt_le.mp ha
  rw [Int64.toInt_zero] at a0
  have l := l_32 g4 g5
  have sl : nV σ s < 65536 ^ nL σ s := dv_lt hs.2.2.1
  rw [Nat.add_mul, Nat.one_mul] at g9
  have az : a.toInt = 0 := by
    by_cases e : a.toInt = 0
    · exact e
    · have m : 1 * ((65536 ^ nL σ s : Nat) : Int) ≤ a.toInt * (65536 ^ nL σ s : Nat) := Int.mul_le_mul_of_nonneg_right (by omega) (by omega)
      omega
  rw [az, Int.zero_mul] at g8
  have e0 : a = 0 := Int64.toInt_inj.mp (by rw [az]; rfl)
  refine ⟨g1, g2, by rw [g3, e0]; rfl, l.1, ?_, ?_⟩
  · rw [l.2]; omega
  · omega
theorem dvi {x y : Int64} {a b : Nat} (hx : x.toInt = (a : Int)) (ha : a < 4294967296) (hy : y.toInt = (b : Int)) : (x / y).toInt = ((a / b : Nat) : Int) := by
  have l : a / b ≤ a := Nat.div_le_self a b
  rw [Int64.toInt_div, hx, hy, Int.tdiv_eq_ediv_of_nonneg (by omega), ← Int.natCast_ediv]
  generalize a / b = q at l ⊢
  exact Int.bmod_eq_of_le (by omega) (by omega)
theorem oneDigit_c {C : rCx} (hC : cOK C)  {σ : rS} {a1 : Int32} {a2 : Int32} {a3 : Int32} {Q : Int32 → rS → Prop} (hp : 0 ≤ a1 ∧ a1 < 30 ∧ 0 ≤ a2 ∧ 0 ≤ a3 ∧ a3 < 30 ∧ a1 ≠ a3 ∧ numO σ a3.toNatClampNeg ∧ 0 < nL σ a3.toNatClampNeg ∧ a2.toNatClampNeg + nL σ a3.toNatClampNeg < 40000 ∧ dgO (σ.2.2.1 90) (40000 * a1.toNatClampNeg + a2.toNatClampNeg) (nL σ a3.toNatClampNeg + 1) ∧ dv (σ.2.2.1 90) (40000 * a1.toNatClampNeg + a2.toNatClampNeg) (nL σ a3.toNatClampNeg + 1) < 65536 * nV σ a3.toNatClampNeg) (h : ∀ (v : Int32) (σ' : rS), (frP (40000 * a1.toNatClampNeg + a2.toNatClampNeg) (nL σ a3.toNatClampNeg) σ σ' ∧ dgO (σ'.2.2.1 90) (40000 * a1.toNatClampNeg + a2.toNatClampNeg) (nL σ a3.toNatClampNeg) ∧ σ'.2.2.1 90 (40000 * a1.toNatClampNeg + a2.toNatClampNeg + nL σ a3.toNatClampNeg) = 0 ∧ (0 ≤ v ∧ v < 65536) ∧ dv (σ'.2.2.1 90) (40000 * a1.toNatClampNeg + a2.toNatClampNeg) (nL σ a3.toNatClampNeg) + v.toNatClampNeg * nV σ a3.toNatClampNeg = dv (σ.2.2.1 90) (40000 * a1.toNatClampNeg + a2.toNatClampNeg) (nL σ a3.toNatClampNeg + 1) ∧ dv (σ'.2.2.1 90) (40000 * a1.toNatClampNeg + a2.toNatClampNeg) (nL σ a3.toNatClampNeg) < nV σ a3.toNatClampNeg) → Q v σ') : cI C 0 m_oneDigit [.ref (co C), .int a1, .int a2, .int a3] σ Q := by
  refine m_oneDigit_run hC ?_
  unfold w_oneDigit_0
  obtain ⟨h0, h1, h2, h3, h4, hne, hs, hz, hl, hd, hb⟩ := hp
  have cne : a1.toNatClampNeg ≠ a3.toNatClampNeg := fun e => hne (cn_inj h0 h3 e)
  have out : ∀ {τ : rS} {i : Nat}, frP (40000 * a1.toNatClampNeg + a2.toNatClampNeg) (nL σ a3.toNatClampNeg) σ τ → i < 40000 → τ.2.2.1 90 (40000 * a3.toNatClampNeg + i) = σ.2.2.1 90 (40000 * a3.toNatClampNeg + i) := fun f hi => f.2.2.2.2 _ (by omega)
  have on := ox h0 h1 h2 hs.1 hl
  have om' : (40000 * a1 + a2 + rd σ 91 a3).toNatClampNeg = 40000 * a1.toNatClampNeg + a2.toNatClampNeg + nL σ a3.toNatClampNeg := on.2
  have hj89 : ∀ (l3 : Int32) (l4 : Int32) (l5 : Int32) (s0 : Int64) (τ : rS), (l3 = a3 ∧ τ = σ ∧ l4 = rd σ 91 a3 ∧ l5 = 40000 * a1 + a2 ∧ ∃ G : Nat, s0.toInt = (G : Int) ∧ G < 65536 ∧ dv (σ.2.2.1 90) (40000 * a1.toNatClampNeg + a2.toNatClampNeg) (nL σ a3.toNatClampNeg + 1) < (G + 1) * nV σ a3.toNatClampNeg) → w_oneDigit_89 C Q  l3 l4 l5 s0 τ := by
    rintro y89_3 y89_4 y89_5 y89_s0 τ89 j89
    unfold w_oneDigit_89
    unfold w_oneDigit_100
    refine ⟨fun n l3 l4 l5 l10 l12 l14 l16 τ => n = (rd σ 91 a3 - l16).toNatClampNeg ∧ (l3 = a3 ∧ l4 = rd σ 91 a3 ∧ l5 = 40000 * a1 + a2 ∧ l10 = y89_s0 ∧ odI σ τ (40000 * a1.toNatClampNeg + a2.toNatClampNeg) a3.toNatClampNeg l10 l12 l14 l16), ⟨_, rfl, ?_⟩, ?_⟩
    · clear h; obtain ⟨e3, et, e4, e5, G, eg, el, eb⟩ := j89
      refine ⟨e3, e4, e5, rfl, ?_⟩
      rw [et]
      refine ⟨frP_refl, by decide, hs.1, fun i hi => absurd hi (Nat.not_lt_zero i), fun _ _ => rfl, G, 0, 0, eg, rfl, rfl, el, by decide, by decide, ?_⟩
      show 0 + G * 0 = 0 + (0 + 0) * 1
      omega
    rintro n100 x100_3 x100_4 x100_5 x100_10 x100_12 x100_14 x100_16 σ100 ⟨hn100, i100⟩
    have hj164 : ∀ (l3 : Int32) (l4 : Int32) (l5 : Int32) (l10 : Int64) (l12 : Int64) (l16 : Int32) (l17 : Int64) (s0 : Int64) (τ : rS), (l3 = a3 ∧ τ = σ100 ∧ l4 = rd σ 91 a3 ∧ l5 = 40000 * a1 + a2 ∧ l10 = x100_10 ∧ l16 = x100_16 ∧ ¬ rd σ 91 a3 ≤ x100_16 ∧ l12 = x100_12 + x100_10 * (σ.2.2.1 90 (40000 * a3.toNatClampNeg + x100_16.toNatClampNeg)).toInt64 ∧ l17 = (σ.2.2.1 90 (40000 * a1.toNatClampNeg + a2.toNatClampNeg + x100_16.toNatClampNeg)).toInt64 - (l12 &&& 65535) - x100_14 ∧ ((0 ≤ l17 ∧ s0 = 0) ∨ (¬ 0 ≤ l17 ∧ s0 = 1))) → w_oneDigit_164 C Q (fun l3' l4' l5' l10' l12' l14' l16' τ => ∃ k < n100, (fun n l3 l4 l5 l10 l12 l14 l16 τ => n = (rd σ 91 a3 - l16).toNatClampNeg ∧ (l3 = a3 ∧ l4 = rd σ 91 a3 ∧ l5 = 40000 * a1 + a2 ∧ l10 = y89_s0 ∧ odI σ τ (40000 * a1.toNatClampNeg + a2.toNatClampNeg) a3.toNatClampNeg l10 l12 l14 l16)) k l3' l4' l5' l10' l12' l14' l16' τ) l3 l4 l5 l10 l12 l16 l17 s0 τ := by
      rintro y164_3 y164_4 y164_5 y164_10 y164_12 y164_16 y164_17 y164_s0 τ164 j164
      unfold w_oneDigit_164
      obtain ⟨e3, e4, e5, e10, I⟩ := i100
      obtain ⟨f3, ft, f4, f5, f10, f16, fk, f12, f17, fb⟩ := j164
      have u := mn_u I.2.1 fk hs.2.1
      have ks : x100_16.toNatClampNeg < nL σ a3.toNatClampNeg := cn_lt I.2.1 u.2.2.2.2.2.2.2
      have ok := ox h0 h1 h2 I.2.1 (by omega)
      refine ⟨ib_1200000.mpr ?_, ?_⟩
      · clear h; rw [f5, f16]; exact ok.1  -- b2
      intro σ_1 hσ_1
      intro x2 hx2
      intro x3 hx3
      refine ⟨_, cn_lt2 hn100 ?_ ?_, rfl, ?_⟩
      · clear h; rw [hx3, f16]; exact u.2.2.1  -- d3
      · clear h; rw [hx3, f16]; exact u.2.2.2.1  -- d4
      · clear h; rw [hx3, f16, f10]
        rw [ft, f5, f16, ok.2] at hσ_1
        exact ⟨f3, f4, f5, e10, od_step I hs hd fk f12 f17 fb hx2 hσ_1⟩
    obtain ⟨e3, e4, e5, e10, I⟩ := i100
    obtain ⟨d3, dt, d4, d5, G, dg, dl, db⟩ := j89
    refine ⟨fun c4 => ?_, fun c4 => ?_⟩
    · skip
      refine ⟨ib_1200000.mpr ?_, ?_⟩
      · clear h; rw [e5, e4]; exact on.1  -- b6
      intro x5 hx5
      refine ⟨ib_1200000.mpr ?_, ?_⟩
      · clear h; rw [e5, e4]; exact on.1  -- b7
      intro σ_6 hσ_6
      unfold w_oneDigit_232
      refine ⟨fun n l3 l4 l5 l10 l16 τ => n = l10.toInt.toNat ∧ (l3 = a3 ∧ l4 = rd σ 91 a3 ∧ l5 = 40000 * a1 + a2 ∧ ooI σ τ (40000 * a1.toNatClampNeg + a2.toNatClampNeg) a3.toNatClampNeg l10 l16), ⟨_, rfl, ?_⟩, ?_⟩
      · clear h; rw [e5, e4, om'] at hx5 hσ_6
        rw [e4] at c4
        refine ⟨e3, e4, e5, oo_0 I hd c4 (fun G2 hg => ?_) hx5 hσ_6⟩
        rw [e10, dg] at hg
        rw [show G2 = G by omega]
        exact db
      rintro n232 x232_3 x232_4 x232_5 x232_10 x232_16 σ232 ⟨hn232, i232⟩
      obtain ⟨f3, f4, f5, J⟩ := i232
      refine ⟨fun c7 => ?_, fun c7 => ?_⟩
      · skip
        refine h _ _ ?_
        · clear h; exact oo_end J hs (lg_ge.mp c7)  -- q9
      · skip
        intro x8 hx8
        have na : ¬ 0 ≤ x232_16 := fun z => c7 (lg_ge.mpr z)
        unfold w_oneDigit_251
        refine ⟨fun n l3 l4 l5 l10 l16 l18 l19 τ => n = (rd σ 91 a3 - l19).toNatClampNeg ∧ (l3 = a3 ∧ l4 = rd σ 91 a3 ∧ l5 = 40000 * a1 + a2 ∧ l10 = x232_10 - 1 ∧ l16 = x232_16 ∧ abI σ σ232 τ (40000 * a1.toNatClampNeg + a2.toNatClampNeg) a3.toNatClampNeg l18 l19), ⟨_, rfl, ?_⟩, ?_⟩
        · clear h; refine ⟨f3, f4, f5, hx8, rfl, frP_refl, by decide, hs.1, Or.inl rfl, fun i hi => absurd hi (Nat.not_lt_zero i), fun _ _ => rfl, ?_⟩
          show 0 + 0 * 65536 ^ 0 = 0 + 0
          rfl
        rintro n251 x251_3 x251_4 x251_5 x251_10 x251_16 x251_18 x251_19 σ251 ⟨hn251, i251⟩
        obtain ⟨m3, m4, m5, m10, m16, M⟩ := i251
        refine ⟨fun c9 => ?_, fun c9 => ?_⟩
        · skip
          intro x10 hx10
          refine ⟨ib_1200000.mpr ?_, ?_⟩
          · clear h; rw [m5, m4]; exact on.1  -- b11
          intro σ_11 hσ_11
          refine ⟨_, ?_, rfl, ?_⟩
          · clear h; have gg := oo_g J na
            show x251_10.toInt.toNat < n232
            rw [hn232, m10, gg.2]
            omega
          · clear h; rw [m5, m4, om'] at hσ_11
            rw [m4] at c9
            refine ⟨m3, m4, m5, ?_⟩
            rw [m10]
            exact oo_step J na M c9 (by rw [hx10, m16]) hσ_11
        · skip
          rw [m4] at c9
          have u := mn_u M.2.1 c9 hs.2.1
          have ks : x251_19.toNatClampNeg < nL σ a3.toNatClampNeg := cn_lt M.2.1 u.2.2.2.2.2.2.2
          have ok := ox h0 h1 h2 M.2.1 (by omega)
          have bk := bx h3 h4 M.2.1 u.2.2.2.2.2.1
          refine ⟨ib_1200000.mpr ?_, ?_⟩
          · clear h; rw [m5]; exact ok.1  -- b14
          refine ⟨ib_1200000.mpr ?_, ?_⟩
          · clear h; rw [m3]; exact ⟨bk.1, bk.2.2.1 u.2.2.2.2.1⟩  -- b15
          intro x12 hx12
          refine ⟨ib_1200000.mpr ?_, ?_⟩
          · clear h; rw [m5]; exact ok.1  -- b16
          intro σ_13 hσ_13
          intro x14 hx14
          intro x15 hx15
          refine ⟨_, cn_lt2 hn251 ?_ ?_, rfl, ?_⟩
          · clear h; rw [hx15]; exact u.2.2.1  -- d17
          · clear h; rw [hx15]; exact u.2.2.2.1  -- d18
          · clear h; rw [m5, ok.2] at hx12 hσ_13
            rw [m3, bk.2.1, M.2.2.2.2.2.1 _ (Nat.le_refl _), out (frP_tr J.1 M.1) (by omega)] at hx12
            rw [hx15, hx14]
            exact ⟨m3, m4, m5, m10, m16, ab_step M hs J.2.1 c9 hx12 hσ_13⟩
    · skip
      rw [e4] at c4
      have u := mn_u I.2.1 c4 hs.2.1
      have ks : x100_16.toNatClampNeg < nL σ a3.toNatClampNeg := cn_lt I.2.1 u.2.2.2.2.2.2.2
      have ok := ox h0 h1 h2 I.2.1 (by omega)
      have bk := bx h3 h4 I.2.1 u.2.2.2.2.2.1
      have y1 : σ100.2.2.1 90 (40000 * x100_3 + x100_16).toNatClampNeg = σ.2.2.1 90 (40000 * a3.toNatClampNeg + x100_16.toNatClampNeg) := by rw [e3, bk.2.1]; exact out I.1 (by omega)
      have y2 : σ100.2.2.1 90 (x100_5 + x100_16).toNatClampNeg = σ.2.2.1 90 (40000 * a1.toNatClampNeg + a2.toNatClampNeg + x100_16.toNatClampNeg) := by rw [e5, ok.2]; exact I.2.2.2.2.1 _ (Nat.le_refl _)
      refine ⟨ib_1200000.mpr ?_, ?_⟩
      · clear h; rw [e3]; exact ⟨bk.1, bk.2.2.1 u.2.2.2.2.1⟩  -- b20
      intro x16 hx16
      refine ⟨ib_1200000.mpr ?_, ?_⟩
      · clear h; rw [e5]; exact ok.1  -- b21
      intro x17 hx17
      refine ⟨fun c18 => ?_, fun c18 => ?_⟩
      · skip
        refine hj164 _ _ _ _ _ _ _ _ _ ?_
        · clear h; exact ⟨e3, rfl, e4, e5, rfl, rfl, c4, by rw [hx16, y1], by rw [hx17, y2], Or.inl ⟨lg_ge.mp c18, rfl⟩⟩  -- k22
      · skip
        refine hj164 _ _ _ _ _ _ _ _ _ ?_
        · clear h; exact ⟨e3, rfl, e4, e5, rfl, rfl, c4, by rw [hx16, y1], by rw [hx17, y2], Or.inr ⟨fun z => c18 (lg_ge.mpr z), rfl⟩⟩  -- k23
  refine ⟨ib_30.mpr ?_, ?_⟩
  · clear h; exact ⟨h3, h4⟩  -- b24
  intro x19 hx19
  intro x20 hx20
  have np : ¬ σ.2.2.1 91 a3.toNatClampNeg ≤ 0 := fun z => by
    have z2 : nL σ a3.toNatClampNeg = 0 := cn_zero z
    omega
  have pm := pos_m np hs.2.1
  have cp : nL σ a3.toNatClampNeg = (σ.2.2.1 91 a3.toNatClampNeg - 1).toNatClampNeg + 1 := cn_pred pm.2.2.2.2.1 pm.2.2.2.2.2.1
  have om := ox h0 h1 h2 pm.1 (by omega)
  have bm := bx h3 h4 pm.1 pm.2.2.1
  refine ⟨ib_1200000.mpr ?_, ?_⟩
  · clear h; rw [hx20, hx19]; exact on.1  -- b25
  refine ⟨ib_1200000.mpr ?_, ?_⟩
  · clear h; rw [hx20, hx19, sb1]; exact om.1  -- b26
  intro x21 hx21
  refine ⟨ib_1200000.mpr ?_, ?_⟩
  · clear h; rw [hx19, sb1]; exact ⟨bm.1, bm.2.2.1 pm.2.1⟩  -- b27
  intro x22 hx22
  rw [hx20, hx19, sb1, on.2, om.2] at hx21
  rw [hx19, sb1, bm.2.1] at hx22
  have dx := hd (nL σ a3.toNatClampNeg) (Nat.lt_succ_self _)
  have dy := hd (σ.2.2.1 91 a3.toNatClampNeg - 1).toNatClampNeg (by omega)
  have dt := hs.2.2.1 (σ.2.2.1 91 a3.toNatClampNeg - 1).toNatClampNeg (by omega)
  have nx := (d_n dx).1
  have ny := (d_n dy).1
  have tz : 0 < (σ.2.2.1 90 (40000 * a3.toNatClampNeg + (σ.2.2.1 91 a3.toNatClampNeg - 1).toNatClampNeg)).toNatClampNeg := by
    rcases hs.2.2.2 with z | ⟨m, z1, z2⟩
    · omega
    · rw [show (σ.2.2.1 91 a3.toNatClampNeg - 1).toNatClampNeg = m by omega]
      omega
  have tp := top_v dx dy
  rw [← show x21 = _ from hx21] at tp
  have tv : x22.toInt = ((σ.2.2.1 90 (40000 * a3.toNatClampNeg + (σ.2.2.1 91 a3.toNatClampNeg - 1).toNatClampNeg)).toNatClampNeg : Int) := by rw [hx22, Int32.toInt_toInt64]; exact (cn_int dt.1).symm
  refine ⟨?_, ?_⟩
  · clear h; intro z
    rw [z, Int64.toInt_zero] at tv
    omega
  intro x23 hx23
  have qv := dvi tp (by omega) tv
  rw [← hx23] at qv
  refine ⟨fun c24 => ?_, fun c24 => ?_⟩
  · skip
    refine hj89 _ _ _ _ _ ?_
    · clear h; have le := Int64.le_iff_toInt_le.mp (lg_le.mp c24)
      rw [qv, show (65535 : Int64).toInt = 65535 from rfl] at le
      refine ⟨rfl, rfl, hx19, hx20, _, qv, by omega, ?_⟩
      refine ar_g (D := dv (σ.2.2.1 90) (40000 * a1.toNatClampNeg + a2.toNatClampNeg) (σ.2.2.1 91 a3.toNatClampNeg - 1).toNatClampNeg) (E := dv (σ.2.2.1 90) (40000 * a3.toNatClampNeg) (σ.2.2.1 91 a3.toNatClampNeg - 1).toNatClampNeg) (p := 65536 ^ (σ.2.2.1 91 a3.toNatClampNeg - 1).toNatClampNeg) ?_ ?_ (dv_lt (fun i hi => hd i (by omega))) tz
      · rw [dv_s, ← pw_s, ← cp]
        congr 1
        rw [cp, dv_s]
      · unfold nV
        rw [cp, dv_s]
  · skip
    refine hj89 _ _ _ _ _ ?_
    · clear h; exact ⟨rfl, rfl, hx19, hx20, 65535, rfl, by decide, hb⟩  -- k30

end
section
set_option maxHeartbeats 1600000
/-! the reference: quotient and remainder -/
theorem dv_add {f : Nat → Int32} {o a : Nat} : ∀ {b : Nat}, dv f o (a + b) = dv f o a + 65536 ^ a * dv f (o + a) b
  | 0 => by
    show dv f o a = dv f o a + 65536 ^ a * 0
    omega
  | b + 1 => by
    rw [← Nat.add_assoc, dv_s, dv_s, dv_add (b := b), Nat.mul_add, Nat.pow_add, ← Nat.add_assoc, Nat.mul_left_comm, Nat.add_assoc o a b]
    exact Nat.add_assoc ..
theorem nV_ge {σ : rS} {s k : Nat} (hs : numO σ s) (h : nL σ s = k + 1) : 65536 ^ k ≤ nV σ s := by
  unfold nV
  rw [h, dv_s]
  rcases hs.2.2.2 with z | ⟨m, z1, z2⟩
  · omega
  · have e : m = k := by omega
    rw [e] at z2
    have := Nat.mul_le_mul_right (65536 ^ k) (Nat.one_le_iff_ne_zero.mpr z2)
    omega
theorem nV_up {σ : rS} {s : Nat} (hs : numO σ s) : nV σ s < 65536 ^ nL σ s := dv_lt hs.2.2.1
theorem nL_lt {σ : rS} {r k : Nat} (hr : numO σ r) (h : nV σ r < 65536 ^ k) : nL σ r ≤ k := by
  by_cases e : nL σ r ≤ k
  · exact e
  · have g := nV_ge hr (k := nL σ r - 1) (by omega)
    have p : 65536 ^ k ≤ 65536 ^ (nL σ r - 1) := Nat.pow_le_pow_right (by decide) (by omega)
    omega
theorem nL_mono {σ τ : rS} {r s : Nat} (hr : numO σ r) (hs : numO τ s) (h : nV σ r ≤ nV τ s) : nL σ r ≤ nL τ s := nL_lt hr (Nat.lt_of_le_of_lt h (nV_up hs))
theorem nL_z {σ : rS} {r : Nat} (hr : numO σ r) : nL σ r = 0 ↔ nV σ r = 0 := by
  constructor
  · intro h
    unfold nV
    rw [h]
    rfl
  · intro h
    by_cases e : nL σ r = 0
    · exact e
    · have g := nV_ge hr (k := nL σ r - 1) (by omega)
      have := Nat.pow_pos (n := nL σ r - 1) (show 0 < 65536 by decide)
      omega
theorem b15 {x : Nat} (h : x < 65536) (z : x &&& 32768 = 0) : x < 32768 := by
  by_cases e : x < 32768
  · exact e
  · have t : x.testBit 15 = true := Nat.testBit_of_two_pow_le_and_two_pow_add_one_gt (by omega) (by omega)
    have a := Nat.testBit_and x 32768 15
    rw [z, t, Nat.zero_testBit, show Nat.testBit 32768 15 = true by decide] at a
    exact absurd a (by decide)
/-- the search for the shift -/
theorem sh_step {t b : Int32} (ht : 0 ≤ t ∧ t < 65536) (tz : 0 < t.toNatClampNeg) (b0 : 0 ≤ b) (b1 : b ≤ 15) (h : t.toNatClampNeg * 2 ^ b.toNatClampNeg < 65536) (z : (t <<< (b &&& 31)) &&& 32768 = 0) : t.toNatClampNeg * 2 ^ (b.toNatClampNeg + 1) < 65536 ∧ b ≤ 14 := by
  have s := shl_n ht b0 (Int32.le_trans b1 (by decide))
  have n : t.toNatClampNeg * 2 ^ b.toNatClampNeg &&& 32768 = 0 := by
    have e := congrArg (fun x : Int32 => x.toBitVec.toNat) z
    simp only [Int32.toBitVec_and, BitVec.toNat_and] at e
    rw [s.1] at e
    exact e
  have l := b15 h n
  have l2 : t.toNatClampNeg * 2 ^ (b.toNatClampNeg + 1) < 65536 := by
    rw [Nat.pow_succ, ← Nat.mul_assoc]
    omega
  refine ⟨l2, ?_⟩
  rw [cn_li b0 (by decide), show (14 : Int32).toNatClampNeg = 14 from rfl]
  by_cases e : b.toNatClampNeg ≤ 14
  · exact e
  · have p : 2 ^ 15 ≤ 2 ^ b.toNatClampNeg := Nat.pow_le_pow_right (by decide) (by omega)
    have m : 1 * 2 ^ b.toNatClampNeg ≤ t.toNatClampNeg * 2 ^ b.toNatClampNeg := Nat.mul_le_mul_right _ tz
    omega
def dvI (υ τ : rS) (q r s J : Nat) : Prop := frN [q, r] υ τ ∧ τ.2.2.1 91 = υ.2.2.1 91 ∧ J ≤ nL υ r - nL υ s + 1 ∧ dgO (τ.2.2.1 90) (40000 * r) (nL υ r + 1) ∧ dgO (τ.2.2.1 90) (40000 * q + J) (nL υ r - nL υ s + 1 - J) ∧ dv (τ.2.2.1 90) (40000 * r) (nL υ r + 1) + nV υ s * 65536 ^ J * dv (τ.2.2.1 90) (40000 * q + J) (nL υ r - nL υ s + 1 - J) = nV υ r ∧ dv (τ.2.2.1 90) (40000 * r + J) (nL υ s) < nV υ s ∧ ∀ i, J + nL υ s ≤ i → i ≤ nL υ r → τ.2.2.1 90 (40000 * r + i) = 0
theorem dvI_0 {υ τ : rS} {q r s : Nat} (hr : numO υ r) (hs : numO υ s) (hz : 0 < nL υ s) (hl : nL υ s ≤ nL υ r) (hm : nL υ r < 40000) (hu : τ = riU υ 90 (40000 * r + nL υ r) 0) : dvI υ τ q r s (nL υ r - nL υ s + 1) := by
  have r90 : ∀ j, τ.2.2.1 90 j = if j = 40000 * r + nL υ r then 0 else υ.2.2.1 90 j := fun j => by rw [hu, ri4]
  have old : ∀ k, k ≤ nL υ r → dv (τ.2.2.1 90) (40000 * r) k = dv (υ.2.2.1 90) (40000 * r) k := fun k hk => dv_congr (fun i hi => by rw [r90, if_neg (by omega)])
  refine ⟨frN_mono (by rw [hu]; exact frN_90 hm) (fun k hk => List.mem_cons_of_mem _ hk), by rw [hu, ri3 (by decide)], Nat.le_refl _, fun i hi => ?_, fun i hi => absurd hi (by omega), ?_, ?_, fun i hi hi2 => absurd hi (by omega)⟩
  · rw [r90]
    by_cases e : i = nL υ r
    · rw [e, if_pos rfl]; exact ⟨by decide, by decide⟩
    · rw [if_neg (by omega)]; exact hr.2.2.1 i (by omega)
  · rw [dv_s, old _ (Nat.le_refl _), r90, if_pos rfl, Nat.sub_self]
    show nV υ r + 0 * _ + _ * 0 = _
    rw [Nat.zero_mul, Nat.mul_zero]
    rfl
  · obtain ⟨k, hk⟩ : ∃ k, nL υ s = k + 1 := ⟨nL υ s - 1, by omega⟩
    have g := nV_ge hs hk
    refine Nat.lt_of_lt_of_le ?_ g
    rw [hk, dv_s, r90, if_pos (by omega)]
    have l : dv (τ.2.2.1 90) (40000 * r + (nL υ r - (k + 1) + 1)) k < 65536 ^ k := dv_lt (fun i hi => by
      rw [r90, if_neg (by omega), Nat.add_assoc]
      exact hr.2.2.1 _ (by omega))
    show _ + 0 * _ < _
    rw [Nat.zero_mul]
    exact l
theorem ar_v {X Y S p v Q R M' : Nat} (h : X + S * (65536 * p) * Q = R) (hx : Y + p * M' = X + 0) (hm : M' = v * S) : Y + S * p * (v + 65536 * Q) = R := by
  have e : S * p * (v + 65536 * Q) = p * (v * S) + S * (65536 * p) * Q := by
    rw [Nat.mul_add, Nat.mul_comm S p, Nat.mul_assoc, Nat.mul_comm S v]
    congr 1
    rw [Nat.mul_assoc, ← Nat.mul_assoc S 65536 p, Nat.mul_comm S 65536, Nat.mul_assoc 65536, ← Nat.mul_assoc S 65536 Q, Nat.mul_comm S 65536]
    rw [Nat.mul_assoc 65536 (S * p) Q, Nat.mul_assoc 65536 S Q, Nat.mul_left_comm p 65536]
    rw [← Nat.mul_assoc p S Q, Nat.mul_comm p S]
  rw [hm] at hx
  omega
theorem dvI_s {υ τ ω ρ : rS} {q r s j : Nat} {v : Int32} (hqr : q ≠ r) (hl : nL υ s ≤ nL υ r) (hm : nL υ r < 40000) (h : dvI υ τ q r s (j + 1)) (f : frP (40000 * r + j) (nL υ s) τ ω) (hd : dgO (ω.2.2.1 90) (40000 * r + j) (nL υ s)) (h0 : ω.2.2.1 90 (40000 * r + j + nL υ s) = 0) (hv : 0 ≤ v ∧ v < 65536) (he : dv (ω.2.2.1 90) (40000 * r + j) (nL υ s) + v.toNatClampNeg * nV υ s = dv (τ.2.2.1 90) (40000 * r + j) (nL υ s + 1)) (hlt : dv (ω.2.2.1 90) (40000 * r + j) (nL υ s) < nV υ s) (hu : ρ = riU ω 90 (40000 * q + j) v) : dvI υ ρ q r s j := by
  obtain ⟨g1, g2, g3, g4, g5, g6, g7, g8⟩ := h
  have r90 : ∀ i, ρ.2.2.1 90 i = if i = 40000 * q + j then v else ω.2.2.1 90 i := fun i => by rw [hu, ri4]
  have rr : ∀ i, i < 40000 → ρ.2.2.1 90 (40000 * r + i) = ω.2.2.1 90 (40000 * r + i) := fun i hi => by rw [r90, if_neg (by omega)]
  have fo : ∀ i, i < 40000 → (i < j ∨ j + nL υ s < i) → ω.2.2.1 90 (40000 * r + i) = τ.2.2.1 90 (40000 * r + i) := fun i _ hi => f.2.2.2.2 _ (by omega)
  have dr : ∀ i, i < nL υ r + 1 → 0 ≤ ω.2.2.1 90 (40000 * r + i) ∧ ω.2.2.1 90 (40000 * r + i) < 65536 := fun i hi => by
    by_cases e : i < j ∨ j + nL υ s < i
    · rw [fo i (by omega) e]; exact g4 i hi
    · by_cases e2 : i = j + nL υ s
      · rw [e2, ← Nat.add_assoc, h0]; exact ⟨by decide, by decide⟩
      · have := hd (i - j) (by omega)
        rwa [show 40000 * r + j + (i - j) = 40000 * r + i by omega] at this
  have cl : nL υ r - nL υ s + 1 - j = 1 + (nL υ r - nL υ s + 1 - (j + 1)) := by omega
  refine ⟨⟨by rw [hu]; exact f.1.trans g1.1, by rw [hu]; exact f.2.1.trans g1.2.1, fun k z1 z2 => by rw [hu, ri3 z1]; exact (f.2.2.1 k z1).trans (g1.2.2.1 k z1 z2), by rw [hu]; exact f.2.2.2.1.trans g1.2.2.2.1, fun k hk => ?_⟩, by rw [hu, ri3 (by decide)]; exact (f.2.2.1 91 (by decide)).trans g2, by omega, fun i hi => by rw [rr i (by omega)]; exact dr i hi, fun i hi => ?_, ?_, ?_, fun i hi hi2 => ?_⟩
  · have nq : k ≠ q := fun e => hk (by rw [e]; exact List.mem_cons_self)
    have nr : k ≠ r := fun e => hk (by rw [e]; exact List.mem_cons_of_mem _ (List.mem_singleton.mpr rfl))
    have o := g1.2.2.2.2 k hk
    refine ⟨by rw [hu, ri3 (by decide), f.2.2.1 91 (by decide)]; exact o.1, fun i hi => ?_⟩
    rw [r90, if_neg (by omega), f.2.2.2.2 _ (by omega)]
    exact o.2 i hi
  · rw [r90]
    by_cases e : i = 0
    · rw [e, Nat.add_zero, if_pos rfl]; exact hv
    · rw [if_neg (by omega), f.2.2.2.2 _ (by omega)]
      have := g5 (i - 1) (by omega)
      rwa [show 40000 * q + (j + 1) + (i - 1) = 40000 * q + j + i by omega] at this
  · have q1 : dv (ρ.2.2.1 90) (40000 * q + j) (nL υ r - nL υ s + 1 - j) = v.toNatClampNeg + 65536 * dv (τ.2.2.1 90) (40000 * q + (j + 1)) (nL υ r - nL υ s + 1 - (j + 1)) := by
      rw [cl, dv_add, dv_s, r90, if_pos (Nat.add_zero _)]
      show 0 + v.toNatClampNeg * 1 + 65536 * _ = _
      rw [Nat.zero_add, Nat.mul_one, ← Nat.add_assoc]
      congr 2
      refine dv_congr (fun i hi => ?_)
      rw [r90, if_neg (by omega), f.2.2.2.2 _ (by omega)]
    have sp : nL υ r + 1 = j + ((nL υ s + 1) + (nL υ r - j - nL υ s)) := by omega
    have s3 : ∀ f : Nat → Int32, dv f (40000 * r) (nL υ r + 1) = dv f (40000 * r) j + 65536 ^ j * (dv f (40000 * r + j) (nL υ s + 1) + 65536 ^ (nL υ s + 1) * dv f (40000 * r + j + (nL υ s + 1)) (nL υ r - j - nL υ s)) := fun f => by rw [sp, dv_add (a := j), dv_add (a := nL υ s + 1)]
    have w1 : dv (ρ.2.2.1 90) (40000 * r) (nL υ r + 1) = dv (ω.2.2.1 90) (40000 * r) (nL υ r + 1) := dv_congr (fun i hi => rr i (by omega))
    have a1 : dv (ω.2.2.1 90) (40000 * r) j = dv (τ.2.2.1 90) (40000 * r) j := dv_congr (fun i hi => fo i (by omega) (by omega))
    have a2 : dv (ω.2.2.1 90) (40000 * r + j + (nL υ s + 1)) (nL υ r - j - nL υ s) = dv (τ.2.2.1 90) (40000 * r + j + (nL υ s + 1)) (nL υ r - j - nL υ s) := dv_congr (fun i hi => f.2.2.2.2 _ (by omega))
    have a3 : dv (ω.2.2.1 90) (40000 * r + j) (nL υ s + 1) = dv (ω.2.2.1 90) (40000 * r + j) (nL υ s) := by
      rw [dv_s, h0]
      show _ + 0 * _ = _
      rw [Nat.zero_mul]
      rfl
    have w2 : dv (ρ.2.2.1 90) (40000 * r) (nL υ r + 1) + 65536 ^ j * (v.toNatClampNeg * nV υ s) = dv (τ.2.2.1 90) (40000 * r) (nL υ r + 1) + 0 := by
      rw [w1, s3, s3, a1, a2, a3, ← he, Nat.mul_add, Nat.mul_add, Nat.mul_add]
      omega
    rw [pw_s] at g6
    rw [q1]
    exact ar_v g6 w2 rfl
  · have : dv (ρ.2.2.1 90) (40000 * r + j) (nL υ s) = dv (ω.2.2.1 90) (40000 * r + j) (nL υ s) := dv_congr (fun i hi => by rw [Nat.add_assoc, rr _ (by omega)])
    rw [this]
    exact hlt
  · rw [rr i (by omega)]
    by_cases e : i = j + nL υ s
    · rw [e, ← Nat.add_assoc]; exact h0
    · rw [fo i (by omega) (by omega)]
      exact g8 i (by omega) hi2
theorem dvI_b {υ τ : rS} {q r s j : Nat} (hl : nL υ s ≤ nL υ r) (h : dvI υ τ q r s (j + 1)) : dgO (τ.2.2.1 90) (40000 * r + j) (nL υ s + 1) ∧ dv (τ.2.2.1 90) (40000 * r + j) (nL υ s + 1) < 65536 * nV υ s := by
  obtain ⟨g1, g2, g3, g4, g5, g6, g7, g8⟩ := h
  refine ⟨fun i hi => by rw [Nat.add_assoc]; exact g4 _ (by omega), ?_⟩
  have d := (d_n (g4 j (by omega))).1
  rw [Nat.add_comm (nL υ s) 1, dv_add, dv_s]
  show 0 + (τ.2.2.1 90 (40000 * r + j)).toNatClampNeg * 1 + 65536 * dv (τ.2.2.1 90) (40000 * r + j + 1) (nL υ s) < _
  rw [Nat.add_assoc (40000 * r)]
  omega
theorem d_u {b : Int32} (h0 : 0 ≤ b) (h1 : b ≤ 14) : 0 ≤ b + 1 ∧ b + 1 ≤ 15 ∧ 0 ≤ 16 - (b + 1) ∧ 16 - (b + 1) < 16 - b ∧ b < 1000000 := by grind
theorem d_j {n m : Int32} (n0 : 0 ≤ n) (h : n ≤ m) (m1 : m ≤ 40000) : 0 ≤ m - n ∧ 0 ≤ m - n + 1 ∧ m - n + 1 ≤ 40001 ∧ (m - n).toNatClampNeg = m.toNatClampNeg - n.toNatClampNeg ∧ (m - n + 1).toNatClampNeg = m.toNatClampNeg - n.toNatClampNeg + 1 := by
  have m0 : 0 ≤ m := Int32.le_trans n0 h
  have g : 0 ≤ m - n ∧ 0 ≤ m - n + 1 ∧ m - n + 1 ≤ 40001 ∧ m - n < 1000000 := by grind
  have e := i_sub m0 n0
  have a := cn_int m0
  have b := cn_int n0
  have c := cn_int g.1
  have l := ti h
  have s := cn_succ g.1 g.2.2.2
  refine ⟨g.1, g.2.1, g.2.2.1, by omega, by omega⟩
theorem d_k {j : Int32} (h : ¬ j < 0) (h1 : j + 1 ≤ 40001) (h0 : 0 ≤ j + 1) : 0 ≤ j ∧ j ≤ 40000 ∧ j + -1 + 1 = j ∧ j < j + 1 ∧ j < 1000000 ∧ j + -1 + 1 < j + 1 ∧ 0 ≤ j + -1 + 1 ∧ j + -1 + 1 ≤ 40001 := by grind
theorem d_e {j : Int32} (h : j < 0) (h0 : 0 ≤ j + 1) (h1 : j + 1 ≤ 40001) : j + 1 = 0 := by grind
theorem dv_fin {R S q V W : Nat} (hz : 0 < S) (hq : 0 < q) (e : W + S * q * V = R * q) (l : W < S * q) : V = R / S ∧ W / q = R % S := by
  have u := (Nat.div_mod_unique (a := R * q) (b := S * q) (c := W) (d := V) (Nat.mul_pos hz hq)).mpr ⟨e, l⟩
  rw [Nat.mul_div_mul_right _ _ hq, Nat.mul_mod_mul_right] at u
  exact ⟨u.1.symm, by rw [← u.2]; exact Nat.mul_div_cancel _ hq⟩
theorem nm1 {a b : Nat} (h : a ≠ b) : a ∉ [b] := fun z => h (List.mem_singleton.mp z)
theorem nm2 {a b c : Nat} (h : a ≠ b) (g : a ≠ c) : a ∉ [b, c] := fun z => by
  rcases List.mem_cons.mp z with e | e
  · exact h e
  · exact nm1 g e
theorem numO_0 {σ : rS} {q : Nat} : numO (riU σ 91 q 0) q ∧ nV (riU σ 91 q 0) q = 0 := by
  have e : (riU σ 91 q 0).2.2.1 91 q = 0 := by rw [ri4, if_pos rfl]
  have l : nL (riU σ 91 q 0) q = 0 := by show ((riU σ 91 q 0).2.2.1 91 q).toNatClampNeg = 0; rw [e]; rfl
  refine ⟨⟨by rw [e]; decide, by rw [e]; decide, by rw [l]; exact fun i hi => absurd hi (Nat.not_lt_zero i), Or.inl l⟩, ?_⟩
  unfold nV
  rw [l]
  rfl
def upR (σ υ : rS) (r s b : Nat) : Prop := frN [r, s] σ υ ∧ numO υ r ∧ numO υ s ∧ nV υ r = nV σ r * 2 ^ b ∧ nV υ s = nV σ s * 2 ^ b ∧ nL υ r < 40000 ∧ nL υ s ≤ nL υ r ∧ 0 < nL υ s
theorem divide_c {C : rCx} (hC : cOK C)  {σ : rS} {a1 : Int32} {a2 : Int32} {a3 : Int32} {Q : rS → Prop} (hp : 0 ≤ a1 ∧ a1 < 30 ∧ 0 ≤ a2 ∧ a2 < 30 ∧ 0 ≤ a3 ∧ a3 < 30 ∧ a1 ≠ a2 ∧ a1 ≠ a3 ∧ a2 ≠ a3 ∧ numO σ a2.toNatClampNeg ∧ numO σ a3.toNatClampNeg ∧ 0 < nV σ a3.toNatClampNeg ∧ nL σ a2.toNatClampNeg + 1 < 40000) (h : ∀ (σ' : rS), (frN [a1.toNatClampNeg, a2.toNatClampNeg, a3.toNatClampNeg] σ σ' ∧ numO σ' a1.toNatClampNeg ∧ numO σ' a2.toNatClampNeg ∧ numO σ' a3.toNatClampNeg ∧ nV σ' a1.toNatClampNeg = nV σ a2.toNatClampNeg / nV σ a3.toNatClampNeg ∧ nV σ' a2.toNatClampNeg = nV σ a2.toNatClampNeg % nV σ a3.toNatClampNeg ∧ nV σ' a3.toNatClampNeg = nV σ a3.toNatClampNeg) → Q σ') : cV C 2 m_divide [.ref (co C), .int a1, .int a2, .int a3] σ Q := by
  refine m_divide_run hC ?_
  unfold w_divide_0
  obtain ⟨h0, h1, h2, h3, h4, h5, n12, n13, n23, hr, hs, hz, hl⟩ := hp
  have c12 : a1.toNatClampNeg ≠ a2.toNatClampNeg := fun e => n12 (cn_inj h0 h2 e)
  have c13 : a1.toNatClampNeg ≠ a3.toNatClampNeg := fun e => n13 (cn_inj h0 h4 e)
  have c23 : a2.toNatClampNeg ≠ a3.toNatClampNeg := fun e => n23 (cn_inj h2 h4 e)
  have sz : 0 < nL σ a3.toNatClampNeg := Nat.pos_of_ne_zero (fun e => by have := (nL_z hs).mp e; omega)
  refine compare_c hC  ?_ (fun r1 q3 => ?_)
  · clear h; exact ⟨h2, h3, h4, h5, hr, hs⟩  -- p1
  have np : ¬ σ.2.2.1 91 a3.toNatClampNeg ≤ 0 := fun z => by
    have z2 : nL σ a3.toNatClampNeg = 0 := cn_zero z
    omega
  have pm := pos_m np hs.2.1
  have cp : nL σ a3.toNatClampNeg = (σ.2.2.1 91 a3.toNatClampNeg - 1).toNatClampNeg + 1 := cn_pred pm.2.2.2.2.1 pm.2.2.2.2.2.1
  have bm := bx h4 h5 pm.1 pm.2.2.1
  have dt := hs.2.2.1 (σ.2.2.1 91 a3.toNatClampNeg - 1).toNatClampNeg (by omega)
  have tz : 0 < (σ.2.2.1 90 (40000 * a3.toNatClampNeg + (σ.2.2.1 91 a3.toNatClampNeg - 1).toNatClampNeg)).toNatClampNeg := by
    rcases hs.2.2.2 with z | ⟨m, z1, z2⟩
    · omega
    · rw [show (σ.2.2.1 91 a3.toNatClampNeg - 1).toNatClampNeg = m by omega]
      omega
  refine ⟨fun c4 => ?_, fun c4 => ?_⟩
  · skip
    unfold w_divide_20
    refine ⟨fun n l1 l2 l3 l4 τ => n = (16 - l4).toNatClampNeg ∧ (l1 = a1 ∧ l2 = a2 ∧ l3 = a3 ∧ τ = σ ∧ nV σ a3.toNatClampNeg ≤ nV σ a2.toNatClampNeg ∧ 0 ≤ l4 ∧ l4 ≤ 15 ∧ (σ.2.2.1 90 (40000 * a3.toNatClampNeg + (σ.2.2.1 91 a3.toNatClampNeg - 1).toNatClampNeg)).toNatClampNeg * 2 ^ l4.toNatClampNeg < 65536), ⟨_, rfl, ?_⟩, ?_⟩
    · clear h; refine ⟨rfl, rfl, rfl, rfl, ?_, by decide, by decide, ?_⟩
      · rcases q3 with z | z | z
        · omega
        · omega
        · rw [z.1] at c4
          exact absurd c4 (by decide)
      · show _ * 1 < _
        have := (d_n dt).1
        omega
    rintro n20 x20_1 x20_2 x20_3 x20_4 σ20 ⟨hn20, i20⟩
    obtain ⟨e1, e2, e3, et, le, g0, g1, g2⟩ := i20
    refine ⟨ib_30.mpr ?_, ?_⟩
    · clear h; rw [e3]; exact ⟨h4, h5⟩  -- b3
    refine ⟨ib_1200000.mpr ?_, ?_⟩
    · clear h; rw [e3, et, sb1]; exact ⟨bm.1, bm.2.2.1 pm.2.1⟩  -- b4
    have tp : σ20.2.2.1 90 (40000 * x20_3 + σ20.2.2.1 91 x20_3.toNatClampNeg - 1).toNatClampNeg = σ.2.2.1 90 (40000 * a3.toNatClampNeg + (σ.2.2.1 91 a3.toNatClampNeg - 1).toNatClampNeg) := by rw [e3, et, sb1, bm.2.1]
    have rl : nL σ a3.toNatClampNeg ≤ nL σ a2.toNatClampNeg := nL_mono hs hr le
    refine ⟨fun c5 => ?_, fun c5 => ?_⟩
    · skip
      refine shiftUp_c hC  ?_ (fun σ_6 q7 => ?_)
      · clear h; rw [e3, et]; exact ⟨h4, h5, g0, g1, hs, by omega⟩  -- p5
      rw [e3, et] at q7
      have r6 := nV_fr q7.1 (nm1 c23) hr
      refine shiftUp_c hC  ?_ (fun σ_8 q9 => ?_)
      · clear h; rw [e2]; exact ⟨h2, h3, g0, g1, r6.1, by omega⟩  -- p6
      rw [e2] at q9
      have s8 := nV_fr q9.1 (nm1 (Ne.symm c23)) q7.2.1
      have tb := Nat.two_pow_pos x20_4.toNatClampNeg
      have vr : nV σ_8 a2.toNatClampNeg = nV σ a2.toNatClampNeg * 2 ^ x20_4.toNatClampNeg := by rw [q9.2.2.1, r6.2.1]
      have vs : nV σ_8 a3.toNatClampNeg = nV σ a3.toNatClampNeg * 2 ^ x20_4.toNatClampNeg := by rw [s8.2.1, q7.2.2.1]
      have U : upR σ σ_8 a2.toNatClampNeg a3.toNatClampNeg x20_4.toNatClampNeg := ⟨frN_tr (frN_mono q7.1 (fun k hk => List.mem_cons_of_mem _ hk)) (frN_mono q9.1 (fun k hk => by rw [List.mem_singleton.mp hk]; exact List.mem_cons_self)), q9.2.1, s8.1, vr, vs, by have := q9.2.2.2; omega, nL_mono s8.1 q9.2.1 (by rw [vr, vs]; exact Nat.mul_le_mul_right _ le), Nat.pos_of_ne_zero (fun z => by have z2 := (nL_z s8.1).mp z; rw [vs] at z2; have := Nat.mul_pos hz tb; omega)⟩
      have m0 := q9.2.1.1
      have np8 := n1p m0 (le_of_n m0 U.2.2.2.2.2.1)
      have bn := bx h2 h3 m0 np8.2.2.2.1
      refine ⟨ib_30.mpr ?_, ?_⟩
      · clear h; rw [e3]; exact ⟨h4, h5⟩  -- b7
      intro x10 hx10
      refine ⟨ib_30.mpr ?_, ?_⟩
      · clear h; rw [e2]; exact ⟨h2, h3⟩  -- b8
      intro x11 hx11
      refine ⟨ib_1200000.mpr ?_, ?_⟩
      · clear h; rw [hx11, e2]; exact ⟨bn.1, bn.2.2.1 np8.2.2.1⟩  -- b9
      intro σ_12 hσ_12
      intro x13 hx13
      unfold w_divide_106
      refine ⟨fun n l1 l2 l3 l4 l5 l6 l7 τ => n = (l7 + 1).toNatClampNeg ∧ (l1 = a1 ∧ l2 = a2 ∧ l3 = a3 ∧ ∃ υ, upR σ υ a2.toNatClampNeg a3.toNatClampNeg x20_4.toNatClampNeg ∧ l4 = x20_4 ∧ l5 = υ.2.2.1 91 a3.toNatClampNeg ∧ l6 = υ.2.2.1 91 a2.toNatClampNeg ∧ 0 ≤ l7 + 1 ∧ l7 + 1 ≤ 40001 ∧ dvI υ τ a1.toNatClampNeg a2.toNatClampNeg a3.toNatClampNeg (l7 + 1).toNatClampNeg), ⟨_, rfl, ?_⟩, ?_⟩
      · clear h; rw [e3] at hx10
        rw [e2] at hx11 hσ_12
        have dj := d_j s8.1.1 ((cn_li s8.1.1 m0).mpr U.2.2.2.2.2.2.1) np8.2.2.2.1
        rw [hx11, hx10] at hx13
        rw [hx11, bn.2.1] at hσ_12
        refine ⟨e1, e2, e3, σ_8, U, rfl, hx10, hx11, by rw [hx13]; exact dj.2.1, by rw [hx13]; exact dj.2.2.1, ?_⟩
        rw [hx13, dj.2.2.2.2]
        exact dvI_0 U.2.1 U.2.2.1 U.2.2.2.2.2.2.2 U.2.2.2.2.2.2.1 U.2.2.2.2.2.1 hσ_12
      rintro n106 x106_1 x106_2 x106_3 x106_4 x106_5 x106_6 x106_7 σ106 ⟨hn106, i106⟩
      obtain ⟨k1, k2, k3, υ, U, k4, k5, k6, k7, k8, D⟩ := i106
      refine ⟨fun c14 => ?_, fun c14 => ?_⟩
      · skip
        refine ⟨ib_30.mpr ?_, ?_⟩
        · clear h; rw [k1]; exact ⟨h0, h1⟩  -- b11
        intro σ_15 hσ_15
        have ej := d_e c14 k7 k8
        rw [ej] at D
        have D0 : dvI υ σ106 a1.toNatClampNeg a2.toNatClampNeg a3.toNatClampNeg 0 := D
        have U5 := U.2.2.2.2.2.1
        have U6 := U.2.2.2.2.2.2.1
        have U7 := U.2.2.2.2.2.2.2
        have dj := d_j U.2.2.1.1 ((cn_li U.2.2.1.1 U.2.1.1).mpr U6) U.2.1.2.1
        rw [k1, k6, k5] at hσ_15
        have el : σ_15.2.2.1 91 a1.toNatClampNeg = υ.2.2.1 91 a2.toNatClampNeg - υ.2.2.1 91 a3.toNatClampNeg + 1 := by rw [hσ_15, ri4, if_pos rfl]
        have L15 : nL σ_15 a1.toNatClampNeg = nL υ a2.toNatClampNeg - nL υ a3.toNatClampNeg + 1 := by show (σ_15.2.2.1 91 a1.toNatClampNeg).toNatClampNeg = _; rw [el, dj.2.2.2.2]
        have r90 : σ_15.2.2.1 90 = σ106.2.2.1 90 := by rw [hσ_15, ri3 (by decide)]
        have F15 : frN [a1.toNatClampNeg] σ106 σ_15 := by rw [hσ_15]; exact frN_91
        refine trim_v hC  ?_ (fun σ_16 q17 => ?_)
        · clear h; rw [k1]
          refine ⟨h0, h1, by rw [rd, el]; exact dj.2.1, ?_, ?_⟩
          · rw [cn_li (by rw [rd, el]; exact dj.2.1) (by decide)]
            show nL σ_15 a1.toNatClampNeg ≤ 40000
            omega
          · have := D0.2.2.2.2.1
            rw [Nat.add_zero, Nat.sub_zero] at this
            rw [L15, r90]
            exact this
        rw [k1, L15, r90] at q17
        refine ⟨ib_30.mpr ?_, ?_⟩
        · clear h; rw [k2]; exact ⟨h2, h3⟩  -- b13
        intro σ_18 hσ_18
        rw [k2, k5] at hσ_18
        have el2 : σ_18.2.2.1 91 a2.toNatClampNeg = υ.2.2.1 91 a3.toNatClampNeg := by rw [hσ_18, ri4, if_pos rfl]
        have L18 : nL σ_18 a2.toNatClampNeg = nL υ a3.toNatClampNeg := by show (σ_18.2.2.1 91 a2.toNatClampNeg).toNatClampNeg = _; rw [el2]
        have r18 : ∀ i, i < 40000 → σ_18.2.2.1 90 (40000 * a2.toNatClampNeg + i) = σ106.2.2.1 90 (40000 * a2.toNatClampNeg + i) := fun i hi => by rw [hσ_18, ri3 (by decide), (q17.1.2.2.2.2 _ (nm1 (Ne.symm c12))).2 i hi, r90]
        have F18 : frN [a2.toNatClampNeg] σ_16 σ_18 := by rw [hσ_18]; exact frN_91
        refine trim_v hC  ?_ (fun σ_19 q20 => ?_)
        · clear h; rw [k2]
          refine ⟨h2, h3, by rw [rd, el2]; exact U.2.2.1.1, by rw [rd, el2]; exact U.2.2.1.2.1, fun i hi => ?_⟩
          rw [L18] at hi
          rw [r18 i (by omega)]
          exact D0.2.2.2.1 i (by omega)
        rw [k2, L18] at q20
        have mq : ∀ k, k ∈ [a1.toNatClampNeg] → k ∈ [a1.toNatClampNeg, a2.toNatClampNeg] := fun k hk => by rw [List.mem_singleton.mp hk]; exact List.mem_cons_self
        have mr : ∀ k, k ∈ [a2.toNatClampNeg] → k ∈ [a1.toNatClampNeg, a2.toNatClampNeg] := fun k hk => List.mem_cons_of_mem _ hk
        have F19 : frN [a1.toNatClampNeg, a2.toNatClampNeg] υ σ_19 := frN_tr D0.1 (frN_tr (frN_mono F15 mq) (frN_tr (frN_mono q17.1 mq) (frN_tr (frN_mono F18 mr) (frN_mono q20.1 mr))))
        refine shiftDown_c hC  ?_ (fun σ_21 q22 => ?_)
        · clear h; rw [k2, k4]; exact ⟨h2, h3, g0, g1, q20.2.1⟩  -- p15
        rw [k2, k4] at q22
        have F21 := frN_tr F19 (frN_mono q22.1 mr)
        have s21 := nV_fr F21 (nm2 (Ne.symm c13) (Ne.symm c23)) U.2.2.1
        refine shiftDown_c hC  ?_ (fun σ_23 q24 => ?_)
        · clear h; rw [k3, k4]; exact ⟨h4, h5, g0, g1, s21.1⟩  -- p16
        rw [k3, k4] at q24
        refine h _ ?_
        · clear h; have qq := nV_fr (frN_tr F18 (frN_tr q20.1 q22.1)) (nm1 c12) q17.2.1
          have qe := nV_fr q24.1 (nm1 c13) qq.1
          have re := nV_fr q24.1 (nm1 c23) q22.2.1
          have tb := Nat.two_pow_pos x20_4.toNatClampNeg
          have v0 := D0.2.2.2.2.2.1
          have z0 : dv (σ106.2.2.1 90) (40000 * a2.toNatClampNeg) (nL υ a2.toNatClampNeg + 1) = dv (σ106.2.2.1 90) (40000 * a2.toNatClampNeg) (nL υ a3.toNatClampNeg) := dv_zero (by omega) (fun i hi hi2 => D0.2.2.2.2.2.2.2 i (by omega) (by omega))
          have l0 := D0.2.2.2.2.2.2.1
          rw [Nat.pow_zero, Nat.mul_one, Nat.add_zero, Nat.sub_zero, z0, U.2.2.2.1, U.2.2.2.2.1] at v0
          rw [Nat.add_zero, U.2.2.2.2.1] at l0
          have fin := dv_fin hz tb v0 l0
          have w18 : dv (σ_18.2.2.1 90) (40000 * a2.toNatClampNeg) (nL υ a3.toNatClampNeg) = dv (σ106.2.2.1 90) (40000 * a2.toNatClampNeg) (nL υ a3.toNatClampNeg) := dv_congr (fun i hi => r18 i (by omega))
          refine ⟨?_, qe.1, re.1, q24.2.1, ?_, ?_, ?_⟩
          · refine frN_tr (frN_mono U.1 (fun k hk => List.mem_cons_of_mem _ hk)) (frN_tr (frN_mono F21 (fun k hk => ?_)) (frN_mono q24.1 (fun k hk => List.mem_cons_of_mem _ (List.mem_cons_of_mem _ hk))))
            rcases List.mem_cons.mp hk with e | e
            · rw [e]; exact List.mem_cons_self
            · rw [List.mem_singleton.mp e]; exact List.mem_cons_of_mem _ List.mem_cons_self
          · rw [qe.2.1, qq.2.1, q17.2.2.1]; exact fin.1
          · rw [re.2.1, q22.2.2.1, q20.2.2.1, w18]; exact fin.2
          · rw [q24.2.2.1, s21.2.1, U.2.2.2.2.1]; exact Nat.mul_div_cancel _ tb
      · skip
        have dk := d_k c14 k8 k7
        have cs := cn_succ dk.1 dk.2.2.2.2.1
        rw [cs] at D
        have U5 := U.2.2.2.2.2.1
        have U6 := U.2.2.2.2.2.2.1
        have U7 := U.2.2.2.2.2.2.2
        have jm := D.2.2.1
        have Db := dvI_b U6 D
        have sT := nV_fr D.1 (nm2 (Ne.symm c13) (Ne.symm c23)) U.2.2.1
        have jl : x106_7 < 40000 := Int32.lt_of_le_of_lt (le_of_n dk.1 (by omega)) (by decide)
        refine oneDigit_c hC  ?_ (fun r25 σ_26 q27 => ?_)
        · clear h; rw [k2, k3]
          refine ⟨h2, h3, dk.1, h4, h5, n23, sT.1, by omega, by omega, ?_, ?_⟩
          · rw [sT.2.2]; exact Db.1
          · rw [sT.2.2, sT.2.1]; exact Db.2
        rw [k2, k3, sT.2.2, sT.2.1] at q27
        have bj := bx h0 h1 dk.1 dk.2.1
        refine ⟨ib_1200000.mpr ?_, ?_⟩
        · clear h; rw [k1]; exact ⟨bj.1, bj.2.2.1 jl⟩  -- b19
        intro σ_28 hσ_28
        intro x29 hx29
        refine ⟨_, cn_lt2 hn106 ?_ ?_, rfl, ?_⟩
        · clear h; rw [hx29]; exact dk.2.2.2.2.2.2.1  -- d20
        · clear h; rw [hx29]; exact dk.2.2.2.2.2.1  -- d21
        · clear h; rw [k1, bj.2.1] at hσ_28
          refine ⟨k1, k2, k3, υ, U, k4, k5, k6, by rw [hx29]; exact dk.2.2.2.2.2.2.1, by rw [hx29]; exact dk.2.2.2.2.2.2.2, ?_⟩
          rw [hx29, dk.2.2.1]
          exact dvI_s c12 U6 U5 D q27.1 q27.2.1 q27.2.2.1 q27.2.2.2.1 q27.2.2.2.2.1 q27.2.2.2.2.2 hσ_28
    · skip
      intro x30 hx30
      rw [tp] at c5
      have st := sh_step dt tz g0 g1 g2 c5
      have du := d_u g0 st.2
      refine ⟨_, cn_lt2 hn20 ?_ ?_, rfl, ?_⟩
      · clear h; rw [hx30]; exact du.2.2.1  -- d23
      · clear h; rw [hx30]; exact du.2.2.2.1  -- d24
      · clear h; exact ⟨e1, e2, e3, et, le, by rw [hx30]; exact du.1, by rw [hx30]; exact du.2.1, by rw [hx30, cn_succ g0 du.2.2.2.2]; exact st.1⟩  -- i25
  · skip
    refine ⟨ib_30.mpr ?_, ?_⟩
    · clear h; exact ⟨h0, h1⟩  -- b26
    intro σ_31 hσ_31
    refine h _ ?_
    · clear h; have lt : nV σ a2.toNatClampNeg < nV σ a3.toNatClampNeg := by
        rcases q3 with z | z | z
        · rw [z.1] at c4
          exact absurd (by decide) c4
        · rw [z.1] at c4
          exact absurd (by decide) c4
        · exact z.2
      have F : frN [a1.toNatClampNeg] σ σ_31 := by rw [hσ_31]; exact frN_91
      have n0 := numO_0 (σ := σ) (q := a1.toNatClampNeg)
      rw [← hσ_31] at n0
      have r1 := nV_fr F (nm1 (Ne.symm c12)) hr
      have s1 := nV_fr F (nm1 (Ne.symm c13)) hs
      refine ⟨frN_mono F (fun k hk => by rw [List.mem_singleton.mp hk]; exact List.mem_cons_self), n0.1, r1.1, s1.1, ?_, ?_, s1.2.1⟩
      · rw [n0.2, Nat.div_eq_of_lt lt]
      · rw [r1.2.1, Nat.mod_eq_of_lt lt]

end
