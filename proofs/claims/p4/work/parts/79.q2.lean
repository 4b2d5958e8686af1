set_option maxHeartbeats 1600000
/-! the reference: differences -/
theorem and16g {x : Int32} : (x &&& 65535).toInt = x.toInt % 65536 ∧ 0 ≤ x &&& 65535 ∧ x &&& 65535 < 65536 := by
  have e : (x &&& 65535).toBitVec.toNat = x.toBitVec.toNat % 65536 := by
    rw [Int32.toBitVec_and, BitVec.toNat_and, show (65535 : Int32).toBitVec.toNat = 2 ^ 16 - 1 from rfl, Nat.and_two_pow_sub_one_eq_mod]
  have t : (x &&& 65535).toInt = ((x &&& 65535).toBitVec.toNat : Int) := BitVec.toInt_eq_toNat_of_lt (by rw [e]; omega)
  have c : x.toInt = if 2 * x.toBitVec.toNat < 2 ^ 32 then (x.toBitVec.toNat : Int) else (x.toBitVec.toNat : Int) - (2 ^ 32 : Nat) := BitVec.toInt_eq_toNat_cond x.toBitVec
  have r : (x &&& 65535).toInt = x.toInt % 65536 := by
    rw [t, e]
    split at c <;> omega
  refine ⟨r, ?_, ?_⟩
  · rw [Int32.le_iff_toInt_le, Int32.toInt_zero, r]; omega
  · rw [Int32.lt_iff_toInt_lt, r, show (65536 : Int32).toInt = 65536 from rfl]; omega
theorem i3m {x y c : Int32} (hx : 0 ≤ x ∧ x < 65536) (hy : 0 ≤ y ∧ y < 65536) (hc : c = 0 ∨ c = 1) : (x - y - c).toInt = x.toInt - y.toInt - c.toInt := by
  have x0 := t0 hx.1
  have y0 := t0 hy.1
  have x1 := Int32.lt_iff_toInt_lt.mp hx.2
  have y1 := Int32.lt_iff_toInt_lt.mp hy.2
  rw [show (65536 : Int32).toInt = 65536 from rfl] at x1 y1
  have c1 : 0 ≤ c.toInt ∧ c.toInt ≤ 1 := by rcases hc with rfl | rfl <;> decide
  rw [Int32.toInt_sub, i_sub hx.1 hy.1]
  exact Int.bmod_eq_of_le (by omega) (by omega)
def mnI (σ τ : rS) (r s : Nat) (c k : Int32) : Prop := frN [r] σ τ ∧ τ.2.2.1 91 = σ.2.2.1 91 ∧ 0 ≤ k ∧ k ≤ σ.2.2.1 91 r ∧ (c = 0 ∨ c = 1) ∧ dgO (τ.2.2.1 90) (40000 * r) k.toNatClampNeg ∧ dv (τ.2.2.1 90) (40000 * r) k.toNatClampNeg + dv (σ.2.2.1 90) (40000 * s) (min k.toNatClampNeg (nL σ s)) = dv (σ.2.2.1 90) (40000 * r) k.toNatClampNeg + c.toNatClampNeg * 65536 ^ k.toNatClampNeg ∧ ∀ i, k.toNatClampNeg ≤ i → i < 40000 → τ.2.2.1 90 (40000 * r + i) = σ.2.2.1 90 (40000 * r + i)
theorem mn_u {k n : Int32} (k0 : 0 ≤ k) (h : ¬ n ≤ k) (n1 : n ≤ 40000) : 0 ≤ k + 1 ∧ k + 1 ≤ n ∧ 0 ≤ n - (k + 1) ∧ n - (k + 1) < n - k ∧ k < 40000 ∧ k ≤ 40000 ∧ k < 1000000 ∧ k < n := by grind
theorem ar_m {p a b c d x y z dd : Nat} (h : d + b = a + c * p) (hv : dd + y + c = x + 65536 * z) : d + dd * p + (b + y * p) = a + x * p + z * (65536 * p) := by
  have e : (dd + y + c) * p = (x + 65536 * z) * p := by rw [hv]
  rw [Nat.add_mul, Nat.add_mul, Nat.add_mul, Nat.mul_assoc] at e
  have f : z * (65536 * p) = 65536 * (z * p) := by rw [Nat.mul_left_comm]
  omega
theorem mn_step {σ τ υ : rS} {r s : Nat} {c c' k x y v : Int32} (h : mnI σ τ r s c k) (hn : σ.2.2.1 91 r ≤ 40000) (hk : ¬ σ.2.2.1 91 r ≤ k) (hx : (0 ≤ x ∧ x < 65536) ∧ x = σ.2.2.1 90 (40000 * r + k.toNatClampNeg)) (hy : plc (σ.2.2.1 90) (40000 * s) (nL σ s) k.toNatClampNeg y) (hv : v = x - y - c) (hc : (0 ≤ v ∧ c' = 0) ∨ (¬ 0 ≤ v ∧ c' = 1)) (hu : υ = riU τ 90 (40000 * r + k.toNatClampNeg) (v &&& 65535)) : mnI σ υ r s c' (k + 1) := by
  obtain ⟨g1, g2, g3, g4, g5, g6, g7, ga⟩ := h
  have u := mn_u g3 hk hn
  have w := i3m hx.1 hy.1 g5
  rw [← hv] at w
  have a16 := and16g (x := v)
  have cs := cn_succ g3 u.2.2.2.2.2.2.1
  have kl : k.toNatClampNeg < 40000 := by have := cn_lt g3 u.2.2.2.2.1; rwa [show (40000 : Int32).toNatClampNeg = 40000 from rfl] at this
  have r90 : ∀ j, υ.2.2.1 90 j = if j = 40000 * r + k.toNatClampNeg then v &&& 65535 else τ.2.2.1 90 j := fun j => by rw [hu, ri4]
  have old : dv (υ.2.2.1 90) (40000 * r) k.toNatClampNeg = dv (τ.2.2.1 90) (40000 * r) k.toNatClampNeg := dv_congr (fun i hi => by rw [r90, if_neg (by omega)])
  have x0 := t0 hx.1.1
  have y0 := t0 hy.1.1
  have x1 := Int32.lt_iff_toInt_lt.mp hx.1.2
  have y1 := Int32.lt_iff_toInt_lt.mp hy.1.2
  rw [show (65536 : Int32).toInt = 65536 from rfl] at x1 y1
  have c0 : 0 ≤ c ∧ 0 ≤ c.toInt ∧ c.toInt ≤ 1 := by rcases g5 with rfl | rfl <;> decide
  have cx := cn_int hx.1.1
  have cy := cn_int hy.1.1
  have cc := cn_int c0.1
  have cd := cn_int a16.2.1
  rw [a16.1] at cd
  have hz : (v &&& 65535).toNatClampNeg + y.toNatClampNeg + c.toNatClampNeg = x.toNatClampNeg + 65536 * c'.toNatClampNeg := by
    rcases hc with ⟨q1, q2⟩ | ⟨q1, q2⟩
    · have v0 := t0 q1
      have e : c'.toNatClampNeg = 0 := by rw [q2]; rfl
      omega
    · have v0 : v.toInt < 0 := by
        have := Int32.not_le.mp q1
        have := Int32.lt_iff_toInt_lt.mp this
        rwa [Int32.toInt_zero] at this
      have e : c'.toNatClampNeg = 1 := by rw [q2]; rfl
      omega
  refine ⟨frN_tr g1 (by rw [hu]; exact frN_90 kl), by rw [hu, ri3 (by decide)]; exact g2, u.1, u.2.1, ?_, fun i hi => ?_, ?_, fun i hi hi2 => ?_⟩
  · rcases hc with q | q
    · exact Or.inl q.2
    · exact Or.inr q.2
  · rw [cs] at hi
    rw [r90]
    by_cases e : i = k.toNatClampNeg
    · rw [e, if_pos rfl]; exact a16.2
    · rw [if_neg (by omega)]; exact g6 i (by omega)
  · rw [cs, dv_s, dv_s, old, r90, if_pos rfl, pw_s, dv_min, ← hy.2, ← hx.2]
    exact ar_m g7 hz
  · rw [cs] at hi
    rw [r90, if_neg (by omega)]
    exact ga i (by omega) hi2
theorem minus_c {C : rCx} (hC : cOK C)  {σ : rS} {a1 : Int32} {a2 : Int32} {Q : rS → Prop} (hp : 0 ≤ a1 ∧ a1 < 30 ∧ 0 ≤ a2 ∧ a2 < 30 ∧ a1 ≠ a2 ∧ numO σ a1.toNatClampNeg ∧ numO σ a2.toNatClampNeg ∧ nV σ a2.toNatClampNeg ≤ nV σ a1.toNatClampNeg) (h : ∀ (σ' : rS), (frN [a1.toNatClampNeg] σ σ' ∧ numO σ' a1.toNatClampNeg ∧ nV σ' a1.toNatClampNeg = nV σ a1.toNatClampNeg - nV σ a2.toNatClampNeg ∧ nL σ' a1.toNatClampNeg ≤ nL σ a1.toNatClampNeg) → Q σ') : cV C 1 m_minus [.ref (co C), .int a1, .int a2] σ Q := by
  refine m_minus_run hC ?_
  unfold w_minus_0
  obtain ⟨h0, h1, h2, h3, hne, hr, hs, hle⟩ := hp
  have cne : a1.toNatClampNeg ≠ a2.toNatClampNeg := fun e => hne (cn_inj h0 h2 e)
  have hll : nL σ a2.toNatClampNeg ≤ nL σ a1.toNatClampNeg := Nat.le_of_not_lt (fun z => by have := nV_len hr hs z; omega)
  unfold w_minus_5
  refine ⟨fun n l1 l2 l3 l4 τ => n = (rd σ 91 a1 - l4).toNatClampNeg ∧ (l1 = a1 ∧ l2 = a2 ∧ mnI σ τ a1.toNatClampNeg a2.toNatClampNeg l3 l4), ⟨_, rfl, ?_⟩, ?_⟩
  · clear h; refine ⟨rfl, rfl, frN_refl, rfl, by decide, hr.1, Or.inl rfl, fun i hi => absurd hi (Nat.not_lt_zero i), ?_, fun i _ _ => rfl⟩
    show 0 + dv _ _ (min 0 _) = 0 + 0 * 65536 ^ 0
    rw [Nat.zero_min]
    rfl
  rintro n5 x5_1 x5_2 x5_3 x5_4 σ5 ⟨hn5, i5⟩
  have hj72 : ∀ (l1 : Int32) (l2 : Int32) (l4 : Int32) (l5 : Int32) (s0 : Int32) (τ : rS), (l1 = a1 ∧ l2 = a2 ∧ τ = σ5 ∧ l4 = x5_4 ∧ ¬ rd σ 91 a1 ≤ x5_4 ∧ ∃ x y, ((0 ≤ x ∧ x < 65536) ∧ x = σ.2.2.1 90 (40000 * a1.toNatClampNeg + x5_4.toNatClampNeg)) ∧ plc (σ.2.2.1 90) (40000 * a2.toNatClampNeg) (nL σ a2.toNatClampNeg) x5_4.toNatClampNeg y ∧ l5 = x - y - x5_3 ∧ ((0 ≤ l5 ∧ s0 = 0) ∨ (¬ 0 ≤ l5 ∧ s0 = 1))) → w_minus_72 C Q (fun l1' l2' l3' l4' τ => ∃ k < n5, (fun n l1 l2 l3 l4 τ => n = (rd σ 91 a1 - l4).toNatClampNeg ∧ (l1 = a1 ∧ l2 = a2 ∧ mnI σ τ a1.toNatClampNeg a2.toNatClampNeg l3 l4)) k l1' l2' l3' l4' τ) l1 l2 l4 l5 s0 τ := by
    rintro y72_1 y72_2 y72_4 y72_5 y72_s0 τ72 j72
    unfold w_minus_72
    obtain ⟨e1, e2, I⟩ := i5
    obtain ⟨f1, f2, f3, f4, f5, x, y, f6, f7, f8, f9⟩ := j72
    have u := mn_u I.2.2.1 f5 hr.2.1
    have bb := bx h0 h1 I.2.2.1 u.2.2.2.2.2.1
    refine ⟨ib_1200000.mpr ?_, ?_⟩
    · clear h; rw [f1, f4]; exact ⟨bb.1, bb.2.2.1 u.2.2.2.2.1⟩  -- b2
    intro σ_1 hσ_1
    intro x2 hx2
    refine ⟨_, cn_lt2 hn5 ?_ ?_, rfl, ?_⟩
    · clear h; rw [hx2, f4]; exact u.2.2.1  -- d3
    · clear h; rw [hx2, f4]; exact u.2.2.2.1  -- d4
    · clear h; rw [hx2, f4]
      exact ⟨f1, f2, mn_step I hr.2.1 f5 f6 f7 f8 f9 (by rw [hσ_1, f3, f1, f4, bb.2.1])⟩
  have hj57 : ∀ (l1 : Int32) (l2 : Int32) (l3 : Int32) (l4 : Int32) (s0 : Int32) (s1 : Int32) (τ : rS), (l1 = a1 ∧ l2 = a2 ∧ τ = σ5 ∧ l3 = x5_3 ∧ l4 = x5_4 ∧ ¬ rd σ 91 a1 ≤ x5_4 ∧ ((0 ≤ s0 ∧ s0 < 65536) ∧ s0 = σ.2.2.1 90 (40000 * a1.toNatClampNeg + x5_4.toNatClampNeg)) ∧ plc (σ.2.2.1 90) (40000 * a2.toNatClampNeg) (nL σ a2.toNatClampNeg) x5_4.toNatClampNeg s1) → w_minus_57 C Q (fun l1' l2' l3' l4' τ => ∃ k < n5, (fun n l1 l2 l3 l4 τ => n = (rd σ 91 a1 - l4).toNatClampNeg ∧ (l1 = a1 ∧ l2 = a2 ∧ mnI σ τ a1.toNatClampNeg a2.toNatClampNeg l3 l4)) k l1' l2' l3' l4' τ) l1 l2 l3 l4 s0 s1 τ := by
    rintro y57_1 y57_2 y57_3 y57_4 y57_s0 y57_s1 τ57 j57
    unfold w_minus_57
    intro x3 hx3
    refine ⟨fun c4 => ?_, fun c4 => ?_⟩
    · skip
      refine hj72 _ _ _ _ _ _ ?_
      · clear h; obtain ⟨f1, f2, f3, f4, f5, f6, f7, f8⟩ := j57
        exact ⟨f1, f2, f3, f5, f6, _, _, f7, f8, by rw [hx3, f4], Or.inl ⟨c4, rfl⟩⟩
    · skip
      refine hj72 _ _ _ _ _ _ ?_
      · clear h; obtain ⟨f1, f2, f3, f4, f5, f6, f7, f8⟩ := j57
        exact ⟨f1, f2, f3, f5, f6, _, _, f7, f8, by rw [hx3, f4], Or.inr ⟨c4, rfl⟩⟩
  obtain ⟨e1, e2, I⟩ := i5
  have br := bx h0 h1 I.2.2.1 (Int32.le_trans I.2.2.2.1 hr.2.1)
  refine ⟨ib_30.mpr ?_, ?_⟩
  · clear h; rw [e1]; exact ⟨h0, h1⟩  -- b8
  refine ⟨fun c5 => ?_, fun c5 => ?_⟩
  · skip
    refine trim_v hC  ?_ (fun σ_6 q7 => ?_)
    · clear h; rw [e1, I.2.1] at c5
      have ek : x5_4 = σ.2.2.1 91 a1.toNatClampNeg := Int32.le_antisymm I.2.2.2.1 c5
      have L : nL σ5 a1.toNatClampNeg = x5_4.toNatClampNeg := by show (σ5.2.2.1 91 a1.toNatClampNeg).toNatClampNeg = _; rw [I.2.1, ek]
      have L2 : x5_4.toNatClampNeg = nL σ a1.toNatClampNeg := by rw [ek]
      rw [e1]
      refine ⟨h0, h1, by rw [rd, I.2.1]; exact hr.1, by rw [rd, I.2.1]; exact hr.2.1, ?_⟩
      rw [L]
      exact I.2.2.2.2.2.1
    refine h _ ?_
    · clear h; rw [e1, I.2.1] at c5
      have ek : x5_4 = σ.2.2.1 91 a1.toNatClampNeg := Int32.le_antisymm I.2.2.2.1 c5
      have L : nL σ5 a1.toNatClampNeg = x5_4.toNatClampNeg := by show (σ5.2.2.1 91 a1.toNatClampNeg).toNatClampNeg = _; rw [I.2.1, ek]
      have L2 : x5_4.toNatClampNeg = nL σ a1.toNatClampNeg := by rw [ek]
      rw [e1, L] at q7
      have v := I.2.2.2.2.2.2.1
      have lt := dv_lt I.2.2.2.2.2.1
      rw [L2] at q7 v lt
      rw [show min (nL σ a1.toNatClampNeg) (nL σ a2.toNatClampNeg) = nL σ a2.toNatClampNeg by omega] at v
      have vv : dv (σ5.2.2.1 90) (40000 * a1.toNatClampNeg) (nL σ a1.toNatClampNeg) + nV σ a2.toNatClampNeg = nV σ a1.toNatClampNeg + x5_3.toNatClampNeg * 65536 ^ nL σ a1.toNatClampNeg := v
      refine ⟨frN_tr I.1 q7.1, q7.2.1, ?_, q7.2.2.2⟩
      rw [q7.2.2.1]
      rcases I.2.2.2.2.1 with z | z
      · rw [z, show (0 : Int32).toNatClampNeg = 0 from rfl] at vv
        omega
      · rw [z, show (1 : Int32).toNatClampNeg = 1 from rfl] at vv
        omega
  · skip
    rw [e1, I.2.1] at c5
    have u := mn_u I.2.2.1 c5 hr.2.1
    have kl : x5_4.toNatClampNeg < 40000 := by have := cn_lt I.2.2.1 u.2.2.2.2.1; rwa [show (40000 : Int32).toNatClampNeg = 40000 from rfl] at this
    have bs := bx h2 h3 I.2.2.1 u.2.2.2.2.2.1
    have ls := cn_li (x := σ.2.2.1 91 a2.toNatClampNeg) (y := x5_4) hs.1 I.2.2.1
    have kr : x5_4.toNatClampNeg < nL σ a1.toNatClampNeg := cn_lt I.2.2.1 u.2.2.2.2.2.2.2
    have e9 : σ5.2.2.1 90 (40000 * a1.toNatClampNeg + x5_4.toNatClampNeg) = σ.2.2.1 90 (40000 * a1.toNatClampNeg + x5_4.toNatClampNeg) := I.2.2.2.2.2.2.2 _ (Nat.le_refl _) kl
    refine ⟨ib_1200000.mpr ?_, ?_⟩
    · clear h; rw [e1]; exact ⟨br.1, br.2.2.1 u.2.2.2.2.1⟩  -- b11
    refine ⟨ib_30.mpr ?_, ?_⟩
    · clear h; rw [e2]; exact ⟨h2, h3⟩  -- b12
    refine ⟨fun c8 => ?_, fun c8 => ?_⟩
    · skip
      refine hj57 _ _ _ _ _ _ _ ?_
      · clear h; rw [e2, I.2.1, ls] at c8
        refine ⟨e1, e2, rfl, rfl, rfl, c5, ⟨?_, ?_⟩, plc_0 (Nat.not_lt.mpr c8)⟩
        · rw [e1, br.2.1, e9]; exact hr.2.2.1 _ kr
        · rw [e1, br.2.1, e9]
    · skip
      refine ⟨ib_1200000.mpr ?_, ?_⟩
      · clear h; rw [e2]; exact ⟨bs.1, bs.2.2.1 u.2.2.2.2.1⟩  -- b14
      refine hj57 _ _ _ _ _ _ _ ?_
      · clear h; rw [e2, I.2.1, ls] at c8
        refine ⟨e1, e2, rfl, rfl, rfl, c5, ⟨?_, ?_⟩, plc_1 (Nat.not_le.mp c8) ?_ hs.2.2.1⟩
        · rw [e1, br.2.1, e9]; exact hr.2.2.1 _ kr
        · rw [e1, br.2.1, e9]
        · rw [e2, bs.2.1]
          exact (I.1.2.2.2.2 a2.toNatClampNeg (fun z => cne (List.mem_singleton.mp z).symm)).2 _ kl
