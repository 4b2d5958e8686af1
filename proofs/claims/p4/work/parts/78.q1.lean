set_option maxHeartbeats 1600000
/-! the reference: sums and differences -/
theorem i3 {x y c : Int32} (hx : 0 ≤ x ∧ x < 65536) (hy : 0 ≤ y ∧ y < 65536) (hc : c = 0 ∨ c = 1) : 0 ≤ x + y + c ∧ (x + y + c).toInt = x.toInt + y.toInt + c.toInt := by
  have x0 := t0 hx.1
  have y0 := t0 hy.1
  have x1 := Int32.lt_iff_toInt_lt.mp hx.2
  have y1 := Int32.lt_iff_toInt_lt.mp hy.2
  rw [show (65536 : Int32).toInt = 65536 from rfl] at x1 y1
  have c0 : 0 ≤ c := by rcases hc with rfl | rfl <;> decide
  have c1 : c.toInt ≤ 1 := by rcases hc with rfl | rfl <;> decide
  have a := i_add hx.1 hy.1 (by omega)
  have xy : 0 ≤ x + y := Int32.le_iff_toInt_le.mpr (by rw [a, Int32.toInt_zero]; omega)
  have b := i_add xy c0 (by omega)
  have cc := t0 c0
  exact ⟨Int32.le_iff_toInt_le.mpr (by rw [b, a, Int32.toInt_zero]; omega), by rw [b, a]⟩
/-- the place k of a number, nothing behind its own places -/
def plc (f : Nat → Int32) (o L k : Nat) (x : Int32) : Prop := (0 ≤ x ∧ x < 65536) ∧ x.toNatClampNeg * 65536 ^ k = (if k < L then (f (o + k)).toNatClampNeg * 65536 ^ k else 0)
def plI (σ τ : rS) (r s : Nat) (n c k : Int32) : Prop := frN [r] σ τ ∧ τ.2.2.1 91 = σ.2.2.1 91 ∧ 0 ≤ n ∧ n ≤ 39999 ∧ 0 ≤ k ∧ k ≤ n ∧ (c = 0 ∨ c = 1) ∧ dgO (τ.2.2.1 90) (40000 * r) k.toNatClampNeg ∧ dv (τ.2.2.1 90) (40000 * r) k.toNatClampNeg + c.toNatClampNeg * 65536 ^ k.toNatClampNeg = dv (σ.2.2.1 90) (40000 * r) (min k.toNatClampNeg (nL σ r)) + dv (σ.2.2.1 90) (40000 * s) (min k.toNatClampNeg (nL σ s)) ∧ ∀ i, k.toNatClampNeg ≤ i → i < 40000 → τ.2.2.1 90 (40000 * r + i) = σ.2.2.1 90 (40000 * r + i)
theorem pl_u {k n : Int32} (k0 : 0 ≤ k) (h : ¬ n ≤ k) (n1 : n ≤ 39999) : 0 ≤ k + 1 ∧ k + 1 ≤ n ∧ 0 ≤ n - (k + 1) ∧ n - (k + 1) < n - k ∧ k < 40000 ∧ k ≤ 40000 ∧ k < 1000000 := by grind
theorem ar_p {p a b c d x y z v dd : Nat} (h : d + c * p = a + b) (hv : v = x + y + c) (hd : dd = v % 65536) (hz : z = v / 65536) : d + dd * p + z * (65536 * p) = a + x * p + (b + y * p) := by
  have m := Nat.div_add_mod v 65536
  have e : (65536 * z + dd) * p = (x + y + c) * p := by rw [hz, hd, m, hv]
  rw [Nat.add_mul, Nat.add_mul, Nat.add_mul, Nat.mul_assoc] at e
  have f : z * (65536 * p) = 65536 * (z * p) := by rw [Nat.mul_left_comm]
  omega
theorem pl_step {σ τ υ : rS} {r s : Nat} {n c k x y v : Int32} (h : plI σ τ r s n c k) (hk : ¬ n ≤ k) (hx : plc (σ.2.2.1 90) (40000 * r) (nL σ r) k.toNatClampNeg x) (hy : plc (σ.2.2.1 90) (40000 * s) (nL σ s) k.toNatClampNeg y) (hv : v = x + y + c) (hu : υ = riU τ 90 (40000 * r + k.toNatClampNeg) (v &&& 65535)) : plI σ υ r s n (v >>> ((16 : Int32) &&& 31)) (k + 1) := by
  obtain ⟨g1, g2, g3, g4, g5, g6, g7, g8, g9, ga⟩ := h
  have u := pl_u g5 hk g4
  have w := i3 hx.1 hy.1 g7
  rw [← hv] at w
  have a16 := and16 w.1
  have s16 := shr16 (x := v)
  have cs := cn_succ g5 u.2.2.2.2.2.2
  have kl : k.toNatClampNeg < 40000 := by have := cn_lt g5 u.2.2.2.2.1; rwa [show (40000 : Int32).toNatClampNeg = 40000 from rfl] at this
  have r90 : ∀ j, υ.2.2.1 90 j = if j = 40000 * r + k.toNatClampNeg then v &&& 65535 else τ.2.2.1 90 j := fun j => by rw [hu, ri4]
  have old : dv (υ.2.2.1 90) (40000 * r) k.toNatClampNeg = dv (τ.2.2.1 90) (40000 * r) k.toNatClampNeg := dv_congr (fun i hi => by rw [r90, if_neg (by omega)])
  have x0 := t0 hx.1.1
  have y0 := t0 hy.1.1
  have x1 := Int32.lt_iff_toInt_lt.mp hx.1.2
  have y1 := Int32.lt_iff_toInt_lt.mp hy.1.2
  rw [show (65536 : Int32).toInt = 65536 from rfl] at x1 y1
  have c0 : 0 ≤ c ∧ c.toInt ≤ 1 := by rcases g7 with rfl | rfl <;> decide
  have cx := cn_int hx.1.1
  have cy := cn_int hy.1.1
  have cc := cn_int c0.1
  have cv := cn_int w.1
  have cd := cn_int a16.2.1
  have z0 : 0 ≤ v >>> ((16 : Int32) &&& 31) := Int32.le_iff_toInt_le.mpr (by rw [s16, Int32.toInt_zero]; omega)
  have cz := cn_int z0
  rw [a16.1] at cd
  rw [s16] at cz
  refine ⟨frN_tr g1 (by rw [hu]; exact frN_90 kl), by rw [hu, ri3 (by decide)]; exact g2, g3, g4, u.1, u.2.1, ?_, fun i hi => ?_, ?_, fun i hi hi2 => ?_⟩
  · by_cases e : (v >>> ((16 : Int32) &&& 31)).toInt = 0
    · exact Or.inl (Int32.toInt_inj.mp (by rw [e]; rfl))
    · exact Or.inr (Int32.toInt_inj.mp (by rw [s16] at e ⊢; rw [show (1 : Int32).toInt = 1 from rfl]; omega))
  · rw [cs] at hi
    rw [r90]
    by_cases e : i = k.toNatClampNeg
    · rw [e, if_pos rfl]; exact a16.2
    · rw [if_neg (by omega)]; exact g8 i (by omega)
  · rw [cs, dv_s, old, r90, if_pos rfl, pw_s, dv_min, dv_min, ← hx.2, ← hy.2]
    exact ar_p (x := x.toNatClampNeg) (y := y.toNatClampNeg) (v := v.toNatClampNeg) g9 (by omega) (by omega) (by omega)
  · rw [cs] at hi
    rw [r90, if_neg (by omega)]
    exact ga i (by omega) hi2
theorem plc_0 {f : Nat → Int32} {o L k : Nat} (h : ¬ k < L) : plc f o L k 0 := ⟨by decide, by rw [if_neg h]; exact Nat.zero_mul _⟩
theorem plc_1 {f : Nat → Int32} {o L k : Nat} {x : Int32} (h : k < L) (hx : x = f (o + k)) (hd : dgO f o L) : plc f o L k x := ⟨by rw [hx]; exact hd k h, by rw [if_pos h, hx]⟩
theorem n1p {n : Int32} (h0 : 0 ≤ n) (h1 : n ≤ 39999) : 0 ≤ n + 1 ∧ n + 1 ≤ 40000 ∧ n < 40000 ∧ n ≤ 40000 ∧ n < 1000000 := by grind
theorem le_of_n {x : Int32} (h0 : 0 ≤ x) (h : x.toNatClampNeg < 40000) : x ≤ 39999 := by
  have := cn_int h0
  refine Int32.le_iff_toInt_le.mpr ?_
  rw [show (39999 : Int32).toInt = 39999 from rfl]
  omega
theorem cn_li {x y : Int32} (hx : 0 ≤ x) (hy : 0 ≤ y) : x ≤ y ↔ x.toNatClampNeg ≤ y.toNatClampNeg := by
  have a := cn_int hx
  have b := cn_int hy
  rw [Int32.le_iff_toInt_le]
  omega
theorem plus_c {C : rCx} (hC : cOK C)  {σ : rS} {a1 : Int32} {a2 : Int32} {Q : rS → Prop} (hp : 0 ≤ a1 ∧ a1 < 30 ∧ 0 ≤ a2 ∧ a2 < 30 ∧ a1 ≠ a2 ∧ numO σ a1.toNatClampNeg ∧ numO σ a2.toNatClampNeg ∧ nL σ a1.toNatClampNeg < 40000 ∧ nL σ a2.toNatClampNeg < 40000) (h : ∀ (σ' : rS), (frN [a1.toNatClampNeg] σ σ' ∧ numO σ' a1.toNatClampNeg ∧ nV σ' a1.toNatClampNeg = nV σ a1.toNatClampNeg + nV σ a2.toNatClampNeg ∧ nL σ' a1.toNatClampNeg ≤ max (nL σ a1.toNatClampNeg) (nL σ a2.toNatClampNeg) + 1) → Q σ') : cV C 1 m_plus [.ref (co C), .int a1, .int a2] σ Q := by
  refine m_plus_run hC ?_
  unfold w_plus_0
  obtain ⟨h0, h1, h2, h3, hne, hr, hs, hl, hm⟩ := hp
  have cne : a1.toNatClampNeg ≠ a2.toNatClampNeg := fun e => hne (cn_inj h0 h2 e)
  have hj30 : ∀ (l1 : Int32) (l2 : Int32) (s0 : Int32) (τ : rS), (σ = τ ∧ l1 = a1 ∧ l2 = a2 ∧ 0 ≤ s0 ∧ s0 ≤ 39999 ∧ s0.toNatClampNeg = max (nL σ a1.toNatClampNeg) (nL σ a2.toNatClampNeg)) → w_plus_30 C Q  l1 l2 s0 τ := by
    rintro y30_1 y30_2 y30_s0 _ ⟨rfl, j30⟩
    unfold w_plus_30
    unfold w_plus_37
    refine ⟨fun n l1 l2 l3 l4 l5 τ => n = (l3 - l5).toNatClampNeg ∧ (l1 = a1 ∧ l2 = a2 ∧ plI σ τ a1.toNatClampNeg a2.toNatClampNeg l3 l4 l5 ∧ l3.toNatClampNeg = max (nL σ a1.toNatClampNeg) (nL σ a2.toNatClampNeg)), ⟨_, rfl, ?_⟩, ?_⟩
    · clear h; obtain ⟨e1, e2, n0, n1, nm⟩ := j30
      refine ⟨e1, e2, ⟨frN_refl, rfl, n0, n1, by decide, n0, Or.inl rfl, fun i hi => absurd hi (Nat.not_lt_zero i), ?_, fun i _ _ => rfl⟩, nm⟩
      show 0 + 0 * 65536 ^ 0 = dv _ _ (min 0 _) + dv _ _ (min 0 _)
      rw [Nat.zero_min, Nat.zero_min]
      rfl
    rintro n37 x37_1 x37_2 x37_3 x37_4 x37_5 σ37 ⟨hn37, i37⟩
    have hj99 : ∀ (l1 : Int32) (l2 : Int32) (l3 : Int32) (l4 : Int32) (l5 : Int32) (s0 : Int32) (s1 : Int32) (τ : rS), (l1 = a1 ∧ l2 = a2 ∧ τ = σ37 ∧ l3 = x37_3 ∧ l4 = x37_4 ∧ l5 = x37_5 ∧ ¬ x37_3 ≤ x37_5 ∧ plc (σ.2.2.1 90) (40000 * a1.toNatClampNeg) (nL σ a1.toNatClampNeg) x37_5.toNatClampNeg s0 ∧ plc (σ.2.2.1 90) (40000 * a2.toNatClampNeg) (nL σ a2.toNatClampNeg) x37_5.toNatClampNeg s1) → w_plus_99 C Q (fun l1' l2' l3' l4' l5' τ => ∃ k < n37, (fun n l1 l2 l3 l4 l5 τ => n = (l3 - l5).toNatClampNeg ∧ (l1 = a1 ∧ l2 = a2 ∧ plI σ τ a1.toNatClampNeg a2.toNatClampNeg l3 l4 l5 ∧ l3.toNatClampNeg = max (nL σ a1.toNatClampNeg) (nL σ a2.toNatClampNeg))) k l1' l2' l3' l4' l5' τ) l1 l2 l3 l4 l5 s0 s1 τ := by
      rintro y99_1 y99_2 y99_3 y99_4 y99_5 y99_s0 y99_s1 τ99 j99
      unfold w_plus_99
      intro x1 hx1
      obtain ⟨e1, e2, I, nm⟩ := i37
      obtain ⟨f1, f2, f3, f4, f5, f6, f7, f8, f9⟩ := j99
      have u := pl_u I.2.2.2.2.1 f7 I.2.2.2.1
      have bb := bx h0 h1 I.2.2.2.2.1 u.2.2.2.2.2.1
      refine ⟨ib_1200000.mpr ?_, ?_⟩
      · clear h; rw [f1, f6]; exact ⟨bb.1, bb.2.2.1 u.2.2.2.2.1⟩  -- b2
      intro σ_2 hσ_2
      intro x3 hx3
      intro x4 hx4
      refine ⟨_, cn_lt2 hn37 ?_ ?_, rfl, ?_⟩
      · clear h; rw [hx4, f6, f4]; exact u.2.2.1  -- d3
      · clear h; rw [hx4, f6, f4]; exact u.2.2.2.1  -- d4
      · clear h; rw [hx4, hx3, f4, f6]
        exact ⟨f1, f2, pl_step I f7 f8 f9 (by rw [hx1, f5]) (by rw [hσ_2, f3, f1, f6, bb.2.1]), nm⟩
    have hj71 : ∀ (l1 : Int32) (l2 : Int32) (l3 : Int32) (l4 : Int32) (l5 : Int32) (s0 : Int32) (τ : rS), (l1 = a1 ∧ l2 = a2 ∧ τ = σ37 ∧ l3 = x37_3 ∧ l4 = x37_4 ∧ l5 = x37_5 ∧ ¬ x37_3 ≤ x37_5 ∧ plc (σ.2.2.1 90) (40000 * a1.toNatClampNeg) (nL σ a1.toNatClampNeg) x37_5.toNatClampNeg s0) → w_plus_71 C Q (fun l1' l2' l3' l4' l5' τ => ∃ k < n37, (fun n l1 l2 l3 l4 l5 τ => n = (l3 - l5).toNatClampNeg ∧ (l1 = a1 ∧ l2 = a2 ∧ plI σ τ a1.toNatClampNeg a2.toNatClampNeg l3 l4 l5 ∧ l3.toNatClampNeg = max (nL σ a1.toNatClampNeg) (nL σ a2.toNatClampNeg))) k l1' l2' l3' l4' l5' τ) l1 l2 l3 l4 l5 s0 τ := by
      rintro y71_1 y71_2 y71_3 y71_4 y71_5 y71_s0 τ71 j71
      unfold w_plus_71
      obtain ⟨e1, e2, I, nm⟩ := i37
      obtain ⟨f1, f2, f3, f4, f5, f6, f7, f8⟩ := j71
      have u := pl_u I.2.2.2.2.1 f7 I.2.2.2.1
      have bs := bx h2 h3 I.2.2.2.2.1 u.2.2.2.2.2.1
      have kl : x37_5.toNatClampNeg < 40000 := by have := cn_lt I.2.2.2.2.1 u.2.2.2.2.1; rwa [show (40000 : Int32).toNatClampNeg = 40000 from rfl] at this
      refine ⟨ib_30.mpr ?_, ?_⟩
      · clear h; rw [f2]; exact ⟨h2, h3⟩  -- b6
      have lc := cn_li (x := σ.2.2.1 91 a2.toNatClampNeg) (y := x37_5) hs.1 I.2.2.2.2.1
      refine ⟨fun c5 => ?_, fun c5 => ?_⟩
      · skip
        refine hj99 _ _ _ _ _ _ _ _ ?_
        · clear h; rw [f2, f3, f6, I.2.1, lc] at c5
          exact ⟨f1, f2, f3, f4, f5, f6, f7, f8, plc_0 (Nat.not_lt.mpr c5)⟩
      · skip
        refine ⟨ib_1200000.mpr ?_, ?_⟩
        · clear h; rw [f2, f6]; exact ⟨bs.1, bs.2.2.1 u.2.2.2.2.1⟩  -- b8
        refine hj99 _ _ _ _ _ _ _ _ ?_
        · clear h; rw [f2, f3, f6, I.2.1, lc] at c5
          refine ⟨f1, f2, f3, f4, f5, f6, f7, f8, plc_1 (Nat.not_le.mp c5) ?_ hs.2.2.1⟩
          rw [f2, f6, f3, bs.2.1]
          exact (I.1.2.2.2.2 a2.toNatClampNeg (fun z => cne (List.mem_singleton.mp z).symm)).2 _ kl
    obtain ⟨e1, e2, I, nm⟩ := i37
    have np := n1p I.2.2.1 I.2.2.2.1
    have bn := bx h0 h1 I.2.2.1 np.2.2.2.1
    have cs := cn_succ I.2.2.1 np.2.2.2.2
    have nl : x37_3.toNatClampNeg < 40000 := by have := cn_lt I.2.2.1 np.2.2.1; rwa [show (40000 : Int32).toNatClampNeg = 40000 from rfl] at this
    refine ⟨fun c6 => ?_, fun c6 => ?_⟩
    · skip
      refine ⟨ib_1200000.mpr ?_, ?_⟩
      · clear h; rw [e1]; exact ⟨bn.1, bn.2.2.1 np.2.2.1⟩  -- b10
      intro σ_7 hσ_7
      refine ⟨ib_30.mpr ?_, ?_⟩
      · clear h; rw [e1]; exact ⟨h0, h1⟩  -- b11
      intro σ_8 hσ_8
      refine trim_v hC  ?_ (fun σ_9 q10 => ?_)
      · clear h; have ek : x37_5 = x37_3 := Int32.le_antisymm I.2.2.2.2.2.1 c6
        rw [e1, bn.2.1] at hσ_7
        rw [e1] at hσ_8 ⊢
        have el : σ_8.2.2.1 91 a1.toNatClampNeg = x37_3 + 1 := by rw [hσ_8, ri4, if_pos rfl]
        have r90 : ∀ j, σ_8.2.2.1 90 j = if j = 40000 * a1.toNatClampNeg + x37_3.toNatClampNeg then x37_4 else σ37.2.2.1 90 j := fun j => by rw [hσ_8, ri3 (by decide), hσ_7, ri4]
        refine ⟨h0, h1, by rw [rd, el]; exact np.1, by rw [rd, el]; exact np.2.1, fun i hi => ?_⟩
        rw [show nL σ_8 a1.toNatClampNeg = (σ_8.2.2.1 91 a1.toNatClampNeg).toNatClampNeg from rfl, el, cs] at hi
        rw [r90]
        by_cases e : i = x37_3.toNatClampNeg
        · rw [e, if_pos rfl]
          rcases I.2.2.2.2.2.2.1 with z | z
          · rw [z]; exact ⟨by decide, by decide⟩
          · rw [z]; exact ⟨by decide, by decide⟩
        · rw [if_neg (by omega)]
          have d := I.2.2.2.2.2.2.2.1
          rw [ek] at d
          exact d i (by omega)
      rw [e1] at q10
      refine h _ ?_
      · clear h; have ek : x37_5 = x37_3 := Int32.le_antisymm I.2.2.2.2.2.1 c6
        rw [e1, bn.2.1] at hσ_7
        rw [e1] at hσ_8
        have el : σ_8.2.2.1 91 a1.toNatClampNeg = x37_3 + 1 := by rw [hσ_8, ri4, if_pos rfl]
        have r90 : ∀ j, σ_8.2.2.1 90 j = if j = 40000 * a1.toNatClampNeg + x37_3.toNatClampNeg then x37_4 else σ37.2.2.1 90 j := fun j => by rw [hσ_8, ri3 (by decide), hσ_7, ri4]
        have L : nL σ_8 a1.toNatClampNeg = x37_3.toNatClampNeg + 1 := by show (σ_8.2.2.1 91 a1.toNatClampNeg).toNatClampNeg = _; rw [el, cs]
        have F : frN [a1.toNatClampNeg] σ37 σ_8 := by rw [hσ_8, hσ_7]; exact frN_tr (frN_90 nl) frN_91
        refine ⟨frN_tr I.1 (frN_tr F q10.1), q10.2.1, ?_, by rw [← nm, ← L]; exact q10.2.2.2⟩
        rw [q10.2.2.1, L, dv_s, r90, if_pos rfl]
        have o : dv (σ_8.2.2.1 90) (40000 * a1.toNatClampNeg) x37_3.toNatClampNeg = dv (σ37.2.2.1 90) (40000 * a1.toNatClampNeg) x37_3.toNatClampNeg := dv_congr (fun i hi => by rw [r90, if_neg (by omega)])
        have v := I.2.2.2.2.2.2.2.2.1
        rw [ek, nm] at v
        rw [o, nm, v]
        unfold nV
        rw [show min (max (nL σ a1.toNatClampNeg) (nL σ a2.toNatClampNeg)) (nL σ a1.toNatClampNeg) = nL σ a1.toNatClampNeg by omega, show min (max (nL σ a1.toNatClampNeg) (nL σ a2.toNatClampNeg)) (nL σ a2.toNatClampNeg) = nL σ a2.toNatClampNeg by omega]
    · skip
      refine ⟨ib_30.mpr ?_, ?_⟩
      · clear h; rw [e1]; exact ⟨h0, h1⟩  -- b14
      have u := pl_u I.2.2.2.2.1 c6 I.2.2.2.1
      have br := bx h0 h1 I.2.2.2.2.1 u.2.2.2.2.2.1
      have kl : x37_5.toNatClampNeg < 40000 := by have := cn_lt I.2.2.2.2.1 u.2.2.2.2.1; rwa [show (40000 : Int32).toNatClampNeg = 40000 from rfl] at this
      have lr := cn_li (x := σ.2.2.1 91 a1.toNatClampNeg) (y := x37_5) hr.1 I.2.2.2.2.1
      refine ⟨fun c11 => ?_, fun c11 => ?_⟩
      · skip
        refine hj71 _ _ _ _ _ _ _ ?_
        · clear h; rw [e1, I.2.1, lr] at c11
          exact ⟨e1, e2, rfl, rfl, rfl, rfl, c6, plc_0 (Nat.not_lt.mpr c11)⟩
      · skip
        refine ⟨ib_1200000.mpr ?_, ?_⟩
        · clear h; rw [e1]; exact ⟨br.1, br.2.2.1 u.2.2.2.2.1⟩  -- b16
        refine hj71 _ _ _ _ _ _ _ ?_
        · clear h; rw [e1, I.2.1, lr] at c11
          refine ⟨e1, e2, rfl, rfl, rfl, rfl, c6, plc_1 (Nat.not_le.mp c11) ?_ hr.2.2.1⟩
          rw [e1, br.2.1]
          exact I.2.2.2.2.2.2.2.2.2 _ (Nat.le_refl _) kl
  refine ⟨ib_30.mpr ?_, ?_⟩
  · clear h; exact ⟨h0, h1⟩  -- b18
  refine ⟨ib_30.mpr ?_, ?_⟩
  · clear h; exact ⟨h2, h3⟩  -- b19
  refine ⟨fun c12 => ?_, fun c12 => ?_⟩
  · skip
    refine ⟨ib_30.mpr ?_, ?_⟩
    · clear h; exact ⟨h2, h3⟩  -- b20
    refine hj30 _ _ _ _ ?_
    · clear h; refine ⟨rfl, rfl, rfl, hs.1, le_of_n hs.1 hm, ?_⟩
      rw [cn_li hr.1 hs.1] at c12
      show nL σ a2.toNatClampNeg = max (nL σ a1.toNatClampNeg) (nL σ a2.toNatClampNeg)
      have z : nL σ a1.toNatClampNeg ≤ nL σ a2.toNatClampNeg := c12
      omega
  · skip
    refine ⟨ib_30.mpr ?_, ?_⟩
    · clear h; exact ⟨h0, h1⟩  -- b22
    refine hj30 _ _ _ _ ?_
    · clear h; refine ⟨rfl, rfl, rfl, hr.1, le_of_n hr.1 hl, ?_⟩
      rw [cn_li hr.1 hs.1] at c12
      show nL σ a1.toNatClampNeg = max (nL σ a1.toNatClampNeg) (nL σ a2.toNatClampNeg)
      have z : ¬ nL σ a1.toNatClampNeg ≤ nL σ a2.toNatClampNeg := c12
      omega
