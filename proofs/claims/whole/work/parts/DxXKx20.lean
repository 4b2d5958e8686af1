section
set_option maxHeartbeats 1600000
/-! tables of both sides; links back, each once; weights -/
def tbl15 (κ : zS) (b n : Nat) (σ : rS) : Prop := (pOK σ ∧ n = (σ.1 70).toNatClampNeg ∧ atW κ b n) ∧ (∀ j, j < n → zA κ (zR κ atFirsts b) j = σ.2.2.1 76 j ∧ zA κ (zR κ atFirsts b) (j + 1) = σ.2.2.1 76 (j + 1)) ∧ (∀ j : Nat, (j : Int) < (zI κ atNexts b).toInt → zA κ (zR κ atSorts b) j = σ.2.2.1 77 j ∧ zA κ (zR κ atNumbers b) j = σ.2.2.1 78 j ∧ zA κ (zR κ atWeights b) j = σ.2.2.1 79 j) ∧ (∀ j, j < n → zA κ (zR κ atChooses b) j = σ.2.2.1 81 j ∧ zA κ (zR κ atTotals b) j = σ.2.2.1 80 j ∧ zA κ (zR κ atPlan b) j = σ.2.2.1 83 j) ∧ UQ15 σ
section
variable {κ : zS} {b n : Nat} {σ : rS}
theorem tb_n15 (h : tbl15 κ b n σ) : n ≤ 1000 ∧ (zI κ atNexts b).toInt ≤ 20000 ∧ (σ.1 70).toInt = (n : Int) := by
  have A := h.1.2.2
  have o := h.1.1.1.1
  have z0 := o.1
  rw [lei, t0i] at z0
  have c := cnk z0
  have e := h.1.2.1
  have l := A.2.1.2.2
  have nb := A.2.2.2.2.1
  exact ⟨A.2.2.1, by omega, by omega⟩
theorem tb_k15 (h : tbl15 κ b n σ) {k : Nat} (hk : k < n) : 0 ≤ (σ.2.2.1 76 k).toInt ∧ (σ.2.2.1 76 k).toInt ≤ (σ.2.2.1 76 (k + 1)).toInt ∧ (σ.2.2.1 76 (k + 1)).toInt ≤ (zI κ atNexts b).toInt := by
  have X := (h.1.2.2.2.2.2.2.2 k hk).1
  rw [(h.2.1 k hk).1, (h.2.1 k hk).2] at X
  exact X
/-- a link by the plan, in the reference's words -/
theorem lk_i15 (h : tbl15 κ b n σ) {k t i : Nat} (hk : k < n) (ht : t < n) (h1 : (σ.2.2.1 76 k).toInt ≤ (i : Int)) (h2 : (i : Int) < (σ.2.2.1 76 (k + 1)).toInt) : lkD κ b 1 t k i = 1 ↔ σ.2.2.1 77 i = 0 ∧ σ.2.2.1 78 i = Int32.ofNat t ∧ (σ.2.2.1 81 k = 0 ∨ Int32.ofNat i = σ.2.2.1 76 k + σ.2.2.1 83 k) := by
  have B := tb_n15 h
  have X := tb_k15 h hk
  have r := h.2.2.1 i (by omega)
  have c := h.2.2.2.1 k hk
  have f := (h.2.1 k hk).1
  have ot : (Int32.ofNat t).toInt = (t : Int) := ofn_i (by omega)
  constructor
  · intro z
    obtain ⟨⟨j1, j2⟩, j3⟩ := lkD_1 z
    rw [r.1] at j1
    rw [r.2.1] at j3
    rw [c.1, c.2.2, f] at j2
    exact ⟨j1, Int32.toInt.inj (j3.trans ot.symm), j2.resolve_left (by decide)⟩
  · rintro ⟨j1, j2, j3⟩
    unfold lkD
    rw [r.1, r.2.1, c.1, c.2.2, f]
    exact if_pos ⟨⟨j1, Or.inr j3⟩, by rw [j2]; exact ot⟩
theorem lk_u15 (h : tbl15 κ b n σ) {k t i j : Nat} (hk : k < n) (ht : t < n) (h1 : (σ.2.2.1 76 k).toInt ≤ (i : Int)) (h2 : (i : Int) < (σ.2.2.1 76 (k + 1)).toInt) (h3 : (σ.2.2.1 76 k).toInt ≤ (j : Int)) (h4 : (j : Int) < (σ.2.2.1 76 (k + 1)).toInt) (p : lkD κ b 1 t k i = 1) (q : lkD κ b 1 t k j = 1) : i = j := by
  have B := tb_n15 h
  have X := tb_k15 h hk
  obtain ⟨p1, p2, p3⟩ := (lk_i15 h hk ht h1 h2).mp p
  obtain ⟨q1, q2, q3⟩ := (lk_i15 h hk ht h3 h4).mp q
  by_cases c : σ.2.2.1 81 k = 0
  · exact h.2.2.2.2 k (by rw [← h.1.2.1]; exact hk) c i j h1 h2 h3 h4 p1 q1 (p2.trans q2.symm)
  · exact on_j9 (by omega) (by omega) ((p3.resolve_left c).trans (q3.resolve_left c).symm)
/-- links and ends, of both sides -/
theorem el_15 (h : tbl15 κ b n σ) {x y : Nat} (hx : x < n) : el8 κ b 1 n x y ↔ edN σ 1 95 1 x y := by
  have B := tb_n15 h
  have X := tb_k15 h hx
  have X2 := (h.1.2.2.2.2.2.2.2 x hx).2.1
  constructor
  · rintro ⟨_, hy, i, i1, i2, i3⟩
    rw [(h.2.1 x hx).1] at i1
    rw [(h.2.1 x hx).2] at i2
    obtain ⟨j1, j2, j3⟩ := (lk_i15 h hx hy i1 i2).mp i3
    have li := ofn_i (n := i) (by omega)
    refine ⟨Int32.ofNat i, ?_, ?_, ?_, ?_, Or.inr j3, Or.inl (by decide)⟩
    · rw [lei, li]; exact i1
    · rw [lti, li]; exact i2
    · rw [rd, cl_5 (by omega)]; exact j1
    · rw [rd, cl_5 (by omega), j2]; exact cl_5 (by omega)
  · rintro ⟨i, i1, i2, i3, i4, i5, _⟩
    rw [lei] at i1
    rw [lti] at i2
    have ci := cnk (x := i) (by omega)
    rw [rd] at i3 i4
    have r := h.2.2.1 i.toNatClampNeg (by omega)
    have nx := (X2 i.toNatClampNeg (by rw [(h.2.1 x hx).1]; omega) (by rw [(h.2.1 x hx).2]; omega)).1 (by rw [r.1]; exact i3)
    rw [r.2.1] at nx
    have hn := h.1.2.2.2.2.2.1
    have cy := cnk nx.1
    have hy : y < n := by omega
    refine ⟨hx, hy, i.toNatClampNeg, by rw [(h.2.1 x hx).1]; omega, by rw [(h.2.1 x hx).2]; omega, (lk_i15 h hx hy (by omega) (by omega)).mpr ⟨i3, Int32.toInt.inj (by rw [ofn_i (by omega)]; omega), ?_⟩⟩
    rcases i5 with z | z | z
    · exact absurd z (by decide)
    · exact Or.inl z
    · exact Or.inr ((on_9 (by omega)).trans z)
theorem eo_15 (h : tbl15 κ b n σ) {k : Nat} (hk : k < n) : eo8 κ b 1 k ↔ endN σ 1 k := by
  have B := tb_n15 h
  have X := tb_k15 h hk
  have c := h.2.2.2.1 k hk
  constructor
  · rintro ⟨i, i1, i2, i3, i4⟩
    rw [(h.2.1 k hk).1] at i1
    rw [(h.2.1 k hk).2] at i2
    rw [c.1, c.2.2, (h.2.1 k hk).1] at i4
    rw [(h.2.2.1 i (by omega)).1] at i3
    have li := ofn_i (n := i) (by omega)
    refine ⟨Int32.ofNat i, ?_, ?_, ?_, i4⟩
    · rw [lei, li]; exact i1
    · rw [lti, li]; exact i2
    · rw [rd, cl_5 (by omega)]; exact i3
  · rintro ⟨i, i1, i2, i3, i4⟩
    rw [lei] at i1
    rw [lti] at i2
    have ci := cnk (x := i) (by omega)
    rw [rd] at i3
    refine ⟨i.toNatClampNeg, by rw [(h.2.1 k hk).1]; omega, by rw [(h.2.1 k hk).2]; omega, ?_, ?_⟩
    · rw [(h.2.2.1 i.toNatClampNeg (by omega)).1]; exact i3
    · rw [c.1, c.2.2, (h.2.1 k hk).1]
      rcases i4 with z | z | z
      · exact Or.inl z
      · exact Or.inr (Or.inl z)
      · exact Or.inr (Or.inr ((on_9 (by omega)).trans z))
theorem pl_15 (h : tbl15 κ b n σ) : ∀ (j x y : Nat), x < n → pth (edN σ 1 95 1) j x y → pth (el8 κ b 1 n) j x y ∧ y < n
  | 0, x, y, hx, p => by
    have e := (el_15 h hx).mpr p
    exact ⟨e, e.2.1⟩
  | j + 1, x, y, hx, p => by
    obtain ⟨c, g1, g2⟩ := p
    have e := (el_15 h hx).mpr g1
    obtain ⟨q1, q2⟩ := pl_15 h j c y e.2.1 g2
    exact ⟨⟨c, e, q1⟩, q2⟩
theorem pr_15 (h : tbl15 κ b n σ) : ∀ (j x y : Nat), pth (el8 κ b 1 n) j x y → pth (edN σ 1 95 1) j x y
  | 0, x, y, p => (el_15 h p.1).mp p
  | j + 1, x, y, p => by
    obtain ⟨c, g1, g2⟩ := p
    exact ⟨c, (el_15 h g1.1).mp g1, pr_15 h j c y g2⟩
theorem tr_p15 (h : tbl15 κ b n σ) {x y : Nat} (hx : x < n) : Tr (el8 κ b 1 n) x y ↔ Tr (edN σ 1 95 1) x y := ⟨fun ⟨j, p⟩ => ⟨j, pr_15 h j x y p⟩, fun ⟨j, p⟩ => ⟨j, (pl_15 h j x y hx p).1⟩⟩
theorem cn_15 (h : tbl15 κ b n σ) {k : Nat} (hk : k < n) : (eo8 κ b 1 k ∨ ∃ t, t < n ∧ eo8 κ b 1 t ∧ Tr (el8 κ b 1 n) k t) ↔ cnE σ k := by
  unfold cnE
  rw [eo_15 h hk, ← h.1.2.1]
  refine or_congr Iff.rfl ⟨fun ⟨t, t1, t2, t3⟩ => ⟨t, t1, (tr_p15 h hk).mp t3, (eo_15 h t1).mp t2⟩, fun ⟨t, t1, t2, t3⟩ => ⟨t, t1, (eo_15 h t1).mpr t3, (tr_p15 h hk).mpr t2⟩⟩
end
/-- a sum of which one member counts -/
theorem sg_115 {f : Nat → Int} {j : Nat} : ∀ {n : Nat}, (∀ i, i < n → i ≠ j → f i = 0) → sgI f n = if j < n then f j else 0
  | 0, _ => rfl
  | n + 1, h => by
    show sgI f n + f n = _
    rw [sg_115 (n := n) (fun i hi hj => h i (by omega) hj)]
    by_cases c : j < n
    · rw [if_pos c, if_pos (by omega), h n (by omega) (by omega), Int.add_zero]
    · by_cases e : j = n
      · rw [if_neg c, if_pos (by omega), e, Int.zero_add]
      · rw [if_neg c, if_neg (by omega), h n (by omega) (fun z => e z.symm), Int.zero_add]
theorem sg_015 {f : Nat → Int} : ∀ {n : Nat}, (∀ i, i < n → f i = 0) → sgI f n = 0
  | 0, _ => rfl
  | n + 1, h => by
    show sgI f n + f n = 0
    rw [sg_015 (n := n) (fun i hi => h i (by omega)), h n (by omega)]; rfl
/-- steps of 0 or 1 come by every number -/
theorem st_15 {r : Nat → Int} (r0 : r 0 = 0) (rs : ∀ k, r (k + 1) = r k ∨ r (k + 1) = r k + 1) : ∀ {n : Nat} {v : Int}, 0 ≤ v → v < r n → ∃ k, k < n ∧ r k = v ∧ r (k + 1) = r k + 1
  | 0, v, h0, h => by omega
  | n + 1, v, h0, h => by
    by_cases c : v < r n
    · obtain ⟨k, k1, k2, k3⟩ := st_15 r0 rs (n := n) h0 c
      exact ⟨k, by omega, k2, k3⟩
    · refine ⟨n, by omega, ?_⟩
      rcases rs n with z | z <;> omega
theorem st_m15 {r : Nat → Int} (rs : ∀ k, r (k + 1) = r k ∨ r (k + 1) = r k + 1) {k : Nat} : ∀ {n : Nat}, k ≤ n → r k ≤ r n
  | 0, h => by rw [show k = 0 by omega]; exact Int.le_refl _
  | n + 1, h => by
    by_cases e : k = n + 1
    · rw [e]; exact Int.le_refl _
    · have a := st_m15 rs (n := n) (show k ≤ n by omega)
      rcases rs n with z | z <;> omega
/-- slots back, each for a link of its own -/
theorem uB_15 {κ : zS} {a n t : Nat} {σ : rS} (X : svX9 κ a n) (h : tbl15 κ (zR κ soAtlas a) n σ) (hB : ∀ x y, x < n → y < n → (bk8 (zA κ (zR κ weBackFirsts (zR κ soWeb a))) (zA κ (zR κ weSources (zR κ soWeb a))) n x y ↔ el8 κ (zR κ soAtlas a) 1 n x y)) (ht : t < n) : uB15 κ a t := by
  have r0 := bk_r9 X ht
  have kl := cnk r0.2.1
  have kh := cnk (x := zA κ (zR κ weBackFirsts (zR κ soWeb a)) (t + 1)) (by omega)
  have bl : bl15 κ a t = (zA κ (zR κ weBackFirsts (zR κ soWeb a)) t).toNatClampNeg := rfl
  have bh : bl15 κ a (t + 1) = (zA κ (zR κ weBackFirsts (zR κ soWeb a)) (t + 1)).toNatClampNeg := rfl
  obtain ⟨D, hD⟩ : ∃ D, D = lkD κ (zR κ soAtlas a) 1 := ⟨_, rfl⟩
  obtain ⟨F, hF⟩ : ∃ F, F = zA κ (zR κ atFirsts (zR κ soAtlas a)) := ⟨_, rfl⟩
  have cnt := X.1.2.2.2.1.2.1 t ht
  rw [← hD, ← hF] at cnt
  have fr : ∀ k, k < n → 0 ≤ (F k).toInt ∧ (F k).toInt = (σ.2.2.1 76 k).toInt ∧ (F (k + 1)).toInt = (σ.2.2.1 76 (k + 1)).toInt := fun k hk => by
    have z := tb_k15 h hk
    rw [hF, (h.2.1 k hk).1, (h.2.1 k hk).2]
    exact ⟨z.1, rfl, rfl⟩
  have d01' : ∀ k i, D t k i = 0 ∨ D t k i = 1 := fun k i => by rw [hD]; exact lkD_01
  have one : ∀ k, k < n → (∃ i : Nat, (F k).toInt ≤ (i : Int) ∧ (i : Int) < (F (k + 1)).toInt ∧ D t k i = 1) → wSm (D t k) (F k).toInt (F (k + 1)).toInt = 1 := fun k hk ⟨i, i1, i2, i3⟩ => by
    obtain ⟨f0, f1, f2⟩ := fr k hk
    unfold wSm
    rw [sg_115 (j := i - (F k).toInt.toNat) (fun e he ne => by
      rcases d01' k ((F k).toInt.toNat + e) with z | z
      · rw [z]; rfl
      · exfalso
        rw [hD] at z i3
        have u := lk_u15 h hk ht (i := (F k).toInt.toNat + e) (j := i) (by omega) (by omega) (by omega) (by omega) z i3
        omega), if_pos (by omega), show (F k).toInt.toNat + (i - (F k).toInt.toNat) = i by omega, i3]
    rfl
  have zero : ∀ k, k < n → (¬ ∃ i : Nat, (F k).toInt ≤ (i : Int) ∧ (i : Int) < (F (k + 1)).toInt ∧ D t k i = 1) → wSm (D t k) (F k).toInt (F (k + 1)).toInt = 0 := fun k hk ne => by
    obtain ⟨f0, f1, f2⟩ := fr k hk
    unfold wSm
    refine sg_015 (fun e he => ?_)
    rcases d01' k ((F k).toInt.toNat + e) with z | z
    · rw [z]; rfl
    · exact absurd ⟨(F k).toInt.toNat + e, by omega, by omega, z⟩ ne
  obtain ⟨r, hr⟩ : ∃ r : Nat → Int, r = fun k => sgI (fun j => if j < n then wSm (D t j) (F j).toInt (F (j + 1)).toInt else 0) k := ⟨_, rfl⟩
  have rs : ∀ k, r (k + 1) = r k ∨ r (k + 1) = r k + 1 := fun k => by
    have e : r (k + 1) = r k + (if k < n then wSm (D t k) (F k).toInt (F (k + 1)).toInt else 0) := by rw [hr]; rfl
    rw [e]
    by_cases c : k < n
    · rw [if_pos c]
      by_cases g : ∃ i : Nat, (F k).toInt ≤ (i : Int) ∧ (i : Int) < (F (k + 1)).toInt ∧ D t k i = 1
      · rw [one k c g]; exact Or.inr rfl
      · rw [zero k c g, Int.add_zero]; exact Or.inl rfl
    · rw [if_neg c, Int.add_zero]; exact Or.inl rfl
  have r00 : r 0 = 0 := by rw [hr]; rfl
  have rn : r n = cNl D F t n := by
    rw [hr]
    exact sgI_eq (fun j hj => if_pos hj)
  have rl : ∀ k, k < n → (∃ i : Nat, (F k).toInt ≤ (i : Int) ∧ (i : Int) < (F (k + 1)).toInt ∧ D t k i = 1) → r (k + 1) = r k + 1 := fun k hk g => by
    have e : r (k + 1) = r k + (if k < n then wSm (D t k) (F k).toInt (F (k + 1)).toInt else 0) := by rw [hr]; rfl
    rw [e, if_pos hk, one k hk g]
  have slot : ∀ d, d < bl15 κ a (t + 1) - bl15 κ a t → bs15 κ a (bl15 κ a t + d) < n ∧ ∃ i : Nat, (F (bs15 κ a (bl15 κ a t + d))).toInt ≤ (i : Int) ∧ (i : Int) < (F (bs15 κ a (bl15 κ a t + d) + 1)).toInt ∧ D t (bs15 κ a (bl15 κ a t + d)) i = 1 := fun d hd => by
    have ob : (Int32.ofNat (bl15 κ a t + d)).toNatClampNeg = bl15 κ a t + d := cl_5 (by omega)
    have oi : (Int32.ofNat (bl15 κ a t + d)).toInt = ((bl15 κ a t + d : Nat) : Int) := ofn_i (by omega)
    have g := (bk_g9 X ht (b := Int32.ofNat (bl15 κ a t + d)) (by rw [oi]; omega) (by rw [oi]; omega)).2
    rw [ob, ← hD, ← hF] at g
    obtain ⟨g1, g2, g3⟩ := g
    have ks := cnk g1.1
    have sn : bs15 κ a (bl15 κ a t + d) < n := by show (zA κ _ _).toNatClampNeg < n; omega
    have f := fr _ sn
    have ke := cnk (x := zA κ (zR κ weEdges (zR κ soWeb a)) (bl15 κ a t + d)) (by have := g2.1; have : (F (bs15 κ a (bl15 κ a t + d))).toInt = (F (zA κ (zR κ weSources (zR κ soWeb a)) (bl15 κ a t + d)).toNatClampNeg).toInt := rfl; omega)
    exact ⟨sn, (zA κ (zR κ weEdges (zR κ soWeb a)) (bl15 κ a t + d)).toNatClampNeg, by rw [ke]; exact g2.1, by rw [ke]; exact g2.2, g3⟩
  have L : r n = ((bl15 κ a (t + 1) - bl15 κ a t : Nat) : Int) := by rw [rn]; omega
  have key := inj_9 (n := bl15 κ a (t + 1) - bl15 κ a t) (f := fun d => (r (bs15 κ a (bl15 κ a t + d))).toNat) (fun d hd => by
    obtain ⟨s1, s2⟩ := slot d hd
    have e := rl _ s1 s2
    have m := st_m15 rs (k := bs15 κ a (bl15 κ a t + d) + 1) (n := n) s1
    have m0 := st_m15 rs (k := 0) (n := bs15 κ a (bl15 κ a t + d)) (Nat.zero_le _)
    omega) (fun v hv => by
    obtain ⟨k, k1, k2, k3⟩ := st_15 r00 rs (n := n) (v := (v : Int)) (Int.natCast_nonneg v) (by omega)
    have g : ∃ i : Nat, (F k).toInt ≤ (i : Int) ∧ (i : Int) < (F (k + 1)).toInt ∧ D t k i = 1 := by
      refine Classical.byContradiction (fun ne => ?_)
      have e : r (k + 1) = r k + (if k < n then wSm (D t k) (F k).toInt (F (k + 1)).toInt else 0) := by first | (rw [hr]; rfl) | rw [hr]
      rw [if_pos k1, zero k k1 ne] at e
      omega
    rw [hF, hD] at g
    obtain ⟨_, _, c, c1, c2, c3⟩ := (hB k t k1 ht).mpr ⟨k1, ht, g⟩
    have kc := cnk (x := zA κ (zR κ weSources (zR κ soWeb a)) c) (by omega)
    refine ⟨c - bl15 κ a t, by omega, ?_⟩
    have ec : bl15 κ a t + (c - bl15 κ a t) = c := by omega
    have es : bs15 κ a c = k := by show (zA κ _ _).toNatClampNeg = k; omega
    show (r (bs15 κ a (bl15 κ a t + (c - bl15 κ a t)))).toNat = v
    rw [ec, es, k2]
    exact Int.toNat_natCast v)
  intro x y h1 h2 h3 h4 e
  have z := key (x - bl15 κ a t) (y - bl15 κ a t) (by omega) (by omega) (by
    show (r (bs15 κ a (bl15 κ a t + (x - bl15 κ a t)))).toNat = (r (bs15 κ a (bl15 κ a t + (y - bl15 κ a t)))).toNat
    rw [show bl15 κ a t + (x - bl15 κ a t) = x by omega, show bl15 κ a t + (y - bl15 κ a t) = y by omega, e])
  omega
/-- weights of links back, in the reference's words -/
theorem bW_115 {κ : zS} {a t s c : Nat} (U : uB15 κ a t) (h1 : bl15 κ a t ≤ c) (h2 : c < bl15 κ a (t + 1)) (e : bs15 κ a c = s) : bW15 κ a t s = bw15 κ a c := by
  unfold bW15 bp15
  rw [← sg_z15, sg_115 (j := c - bl15 κ a t) (fun d hd ne => if_neg (fun z => ne (by
    have u := U (bl15 κ a t + d) c (by omega) (by omega) h1 h2 (z.trans e.symm)
    omega))), if_pos (by omega), show bl15 κ a t + (c - bl15 κ a t) = c by omega]
  exact if_pos e
theorem bW_015 {κ : zS} {a t s : Nat} (h : ∀ c, bl15 κ a t ≤ c → c < bl15 κ a (t + 1) → bs15 κ a c ≠ s) : bW15 κ a t s = 0 := bp_z15 (fun d hd => h _ (Nat.le_add_right _ _) (by omega))
theorem sI_g15 {f : Nat → Int} : ∀ {n : Nat}, sI f n = sgI f n
  | 0 => rfl
  | n + 1 => by
    show sI f n + f n = sgI f n + f n
    rw [sI_g15]
theorem bW_w15 {κ : zS} {a n t s : Nat} {σ : rS} (X : svX9 κ a n) (h : tbl15 κ (zR κ soAtlas a) n σ) (hB : ∀ x y, x < n → y < n → (bk8 (zA κ (zR κ weBackFirsts (zR κ soWeb a))) (zA κ (zR κ weSources (zR κ soWeb a))) n x y ↔ el8 κ (zR κ soAtlas a) 1 n x y)) (ht : t < n) (hs : s < n) : bW15 κ a t s = wKI σ s (Int32.ofNat t) ∧ (0 < bW15 κ a t s ↔ el8 κ (zR κ soAtlas a) 1 n s t) := by
  have U := uB_15 X h hB ht
  have B := tb_n15 h
  have T := tb_k15 h hs
  have lo := cnk T.1
  have hi := cnk (x := σ.2.2.1 76 (s + 1)) (by omega)
  have lo' : loN σ s = (σ.2.2.1 76 s).toNatClampNeg := rfl
  have le' : leN σ s = (σ.2.2.1 76 (s + 1)).toNatClampNeg - loN σ s := rfl
  have r0 := bk_r9 X ht
  have kl := cnk r0.2.1
  have kh := cnk (x := zA κ (zR κ weBackFirsts (zR κ soWeb a)) (t + 1)) (by omega)
  have bl : bl15 κ a t = (zA κ (zR κ weBackFirsts (zR κ soWeb a)) t).toNatClampNeg := rfl
  have bh : bl15 κ a (t + 1) = (zA κ (zR κ weBackFirsts (zR κ soWeb a)) (t + 1)).toNatClampNeg := rfl
  have tk : ∀ i : Nat, (σ.2.2.1 76 s).toInt ≤ (i : Int) → (i : Int) < (σ.2.2.1 76 (s + 1)).toInt → (lkD κ (zR κ soAtlas a) 1 t s i = 1 → wcI σ s (Int32.ofNat t) i = (zA κ (zR κ atWeights (zR κ soAtlas a)) i).toInt ∧ 0 < wcI σ s (Int32.ofNat t) i) ∧ (¬ lkD κ (zR κ soAtlas a) 1 t s i = 1 → wcI σ s (Int32.ofNat t) i = 0) := fun i i1 i2 => by
    have L := lk_i15 h hs ht i1 i2
    have oi : (Int32.ofNat i).toNatClampNeg = i := cl_5 (by omega)
    constructor
    · intro z
      obtain ⟨z1, z2, z3⟩ := L.mp z
      have e : wcI σ s (Int32.ofNat t) i = twI σ s i := if_pos ⟨z1, z2⟩
      have w1 := (st_z8 h.1.1.1 (x := s) (by rw [← h.1.2.1]; exact hs)).1 i (by omega) (by omega)
      rw [lei, t1i] at w1
      have rw1 := (h.2.2.1 i (by omega)).2.2
      rw [e, rw1]
      unfold twI
      by_cases c : σ.2.2.1 81 s = 0
      · rw [if_pos c]; exact ⟨rfl, by omega⟩
      · have y := z3.resolve_left c
        rw [if_neg c, if_pos (by rw [← y, oi])]
        have x7 := (h.1.2.2.2.2.2.2.2 s hs).2.2.2.2 (by rw [(h.2.2.2.1 s hs).1]; exact c) i (by rw [(h.2.1 s hs).1]; exact i1) (by rw [(h.2.1 s hs).2]; exact i2)
        rw [rw1] at x7
        exact ⟨x7.symm, by decide⟩
    · intro z
      by_cases c : σ.2.2.1 77 i = 0 ∧ σ.2.2.1 78 i = Int32.ofNat t
      · have e : wcI σ s (Int32.ofNat t) i = twI σ s i := if_pos c
        rw [e]
        unfold twI
        rw [if_neg (fun y => z (L.mpr ⟨c.1, c.2, Or.inl y⟩)), if_neg (fun y => ?_)]
        have c9 : ¬ σ.2.2.1 81 s = 0 := fun q => z (L.mpr ⟨c.1, c.2, Or.inl q⟩)
        have pl := h.1.1.2 (Int32.ofNat s) (by rw [lei, t0i, ofn_i (by omega)]; omega) (by rw [lti, ofn_i (by omega), B.2.2]; omega) (by rw [rd, cl_5 (by omega)]; exact c9)
        have as : (Int32.ofNat s + 1).toNatClampNeg = s + 1 := by
          rw [(cn1 (by rw [ofn_i (by omega)]; omega) (by rw [ofn_i (by omega)]; omega)).1, cl_5 (by omega)]
        rw [rd, rd, rd, cl_5 (by omega), as] at pl
        have st := (h.1.1.1.2.2.2.1 (Int32.ofNat s) (by rw [lei, t0i, ofn_i (by omega)]; omega) (by rw [lti, ofn_i (by omega), B.2.2]; omega)).1
        rw [rd, rd, cl_5 (by omega), as] at st
        have sn := sub_n st.1 st.2.1 (Int32.le_trans st.2.2 h.1.1.1.2.2.1.2) pl.1 pl.2
        have s0 := sn.2.2.1
        rw [lei, t0i] at s0
        exact z (L.mpr ⟨c.1, c.2, Or.inr (by rw [y]; exact on_9 s0)⟩)
      · exact if_neg c
  have wk : ∀ i : Nat, (σ.2.2.1 76 s).toInt ≤ (i : Int) → (i : Int) < (σ.2.2.1 76 (s + 1)).toInt → lkD κ (zR κ soAtlas a) 1 t s i = 1 → wKI σ s (Int32.ofNat t) = (zA κ (zR κ atWeights (zR κ soAtlas a)) i).toInt ∧ 0 < wKI σ s (Int32.ofNat t) := fun i i1 i2 z => by
    have e : wKI σ s (Int32.ofNat t) = wcI σ s (Int32.ofNat t) i := by
      show sI (fun d => wcI σ s (Int32.ofNat t) (loN σ s + d)) (leN σ s) = _
      rw [sI_g15, sg_115 (j := i - loN σ s) (fun d hd ne => (tk (loN σ s + d) (by omega) (by omega)).2 (fun y => ne (by
        have u := lk_u15 h hs ht (i := loN σ s + d) (j := i) (by omega) (by omega) i1 i2 y z
        omega))), if_pos (by omega), show loN σ s + (i - loN σ s) = i by omega]
    rw [e]
    exact (tk i i1 i2).1 z
  by_cases g : ∃ c, bl15 κ a t ≤ c ∧ c < bl15 κ a (t + 1) ∧ bs15 κ a c = s
  · obtain ⟨c, c1, c2, c3⟩ := g
    have ob : (Int32.ofNat c).toNatClampNeg = c := cl_5 (by omega)
    have oi : (Int32.ofNat c).toInt = (c : Int) := ofn_i (by omega)
    have G := (bk_g9 X ht (b := Int32.ofNat c) (by rw [oi]; omega) (by rw [oi]; omega)).2
    rw [ob] at G
    obtain ⟨g1, g2, g3⟩ := G
    have es : (zA κ (zR κ weSources (zR κ soWeb a)) c).toNatClampNeg = s := c3
    rw [es] at g2 g3
    rw [(h.2.1 s hs).1, (h.2.1 s hs).2] at g2
    have ke := cnk (x := zA κ (zR κ weEdges (zR κ soWeb a)) c) (by omega)
    have w := wk _ (by rw [ke]; exact g2.1) (by rw [ke]; exact g2.2) g3
    rw [bW_115 U c1 c2 c3]
    have e : bw15 κ a c = (zA κ (zR κ atWeights (zR κ soAtlas a)) (zA κ (zR κ weEdges (zR κ soWeb a)) c).toNatClampNeg).toInt := rfl
    rw [e]
    refine ⟨w.1.symm, fun _ => ⟨hs, ht, (zA κ (zR κ weEdges (zR κ soWeb a)) c).toNatClampNeg, by rw [(h.2.1 s hs).1, ke]; exact g2.1, by rw [(h.2.1 s hs).2, ke]; exact g2.2, g3⟩, fun _ => by rw [← w.1]; exact w.2⟩
  · have ne : ¬ el8 κ (zR κ soAtlas a) 1 n s t := fun z => by
      obtain ⟨_, _, c, c1, c2, c3⟩ := (hB s t hs ht).mpr z
      have kc := cnk (x := zA κ (zR κ weSources (zR κ soWeb a)) c) (by omega)
      exact g ⟨c, by omega, by omega, by show (zA κ _ _).toNatClampNeg = s; omega⟩
    rw [bW_015 (fun c c1 c2 e => g ⟨c, c1, c2, e⟩)]
    refine ⟨?_, fun z => absurd z (by decide), fun z => absurd z ne⟩
    show 0 = sI (fun d => wcI σ s (Int32.ofNat t) (loN σ s + d)) (leN σ s)
    rw [sI_g15, sg_015 (fun d hd => (tk (loN σ s + d) (by omega) (by omega)).2 (fun y => ne ⟨hs, ht, loN σ s + d, by rw [(h.2.1 s hs).1]; omega, by rw [(h.2.1 s hs).2]; omega, y⟩))]
theorem bW_p15 {κ : zS} {a n t b : Nat} {σ : rS} (X : svX9 κ a n) (h : tbl15 κ (zR κ soAtlas a) n σ) (hB : ∀ x y, x < n → y < n → (bk8 (zA κ (zR κ weBackFirsts (zR κ soWeb a))) (zA κ (zR κ weSources (zR κ soWeb a))) n x y ↔ el8 κ (zR κ soAtlas a) 1 n x y)) (ht : t < n) (h1 : bl15 κ a t ≤ b) (h2 : b < bl15 κ a (t + 1)) : 0 < bw15 κ a b := by
  have U := uB_15 X h hB ht
  have s := (bk_n15 X ht h1 h2).1
  rw [← bW_115 U h1 h2 rfl]
  refine (bW_w15 X h hB ht s).2.mpr ?_
  have r0 := bk_r9 X ht
  have kl := cnk r0.2.1
  have kh := cnk (x := zA κ (zR κ weBackFirsts (zR κ soWeb a)) (t + 1)) (by omega)
  have bl : bl15 κ a t = (zA κ (zR κ weBackFirsts (zR κ soWeb a)) t).toNatClampNeg := rfl
  have bh : bl15 κ a (t + 1) = (zA κ (zR κ weBackFirsts (zR κ soWeb a)) (t + 1)).toNatClampNeg := rfl
  have ob : (Int32.ofNat b).toNatClampNeg = b := cl_5 (by omega)
  have oi : (Int32.ofNat b).toInt = (b : Int) := ofn_i (by omega)
  have g := bk_g9 X ht (b := Int32.ofNat b) (by rw [oi]; omega) (by rw [oi]; omega)
  rw [ob] at g
  have ks := cnk g.2.1.1
  refine (hB _ t s ht).mp ⟨s, ht, b, by omega, by omega, ?_⟩
  show _ = (((zA κ (zR κ weSources (zR κ soWeb a)) b).toNatClampNeg : Nat) : Int)
  omega
theorem dv_t15 {κ : zS} {a n s : Nat} {σ : rS} (X : svX9 κ a n) (h : tbl15 κ (zR κ soAtlas a) n σ) (hs : s < n) : dvN9 κ (zR κ soAtlas a) s = (tTI σ s).toNat := by
  have d := dN_15 X hs
  have e : (dvA κ (zR κ soAtlas a) s).toInt = tTI σ s := by
    unfold dvA tTI
    rw [(h.2.2.2.1 s hs).1, (h.2.2.2.1 s hs).2.1]
    split
    · rfl
    · rfl
  omega
/-- the odds of both sides -/
theorem pQ_15 {κ : zS} {a n t s : Nat} {σ : rS} (X : svX9 κ a n) (h : tbl15 κ (zR κ soAtlas a) n σ) (hB : ∀ x y, x < n → y < n → (bk8 (zA κ (zR κ weBackFirsts (zR κ soWeb a))) (zA κ (zR κ weSources (zR κ soWeb a))) n x y ↔ el8 κ (zR κ soAtlas a) 1 n x y)) (ht : t < n) (hs : s < n) : mkRat (bW15 κ a t s) (dvN9 κ (zR κ soAtlas a) s) = pR15 σ n s t := by
  have B := tb_n15 h
  rw [pR_v15 (by omega) ht, (bW_w15 X h hB ht hs).1, dv_t15 X h hs]

end
section
set_option maxHeartbeats 1600000
/-! the class: visits as the one solution of all states' equations -/
theorem smQ_115 {f : Nat → Rat} {c : Nat} : ∀ {n : Nat}, smQ (fun s => if c = s then f s else 0) n = if c < n then f c else 0
  | 0 => rfl
  | n + 1 => by
    show smQ (fun s => if c = s then f s else 0) n + (if c = n then f n else 0) = _
    rw [smQ_115 (n := n)]
    by_cases a : c < n
    · rw [if_pos a, if_neg (by omega), if_pos (by omega), Rat.add_zero]
    · by_cases e : c = n
      · rw [if_neg a, if_pos e, if_pos (by omega), e, Rat.zero_add]
      · rw [if_neg a, if_neg e, if_neg (by omega), Rat.add_zero]
theorem bi_m15 {κ : zS} {a n t : Nat} {V : Nat → Rat} (X : svX9 κ a n) (ht : t < n) : bi15 κ a V (bl15 κ a t) (bl15 κ a (t + 1) - bl15 κ a t) = smQ (fun s => V s * mkRat (bW15 κ a t s) (dvN9 κ (zR κ soAtlas a) s)) n := by
  have e1 : bi15 κ a V (bl15 κ a t) (bl15 κ a (t + 1) - bl15 κ a t) = smQ (fun d => smQ (fun s => if bs15 κ a (bl15 κ a t + d) = s then un15 κ a V s * (bw15 κ a (bl15 κ a t + d) : Rat) else 0) n) (bl15 κ a (t + 1) - bl15 κ a t) := smQ_c (fun d hd => by
    rw [smQ_115 (f := fun s => un15 κ a V s * (bw15 κ a (bl15 κ a t + d) : Rat)), if_pos (bk_n15 X ht (Nat.le_add_right _ _) (by omega)).1])
  rw [e1, sQ_sw15]
  refine smQ_c (fun s hs => ?_)
  have e2 : smQ (fun d => if bs15 κ a (bl15 κ a t + d) = s then un15 κ a V s * (bw15 κ a (bl15 κ a t + d) : Rat) else 0) (bl15 κ a (t + 1) - bl15 κ a t) = smQ (fun d => (((if bs15 κ a (bl15 κ a t + d) = s then bw15 κ a (bl15 κ a t + d) else 0 : Int)) : Rat) * un15 κ a V s) (bl15 κ a (t + 1) - bl15 κ a t) := smQ_c (fun d _ => by
    by_cases c : bs15 κ a (bl15 κ a t + d) = s
    · rw [if_pos c, if_pos c, Rat.mul_comm]
    · rw [if_neg c, if_neg c]
      show (0 : Rat) = ((0 : Int) : Rat) * _
      rw [show ((0 : Int) : Rat) = 0 from rfl, Rat.zero_mul])
  have e3 : smQ (fun d => (((if bs15 κ a (bl15 κ a t + d) = s then bw15 κ a (bl15 κ a t + d) else 0 : Int)) : Rat)) (bl15 κ a (t + 1) - bl15 κ a t) = ((bW15 κ a t s : Int) : Rat) := (sZ_q15 (f := fun d => if bs15 κ a (bl15 κ a t + d) = s then bw15 κ a (bl15 κ a t + d) else 0)).symm
  rw [e2, smQ_mul, e3]
  show _ * (V s * mkRat 1 (dvN9 κ (zR κ soAtlas a) s)) = _
  rw [mk_d, mk_d, show ((1 : Int) : Rat) = 1 from rfl]
  generalize ((bW15 κ a t s : Int) : Rat) = w
  generalize ((dvN9 κ (zR κ soAtlas a) s : Nat) : Rat)⁻¹ = d
  grind
/-- sums over members -/
theorem ms_15 {f : Nat → Rat} {g : Nat → Nat} {m n : Nat} (f0 : ∀ k, k < n → 0 ≤ f k) (h1 : ∀ r, r < m → g r < n) (h2 : ∀ a b, a < m → b < m → g a = g b → a = b) : smQ (fun r => f (g r)) m ≤ smQ f n ∧ ∀ s, s < n → (∀ r, r < m → g r ≠ s) → smQ (fun r => f (g r)) m + f s ≤ smQ f n := by
  have ex : ∀ k, ∃ z : Rat, ((∃ r, r < m ∧ g r = k) → z = f k) ∧ (¬ (∃ r, r < m ∧ g r = k) → z = 0) := fun k => by
    by_cases c : ∃ r, r < m ∧ g r = k
    · exact ⟨f k, fun _ => rfl, fun z => absurd c z⟩
    · exact ⟨0, fun z => absurd z c, fun _ => rfl⟩
  obtain ⟨d, hd⟩ := Classical.axiomOfChoice ex
  have e := rx_15 (f := f) (g := g) (s := n) (d := d) h1 h2 (fun k _ c => (hd k).1 c) (fun k _ c => (hd k).2 c)
  have le : ∀ k, k < n → d k ≤ f k := fun k hk => by
    by_cases c : ∃ r, r < m ∧ g r = k
    · rw [(hd k).1 c]; exact Rat.le_refl
    · rw [(hd k).2 c]; exact f0 k hk
  rw [e]
  refine ⟨sQ_le15 le, fun s hs ns => ?_⟩
  have t := smQ_add (f := d) (g := fun k => if s = k then f k else 0) (n := n)
  rw [smQ_115, if_pos hs] at t
  rw [← t]
  refine sQ_le15 (fun k hk => ?_)
  by_cases c : s = k
  · rw [if_pos c, (hd k).2 (fun ⟨r, r1, r2⟩ => ns r r1 (r2.trans c.symm)), Rat.zero_add]
    exact Rat.le_refl
  · rw [if_neg c, Rat.add_zero]
    exact le k hk
/-- what the web says of the states, in the reference's words -/
def wgw15 (κ : zS) (w b n : Nat) (σ : rS) : Prop := (tbl15 κ b n σ ∧ ∀ x y, x < n → y < n → (bk8 (zA κ (zR κ weBackFirsts w)) (zA κ (zR κ weSources w)) n x y ↔ el8 κ b 1 n x y)) ∧ (∀ k, k < n → (zA κ (zR κ weOpen w) k ≠ 0 ↔ cnE σ k)) ∧ (∀ u v, u < n → v < n → (zA κ (zR κ weKnotOf w) u = zA κ (zR κ weKnotOf w) v ↔ Rf8 (edN σ 1 95 1) u v ∧ Rf8 (edN σ 1 95 1) v u)) ∧ (∀ v u, v < n → edN σ 1 95 1 v u → (zA κ (zR κ weKnotOf w) u).toInt ≤ (zA κ (zR κ weKnotOf w) v).toInt) ∧ ∀ v u, v < n → (Ed8 (qI8 (zA κ (zR κ weFirsts w))) (qN8 (zA κ (zR κ weTargets w))) v u ↔ edN σ 1 95 1 v u)
abbrev wg15 (κ : zS) (a n : Nat) (σ : rS) : Prop := wgw15 κ (zR κ soWeb a) (zR κ soAtlas a) n σ
section
variable {κ : zS} {a n : Nat} {σ : rS}
theorem wg_n15 (h : wg15 κ a n σ) {x y : Nat} (hx : x < n) (e : edN σ 1 95 1 x y) : y < n := ((el_15 h.1.1 hx).mpr e).2.1
theorem wg_c15 (h : wg15 κ a n σ) {k j : Nat} (hk : k < n) (e : edN σ 1 95 1 k j) (c : cnE σ j) : cnE σ k := by
  have hj := wg_n15 h hk e
  unfold cnE at c ⊢
  rw [← h.1.1.1.2.1] at c ⊢
  rcases c with z | ⟨t, t1, t2, t3⟩
  · exact Or.inr ⟨j, hj, Tr_1 e, z⟩
  · exact Or.inr ⟨t, t1, Tr_tr (Tr_1 e) t2, t3⟩
theorem wg_k15 (h : wg15 κ a n σ) {k j : Nat} (hk : k < n) (hj : j < n) (e : kO15 κ a k = kO15 κ a j) (c : cnE σ j) : cnE σ k := by
  rcases ((h.2.2.1 k j hk hj).mp e).1 with z | z
  · rw [z]; exact c
  · unfold cnE at c ⊢
    rw [← h.1.1.1.2.1] at c ⊢
    rcases c with y | ⟨t, t1, t2, t3⟩
    · exact Or.inr ⟨j, hj, z, y⟩
    · exact Or.inr ⟨t, t1, Tr_tr z t2, t3⟩
theorem wg_p15 (X : svX9 κ a n) (h : wg15 κ a n σ) {k j : Nat} (hk : k < n) (hj : j < n) : mkRat (bW15 κ a j k) (dvN9 κ (zR κ soAtlas a) k) = pR15 σ n k j := pQ_15 X h.1.1 h.1.2 hj hk
theorem wg_e15 (X : svX9 κ a n) (h : wg15 κ a n σ) {k j : Nat} (hk : k < n) (hj : j < n) : 0 < bW15 κ a j k ↔ edN σ 1 95 1 k j := by
  rw [(bW_w15 X h.1.1 h.1.2 hj hk).2, el_15 h.1.1 hk]
theorem wg_q15 (h : wg15 κ a n σ) {k j : Nat} (hk : k < n) (hj : j < n) (p : 0 < pR15 σ n k j) : edN σ 1 95 1 k j := pe_15 h.1.1.1.1 h.1.1.1.2.1 hk hj p
theorem wg_g15 (h : wg15 κ a n σ) : (∀ k j, k < n → j < n → 0 ≤ pR15 σ n k j) ∧ (∀ k, k < n → smQ (pR15 σ n k) n ≤ 1) ∧ ∀ k, k < n → cnE σ k → ∃ l, lQ15 (pR15 σ n) n l k := gP_15 h.1.1.1.1 h.1.1.1.2.1
/-- a ring's members come to each other -/
theorem hC_15 {f m : Nat} (X : svX9 κ a n) (h : wg15 κ a n σ) (od : ∀ r, r < m → od15 κ a (f + r) < n) (inj : ∀ i j, i < m → j < m → od15 κ a (f + i) = od15 κ a (f + j) → i = j) (sm : ∀ i j, i < m → j < m → kO15 κ a (od15 κ a (f + i)) = kO15 κ a (od15 κ a (f + j))) (all : ∀ s, s < n → ∀ i, i < m → kO15 κ a s = kO15 κ a (od15 κ a (f + i)) → ∃ j, j < m ∧ od15 κ a (f + j) = s) : ∀ i j, i < m → j < m → ∃ l, pt15 (rw15 κ a f) m l i j := by
  have pos : ∀ i j, i < m → j < m → edN σ 1 95 1 (od15 κ a (f + i)) (od15 κ a (f + j)) → 0 < rw15 κ a f i j := fun i j hi hj e => (wg_e15 X h (od i hi) (od j hj)).mpr e
  have path : ∀ l i j, i < m → j < m → pth (edN σ 1 95 1) l (od15 κ a (f + i)) (od15 κ a (f + j)) → ∃ k, pt15 (rw15 κ a f) m k i j := fun l => by
    induction l with
    | zero =>
      intro i j hi hj p
      exact ⟨1, j, hj, pos i j hi hj p, rfl⟩
    | succ l ih =>
      intro i j hi hj p
      obtain ⟨c, c1, c2⟩ := p
      have hc := wg_n15 h (od i hi) c1
      have back := ((h.2.2.1 _ _ (od j hj) (od i hi)).mp (sm j i hj hi)).1
      have e : kO15 κ a c = kO15 κ a (od15 κ a (f + i)) := (h.2.2.1 c _ hc (od i hi)).mpr ⟨Rf_t8 (Or.inr ⟨l, c2⟩) back, Rf_18 c1⟩
      obtain ⟨r, r1, r2⟩ := all c hc i hi e
      rw [← r2] at c1 c2
      obtain ⟨k, hk⟩ := ih r j r1 hj c2
      exact ⟨k + 1, r, r1, pos i r hi r1 c1, hk⟩
  intro i j hi hj
  rcases ((h.2.2.1 _ _ (od i hi) (od j hj)).mp (sm i j hi hj)).1 with z | ⟨l, z⟩
  · exact ⟨0, inj i j hi hj z⟩
  · exact path l i j hi hj z
/-- from each something is lost -/
theorem hE_15 {f m : Nat} (X : svX9 κ a n) (h : wg15 κ a n σ) (od : ∀ r, r < m → od15 κ a (f + r) < n) (inj : ∀ i j, i < m → j < m → od15 κ a (f + i) = od15 κ a (f + j) → i = j) : ∀ l j, j < m → lQ15 (pR15 σ n) n l (od15 κ a (f + j)) → ∃ k, lv15 (rw15 κ a f) (rT15 κ a f) m k j := by
  have G := wg_g15 h
  have row : ∀ j, j < m → ((sZ15 (rw15 κ a f j) m : Int) : Rat) = smQ (fun r => pR15 σ n (od15 κ a (f + j)) (od15 κ a (f + r))) m * ((dvN9 κ (zR κ soAtlas a) (od15 κ a (f + j)) : Nat) : Rat) := fun j hj => by
    rw [sZ_q15, ← smQ_mul]
    refine smQ_c (fun r hr => ?_)
    rw [← wg_p15 X h (od j hj) (od r hr), Rat.mul_comm]
    exact mk_t dvN9_p
  have lose : ∀ j, j < m → smQ (fun r => pR15 σ n (od15 κ a (f + j)) (od15 κ a (f + r))) m < 1 → lv15 (rw15 κ a f) (rT15 κ a f) m 0 j := fun j hj p => by
    have d := nq0 (dvN9_p (κ := κ) (x := zR κ soAtlas a) (k := od15 κ a (f + j)))
    have q := Rat.mul_lt_mul_of_pos_right p d
    rw [← row j hj, Rat.one_mul] at q
    show sZ15 (rw15 κ a f j) m < ((dvN9 κ (zR κ soAtlas a) (od15 κ a (f + j)) : Nat) : Int)
    rw [← Rat.intCast_natCast] at q
    exact Rat.intCast_lt_intCast.mp q
  intro l
  induction l with
  | zero =>
    intro j hj p
    have p : smQ (pR15 σ n (od15 κ a (f + j))) n < 1 := p
    have a1 := (ms_15 (f := pR15 σ n (od15 κ a (f + j))) (g := fun r => od15 κ a (f + r)) (fun k hk => G.1 _ k (od j hj) hk) od inj).1
    exact ⟨0, lose j hj (by grind)⟩
  | succ l ih =>
    intro j hj p
    obtain ⟨s, s1, s2, s3⟩ := p
    by_cases c : ∃ r, r < m ∧ od15 κ a (f + r) = s
    · obtain ⟨r, r1, r2⟩ := c
      rw [← r2] at s2 s3
      obtain ⟨k, hk⟩ := ih r r1 s3
      exact ⟨k + 1, r, r1, (wg_e15 X h (od j hj) (od r r1)).mpr (wg_q15 h (od j hj) (od r r1) s2), hk⟩
    · have a1 := (ms_15 (f := pR15 σ n (od15 κ a (f + j))) (g := fun r => od15 κ a (f + r)) (fun k hk => G.1 _ k (od j hj) hk) od inj).2 s s1 (fun r r1 r2 => c ⟨r, r1, r2⟩)
      have b := G.2.1 _ (od j hj)
      exact ⟨0, lose j hj (by grind)⟩
/-- what comes in, by the states -/
theorem in_m15 {V : Nat → Rat} {k : Int32} (X : svX9 κ a n) (h : wg15 κ a n σ) (k0 : 0 ≤ k.toInt) (hk : k.toNatClampNeg < n) : in15 κ a V k = (if k.toNatClampNeg = 0 then 1 else 0) + smQ (fun s => V s * pR15 σ n s k.toNatClampNeg) n := by
  unfold in15
  rw [bi_m15 X hk]
  have c := cnk k0
  congr 1
  · by_cases z : k = 0
    · rw [if_pos z, if_pos (by rw [z]; rfl)]
    · rw [if_neg z, if_neg (fun y => z (Int32.toInt.inj (by rw [t0i]; omega)))]
  · exact smQ_c (fun s hs => by rw [wg_p15 X h hs hk])
end
theorem tb_f15 {C : zC} {n0 b n : Nat} {F : Nat → Nat → Prop} {κ τ : zS} {σ : rS} (W : zW C n0 κ) (H : frS9 (zn κ) F) (Z : zF F κ τ) (Tb : zT κ b = 3) (h : tbl15 κ b n σ) : tbl15 τ b n σ := by
  have g := fun f hf => (at_f9 W H Z Tb (f := f) hf).2.1
  have ix : zI τ atNexts b = zI κ atNexts b := Z.i (frS9_n W H Tb (by decide))
  obtain ⟨h1, h2, h3, h4, h5⟩ := h
  unfold tbl15
  rw [g atFirsts (by decide), ix, g atSorts (by decide), g atNumbers (by decide), g atWeights (by decide), g atChooses (by decide), g atTotals (by decide), g atPlan (by decide)]
  exact ⟨⟨h1.1, h1.2.1, atW_f9 W H Z Tb h1.2.2⟩, h2, h3, h4, h5⟩
theorem wgw_e15 {κ τ : zS} {w b n : Nat} {σ : rS} (r : ∀ f, f = weBackFirsts ∨ f = weSources ∨ f = weOpen ∨ f = weFirsts ∨ f = weTargets ∨ f = weKnotOf → zA τ (zR τ f w) = zA κ (zR κ f w)) (T : tbl15 τ b n σ) (L : el8 τ b 1 n = el8 κ b 1 n) (h : wgw15 κ w b n σ) : wgw15 τ w b n σ := by
  obtain ⟨⟨h1, h2⟩, h3, h4, h5, h6⟩ := h
  unfold wgw15
  rw [r weBackFirsts (Or.inl rfl), r weSources (Or.inr (Or.inl rfl)), r weOpen (Or.inr (Or.inr (Or.inl rfl))), r weFirsts (Or.inr (Or.inr (Or.inr (Or.inl rfl)))), r weTargets (Or.inr (Or.inr (Or.inr (Or.inr (Or.inl rfl))))), r weKnotOf (Or.inr (Or.inr (Or.inr (Or.inr (Or.inr rfl))))), L]
  exact ⟨⟨T, h2⟩, h3, h4, h5, h6⟩
theorem tb_v15 {C : zC} {n0 b n : Nat} {F : Nat → Nat → Prop} {κ τ : zS} {σ : rS} (W : zW C n0 κ) (H : frV9 (zn κ) F) (Z : zF F κ τ) (Tb : zT κ b = 3) (h : tbl15 κ b n σ) : tbl15 τ b n σ := by
  have g := fun f hf => (at_v9 W H Z Tb (f := f) hf).2.1
  have ix : zI τ atNexts b = zI κ atNexts b := Z.i (frV9_n W H Tb (by decide))
  obtain ⟨h1, h2, h3, h4, h5⟩ := h
  unfold tbl15
  rw [g atFirsts (by decide), ix, g atSorts (by decide), g atNumbers (by decide), g atWeights (by decide), g atChooses (by decide), g atTotals (by decide), g atPlan (by decide)]
  exact ⟨⟨h1.1, h1.2.1, atW_v9 W H Z Tb h1.2.2⟩, h2, h3, h4, h5⟩
theorem tb_E15 {C : zC} {n0 w b n : Nat} {κ τ : zS} {σ : rS} (W : zW C n0 κ) (T : zT κ w = 14) (Tb : zT κ b = 3) (Z : zF (objF w) κ τ) (h : tbl15 κ b n σ) : tbl15 τ b n σ := by
  have g := fun f hf => (at_E W T Tb Z (f := f) hf).2.1
  have ix : zI τ atNexts b = zI κ atNexts b := Z.i (fun z => by
    rw [show b = w from z, T] at Tb
    exact absurd Tb (by decide))
  obtain ⟨h1, h2, h3, h4, h5⟩ := h
  unfold tbl15
  rw [g atFirsts (by decide), ix, g atSorts (by decide), g atNumbers (by decide), g atWeights (by decide), g atChooses (by decide), g atTotals (by decide), g atPlan (by decide)]
  exact ⟨⟨h1.1, h1.2.1, atW_E W T Tb Z h1.2.2⟩, h2, h3, h4, h5⟩
theorem wg_f15 {C : zC} {n0 a n : Nat} {F : Nat → Nat → Prop} {κ τ : zS} {σ : rS} (W : zW C n0 κ) (Ta : zT κ a = 12) (H : frS9 (zn κ) F) (Z : zF F κ τ) (X : svX9 κ a n) (h : wg15 κ a n σ) : wg15 τ a n σ := by
  obtain ⟨_, e1, e2, _⟩ := svX9_f W Ta H Z X
  have tb := ty_soAtlas W Ta
  have g := fun f hf => (we_f9 W H Z (ty_soWeb W Ta) (f := f) hf).2.1
  show wgw15 τ (zR τ soWeb a) (zR τ soAtlas a) n σ
  rw [e1, e2]
  refine wgw_e15 (fun f hf => g f (by rcases hf with z | z | z | z | z | z <;> rw [z] <;> decide)) (tb_f15 W H Z tb h.1.1) ?_ h
  unfold el8
  rw [lkD_f9 W H Z tb, (at_f9 W H Z tb (f := atFirsts) (by decide)).2.1]
theorem wg_v15 {C : zC} {n0 w b n : Nat} {F : Nat → Nat → Prop} {κ τ : zS} {σ : rS} (W : zW C n0 κ) (H : frV9 (zn κ) F) (Z : zF F κ τ) (Tw : zT κ w = 14) (Tb : zT κ b = 3) (h : wgw15 κ w b n σ) : wgw15 τ w b n σ := by
  have g := fun f hf => (we_v9 W H Z Tw (f := f) hf).2.1
  refine wgw_e15 (fun f hf => g f (by rcases hf with z | z | z | z | z | z <;> rw [z] <;> decide)) (tb_v15 W H Z Tb h.1.1) ?_ h
  unfold el8
  rw [lkD_v9 W H Z Tb, (at_v9 W H Z Tb (f := atFirsts) (by decide)).2.1]
/-- the web woven and knotted -/
theorem wg_k015 {C : zC} {n0 w b n : Nat} {κ τ : zS} {σ : rS} (W : zW C n0 κ) (Tw : zT κ w = 14) (Tb : zT κ b = 3) (T : tbl15 κ b n σ) (zw : (∀ k, k < n → (zA κ (zR κ weOpen w) k ≠ 0 ↔ eo8 κ b 1 k ∨ ∃ t, t < n ∧ eo8 κ b 1 t ∧ Tr (el8 κ b 1 n) k t)) ∧ (∀ j, j < n → ∀ y, (Ed8 (qI8 (zA κ (zR κ weFirsts w))) (qN8 (zA κ (zR κ weTargets w))) j y ↔ ∃ i : Nat, (zA κ (zR κ atFirsts b) j).toInt ≤ (i : Int) ∧ (i : Int) < (zA κ (zR κ atFirsts b) (j + 1)).toInt ∧ lkD κ b 1 y j i = 1)) ∧ ∀ x y, x < n → y < n → (bk8 (zA κ (zR κ weBackFirsts w)) (zA κ (zR κ weSources w)) n x y ↔ el8 κ b 1 n x y)) (tg : ∀ j, j < n → ∀ y, Ed8 (qI8 (zA κ (zR κ weFirsts w))) (qN8 (zA κ (zR κ weTargets w))) j y → y < n) (K : knE κ τ w) (kp : knP8 κ τ w n) (kl : knL8 κ τ w n) : wgw15 τ w b n σ := by
  have Zo : zF (objF w) κ τ := K.1.mono (fun f x z => z.1)
  have T2 := tb_E15 W Tw Tb Zo T
  have lkE := lkD_E (p := 1) W Tw Tb Zo
  have af := (at_E W Tw Tb Zo (f := atFirsts) (by decide)).2.1
  have ll : el8 τ b 1 n = el8 κ b 1 n := by
    unfold el8
    rw [lkE, af]
  have r := fun f hf h7 => kn_r W Tw K (f := f) hf h7
  have ee : ∀ v u, v < n → (Ed8 (qI8 (zA κ (zR κ weFirsts w))) (qN8 (zA κ (zR κ weTargets w))) v u ↔ edN σ 1 95 1 v u) := fun v u hv => by
    rw [← el_15 T hv]
    constructor
    · intro z
      exact ⟨hv, tg v hv u z, (zw.2.1 v hv u).mp z⟩
    · intro z
      exact (zw.2.1 v hv u).mpr z.2.2
  have rf : ∀ x y, x < n → (Rf8 (Ed8 (qI8 (zA κ (zR κ weFirsts w))) (qN8 (zA κ (zR κ weTargets w)))) x y ↔ Rf8 (edN σ 1 95 1) x y) := fun x y hx => ⟨fun z => Rf_w8 (n := n) (fun p q hp e => ⟨(ee p q hp).mp e, tg p hp q e⟩) hx z, fun z => Rf_w8 (n := n) (fun p q hp e => ⟨(ee p q hp).mpr e, ((el_15 T hp).mpr e).2.1⟩) hx z⟩
  unfold wgw15
  rw [K.2.1, r weBackFirsts (by decide) (by decide), r weSources (by decide) (by decide), r weOpen (by decide) (by decide), r weFirsts (by decide) (by decide), r weTargets (by decide) (by decide), ll]
  refine ⟨⟨T2, zw.2.2⟩, fun k hk => (zw.1 k hk).trans (cn_15 T hk), fun u v hu hv => ?_, fun v u hv e => ?_, ee⟩
  · have q := kp u v hu hv
    rw [K.2.1] at q
    rw [q, rf u v hu, rf v u hv]
  · have q := kl v u hv ((ee v u hv).mpr e)
    rw [K.2.1] at q
    exact q

end
section
set_option maxHeartbeats 1600000
/-! the class: a knot solved; rings that are too great -/
section
variable {κ : zS} {a n c f m : Nat} {σ : rS}
/-- a knot's members -/
theorem kn_15 (X : svX9 κ a n) (hc : (c : Int) < (zI κ weKnots (zR κ soWeb a)).toInt) (hf : (zA κ (zR κ weKnotFirsts (zR κ soWeb a)) c).toInt = (f : Int)) (hm : (zA κ (zR κ weKnotFirsts (zR κ soWeb a)) (c + 1)).toInt = (f : Int) + m) : (f + m ≤ n ∧ 0 < m) ∧ (∀ r, r < m → od15 κ a (f + r) < n ∧ (kO15 κ a (od15 κ a (f + r))).toInt = (c : Int)) ∧ (∀ i j, i < m → j < m → od15 κ a (f + i) = od15 κ a (f + j) → i = j) ∧ ∀ s, s < n → (kO15 κ a s).toInt = (c : Int) → ∃ j, j < m ∧ od15 κ a (f + j) = s := by
  have K := X.2.1
  have b := K.2.1 c hc
  have l : f + m ≤ n ∧ 0 < m := by omega
  have mem : ∀ r, r < m → od15 κ a (f + r) < n ∧ (kO15 κ a (od15 κ a (f + r))).toInt = (c : Int) := fun r hr => by
    have o := (K.2.2.1 (f + r) (by omega)).1
    have k := cnk o.1
    exact ⟨by show (zA κ _ _).toNatClampNeg < n; omega, ko_9 K (by omega) hc (by omega) (by omega)⟩
  refine ⟨l, mem, fun i j hi hj e => ?_, fun s hs e => ?_⟩
  · have q := od_i9 K (i := f + i) (j := f + j) (by omega) (by omega) e
    omega
  · have m0 := (mem 0 l.2).2
    exact rm_9 K hc hf hm hs l.2 (Int32.toInt.inj (e.trans m0.symm))
/-- one knot more -/
theorem vs_15 {V V' : Nat → Rat} (h : wg15 κ a n σ) (E : vE15 (pR15 σ n) n (fun k => cnE σ k ∧ (c : Int) < (kO15 κ a k).toInt) V) (op : ∀ k, k < n → (kO15 κ a k).toInt = (c : Int) → cnE σ k) (h1 : ∀ k, k < n → (kO15 κ a k).toInt ≠ (c : Int) → V' k = V k) (h2 : ∀ j, j < n → (kO15 κ a j).toInt = (c : Int) → V' j = (if j = 0 then 1 else 0) + smQ (fun k => V' k * pR15 σ n k j) n) : vE15 (pR15 σ n) n (fun k => cnE σ k ∧ (c : Int) ≤ (kO15 κ a k).toInt) V' := by
  have G := wg_g15 h
  have E2 := vE_s15 (M := fun k => (kO15 κ a k).toInt = (c : Int)) (V' := V') E (fun k _ e z => by omega) h1 h2 (fun k j hk hj s p => by
    have e := wg_q15 h hk hj p
    have le : (kO15 κ a j).toInt ≤ (kO15 κ a k).toInt := h.2.2.2.1 k j hk e
    have oj : cnE σ j := s.elim (fun z => z.1) (fun z => op j hj z)
    have ok := wg_c15 h hk e oj
    have l2 : (c : Int) ≤ (kO15 κ a j).toInt := s.elim (fun z => by omega) (fun z => by omega)
    by_cases y : (kO15 κ a k).toInt = (c : Int)
    · exact Or.inr y
    · exact Or.inl ⟨ok, by omega⟩) (fun k j hk hj e s => by
    refine Decidable.byContradiction (fun ne => ?_)
    have p0 := G.1 k j hk hj
    have e2 := wg_q15 h hk hj (by grind)
    have le : (kO15 κ a j).toInt ≤ (kO15 κ a k).toInt := h.2.2.2.1 k j hk e2
    omega)
  exact vE_c15 E2 (fun k hk => ⟨fun z => z.elim (fun y => ⟨y.1, by omega⟩) (fun y => ⟨op k hk y, by omega⟩), fun z => by
    by_cases y : (kO15 κ a k).toInt = (c : Int)
    · exact Or.inr y
    · exact Or.inl ⟨z.1, by omega⟩⟩) (fun _ _ => rfl)
/-- a knot that is not open -/
theorem vs_n15 {V : Nat → Rat} (E : vE15 (pR15 σ n) n (fun k => cnE σ k ∧ (c : Int) < (kO15 κ a k).toInt) V) (no : ∀ k, k < n → (kO15 κ a k).toInt = (c : Int) → ¬ cnE σ k) : vE15 (pR15 σ n) n (fun k => cnE σ k ∧ (c : Int) ≤ (kO15 κ a k).toInt) V := vE_c15 E (fun k hk => ⟨fun z => ⟨z.1, by omega⟩, fun z => ⟨z.1, by
  by_cases y : (kO15 κ a k).toInt = (c : Int)
  · exact absurd z.1 (no k hk y)
  · omega⟩⟩) (fun _ _ => rfl)
/-- a state that is in no ring -/
theorem vo_15 {V : Nat → Rat} {K : Int32} (X : svX9 κ a n) (h : wg15 κ a n σ) (K0 : 0 ≤ K.toInt) (hK : K.toNatClampNeg < n) (z : V K.toNatClampNeg = 0) (nl : ¬ edN σ 1 95 1 K.toNatClampNeg K.toNatClampNeg) : in15 κ a V K = (if K.toNatClampNeg = 0 then 1 else 0) + smQ (fun k => (if k = K.toNatClampNeg then in15 κ a V K else V k) * pR15 σ n k K.toNatClampNeg) n := by
  have e := in_m15 (V := V) X h K0 hK
  have G := wg_g15 h
  refine e.trans ?_
  congr 1
  refine smQ_c (fun k hk => ?_)
  by_cases c : k = K.toNatClampNeg
  · have p0 : pR15 σ n k K.toNatClampNeg = 0 := by
      refine Decidable.byContradiction (fun ne => ?_)
      have q := G.1 k K.toNatClampNeg hk hK
      have e2 := wg_q15 h hk hK (by grind)
      rw [c] at e2
      exact nl e2
    rw [p0, Rat.mul_zero, Rat.mul_zero]
  · rw [if_neg c]
/-- a ring -/
theorem vr_15 {V X9 V' : Nat → Rat} (X : svX9 κ a n) (h : wg15 κ a n σ) (kn : (f + m ≤ n ∧ 0 < m) ∧ (∀ r, r < m → od15 κ a (f + r) < n ∧ (kO15 κ a (od15 κ a (f + r))).toInt = (c : Int)) ∧ (∀ i j, i < m → j < m → od15 κ a (f + i) = od15 κ a (f + j) → i = j) ∧ ∀ s, s < n → (kO15 κ a s).toInt = (c : Int) → ∃ j, j < m ∧ od15 κ a (f + j) = s) (hz : ∀ s, s < n → (kO15 κ a s).toInt = (c : Int) → V s = 0) (eX : eC15 κ a V f m X9) (h1 : ∀ k, k < n → (kO15 κ a k).toInt ≠ (c : Int) → V' k = V k) (h2 : ∀ i, i < m → V' (od15 κ a (f + i)) = X9 i) : ∀ j, j < n → (kO15 κ a j).toInt = (c : Int) → V' j = (if j = 0 then 1 else 0) + smQ (fun k => V' k * pR15 σ n k j) n := by
  obtain ⟨kn1, kn2, kn3, kn4⟩ := kn
  intro j hj ej
  obtain ⟨i, i1, i2⟩ := kn4 j hj ej
  have o := (X.2.1.2.2.1 (f + i) (by omega)).1
  have e := (eX i i1).2
  have im := in_m15 (V := V) (k := zA κ (zR κ weOrder (zR κ soWeb a)) (f + i)) X h o.1 (kn2 i i1).1
  have i2' : (zA κ (zR κ weOrder (zR κ soWeb a)) (f + i)).toNatClampNeg = j := i2
  rw [i2'] at im
  have ex : ∀ k, ∃ z : Rat, ((kO15 κ a k).toInt = (c : Int) → z = V' k * pR15 σ n k j) ∧ ((kO15 κ a k).toInt ≠ (c : Int) → z = 0) := fun k => by
    by_cases g : (kO15 κ a k).toInt = (c : Int)
    · exact ⟨_, fun _ => rfl, fun z => absurd g z⟩
    · exact ⟨0, fun z => absurd z g, fun _ => rfl⟩
  obtain ⟨d, hd⟩ := Classical.axiomOfChoice ex
  have s1 : smQ (fun k => V' k * pR15 σ n k j) n = smQ (fun k => V k * pR15 σ n k j + d k) n := smQ_c (fun k hk => by
    by_cases g : (kO15 κ a k).toInt = (c : Int)
    · rw [(hd k).1 g, hz k hk g, Rat.zero_mul, Rat.zero_add]
    · rw [(hd k).2 g, Rat.add_zero, h1 k hk g])
  have s2 := rx_15 (f := fun k => V' k * pR15 σ n k j) (g := fun r => od15 κ a (f + r)) (s := n) (d := d) (fun r hr => (kn2 r hr).1) kn3 (fun k _ ⟨r, r1, r2⟩ => (hd k).1 (by rw [← r2]; exact (kn2 r r1).2)) (fun k hk nr => (hd k).2 (fun z => nr (by
    obtain ⟨r, r1, r2⟩ := kn4 k hk z
    exact ⟨r, r1, r2⟩)))
  have s3 : smQ (fun c => X9 c * mkRat 1 (dvN9 κ (zR κ soAtlas a) (od15 κ a (f + c))) * ((rw15 κ a f c i : Int) : Rat)) m = smQ (fun r => V' (od15 κ a (f + r)) * pR15 σ n (od15 κ a (f + r)) j) m := smQ_c (fun r hr => by
    rw [h2 r hr, ← wg_p15 X h (kn2 r hr).1 hj, mk_d, mk_d, show ((1 : Int) : Rat) = 1 from rfl]
    show _ = X9 r * (((bW15 κ a j (od15 κ a (f + r)) : Int) : Rat) * _)
    rw [show rw15 κ a f r i = bW15 κ a j (od15 κ a (f + r)) by unfold rw15; rw [i2]]
    generalize ((bW15 κ a j (od15 κ a (f + r)) : Int) : Rat) = w
    generalize ((dvN9 κ (zR κ soAtlas a) (od15 κ a (f + r)) : Nat) : Rat)⁻¹ = q
    grind)
  rw [s1, smQ_add, ← s2, ← s3, ← Rat.add_assoc, ← im, ← e, ← i2, h2 i i1]
theorem wk_15 {w b : Nat} (h : wgw15 κ w b n σ) {k j : Nat} (hk : k < n) (hj : j < n) (e : zA κ (zR κ weKnotOf w) k = zA κ (zR κ weKnotOf w) j) (c : cnE σ j) : cnE σ k := by
  rcases ((h.2.2.1 k j hk hj).mp e).1 with z | z
  · rw [z]; exact c
  · unfold cnE at c ⊢
    rw [← h.1.1.1.2.1] at c ⊢
    rcases c with y | ⟨t, t1, t2, t3⟩
    · exact Or.inr ⟨j, hj, z, y⟩
    · exact Or.inr ⟨t, t1, Tr_tr z t2, t3⟩
/-- knots, as the class lays them -/
theorem kK_15 {w b : Nat} (K : weKn κ w n) (h : wgw15 κ w b n σ) : KN8 n (zI κ weKnots w).toInt.toNat (fun s => (zA κ (zR κ weKnotOf w) s).toNatClampNeg) (fun i => (zA κ (zR κ weOrder w) i).toNatClampNeg) (fun c => (zA κ (zR κ weKnotFirsts w) c).toNatClampNeg) (edN σ 1 95 1) := by
  have bk : ∀ s, s < n → 0 ≤ (zA κ (zR κ weKnotOf w) s).toInt := fun s hs => by
    obtain ⟨i, i1, i2⟩ := K.2.2.2 s hs
    have q := (K.2.2.1 i i1).2.1.1
    rw [i2] at q
    exact q
  refine ⟨fun i hi => ?_, fun c hc => ?_, K.2.2.2, fun u v hu hv => ?_, fun x y hx e => ((el_15 h.1.1 hx).mpr e).2.1⟩
  · obtain ⟨⟨o1, o2⟩, ⟨k1, k2⟩, k3, k4⟩ := K.2.2.1 i hi
    have c1 := cnk o1
    have c2 := cnk k1
    have b := K.2.1 (zA κ (zR κ weKnotOf w) (zA κ (zR κ weOrder w) i).toNatClampNeg).toNatClampNeg (by omega)
    have c3 := cnk b.1
    have c4 := cnk (x := zA κ (zR κ weKnotFirsts w) ((zA κ (zR κ weKnotOf w) (zA κ (zR κ weOrder w) i).toNatClampNeg).toNatClampNeg + 1)) (by omega)
    show (zA κ (zR κ weOrder w) i).toNatClampNeg < n ∧ (zA κ (zR κ weKnotOf w) (zA κ (zR κ weOrder w) i).toNatClampNeg).toNatClampNeg < _ ∧ (zA κ (zR κ weKnotFirsts w) (zA κ (zR κ weKnotOf w) (zA κ (zR κ weOrder w) i).toNatClampNeg).toNatClampNeg).toNatClampNeg ≤ i ∧ i < (zA κ (zR κ weKnotFirsts w) ((zA κ (zR κ weKnotOf w) (zA κ (zR κ weOrder w) i).toNatClampNeg).toNatClampNeg + 1)).toNatClampNeg
    omega
  · have b := K.2.1 c (by omega)
    have c3 := cnk b.1
    have c4 := cnk (x := zA κ (zR κ weKnotFirsts w) (c + 1)) (by omega)
    show (zA κ (zR κ weKnotFirsts w) c).toNatClampNeg < (zA κ (zR κ weKnotFirsts w) (c + 1)).toNatClampNeg ∧ (zA κ (zR κ weKnotFirsts w) (c + 1)).toNatClampNeg ≤ n
    omega
  · rw [← h.2.2.1 u v hu hv]
    show (zA κ (zR κ weKnotOf w) u).toNatClampNeg = (zA κ (zR κ weKnotOf w) v).toNatClampNeg ↔ _
    have c1 := cnk (bk u hu)
    have c2 := cnk (bk v hv)
    exact ⟨fun e => Int32.toInt.inj (by omega), fun e => by rw [e]⟩
/-- a knot that is too great -/
theorem bg_y15 {w b9 : Nat} (K : weKn κ w n) (h : wgw15 κ w b9 n σ) (hc : (c : Int) < (zI κ weKnots w).toInt) (op : zA κ (zR κ weOpen w) ((zA κ (zR κ weOrder w) (zA κ (zR κ weKnotFirsts w) c).toNatClampNeg).toNatClampNeg) ≠ 0) (sz : 32 < (zA κ (zR κ weKnotFirsts w) (c + 1)).toInt - (zA κ (zR κ weKnotFirsts w) c).toInt) : bg15 σ := by
  have KN := kK_15 K h
  have b := K.2.1 c hc
  have c3 := cnk b.1
  have c4 := cnk (x := zA κ (zR κ weKnotFirsts w) (c + 1)) (by omega)
  have hd := hd_8 KN (c := c) (by omega)
  have hd1 : (zA κ (zR κ weOrder w) (zA κ (zR κ weKnotFirsts w) c).toNatClampNeg).toNatClampNeg < n := hd.1
  have hd2 : (zA κ (zR κ weKnotOf w) ((zA κ (zR κ weOrder w) (zA κ (zR κ weKnotFirsts w) c).toNatClampNeg).toNatClampNeg)).toNatClampNeg = c := hd.2
  have tr := (rg_8 KN (k := (zA κ (zR κ weOrder w) (zA κ (zR κ weKnotFirsts w) c).toNatClampNeg).toNatClampNeg) hd1).mp (by
    show ir8 _ _ _ (zA κ (zR κ weKnotOf w) ((zA κ (zR κ weOrder w) (zA κ (zR κ weKnotFirsts w) c).toNatClampNeg).toNatClampNeg)).toNatClampNeg
    rw [hd2]
    refine Or.inl ?_
    show 1 < (zA κ (zR κ weKnotFirsts w) (c + 1)).toNatClampNeg - (zA κ (zR κ weKnotFirsts w) c).toNatClampNeg
    omega)
  have rs := rs_8 KN hd1 tr
  have rs : ct8 (fun m => Tr (edN σ 1 95 1) ((zA κ (zR κ weOrder w) (zA κ (zR κ weKnotFirsts w) c).toNatClampNeg).toNatClampNeg) m ∧ Tr (edN σ 1 95 1) m ((zA κ (zR κ weOrder w) (zA κ (zR κ weKnotFirsts w) c).toNatClampNeg).toNatClampNeg)) n = (zA κ (zR κ weKnotFirsts w) ((zA κ (zR κ weKnotOf w) ((zA κ (zR κ weOrder w) (zA κ (zR κ weKnotFirsts w) c).toNatClampNeg).toNatClampNeg)).toNatClampNeg + 1)).toNatClampNeg - (zA κ (zR κ weKnotFirsts w) (zA κ (zR κ weKnotOf w) ((zA κ (zR κ weOrder w) (zA κ (zR κ weKnotFirsts w) c).toNatClampNeg).toNatClampNeg)).toNatClampNeg).toNatClampNeg := rs
  rw [hd2] at rs
  unfold bg15
  rw [← h.1.1.1.2.1]
  exact ⟨_, hd1, (h.2.1 _ hd1).mp op, tr, by rw [rs]; omega⟩
theorem bg_n15 {w b9 : Nat} (K : weKn κ w n) (h : wgw15 κ w b9 n σ) (R : ∀ c : Nat, (c : Int) < (zI κ weKnots w).toInt → zA κ (zR κ weOpen w) ((zA κ (zR κ weOrder w) (zA κ (zR κ weKnotFirsts w) c).toNatClampNeg).toNatClampNeg) ≠ 0 → (zA κ (zR κ weKnotFirsts w) (c + 1)).toInt - (zA κ (zR κ weKnotFirsts w) c).toInt ≤ 32) : ¬ bg15 σ := by
  intro g
  unfold bg15 at g
  rw [← h.1.1.1.2.1] at g
  obtain ⟨k, k1, k2, k3, k4⟩ := g
  have KN := kK_15 K h
  have rs := rs_8 KN k1 k3
  have rs : ct8 (fun m => Tr (edN σ 1 95 1) k m ∧ Tr (edN σ 1 95 1) m k) n = (zA κ (zR κ weKnotFirsts w) ((zA κ (zR κ weKnotOf w) k).toNatClampNeg + 1)).toNatClampNeg - (zA κ (zR κ weKnotFirsts w) (zA κ (zR κ weKnotOf w) k).toNatClampNeg).toNatClampNeg := rs
  have kl := ko_88 KN k1
  have kl : (zA κ (zR κ weKnotOf w) k).toNatClampNeg < (zI κ weKnots w).toInt.toNat := kl
  have hd := hd_8 KN (c := (zA κ (zR κ weKnotOf w) k).toNatClampNeg) kl
  have hd1 : (zA κ (zR κ weOrder w) (zA κ (zR κ weKnotFirsts w) (zA κ (zR κ weKnotOf w) k).toNatClampNeg).toNatClampNeg).toNatClampNeg < n := hd.1
  have hd2 : (zA κ (zR κ weKnotOf w) ((zA κ (zR κ weOrder w) (zA κ (zR κ weKnotFirsts w) (zA κ (zR κ weKnotOf w) k).toNatClampNeg).toNatClampNeg).toNatClampNeg)).toNatClampNeg = (zA κ (zR κ weKnotOf w) k).toNatClampNeg := hd.2
  have same := (KN.2.2.2.1 _ _ hd1 k1).mp hd2
  have eq := (h.2.2.1 _ _ hd1 k1).mpr same
  have op := (h.2.1 _ hd1).mpr (wk_15 h hd1 k1 eq k2)
  have b := K.2.1 (zA κ (zR κ weKnotOf w) k).toNatClampNeg (by omega)
  have c3 := cnk b.1
  have c4 := cnk (x := zA κ (zR κ weKnotFirsts w) ((zA κ (zR κ weKnotOf w) k).toNatClampNeg + 1)) (by omega)
  have r := R _ (by omega) op
  omega
/-- whether a knot is a ring -/
theorem ir_15 (X : svX9 κ a n) (h : wg15 κ a n σ) (hc : (c : Int) < (zI κ weKnots (zR κ soWeb a)).toInt) (hf : (zA κ (zR κ weKnotFirsts (zR κ soWeb a)) c).toInt = (f : Int)) (hm : (zA κ (zR κ weKnotFirsts (zR κ soWeb a)) (c + 1)).toInt = (f : Int) + m) (no : ¬ iR8 κ (zR κ soWeb a) c) : m = 1 ∧ ¬ edN σ 1 95 1 (od15 κ a f) (od15 κ a f) := by
  have b := X.2.1.2.1 c hc
  have c3 := cnk b.1
  have ef : (zA κ (zR κ weKnotFirsts (zR κ soWeb a)) c).toNatClampNeg = f := by omega
  have kn := kn_15 X hc hf hm
  unfold iR8 at no
  rw [ef] at no
  refine ⟨Decidable.byContradiction (fun z => no (Or.inl (by omega))), fun z => no (Or.inr ?_)⟩
  exact (h.2.2.2.2 _ _ (kn.2.1 0 kn.1.2).1).mpr z
end
/-- fresh fractions are 0 -/
theorem fz_15 {ρ : Nat → Nat} {κ τ τ1 : zS} {a o r k j : Nat} {m : Int32} (H : frX9 ρ a 100 soVisits κ τ o r m k (fun _ => True)) (e : τ1 = uo τ soVisits a r) (hj : j < k) : rqW8 τ1 (vU9 τ1 a j) 0 := by
  obtain ⟨κ1, ρ', _, _, _, _, _, _, _, A, _⟩ := H
  obtain ⟨u, u1, u2, u3, u4⟩ := A j hj
  have er : zR τ1 soVisits a = r := by rw [e]; exact if_pos ⟨rfl, rfl⟩
  have eq : zQ τ1 = zQ τ := by rw [e]; rfl
  have ei : zI τ1 = zI τ := by rw [e]; rfl
  have ea : zA τ1 = zA τ := by rw [e]; rfl
  have ro : ∀ f x, f ≠ soVisits → zR τ1 f x = zR τ f x := fun f x hf => by rw [e]; exact if_neg (fun z => hf z.1)
  have nn : ∀ x, nuN τ1 x = nuN τ x := fun x => by
    unfold nuN
    rw [ro nuLimbs x (by decide), ea, ei]
  have vu : vU9 τ1 a j = u := by
    unfold vU9
    rw [er, eq, u1]
    rfl
  rw [vu]
  unfold rqW8
  rw [ei, u2, ro raTop u (by decide), ro raBottom u (by decide), nn, nn, u3, u4]
  exact ⟨rfl, rfl, rfl⟩

end
