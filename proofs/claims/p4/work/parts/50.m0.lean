set_option maxHeartbeats 1600000
/-! the reference: a call's arguments, counted -/
/-- one step of the count: the depth behind a token -/
def sD (S N : Nat → Int32) (t : Int32) (d d' : Nat) : Prop := ((sg S N t 40 ∨ sg S N t 91) ∧ d' = d + 1) ∨ ((sg S N t 41 ∨ sg S N t 93) ∧ d = d' + 1) ∨ (¬ (sg S N t 40 ∨ sg S N t 91 ∨ sg S N t 41 ∨ sg S N t 93) ∧ d' = d)
/-- k tokens from token t on, depth d, c commas at depth 0, then the closing bracket -/
def rm (S N : Nat → Int32) (P : Int32) : Nat → Int32 → Nat → Nat → Prop
  | 0, t, d, c => d = 0 ∧ c = 0 ∧ sg S N t 41 ∧ t < P
  | k + 1, t, d, c => ¬ (d = 0 ∧ sg S N t 41) ∧ t < P ∧ ∃ d' c', sD S N t d d' ∧ c = c' + (if d' = 0 ∧ S t.toNatClampNeg = 3 ∧ N t.toNatClampNeg = 44 then 1 else 0) ∧ rm S N P k (t + 1) d' c'
theorem rm_one {S N : Nat → Int32} {P t : Int32} {k d d' c : Nat} (h : rm S N P k (t + 1) d' c) (hD : sD S N t d d') (h1 : ¬ (d = 0 ∧ sg S N t 41)) (h2 : ¬ sg S N t 44) (hP : t < P) : rm S N P (k + 1) t d c :=
  ⟨h1, hP, d', c, hD, by rw [if_neg (fun z => h2 z.2)]; rfl, h⟩
theorem sg_ne {S N : Nat → Int32} {t a b : Int32} (h : sg S N t a) (hab : a ≠ b) : ¬ sg S N t b := fun z => hab (h.2.symm.trans z.2)
theorem S_ne {S N : Nat → Int32} {t a b : Int32} (h : S t.toNatClampNeg = a) (hab : a ≠ 3) : ¬ sg S N t b := fun z => hab (h.symm.trans z.1)
theorem rk_ne {c x : Int32} (h : 0 < rk c) (hx : x = 40 ∨ x = 41 ∨ x = 44 ∨ x = 91 ∨ x = 93) : c ≠ x := by
  rintro rfl
  rcases hx with rfl | rfl | rfl | rfl | rfl <;> exact absurd h (by decide)
theorem eOp_first {S N R : Nat → Int32} {a st' a' : Int32} {W W' : eL} (h : eOp S N R a W st' a' W') : ¬ sg S N a 41 := by
  obtain ⟨-, h⟩ := h
  rcases h with ⟨q, -⟩ | ⟨q, -⟩ | ⟨q, -⟩ | ⟨q, -⟩ | ⟨q, -⟩ | ⟨q, -⟩
  · exact sg_ne q (by decide)
  · exact sg_ne q (by decide)
  · exact sg_ne q (by decide)
  · exact S_ne q (by decide)
  · exact S_ne q (by decide)
  · exact S_ne q (by decide)
theorem ePa_first {S N R : Nat → Int32} {a e : Int32} (h : ePa S N R a e) : ¬ sg S N a 41 := by
  obtain ⟨n, hn⟩ := h
  cases n with
  | zero => exact absurd hn.1 (by decide)
  | succ n =>
    obtain ⟨s0, a0, W0, s1, a1, W1, ⟨rfl, rfl, rfl⟩, g⟩ := eTo_pre (Nat.succ_pos n) hn
    rcases g with ⟨-, g⟩ | ⟨z, -⟩
    · exact eOp_first g
    · exact absurd z (by decide)
/-- over an expression -/
theorem rm_e {S N R : Nat → Int32} {P A : Int32} {m : Nat} : ∀ {st a : Int32} {W : eL} {k d c : Nat}, eTo S N R A m st a W → rm S N P k a (d + nbr W) c → a < P → ∃ k', rm S N P k' A d c := by
  induction m with
  | zero =>
    rintro st a W k d c ⟨-, rfl, rfl⟩ h _
    exact ⟨k, h⟩
  | succ m ih =>
    rintro st a W k d c ⟨st0, a0, W0, h1, h2, h3⟩ h hP
    have hP0 : a0 < P := by rcases h3 with q | q; exact Int32.lt_trans q hP; exact q.2 ▸ hP
    have same : ∀ {d2 : Nat}, ¬ (sg S N a0 40 ∨ sg S N a0 91 ∨ sg S N a0 41 ∨ sg S N a0 93) → sD S N a0 d2 d2 := fun z => Or.inr (Or.inr ⟨z, rfl⟩)
    rcases h2 with ⟨rfl, -, h2⟩ | ⟨rfl, h2⟩
    · rcases h2 with ⟨q, -, rfl, rfl⟩ | ⟨q, -, rfl, rfl⟩ | ⟨q, -, -, rfl, rfl⟩ | ⟨q, -, rfl, rfl⟩ | ⟨q, q1, -, -, qs, rfl, rfl⟩ | ⟨q, -, -, -, -, rfl, rfl⟩
      · rw [nbr_cons, if_neg (by decide)] at h
        refine ih h1 (rm_one h (same ?_) (fun z => sg_ne q (by decide) z.2) (sg_ne q (by decide)) hP0) hP0
        rintro (z | z | z | z) <;> exact sg_ne q (by decide) z
      · rw [nbr_cons, if_neg (by decide)] at h
        refine ih h1 (rm_one h (same ?_) (fun z => sg_ne q (by decide) z.2) (sg_ne q (by decide)) hP0) hP0
        rintro (z | z | z | z) <;> exact sg_ne q (by decide) z
      · rw [nbr_cons, if_pos (by decide)] at h
        exact ih h1 (rm_one (d := d + nbr W0) h (Or.inl ⟨Or.inl q, rfl⟩) (fun z => sg_ne q (by decide) z.2) (sg_ne q (by decide)) hP0) hP0
      · rw [turn_nbr] at h
        refine ih h1 (rm_one h (same ?_) (fun z => S_ne q (by decide) z.2) (S_ne q (by decide)) hP0) hP0
        rintro (z | z | z | z) <;> exact S_ne q (by decide) z
      · rw [nbr_cons, if_pos (Or.inr rfl)] at h
        have lt1 : a0 + 1 < P := by
          rcases h3 with z | z
          · clear h h1 ih same; grind
          · exact absurd (qs.symm.trans z.1) (by decide)
        have e2 : a0 + 2 = a0 + 1 + 1 := by clear h h1 ih; grind
        rw [e2] at h
        have hb := rm_one (d := d + nbr W0) h (Or.inl ⟨Or.inr q1, rfl⟩) (fun z => sg_ne q1 (by decide) z.2) (sg_ne q1 (by decide)) lt1
        refine ih h1 (rm_one hb (same ?_) (fun z => S_ne q (by decide) z.2) (S_ne q (by decide)) hP0) hP0
        rintro (z | z | z | z) <;> exact S_ne q (by decide) z
      · rw [turn_nbr] at h
        refine ih h1 (rm_one h (same ?_) (fun z => S_ne q (by decide) z.2) (S_ne q (by decide)) hP0) hP0
        rintro (z | z | z | z) <;> exact S_ne q (by decide) z
    · rcases h2 with ⟨-, g, -, rfl, rfl⟩ | ⟨-, ⟨e1, rfl, rfl, rfl⟩ | ⟨-, q, -, rfl, f, W2, e1, rfl⟩ | ⟨-, q, -, rfl, f, W2, e1, rfl⟩⟩
      · have r := eRk_pos g.1
        rw [nbr_cons, if_neg (by rintro (z | z); exact rk_ne r.2 (by decide) z; exact rk_ne r.2 (by decide) z), Nat.add_zero, pop_nbr] at h
        have ns : ∀ x, (x = 40 ∨ x = 41 ∨ x = 44 ∨ x = 91 ∨ x = 93) → ¬ sg S N a0 x := fun x hx z => rk_ne r.2 hx z.2
        refine ih h1 (rm_one h (same ?_) (fun z => ns 41 (by decide) z.2) (ns 44 (by decide)) hP0) hP0
        rintro (z | z | z | z)
        · exact ns 40 (by decide) z
        · exact ns 91 (by decide) z
        · exact ns 41 (by decide) z
        · exact ns 93 (by decide) z
      · have : nbr W0 = 0 := by rw [← pop_nbr (l := eLv (eRk S N a)), ← pop_nbr (l := 1), e1]; rfl
        refine ih (k := k) h1 ?_ hP0
        rw [this]; exact h
      · have : nbr W0 = nbr W2 + 1 := by rw [← pop_nbr (l := eLv (eRk S N a0)), ← pop_nbr (l := 1), e1, nbr_cons, if_pos (Or.inl rfl)]
        rw [turn_nbr] at h
        refine ih h1 (rm_one (d := d + nbr W0) h (Or.inr (Or.inl ⟨Or.inl q, by omega⟩)) (fun z => by omega) (sg_ne q (by decide)) hP0) hP0
      · have : nbr W0 = nbr W2 + 1 := by rw [← pop_nbr (l := eLv (eRk S N a0)), ← pop_nbr (l := 1), e1, nbr_cons, if_pos (Or.inr rfl)]
        rw [turn_nbr] at h
        refine ih h1 (rm_one (d := d + nbr W0) h (Or.inr (Or.inl ⟨Or.inr q, by omega⟩)) (fun z => by omega) (sg_ne q (by decide)) hP0) hP0
theorem rm_B {S N R : Nat → Int32} {P : Int32} {k : Nat} : ∀ {a : Int32}, gB S N R P k a → ∃ m, rm S N P m a 0 k := by
  induction k with
  | zero =>
    rintro a ⟨e, ⟨n, h1⟩, h2, h3, h4⟩
    exact rm_e (k := 0) (d := 0) h1 ⟨rfl, rfl, h4, h3⟩ h3
  | succ k ih =>
    rintro a ⟨e, ⟨n, h1⟩, h2, h3, h4, h5⟩
    obtain ⟨m, hm⟩ := ih h5
    refine rm_e (k := m + 1) (d := 0) h1 ⟨fun z => sg_ne h4 (by decide) z.2, h3, 0, k, Or.inr (Or.inr ⟨?_, rfl⟩), ?_, hm⟩ h3
    · rintro (z | z | z | z) <;> exact sg_ne h4 (by decide) z
    · rw [if_pos ⟨rfl, h4.1, h4.2⟩]
theorem rm_le {S N : Nat → Int32} {P : Int32} {k : Nat} : ∀ {t : Int32} {d c : Nat}, rm S N P k t d c → d ≤ k ∧ c ≤ k := by
  induction k with
  | zero => rintro t d c ⟨rfl, rfl, -⟩; exact ⟨Nat.le_refl _, Nat.le_refl _⟩
  | succ k ih =>
    rintro t d c ⟨-, -, d', c', h1, h2, h3⟩
    have := ih h3
    refine ⟨?_, by split at h2 <;> omega⟩
    rcases h1 with ⟨-, z⟩ | ⟨-, z⟩ | ⟨-, z⟩ <;> omega
theorem rm_k {S N : Nat → Int32} {P : Int32} (hP : P < 131074) {k : Nat} : ∀ {t : Int32} {d c : Nat}, 0 ≤ t → rm S N P k t d c → t.toInt + k < P.toInt := by
  induction k with
  | zero => rintro t d c h0 ⟨-, -, -, h⟩; have := Int32.lt_iff_toInt_lt.mp h; omega
  | succ k ih =>
    rintro t d c h0 ⟨-, h1, d', c', -, -, h3⟩
    have hT := Int32.lt_iff_toInt_lt.mp hP
    rw [show (131074 : Int32).toInt = 131074 from rfl] at hT
    have h1' := Int32.lt_iff_toInt_lt.mp h1
    have h0' := Int32.le_iff_toInt_le.mp h0
    rw [Int32.toInt_zero] at h0'
    have e : (t + 1).toInt = t.toInt + 1 := i_add h0 (by decide) (by rw [show (1 : Int32).toInt = 1 from rfl]; omega)
    have := ih (by rw [Int32.le_iff_toInt_le, Int32.toInt_zero, e]; omega) h3
    omega
theorem sD_det {S N : Nat → Int32} {t : Int32} {d d1 d2 : Nat} (h1 : sD S N t d d1) (h2 : sD S N t d d2) : d1 = d2 := by
  rcases h1 with ⟨p, q⟩ | ⟨p, q⟩ | ⟨p, q⟩ <;> rcases h2 with ⟨r, s⟩ | ⟨r, s⟩ | ⟨r, s⟩
  · omega
  · exfalso; rcases p with p | p <;> rcases r with r | r <;> exact sg_ne p (by decide) r
  · exact absurd (p.elim Or.inl (fun z => Or.inr (Or.inl z))) r
  · exfalso; rcases p with p | p <;> rcases r with r | r <;> exact sg_ne p (by decide) r
  · omega
  · exact absurd (p.elim (fun z => Or.inr (Or.inr (Or.inl z))) (fun z => Or.inr (Or.inr (Or.inr z)))) r
  · exact absurd (r.elim Or.inl (fun z => Or.inr (Or.inl z))) p
  · exact absurd (r.elim (fun z => Or.inr (Or.inr (Or.inl z))) (fun z => Or.inr (Or.inr (Or.inr z)))) p
  · omega
/-- where the count stands -/
def cI5 (S N : Nat → Int32) (P t d n : Int32) (tot : Nat) : Prop := 0 ≤ t ∧ 0 ≤ d ∧ 0 ≤ n ∧ ∃ k c, rm S N P k t d.toNatClampNeg c ∧ n.toNatClampNeg + c = tot
theorem cn_lt6 {x : Int32} {n : Nat} (h0 : 0 ≤ x) (h : x.toNatClampNeg ≤ n) (hn : n < 200000) : x < 200000 := by
  have h3 : x.toNatClampNeg = x.toInt.toNat := rfl
  rw [Int32.le_iff_toInt_le, Int32.toInt_zero] at h0
  rw [Int32.lt_iff_toInt_lt, show (200000 : Int32).toInt = 200000 from rfl]
  omega
theorem cI5_b {S N : Nat → Int32} {P t d n : Int32} {tot : Nat} (hP : P < 131074) (ht : tot < 131074) (h : cI5 S N P t d n tot) : 0 ≤ t ∧ t < 131074 ∧ t < P ∧ 0 ≤ d ∧ d < 200000 ∧ 0 ≤ n ∧ n < 200000 := by
  obtain ⟨h1, h2, h3, k, c, h4, h5⟩ := h
  have hk := rm_k hP h1 h4
  have hl := rm_le h4
  have hT := Int32.lt_iff_toInt_lt.mp hP
  rw [show (131074 : Int32).toInt = 131074 from rfl] at hT
  have h1' := Int32.le_iff_toInt_le.mp h1
  rw [Int32.toInt_zero] at h1'
  have tP : t < P := by rw [Int32.lt_iff_toInt_lt]; omega
  exact ⟨h1, Int32.lt_trans tP hP, tP, h2, cn_lt6 h2 (n := k) hl.1 (by omega), h3, cn_lt6 h3 (n := tot) (by omega) (by omega)⟩
/-- one token further -/
theorem cI5_st {S N : Nat → Int32} {P t d n d' n' : Int32} {tot : Nat} (hP : P < 131074) (ht : tot < 131074) (h : cI5 S N P t d n tot) (hs : ¬ (d.toNatClampNeg = 0 ∧ sg S N t 41)) (hd0 : 0 ≤ d') (hd : sD S N t d.toNatClampNeg d'.toNatClampNeg) (hn : n' = n + (if d' = 0 ∧ S t.toNatClampNeg = 3 ∧ N t.toNatClampNeg = 44 then 1 else 0)) : cI5 S N P (t + 1) d' n' tot ∧ P - (t + 1) < P - t ∧ 0 ≤ P - (t + 1) := by
  have b := cI5_b hP ht h
  obtain ⟨h1, h2, h3, k, c, h4, h5⟩ := h
  cases k with
  | zero => exact absurd ⟨h4.1, h4.2.2.1⟩ hs
  | succ k =>
    obtain ⟨-, hlt, e', c', g1, g2, g3⟩ := h4
    have ed := sD_det hd g1
    subst ed
    have cz : (d'.toNatClampNeg = 0 ∧ S t.toNatClampNeg = 3 ∧ N t.toNatClampNeg = 44) ↔ (d' = 0 ∧ S t.toNatClampNeg = 3 ∧ N t.toNatClampNeg = 44) := ⟨fun z => ⟨cn_inj hd0 (by decide) (by rw [z.1]; rfl), z.2⟩, fun z => ⟨by rw [z.1]; rfl, z.2⟩⟩
    have hk := rm_k hP (by clear g1 g3 hd h5; grind) g3
    refine ⟨⟨by clear g1 g3 hd h5; grind, hd0, ?_, k, c', g3, ?_⟩, ?_, ?_⟩
    · rw [hn]; split <;> (clear g1 g3 hd h5 g2; grind)
    · rw [hn]
      by_cases z : d' = 0 ∧ S t.toNatClampNeg = 3 ∧ N t.toNatClampNeg = 44
      · rw [if_pos (cz.mpr z)] at g2
        rw [if_pos z, cn_succ h3 (Int32.lt_trans b.2.2.2.2.2.2 (by decide))]; omega
      · rw [if_neg (fun y => z (cz.mp y))] at g2
        rw [if_neg z, Int32.add_zero]; omega
    · clear g1 g3 hd h5 g2 cz; grind
    · clear g1 g3 hd h5 g2 cz; grind
theorem cI5_93 {S N : Nat → Int32} {P t d n : Int32} {tot : Nat} (h : cI5 S N P t d n tot) (hs : sg S N t 93) : d.toNatClampNeg ≠ 0 := by
  obtain ⟨h1, h2, h3, k, c, h4, h5⟩ := h
  cases k with
  | zero => exact absurd h4.2.2.1 (sg_ne hs (by decide))
  | succ k =>
    obtain ⟨-, hlt, e', c', g1, g2, g3⟩ := h4
    rcases g1 with ⟨p, q⟩ | ⟨p, q⟩ | ⟨p, q⟩
    · exfalso; rcases p with p | p <;> exact sg_ne hs (by decide) p
    · omega
    · exact absurd (Or.inr (Or.inr (Or.inr hs))) p
theorem cI5_41 {S N : Nat → Int32} {P t d n : Int32} {tot : Nat} (h : cI5 S N P t d n tot) (hs : sg S N t 41) (hd : d.toNatClampNeg = 0) : n.toNatClampNeg = tot := by
  obtain ⟨h1, h2, h3, k, c, h4, h5⟩ := h
  cases k with
  | zero => rw [h4.2.1] at h5; exact h5
  | succ k => exact absurd ⟨hd, hs⟩ h4.1
theorem dn_cR9 {x : Int32} (h0 : 0 ≤ x) (h : x.toNatClampNeg ≠ 0) (h2 : x < 200000) : 0 ≤ x + -1 ∧ x.toNatClampNeg = (x + -1).toNatClampNeg + 1 := by
  have hx : 0 < x := by
    by_cases z : 0 < x
    · exact z
    · exact absurd (cn_zero (by clear h; grind)) h
  have e : x + -1 = x - 1 := by clear h; grind
  rw [e]
  exact ⟨by clear h e; grind, cn_pred hx (Int32.lt_trans h2 (by decide))⟩
theorem countArguments_c {C : rCx} (hC : cOK C) (P : Int32) (tot : Nat) (R : Nat → Int32) {σ : rS} {a1 : Int32} {Q : Int32 → rS → Prop} (hp : 0 ≤ a1 ∧ a1 < P ∧ P < 131074 ∧ gN (σ.2.2.1 5) (σ.2.2.1 7) R P tot (a1 + 2) ∧ tot < 131074 ∧ a1 + 2 < P) (h : ∀ (v : Int32), (0 ≤ v ∧ v.toNatClampNeg = tot) → Q v σ) : cI C 0 m_countArguments [.ref (co C), .int a1] σ Q := by
  refine m_countArguments_run hC ?_
  unfold w_countArguments_0
  obtain ⟨h0, h1, hP, hg, hnn, h2⟩ := hp
  have h20 : 0 ≤ a1 + 2 := by clear hg; grind
  have hh45 : ∀ (l2 : Int32) (l4 : Int32) (l5 : Int32) (τ : rS), (σ = τ ∧ cI5 (σ.2.2.1 5) (σ.2.2.1 7) P l2 l4 l5 tot) → w_countArguments_45 C Q  l2 l4 l5 τ := by
    intro z2 z4 z5 τi hinit
    unfold w_countArguments_45
    refine ⟨fun n l2 l4 l5 τ => n = (P - l2).toNatClampNeg ∧ (σ = τ ∧ cI5 (σ.2.2.1 5) (σ.2.2.1 7) P l2 l4 l5 tot), ⟨_, rfl, hinit⟩, ?_⟩
    clear hinit
    rintro n45 x45_2 x45_4 x45_5 _ ⟨hn45, rfl, i45⟩
    have bb := cI5_b hP hnn i45
    have hj184 : ∀ (l2 : Int32) (l4 : Int32) (s0 : Int32) (s1 : Int32) (τ : rS), (σ = τ ∧ l2 = x45_2 ∧ ¬ (x45_4.toNatClampNeg = 0 ∧ sg (σ.2.2.1 5) (σ.2.2.1 7) l2 41) ∧ 0 ≤ l4 ∧ sD (σ.2.2.1 5) (σ.2.2.1 7) l2 x45_4.toNatClampNeg l4.toNatClampNeg ∧ s0 = x45_5 ∧ s1 = (if l4 = 0 ∧ rd σ 5 l2 = 3 ∧ rd σ 7 l2 = 44 then 1 else 0)) → w_countArguments_184 C Q (fun l2' l4' l5' τ => ∃ k < n45, (fun n l2 l4 l5 τ => n = (P - l2).toNatClampNeg ∧ (σ = τ ∧ cI5 (σ.2.2.1 5) (σ.2.2.1 7) P l2 l4 l5 tot)) k l2' l4' l5' τ) l2 l4 s0 s1 τ := by
      rintro y184_2 y184_4 y184_s0 y184_s1 _ ⟨rfl, j184⟩
      unfold w_countArguments_184
      intro x1 hx1
      intro x2 hx2
      refine ⟨_, cn_lt2 hn45 ?_ ?_, rfl, ?_⟩
      · clear h; have st := cI5_st hP hnn i45 (d' := y184_4) (n' := x1) (by rw [← j184.1]; exact j184.2.1) j184.2.2.1 (by rw [← j184.1]; exact j184.2.2.2.1) (by rw [hx1, j184.2.2.2.2.1, j184.2.2.2.2.2, j184.1])
        rw [hx2, j184.1]; exact st.2.2
      · clear h; have st := cI5_st hP hnn i45 (d' := y184_4) (n' := x1) (by rw [← j184.1]; exact j184.2.1) j184.2.2.1 (by rw [← j184.1]; exact j184.2.2.2.1) (by rw [hx1, j184.2.2.2.2.1, j184.2.2.2.2.2, j184.1])
        rw [hx2, j184.1]; exact st.2.1
      · clear h; have st := cI5_st hP hnn i45 (d' := y184_4) (n' := x1) (by rw [← j184.1]; exact j184.2.1) j184.2.2.1 (by rw [← j184.1]; exact j184.2.2.2.1) (by rw [hx1, j184.2.2.2.2.1, j184.2.2.2.2.2, j184.1])
        refine ⟨rfl, ?_⟩
        rw [hx2, j184.1]; exact st.1
    have hj153 : ∀ (l2 : Int32) (l5 : Int32) (l6 : Int32) (s0 : Int32) (s1 : Int32) (τ : rS), (σ = τ ∧ l2 = x45_2 ∧ l5 = x45_5 ∧ ¬ (x45_4.toNatClampNeg = 0 ∧ sg (σ.2.2.1 5) (σ.2.2.1 7) l2 41) ∧ (l6 ≠ 0 ↔ rd σ 5 l2 = 3) ∧ 0 ≤ s0 + s1 ∧ sD (σ.2.2.1 5) (σ.2.2.1 7) l2 x45_4.toNatClampNeg (s0 + s1).toNatClampNeg) → w_countArguments_153 C Q (fun l2' l4' l5' τ => ∃ k < n45, (fun n l2 l4 l5 τ => n = (P - l2).toNatClampNeg ∧ (σ = τ ∧ cI5 (σ.2.2.1 5) (σ.2.2.1 7) P l2 l4 l5 tot)) k l2' l4' l5' τ) l2 l5 l6 s0 s1 τ := by
      rintro y153_2 y153_5 y153_6 y153_s0 y153_s1 _ ⟨rfl, j153⟩
      unfold w_countArguments_153
      intro x3 hx3
      obtain ⟨e2, e5, hs, h6, hge, hD⟩ := j153
      rw [← hx3] at hge hD
      refine ⟨fun c4 => ?_, fun c4 => ?_⟩
      · skip
        refine hj184 _ _ _ _ _ ?_
        · clear h; exact ⟨rfl, e2, hs, hge, hD, e5, (if_neg (fun z => c4 z.1)).symm⟩  -- k4
      · skip
        refine ⟨fun c5 => ?_, fun c5 => ?_⟩
        · skip
          refine hj184 _ _ _ _ _ ?_
          · clear h; exact ⟨rfl, e2, hs, hge, hD, e5, (if_neg (fun z => (h6.mpr z.2.1) c5)).symm⟩  -- k5
        · skip
          refine ⟨ib_131074.mpr ?_, ?_⟩
          · clear h; rw [e2]; exact ⟨bb.1, bb.2.1⟩  -- b6
          refine ⟨fun c6 => ?_, fun c6 => ?_⟩
          · skip
            refine hj184 _ _ _ _ _ ?_
            · clear h; exact ⟨rfl, e2, hs, hge, hD, e5, (if_neg (fun z => c6 z.2.2)).symm⟩  -- k7
          · skip
            refine hj184 _ _ _ _ _ ?_
            · clear h; exact ⟨rfl, e2, hs, hge, hD, e5, (if_pos ⟨c4, h6.mp c5, c6⟩).symm⟩  -- k8
    have hj121 : ∀ (l2 : Int32) (l5 : Int32) (l6 : Int32) (s0 : Int32) (τ : rS), (σ = τ ∧ l2 = x45_2 ∧ l5 = x45_5 ∧ s0 = x45_4 ∧ ¬ (x45_4.toNatClampNeg = 0 ∧ sg (σ.2.2.1 5) (σ.2.2.1 7) l2 41) ∧ (l6 ≠ 0 ↔ rd σ 5 l2 = 3) ∧ ¬ (sg (σ.2.2.1 5) (σ.2.2.1 7) l2 40 ∨ sg (σ.2.2.1 5) (σ.2.2.1 7) l2 91)) → w_countArguments_121 C Q (fun l2' l4' l5' τ => ∃ k < n45, (fun n l2 l4 l5 τ => n = (P - l2).toNatClampNeg ∧ (σ = τ ∧ cI5 (σ.2.2.1 5) (σ.2.2.1 7) P l2 l4 l5 tot)) k l2' l4' l5' τ) l2 l5 l6 s0 τ := by
      rintro y121_2 y121_5 y121_6 y121_s0 _ ⟨rfl, j121⟩
      unfold w_countArguments_121
      obtain ⟨e2, e5, e0, hs, h6, hb⟩ := j121
      refine ⟨fun c7 => ?_, fun c7 => ?_⟩
      · skip
        refine hj153 _ _ _ _ _ _ ?_
        · clear h; refine ⟨rfl, e2, e5, hs, h6, by rw [Int32.add_zero, e0]; exact bb.2.2.2.1, ?_⟩
          rw [Int32.add_zero, e0]
          refine Or.inr (Or.inr ⟨?_, rfl⟩)
          rintro (z | z | z | z) <;> exact (h6.mpr z.1) c7
      · skip
        refine ⟨ib_131074.mpr ?_, ?_⟩
        · clear h; rw [e2]; exact ⟨bb.1, bb.2.1⟩  -- b10
        refine ⟨fun c8 => ?_, fun c8 => ?_⟩
        · skip
          refine hj153 _ _ _ _ _ _ ?_
          · clear h; have s41 : sg (σ.2.2.1 5) (σ.2.2.1 7) y121_2 41 := ⟨h6.mp c7, c8⟩
            have u := dn_cR9 bb.2.2.2.1 (fun z => hs ⟨z, s41⟩) bb.2.2.2.2.1
            refine ⟨rfl, e2, e5, hs, h6, by rw [e0]; exact u.1, ?_⟩
            rw [e0]
            exact Or.inr (Or.inl ⟨Or.inl s41, u.2⟩)
        · skip
          refine ⟨ib_131074.mpr ?_, ?_⟩
          · clear h; rw [e2]; exact ⟨bb.1, bb.2.1⟩  -- b12
          refine ⟨fun c9 => ?_, fun c9 => ?_⟩
          · skip
            refine hj153 _ _ _ _ _ _ ?_
            · clear h; refine ⟨rfl, e2, e5, hs, h6, by rw [Int32.add_zero, e0]; exact bb.2.2.2.1, ?_⟩
              rw [Int32.add_zero, e0]
              refine Or.inr (Or.inr ⟨?_, rfl⟩)
              rintro (z | z | z | z)
              · exact hb (Or.inl z)
              · exact hb (Or.inr z)
              · exact c8 z.2
              · exact c9 z.2
          · skip
            refine hj153 _ _ _ _ _ _ ?_
            · clear h; have s93 : sg (σ.2.2.1 5) (σ.2.2.1 7) y121_2 93 := ⟨h6.mp c7, c9⟩
              have u := dn_cR9 bb.2.2.2.1 (cI5_93 i45 (by rw [← e2]; exact s93)) bb.2.2.2.2.1
              refine ⟨rfl, e2, e5, hs, h6, by rw [e0]; exact u.1, ?_⟩
              rw [e0]
              exact Or.inr (Or.inl ⟨Or.inr s93, u.2⟩)
    have hj86 : ∀ (l2 : Int32) (l4 : Int32) (l5 : Int32) (s0 : Int32) (τ : rS), (σ = τ ∧ l2 = x45_2 ∧ l4 = x45_4 ∧ l5 = x45_5 ∧ ¬ (x45_4.toNatClampNeg = 0 ∧ sg (σ.2.2.1 5) (σ.2.2.1 7) l2 41) ∧ (s0 ≠ 0 ↔ rd σ 5 l2 = 3)) → w_countArguments_86 C Q (fun l2' l4' l5' τ => ∃ k < n45, (fun n l2 l4 l5 τ => n = (P - l2).toNatClampNeg ∧ (σ = τ ∧ cI5 (σ.2.2.1 5) (σ.2.2.1 7) P l2 l4 l5 tot)) k l2' l4' l5' τ) l2 l4 l5 s0 τ := by
      rintro y86_2 y86_4 y86_5 y86_s0 _ ⟨rfl, j86⟩
      unfold w_countArguments_86
      obtain ⟨e2, e4, e5, hs, h6⟩ := j86
      have cs := cn_succ bb.2.2.2.1 (Int32.lt_trans bb.2.2.2.2.1 (by decide))
      have c0 : 0 ≤ x45_4 + 1 := by clear hs h6 i45 cs hg; grind
      refine ⟨fun c10 => ?_, fun c10 => ?_⟩
      · skip
        refine hj121 _ _ _ _ _ ?_
        · clear h; exact ⟨rfl, e2, e5, e4, hs, h6, fun z => by rcases z with z | z <;> exact (h6.mpr z.1) c10⟩  -- k15
      · skip
        refine ⟨ib_131074.mpr ?_, ?_⟩
        · clear h; rw [e2]; exact ⟨bb.1, bb.2.1⟩  -- b16
        refine ⟨fun c11 => ?_, fun c11 => ?_⟩
        · skip
          refine hj153 _ _ _ _ _ _ ?_
          · clear h; refine ⟨rfl, e2, e5, hs, h6, by rw [e4]; exact c0, ?_⟩
            rw [e4]
            exact Or.inl ⟨Or.inl ⟨h6.mp c10, c11⟩, cs⟩
        · skip
          refine ⟨ib_131074.mpr ?_, ?_⟩
          · clear h; rw [e2]; exact ⟨bb.1, bb.2.1⟩  -- b18
          refine ⟨fun c12 => ?_, fun c12 => ?_⟩
          · skip
            refine hj121 _ _ _ _ _ ?_
            · clear h; exact ⟨rfl, e2, e5, e4, hs, h6, fun z => by rcases z with z | z; exact c11 z.2; exact c12 z.2⟩  -- k19
          · skip
            refine hj153 _ _ _ _ _ _ ?_
            · clear h; refine ⟨rfl, e2, e5, hs, h6, by rw [e4]; exact c0, ?_⟩
              rw [e4]
              exact Or.inl ⟨Or.inr ⟨h6.mp c10, c12⟩, cs⟩
    have hj71 : ∀ (l2 : Int32) (l4 : Int32) (l5 : Int32) (τ : rS), (σ = τ ∧ l2 = x45_2 ∧ l4 = x45_4 ∧ l5 = x45_5 ∧ ¬ (x45_4.toNatClampNeg = 0 ∧ sg (σ.2.2.1 5) (σ.2.2.1 7) l2 41)) → w_countArguments_71 C Q (fun l2' l4' l5' τ => ∃ k < n45, (fun n l2 l4 l5 τ => n = (P - l2).toNatClampNeg ∧ (σ = τ ∧ cI5 (σ.2.2.1 5) (σ.2.2.1 7) P l2 l4 l5 tot)) k l2' l4' l5' τ) l2 l4 l5 τ := by
      rintro y71_2 y71_4 y71_5 _ ⟨rfl, j71⟩
      unfold w_countArguments_71
      refine ⟨ib_131074.mpr ?_, ?_⟩
      · clear h; rw [j71.1]; exact ⟨bb.1, bb.2.1⟩  -- b21
      refine ⟨fun c13 => ?_, fun c13 => ?_⟩
      · skip
        refine hj86 _ _ _ _ _ ?_
        · clear h; exact ⟨rfl, j71.1, j71.2.1, j71.2.2.1, j71.2.2.2, ⟨fun z => absurd rfl z, fun z => absurd z c13⟩⟩  -- k22
      · skip
        refine hj86 _ _ _ _ _ ?_
        · clear h; exact ⟨rfl, j71.1, j71.2.1, j71.2.2.1, j71.2.2.2, ⟨fun _ => c13, fun _ => by decide⟩⟩  -- k23
    refine ⟨fun c14 => ?_, fun c14 => ?_⟩
    · skip
      refine hj71 _ _ _ _ ?_
      · clear h; refine ⟨rfl, rfl, rfl, rfl, fun z => ?_⟩
        have := cn_pred c14 (Int32.lt_trans bb.2.2.2.2.1 (by decide))
        omega
    · skip
      refine ⟨ib_131074.mpr ?_, ?_⟩
      · clear h; exact ⟨bb.1, bb.2.1⟩  -- b25
      refine ⟨fun c15 => ?_, fun c15 => ?_⟩
      · skip
        refine hj71 _ _ _ _ ?_
        · clear h; exact ⟨rfl, rfl, rfl, rfl, fun z => c15 z.2.1⟩  -- k26
      · skip
        refine ⟨ib_131074.mpr ?_, ?_⟩
        · clear h; exact ⟨bb.1, bb.2.1⟩  -- b27
        refine ⟨fun c16 => ?_, fun c16 => ?_⟩
        · skip
          refine h _ ?_
          · clear h; refine ⟨bb.2.2.2.2.2.1, cI5_41 i45 ⟨c15, c16⟩ (cn_zero (Int32.not_lt.mp c14))⟩  -- q28
        · skip
          refine hj71 _ _ _ _ ?_
          · clear h; exact ⟨rfl, rfl, rfl, rfl, fun z => c16 z.2.2⟩  -- k29
  have hj30 : ∀ (l2 : Int32) (s0 : Int32) (τ : rS), (σ = τ ∧ l2 = a1 + 2 ∧ (s0 ≠ 0 ↔ sg (σ.2.2.1 5) (σ.2.2.1 7) (a1 + 2) 41)) → w_countArguments_30 C Q  l2 s0 τ := by
    rintro y30_2 y30_s0 _ ⟨rfl, j30⟩
    unfold w_countArguments_30
    refine ⟨fun c17 => ?_, fun c17 => ?_⟩
    · skip
      refine hh45 _ _ _ _ ?_
      · clear h; refine ⟨rfl, by rw [j30.1]; exact h20, by decide, by decide, ?_⟩
        rw [j30.1]
        cases tot with
        | zero => exact absurd c17 (j30.2.mpr hg.1)
        | succ q =>
          obtain ⟨m, hm⟩ := rm_B hg
          exact ⟨m, q, hm, Nat.add_comm _ _⟩
    · skip
      refine hh45 _ _ _ _ ?_
      · clear h; refine ⟨rfl, by rw [j30.1]; exact h20, by decide, by decide, ?_⟩
        rw [j30.1]
        have s41 := j30.2.mp c17
        cases tot with
        | zero => exact ⟨0, 0, ⟨rfl, rfl, s41, h2⟩, rfl⟩
        | succ q =>
          exfalso
          cases q with
          | zero => obtain ⟨e, z, -⟩ := hg; exact ePa_first z s41
          | succ q => obtain ⟨e, z, -⟩ := hg; exact ePa_first z s41
  intro x18 hx18
  refine ⟨ib_131074.mpr ?_, ?_⟩
  · clear h; rw [hx18]; exact ⟨h20, Int32.lt_trans h2 hP⟩  -- b32
  refine ⟨fun c19 => ?_, fun c19 => ?_⟩
  · skip
    refine hj30 _ _ _ ?_
    · clear h; exact ⟨rfl, hx18, ⟨fun z => absurd rfl z, fun z => absurd (by rw [hx18]; exact z.1) c19⟩⟩  -- k33
  · skip
    refine ⟨ib_131074.mpr ?_, ?_⟩
    · clear h; rw [hx18]; exact ⟨h20, Int32.lt_trans h2 hP⟩  -- b34
    refine ⟨fun c20 => ?_, fun c20 => ?_⟩
    · skip
      refine hj30 _ _ _ ?_
      · clear h; exact ⟨rfl, hx18, ⟨fun z => absurd rfl z, fun z => absurd (by rw [hx18]; exact z.2) c20⟩⟩  -- k35
    · skip
      refine hj30 _ _ _ ?_
      · clear h; exact ⟨rfl, hx18, ⟨fun _ => by rw [hx18] at c19 c20; exact ⟨c19, c20⟩, fun _ => by decide⟩⟩  -- k36
