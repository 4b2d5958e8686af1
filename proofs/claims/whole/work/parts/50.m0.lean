section
set_option maxHeartbeats 1600000
/-! the reference: a call's arguments, counted -/
/-- one step of the count: the depth behind a token -/
def sD (S N : Nat → Int32) (t : Int32) (d d' : Nat) : Prop := ((sg S N t 40 ∨ sg S N t 91) ∧ d' = d + 1) ∨ ((sg S N t 41 ∨ sg S N t 93) ∧ d = d' + 1) ∨ (¬ (sg S N t 40 ∨ sg S N t 91 ∨ sg S N t 41 ∨ sg S N t 93) ∧ d' = d)
/-- k tokens from token t on, depth d, c commas at depth 0, then the closing bracket -/
def rm (S N : Nat → Int32) (P : Int32) : Nat → Int32 → Nat → Nat → Prop
  | 0, t, d, c => d = 0 ∧ c = 0 ∧ sg S N t 41 ∧ t < P
  | k + 1, t, d, c => ¬ (d = 0 ∧ sg S N t 41) ∧ t < P ∧ ∃ d' c', sD S N t d d' ∧ c = c' + (if d' = 0 ∧ S t.toNatClampNeg = 3 ∧ N t.toNatClampNeg = 44 then 1 else 0) ∧ rm S N P k (t + 1) d' c'
theorem rm_one {S N : Nat → Int32} {P t : Int32} {k d d' c : Nat} (h : rm S N P k (t + 1) d' c) (hD : sD S N t d d') (h1 : ¬ (d = 0 ∧ sg S N t 41)) (h2 : ¬ sg S N t 44) (hP : t < P) : rm S N P (k + 1) t d c :=
  ⟨h1, hP, d', c, hD, by rw [if_neg (fun z => h2 z.2)]; rfl, h⟩
theorem sg_ne {S N : Nat → Int32} {t a b : Int32} (h : sg S N t a) (hab : a ≠ b) : ¬ sg S N t b := fun z => hab (h.2.symm.trans z.2)
theorem S_ne {S N : Nat → Int32} {t a b : Int32} (h : S t.toNatClampNeg = a) (hab : a ≠ 3) : ¬ sg S N t b := fun z => hab (h.symm.trans z.1)
theorem rk_ne {c x : Int32} (h : 0 < rk c) (hx : x = 40 ∨ x = 41 ∨ x = 44 ∨ x = 91 ∨ x = 93) : c ≠ x := by
  rintro rfl
  rcases hx with rfl | rfl | rfl | rfl | rfl <;> exact absurd h (by decide)
theorem eOp_first {S N R : Nat → Int32} {a st' a' : Int32} {W W' : eL} (h : eOp S N R a W st' a' W') : ¬ sg S N a 41 := by
  obtain ⟨-, h⟩ := h
  rcases h with ⟨q, -⟩ | ⟨q, -⟩ | ⟨q, -⟩ | ⟨q, -⟩ | ⟨q, -⟩ | ⟨q, -⟩
  · exact sg_ne q (by decide)
  · exact sg_ne q (by decide)
  · exact sg_ne q (by decide)
  · exact S_ne q (by decide)
  · exact S_ne q (by decide)
  · exact S_ne q (by decide)
theorem ePa_first {S N R : Nat → Int32} {a e : Int32} (h : ePa S N R a e) : ¬ sg S N a 41 := by
  obtain ⟨n, hn⟩ := h
  cases n with
  | zero => exact absurd hn.1 (by decide)
  | succ n =>
    obtain ⟨s0, a0, W0, s1, a1, W1, ⟨rfl, rfl, rfl⟩, g⟩ := eTo_pre (Nat.succ_pos n) hn
    rcases g with ⟨-, g⟩ | ⟨z, -⟩
    · exact eOp_first g
    · exact absurd z (by decide)
/-- over an expression -/
theorem rm_e {S N R : Nat → Int32} {P A : Int32} {m : Nat} : ∀ {st a : Int32} {W : eL} {k d c : Nat}, eTo S N R A m st a W → rm S N P k a (d + nbr W) c → a < P → ∃ k', rm S N P k' A d c := by
  induction m with
  | zero =>
    rintro st a W k d c ⟨-, rfl, rfl⟩ h _
    exact ⟨k, h⟩
  | succ m ih =>
    rintro st a W k d c ⟨st0, a0, W0, h1, h2, h3⟩ h hP
    have hP0 : a0 < P := by rcases h3 with q | q; exact Int32.lt_trans q hP; exact q.2 ▸ hP
    have same : ∀ {d2 : Nat}, ¬ (sg S N a0 40 ∨ sg S N a0 91 ∨ sg S N a0 41 ∨ sg S N a0 93) → sD S N a0 d2 d2 := fun z => Or.inr (Or.inr ⟨z, rfl⟩)
    rcases h2 with ⟨rfl, -, h2⟩ | ⟨rfl, h2⟩
    · rcases h2 with ⟨q, -, rfl, rfl⟩ | ⟨q, -, rfl, rfl⟩ | ⟨q, -, -, rfl, rfl⟩ | ⟨q, -, rfl, rfl⟩ | ⟨q, q1, -, -, qs, rfl, rfl⟩ | ⟨q, -, -, -, -, rfl, rfl⟩
      · rw [nbr_cons, if_neg (by decide)] at h
        refine ih h1 (rm_one h (same ?_) (fun z => sg_ne q (by decide) z.2) (sg_ne q (by decide)) hP0) hP0
        rintro (z | z | z | z) <;> exact sg_ne q (by decide) z
      · rw [nbr_cons, if_neg (by decide)] at h
        refine ih h1 (rm_one h (same ?_) (fun z => sg_ne q (by decide) z.2) (sg_ne q (by decide)) hP0) hP0
        rintro (z | z | z | z) <;> exact sg_ne q (by decide) z
      · rw [nbr_cons, if_pos (by decide)] at h
        exact ih h1 (rm_one (d := d + nbr W0) h (Or.inl ⟨Or.inl q, rfl⟩) (fun z => sg_ne q (by decide) z.2) (sg_ne q (by decide)) hP0) hP0
      · rw [turn_nbr] at h
        refine ih h1 (rm_one h (same ?_) (fun z => S_ne q (by decide) z.2) (S_ne q (by decide)) hP0) hP0
        rintro (z | z | z | z) <;> exact S_ne q (by decide) z
      · rw [nbr_cons, if_pos (Or.inr rfl)] at h
        have lt1 : a0 + 1 < P := by
          rcases h3 with z | z
          · clear h h1 ih same; grind
          · exact absurd (qs.symm.trans z.1) (by decide)
        have e2 : a0 + 2 = a0 + 1 + 1 := by clear h h1 ih; grind
        rw [e2] at h
        have hb := rm_one (d := d + nbr W0) h (Or.inl ⟨Or.inr q1, rfl⟩) (fun z => sg_ne q1 (by decide) z.2) (sg_ne q1 (by decide)) lt1
        refine ih h1 (rm_one hb (same ?_) (fun z => S_ne q (by decide) z.2) (S_ne q (by decide)) hP0) hP0
        rintro (z | z | z | z) <;> exact S_ne q (by decide) z
      · rw [turn_nbr] at h
        refine ih h1 (rm_one h (same ?_) (fun z => S_ne q (by decide) z.2) (S_ne q (by decide)) hP0) hP0
        rintro (z | z | z | z) <;> exact S_ne q (by decide) z
    · rcases h2 with ⟨-, g, -, rfl, rfl⟩ | ⟨-, ⟨e1, rfl, rfl, rfl⟩ | ⟨-, q, -, rfl, f, W2, e1, rfl⟩ | ⟨-, q, -, rfl, f, W2, e1, rfl⟩⟩
      · have r := eRk_pos g.1
        rw [nbr_cons, if_neg (by rintro (z | z); exact rk_ne r.2 (by decide) z; exact rk_ne r.2 (by decide) z), Nat.add_zero, pop_nbr] at h
        have ns : ∀ x, (x = 40 ∨ x = 41 ∨ x = 44 ∨ x = 91 ∨ x = 93) → ¬ sg S N a0 x := fun x hx z => rk_ne r.2 hx z.2
        refine ih h1 (rm_one h (same ?_) (fun z => ns 41 (by decide) z.2) (ns 44 (by decide)) hP0) hP0
        rintro (z | z | z | z)
        · exact ns 40 (by decide) z
        · exact ns 91 (by decide) z
        · exact ns 41 (by decide) z
        · exact ns 93 (by decide) z
      · have : nbr W0 = 0 := by rw [← pop_nbr (l := eLv (eRk S N a)), ← pop_nbr (l := 1), e1]; rfl
        refine ih (k := k) h1 ?_ hP0
        rw [this]; exact h
      · have : nbr W0 = nbr W2 + 1 := by rw [← pop_nbr (l := eLv (eRk S N a0)), ← pop_nbr (l := 1), e1, nbr_cons, if_pos (Or.inl rfl)]
        rw [turn_nbr] at h
        refine ih h1 (rm_one (d := d + nbr W0) h (Or.inr (Or.inl ⟨Or.inl q, by omega⟩)) (fun z => by omega) (sg_ne q (by decide)) hP0) hP0
      · have : nbr W0 = nbr W2 + 1 := by rw [← pop_nbr (l := eLv (eRk S N a0)), ← pop_nbr (l := 1), e1, nbr_cons, if_pos (Or.inr rfl)]
        rw [turn_nbr] at h
        refine ih h1 (rm_one (d := d + nbr W0) h (Or.inr (Or.inl ⟨Or.inr q, by omega⟩)) (fun z => by omega) (sg_ne q (by decide)) hP0) hP0
theorem rm_B {S N R : Nat → Int32} {P : Int32} {k : Nat} : ∀ {a : Int32}, gB S N R P k a → ∃ m, rm S N P m a 0 k := by
  induction k with
  | zero =>
    rintro a ⟨e, ⟨n, h1⟩, h2, h3, h4⟩
    exact rm_e (k := 0) (d := 0) h1 ⟨rfl, rfl, h4, h3⟩ h3
  | succ k ih =>
    rintro a ⟨e, ⟨n, h1⟩, h2, h3, h4, h5⟩
    obtain ⟨m, hm⟩ := ih h5
    refine rm_e (k := m + 1) (d := 0) h1 ⟨fun z => sg_ne h4 (by decide) z.2, h3, 0, k, Or.inr (Or.inr ⟨?_, rfl⟩), ?_, hm⟩ h3
    · rintro (z | z | z | z) <;> exact sg_ne h4 (by decide) z
    · rw [if_pos ⟨rfl, h4.1, h4.2⟩]
theorem rm_le {S N : Nat → Int32} {P : Int32} {k : Nat} : ∀ {t : Int32} {d c : Nat}, rm S N P k t d c → d ≤ k ∧ c ≤ k := by
  induction k with
  | zero => rintro t d c ⟨rfl, rfl, -⟩; exact ⟨Nat.le_refl _, Nat.le_refl _⟩
  | succ k ih =>
    rintro t d c ⟨-, -, d', c', h1, h2, h3⟩
    have := ih h3
    refine ⟨?_, by split at h2 <;> omega⟩
    rcases h1 with ⟨-, z⟩ | ⟨-, z⟩ | ⟨-, z⟩ <;> omega
theorem rm_k {S N : Nat → Int32} {P : Int32} (hP : P < 131074) {k : Nat} : ∀ {t : Int32} {d c : Nat}, 0 ≤ t → rm S N P k t d c → t.toInt + k < P.toInt := by
  induction k with
  | zero => rintro t d c h0 ⟨-, -, -, h⟩; have := Int32.lt_iff_toInt_lt.mp h; omega
  | succ k ih =>
    rintro t d c h0 ⟨-, h1, d', c', -, -, h3⟩
    have hT := Int32.lt_iff_toInt_lt.mp hP
    rw [show (131074 : Int32).toInt = 131074 from rfl] at hT
    have h1' := Int32.lt_iff_toInt_lt.mp h1
    have h0' := Int32.le_iff_toInt_le.mp h0
    rw [Int32.toInt_zero] at h0'
    have e : (t + 1).toInt = t.toInt + 1 := i_add h0 (by decide) (by rw [show (1 : Int32).toInt = 1 from rfl]; omega)
    have := ih (by rw [Int32.le_iff_toInt_le, Int32.toInt_zero, e]; omega) h3
    omega
theorem sD_det {S N : Nat → Int32} {t : Int32} {d d1 d2 : Nat} (h1 : sD S N t d d1) (h2 : sD S N t d d2) : d1 = d2 := by
  rcases h1 with ⟨p, q⟩ | ⟨p, q⟩ | ⟨p, q⟩ <;> rcases h2 with ⟨r, s⟩ | ⟨r, s⟩ | ⟨r, s⟩
  · omega
  · exfalso; rcases p with p | p <;> rcases r with r | r <;> exact sg_ne p (by decide) r
  · exact absurd (p.elim Or.inl (fun z => Or.inr (Or.inl z))) r
  · exfalso; rcases p with p | p <;> rcases r with r | r <;> exact sg_ne p (by decide) r
  · omega
  · exact absurd (p.elim (fun z => Or.inr (Or.inr (Or.inl z))) (fun z => Or.inr (Or.inr (Or.inr z)))) r
  · exact absurd (r.elim Or.inl (fun z => Or.inr (Or.inl z))) p
  · exact absurd (r.elim (fun z => Or.inr (Or.inr (Or.inl z))) (fun z => Or.inr (Or.inr (Or.inr z)))) p
  · omega
/-- where the count stands -/
def cI5 (S N : Nat → Int32) (P t d n : Int32) (tot : Nat) : Prop := 0 ≤ t ∧ 0 ≤ d ∧ 0 ≤ n ∧ ∃ k c, rm S N P k t d.toNatClampNeg c ∧ n.toNatClampNeg + c = tot
theorem cn_lt6 {x : Int32} {n : Nat} (h0 : 0 ≤ x) (h : x.toNatClampNeg ≤ n) (hn : n < 200000) : x < 200000 := by
  have h3 : x.toNatClampNeg = x.toInt.toNat := rfl
  rw [Int32.le_iff_toInt_le, Int32.toInt_zero] at h0
  rw [Int32.lt_iff_toInt_lt, show (200000 : Int32).toInt = 200000 from rfl]
  omega
theorem cI5_b {S N : Nat → Int32} {P t d n : Int32} {tot : Nat} (hP : P < 131074) (ht : tot < 131074) (h : cI5 S N P t d n tot) : 0 ≤ t ∧ t < 131074 ∧ t < P ∧ 0 ≤ d ∧ d < 200000 ∧ 0 ≤ n ∧ n < 200000 := by
  obtain ⟨h1, h2, h3, k, c, h4, h5⟩ := h
  have hk := rm_k hP h1 h4
  have hl := rm_le h4
  have hT := Int32.lt_iff_toInt_lt.mp hP
  rw [show (131074 : Int32).toInt = 131074 from rfl] at hT
  have h1' := Int32.le_iff_toInt_le.mp h1
  rw [Int32.toInt_zero] at h1'
  have tP : t < P := by rw [Int32.lt_iff_toInt_lt]; omega
  exact ⟨h1, Int32.lt_trans tP hP, tP, h2, cn_lt6 h2 (n := k) hl.1 (by omega), h3, cn_lt6 h3 (n := tot) (by omega) (by omega)⟩
/-- one token further -/
theorem cI5_st {S N : Nat → Int32} {P t d n d' n' : Int32} {tot : Nat} (hP : P < 131074) (ht : tot < 131074) (h : cI5 S N P t d n tot) (hs : ¬ (d.toNatClampNeg = 0 ∧ sg S N t 41)) (hd0 : 0 ≤ d') (hd : sD S N t d.toNatClampNeg d'.toNatClampNeg) (hn : n' = n + (if d' = 0 ∧ S t.toNatClampNeg = 3 ∧ N t.toNatClampNeg = 44 then 1 else 0)) : cI5 S N P (t + 1) d' n' tot ∧ P - (t + 1) < P - t ∧ 0 ≤ P - (t + 1) := by
  have b := cI5_b hP ht h
  obtain ⟨h1, h2, h3, k, c, h4, h5⟩ := h
  cases k with
  | zero => exact absurd ⟨h4.1, h4.2.2.1⟩ hs
  | succ k =>
    obtain ⟨-, hlt, e', c', g1, g2, g3⟩ := h4
    have ed := sD_det hd g1
    subst ed
    have cz : (d'.toNatClampNeg = 0 ∧ S t.toNatClampNeg = 3 ∧ N t.toNatClampNeg = 44) ↔ (d' = 0 ∧ S t.toNatClampNeg = 3 ∧ N t.toNatClampNeg = 44) := ⟨fun z => ⟨cn_inj hd0 (by decide) (by rw [z.1]; rfl), z.2⟩, fun z => ⟨by rw [z.1]; rfl, z.2⟩⟩
    have hk := rm_k hP (by clear g1 g3 hd h5; grind) g3
    refine ⟨⟨by clear g1 g3 hd h5; grind, hd0, ?_, k, c', g3, ?_⟩, ?_, ?_⟩
    · rw [hn]; split <;> (clear g1 g3 hd h5 g2; grind)
    · rw [hn]
      by_cases z : d' = 0 ∧ S t.toNatClampNeg = 3 ∧ N t.toNatClampNeg = 44
      · rw [if_pos (cz.mpr z)] at g2
        rw [if_pos z, cn_succ h3 (Int32.lt_trans b.2.2.2.2.2.2 (by decide))]; omega
      · rw [if_neg (fun y => z (cz.mp y))] at g2
        rw [if_neg z, Int32.add_zero]; omega
    · clear g1 g3 hd h5 g2 cz; grind
    · clear g1 g3 hd h5 g2 cz; grind
theorem cI5_93 {S N : Nat → Int32} {P t d n : Int32} {tot : Nat} (h : cI5 S N P t d n tot) (hs : sg S N t 93) : d.toNatClampNeg ≠ 0 := by
  obtain ⟨h1, h2, h3, k, c, h4, h5⟩ := h
  cases k with
  | zero => exact absurd h4.2.2.1 (sg_ne hs (by decide))
  | succ k =>
    obtain ⟨-, hlt, e', c', g1, g2, g3⟩ := h4
    rcases g1 with ⟨p, q⟩ | ⟨p, q⟩ | ⟨p, q⟩
    · exfalso; rcases p with p | p <;> exact sg_ne hs (by decide) p
    · omega
    · exact absurd (Or.inr (Or.inr (Or.inr hs))) p
theorem cI5_41 {S N : Nat → Int32} {P t d n : Int32} {tot : Nat} (h : cI5 S N P t d n tot) (hs : sg S N t 41) (hd : d.toNatClampNeg = 0) : n.toNatClampNeg = tot := by
  obtain ⟨h1, h2, h3, k, c, h4, h5⟩ := h
  cases k with
  | zero => rw [h4.2.1] at h5; exact h5
  | succ k => exact absurd ⟨hd, hs⟩ h4.1
theorem dn_cR9 {x : Int32} (h0 : 0 ≤ x) (h : x.toNatClampNeg ≠ 0) (h2 : x < 200000) : 0 ≤ x + -1 ∧ x.toNatClampNeg = (x + -1).toNatClampNeg + 1 := by
  have hx : 0 < x := by
    by_cases z : 0 < x
    · exact z
    · exact absurd (cn_zero (by clear h; grind)) h
  have e : x + -1 = x - 1 := by clear h; grind
  rw [e]
  exact ⟨by clear h e; grind, cn_pred hx (Int32.lt_trans h2 (by decide))⟩
theorem countArguments_c {C : rCx} (hC : cOK C) (P : Int32) (tot : Nat) (R : Nat → Int32) {σ : rS} {a1 : Int32} {Q : Int32 → rS → Prop} (hp : 0 ≤ a1 ∧ a1 < P ∧ P < 131074 ∧ gN (σ.2.2.1 5) (σ.2.2.1 7) R P tot (a1 + 2) ∧ tot < 131074 ∧ a1 + 2 < P) (h : ∀ (v : Int32), (0 ≤ v ∧ v.toNatClampNeg = tot) → Q v σ) : cI C 0 m_countArguments [.ref (co C), .int a1] σ Q := by
  refine m_countArguments_run hC ?_
  unfold w_countArguments_0
  obtain ⟨h0, h1, hP, hg, hnn, h2⟩ := hp
  have h20 : 0 ≤ a1 + 2 := by clear hg; grind
  have hh45 : ∀ (l2 : Int32) (l4 : Int32) (l5 : Int32) (τ : rS), (σ = τ ∧ cI5 (σ.2.2.1 5) (σ.2.2.1 7) P l2 l4 l5 tot) → w_countArguments_45 C Q  l2 l4 l5 τ := by
    intro z2 z4 z5 τi hinit
    unfold w_countArguments_45
    refine ⟨fun n l2 l4 l5 τ => n = (P - l2).toNatClampNeg ∧ (σ = τ ∧ cI5 (σ.2.2.1 5) (σ.2.2.1 7) P l2 l4 l5 tot), ⟨_, rfl, hinit⟩, ?_⟩
    clear hinit
    rintro n45 x45_2 x45_4 x45_5 _ ⟨hn45, rfl, i45⟩
    have bb := cI5_b hP hnn i45
    have hj184 : ∀ (l2 : Int32) (l4 : Int32) (s0 : Int32) (s1 : Int32) (τ : rS), (σ = τ ∧ l2 = x45_2 ∧ ¬ (x45_4.toNatClampNeg = 0 ∧ sg (σ.2.2.1 5) (σ.2.2.1 7) l2 41) ∧ 0 ≤ l4 ∧ sD (σ.2.2.1 5) (σ.2.2.1 7) l2 x45_4.toNatClampNeg l4.toNatClampNeg ∧ s0 = x45_5 ∧ s1 = (if l4 = 0 ∧ rd σ 5 l2 = 3 ∧ rd σ 7 l2 = 44 then 1 else 0)) → w_countArguments_184 C Q (fun l2' l4' l5' τ => ∃ k < n45, (fun n l2 l4 l5 τ => n = (P - l2).toNatClampNeg ∧ (σ = τ ∧ cI5 (σ.2.2.1 5) (σ.2.2.1 7) P l2 l4 l5 tot)) k l2' l4' l5' τ) l2 l4 s0 s1 τ := by
      rintro y184_2 y184_4 y184_s0 y184_s1 _ ⟨rfl, j184⟩
      unfold w_countArguments_184
      intro x1 hx1
      intro x2 hx2
      refine ⟨_, cn_lt2 hn45 ?_ ?_, rfl, ?_⟩
      · clear h; have st := cI5_st hP hnn i45 (d' := y184_4) (n' := x1) (by rw [← j184.1]; exact j184.2.1) j184.2.2.1 (by rw [← j184.1]; exact j184.2.2.2.1) (by rw [hx1, j184.2.2.2.2.1, j184.2.2.2.2.2, j184.1])
        rw [hx2, j184.1]; exact st.2.2
      · clear h; have st := cI5_st hP hnn i45 (d' := y184_4) (n' := x1) (by rw [← j184.1]; exact j184.2.1) j184.2.2.1 (by rw [← j184.1]; exact j184.2.2.2.1) (by rw [hx1, j184.2.2.2.2.1, j184.2.2.2.2.2, j184.1])
        rw [hx2, j184.1]; exact st.2.1
      · clear h; have st := cI5_st hP hnn i45 (d' := y184_4) (n' := x1) (by rw [← j184.1]; exact j184.2.1) j184.2.2.1 (by rw [← j184.1]; exact j184.2.2.2.1) (by rw [hx1, j184.2.2.2.2.1, j184.2.2.2.2.2, j184.1])
        refine ⟨rfl, ?_⟩
        rw [hx2, j184.1]; exact st.1
    have hj153 : ∀ (l2 : Int32) (l5 : Int32) (l6 : Int32) (s0 : Int32) (s1 : Int32) (τ : rS), (σ = τ ∧ l2 = x45_2 ∧ l5 = x45_5 ∧ ¬ (x45_4.toNatClampNeg = 0 ∧ sg (σ.2.2.1 5) (σ.2.2.1 7) l2 41) ∧ (l6 ≠ 0 ↔ rd σ 5 l2 = 3) ∧ 0 ≤ s0 + s1 ∧ sD (σ.2.2.1 5) (σ.2.2.1 7) l2 x45_4.toNatClampNeg (s0 + s1).toNatClampNeg) → w_countArguments_153 C Q (fun l2' l4' l5' τ => ∃ k < n45, (fun n l2 l4 l5 τ => n = (P - l2).toNatClampNeg ∧ (σ = τ ∧ cI5 (σ.2.2.1 5) (σ.2.2.1 7) P l2 l4 l5 tot)) k l2' l4' l5' τ) l2 l5 l6 s0 s1 τ := by
      rintro y153_2 y153_5 y153_6 y153_s0 y153_s1 _ ⟨rfl, j153⟩
      unfold w_countArguments_153
      intro x3 hx3
      obtain ⟨e2, e5, hs, h6, hge, hD⟩ := j153
      rw [← hx3] at hge hD
      refine ⟨fun c4 => ?_, fun c4 => ?_⟩
      · skip
        refine hj184 _ _ _ _ _ ?_
        · clear h; exact ⟨rfl, e2, hs, hge, hD, e5, (if_neg (fun z => c4 z.1)).symm⟩  -- k4
      · skip
        refine ⟨fun c5 => ?_, fun c5 => ?_⟩
        · skip
          refine hj184 _ _ _ _ _ ?_
          · clear h; exact ⟨rfl, e2, hs, hge, hD, e5, (if_neg (fun z => (h6.mpr z.2.1) c5)).symm⟩  -- k5
        · skip
          refine ⟨ib_131074.mpr ?_, ?_⟩
          · clear h; rw [e2]; exact ⟨bb.1, bb.2.1⟩  -- b6
          refine ⟨fun c6 => ?_, fun c6 => ?_⟩
          · skip
            refine hj184 _ _ _ _ _ ?_
            · clear h; exact ⟨rfl, e2, hs, hge, hD, e5, (if_neg (fun z => c6 z.2.2)).symm⟩  -- k7
          · skip
            refine hj184 _ _ _ _ _ ?_
            · clear h; exact ⟨rfl, e2, hs, hge, hD, e5, (if_pos ⟨c4, h6.mp c5, c6⟩).symm⟩  -- k8
    have hj121 : ∀ (l2 : Int32) (l5 : Int32) (l6 : Int32) (s0 : Int32) (τ : rS), (σ = τ ∧ l2 = x45_2 ∧ l5 = x45_5 ∧ s0 = x45_4 ∧ ¬ (x45_4.toNatClampNeg = 0 ∧ sg (σ.2.2.1 5) (σ.2.2.1 7) l2 41) ∧ (l6 ≠ 0 ↔ rd σ 5 l2 = 3) ∧ ¬ (sg (σ.2.2.1 5) (σ.2.2.1 7) l2 40 ∨ sg (σ.2.2.1 5) (σ.2.2.1 7) l2 91)) → w_countArguments_121 C Q (fun l2' l4' l5' τ => ∃ k < n45, (fun n l2 l4 l5 τ => n = (P - l2).toNatClampNeg ∧ (σ = τ ∧ cI5 (σ.2.2.1 5) (σ.2.2.1 7) P l2 l4 l5 tot)) k l2' l4' l5' τ) l2 l5 l6 s0 τ := by
      rintro y121_2 y121_5 y121_6 y121_s0 _ ⟨rfl, j121⟩
      unfold w_countArguments_121
      obtain ⟨e2, e5, e0, hs, h6, hb⟩ := j121
      refine ⟨fun c7 => ?_, fun c7 => ?_⟩
      · skip
        refine hj153 _ _ _ _ _ _ ?_
        · clear h; refine ⟨rfl, e2, e5, hs, h6, by rw [Int32.add_zero, e0]; exact bb.2.2.2.1, ?_⟩
          rw [Int32.add_zero, e0]
          refine Or.inr (Or.inr ⟨?_, rfl⟩)
          rintro (z | z | z | z) <;> exact (h6.mpr z.1) c7
      · skip
        refine ⟨ib_131074.mpr ?_, ?_⟩
        · clear h; rw [e2]; exact ⟨bb.1, bb.2.1⟩  -- b10
        refine ⟨fun c8 => ?_, fun c8 => ?_⟩
        · skip
          refine hj153 _ _ _ _ _ _ ?_
          · clear h; have s41 : sg (σ.2.2.1 5) (σ.2.2.1 7) y121_2 41 := ⟨h6.mp c7, c8⟩
            have u := dn_cR9 bb.2.2.2.1 (fun z => hs ⟨z, s41⟩) bb.2.2.2.2.1
            refine ⟨rfl, e2, e5, hs, h6, by rw [e0]; exact u.1, ?_⟩
            rw [e0]
            exact Or.inr (Or.inl ⟨Or.inl s41, u.2⟩)
        · skip
          refine ⟨ib_131074.mpr ?_, ?_⟩
          · clear h; rw [e2]; exact ⟨bb.1, bb.2.1⟩  -- b12
          refine ⟨fun c9 => ?_, fun c9 => ?_⟩
          · skip
            refine hj153 _ _ _ _ _ _ ?_
            · clear h; refine ⟨rfl, e2, e5, hs, h6, by rw [Int32.add_zero, e0]; exact bb.2.2.2.1, ?_⟩
              rw [Int32.add_zero, e0]
              refine Or.inr (Or.inr ⟨?_, rfl⟩)
              rintro (z | z | z | z)
              · exact hb (Or.inl z)
              · exact hb (Or.inr z)
              · exact c8 z.2
              · exact c9 z.2
          · skip
            refine hj153 _ _ _ _ _ _ ?_
            · clear h; have s93 : sg (σ.2.2.1 5) (σ.2.2.1 7) y121_2 93 := ⟨h6.mp c7, c9⟩
              have u := dn_cR9 bb.2.2.2.1 (cI5_93 i45 (by rw [← e2]; exact s93)) bb.2.2.2.2.1
              refine ⟨rfl, e2, e5, hs, h6, by rw [e0]; exact u.1, ?_⟩
              rw [e0]
              exact Or.inr (Or.inl ⟨Or.inr s93, u.2⟩)
    have hj86 : ∀ (l2 : Int32) (l4 : Int32) (l5 : Int32) (s0 : Int32) (τ : rS), (σ = τ ∧ l2 = x45_2 ∧ l4 = x45_4 ∧ l5 = x45_5 ∧ ¬ (x45_4.toNatClampNeg = 0 ∧ sg (σ.2.2.1 5) (σ.2.2.1 7) l2 41) ∧ (s0 ≠ 0 ↔ rd σ 5 l2 = 3)) → w_countArguments_86 C Q (fun l2' l4' l5' τ => ∃ k < n45, (fun n l2 l4 l5 τ => n = (P - l2).toNatClampNeg ∧ (σ = τ ∧ cI5 (σ.2.2.1 5) (σ.2.2.1 7) P l2 l4 l5 tot)) k l2' l4' l5' τ) l2 l4 l5 s0 τ := by
      rintro y86_2 y86_4 y86_5 y86_s0 _ ⟨rfl, j86⟩
      unfold w_countArguments_86
      obtain ⟨e2, e4, e5, hs, h6⟩ := j86
      have cs := cn_succ bb.2.2.2.1 (Int32.lt_trans bb.2.2.2.2.1 (by decide))
      have c0 : 0 ≤ x45_4 + 1 := by clear hs h6 i45 cs hg; grind
      refine ⟨fun c10 => ?_, fun c10 => ?_⟩
      · skip
        refine hj121 _ _ _ _ _ ?_
        · clear h; exact ⟨rfl, e2, e5, e4, hs, h6, fun z => by rcases z with z | z <;> exact (h6.mpr z.1) c10⟩  -- k15
      · skip
        refine ⟨ib_131074.mpr ?_, ?_⟩
        · clear h; rw [e2]; exact ⟨bb.1, bb.2.1⟩  -- b16
        refine ⟨fun c11 => ?_, fun c11 => ?_⟩
        · skip
          refine hj153 _ _ _ _ _ _ ?_
          · clear h; refine ⟨rfl, e2, e5, hs, h6, by rw [e4]; exact c0, ?_⟩
            rw [e4]
            exact Or.inl ⟨Or.inl ⟨h6.mp c10, c11⟩, cs⟩
        · skip
          refine ⟨ib_131074.mpr ?_, ?_⟩
          · clear h; rw [e2]; exact ⟨bb.1, bb.2.1⟩  -- b18
          refine ⟨fun c12 => ?_, fun c12 => ?_⟩
          · skip
            refine hj121 _ _ _ _ _ ?_
            · clear h; exact ⟨rfl, e2, e5, e4, hs, h6, fun z => by rcases z with z | z; exact c11 z.2; exact c12 z.2⟩  -- k19
          · skip
            refine hj153 _ _ _ _ _ _ ?_
            · clear h; refine ⟨rfl, e2, e5, hs, h6, by rw [e4]; exact c0, ?_⟩
              rw [e4]
              exact Or.inl ⟨Or.inr ⟨h6.mp c10, c12⟩, cs⟩
    have hj71 : ∀ (l2 : Int32) (l4 : Int32) (l5 : Int32) (τ : rS), (σ = τ ∧ l2 = x45_2 ∧ l4 = x45_4 ∧ l5 = x45_5 ∧ ¬ (x45_4.toNatClampNeg = 0 ∧ sg (σ.2.2.1 5) (σ.2.2.1 7) l2 41)) → w_countArguments_71 C Q (fun l2' l4' l5' τ => ∃ k < n45, (fun n l2 l4 l5 τ => n = (P - l2).toNatClampNeg ∧ (σ = τ ∧ cI5 (σ.2.2.1 5) (σ.2.2.1 7) P l2 l4 l5 tot)) k l2' l4' l5' τ) l2 l4 l5 τ := by
      rintro y71_2 y71_4 y71_5 _ ⟨rfl, j71⟩
      unfold w_countArguments_71
      refine ⟨ib_131074.mpr ?_, ?_⟩
      · clear h; rw [j71.1]; exact ⟨bb.1, bb.2.1⟩  -- b21
      refine ⟨fun c13 => ?_, fun c13 => ?_⟩
      · skip
        refine hj86 _ _ _ _ _ ?_
        · clear h; exact ⟨rfl, j71.1, j71.2.1, j71.2.2.1, j71.2.2.2, ⟨fun z => absurd rfl z, fun z => absurd z c13⟩⟩  -- k22
      · skip
        refine hj86 _ _ _ _ _ ?_
        · clear h; exact ⟨rfl, j71.1, j71.2.1, j71.2.2.1, j71.2.2.2, ⟨fun _ => c13, fun _ => by decide⟩⟩  -- k23
    refine ⟨fun c14 => ?_, fun c14 => ?_⟩
    · skip
      refine hj71 _ _ _ _ ?_
      · clear h; refine ⟨rfl, rfl, rfl, rfl, fun z => ?_⟩
        have := cn_pred c14 (Int32.lt_trans bb.2.2.2.2.1 (by decide))
        omega
    · skip
      refine ⟨ib_131074.mpr ?_, ?_⟩
      · clear h; exact ⟨bb.1, bb.2.1⟩  -- b25
      refine ⟨fun c15 => ?_, fun c15 => ?_⟩
      · skip
        refine hj71 _ _ _ _ ?_
        · clear h; exact ⟨rfl, rfl, rfl, rfl, fun z => c15 z.2.1⟩  -- k26
      · skip
        refine ⟨ib_131074.mpr ?_, ?_⟩
        · clear h; exact ⟨bb.1, bb.2.1⟩  -- b27
        refine ⟨fun c16 => ?_, fun c16 => ?_⟩
        · skip
          refine h _ ?_
          · clear h; refine ⟨bb.2.2.2.2.2.1, cI5_41 i45 ⟨c15, c16⟩ (cn_zero (Int32.not_lt.mp c14))⟩  -- q28
        · skip
          refine hj71 _ _ _ _ ?_
          · clear h; exact ⟨rfl, rfl, rfl, rfl, fun z => c16 z.2.2⟩  -- k29
  have hj30 : ∀ (l2 : Int32) (s0 : Int32) (τ : rS), (σ = τ ∧ l2 = a1 + 2 ∧ (s0 ≠ 0 ↔ sg (σ.2.2.1 5) (σ.2.2.1 7) (a1 + 2) 41)) → w_countArguments_30 C Q  l2 s0 τ := by
    rintro y30_2 y30_s0 _ ⟨rfl, j30⟩
    unfold w_countArguments_30
    refine ⟨fun c17 => ?_, fun c17 => ?_⟩
    · skip
      refine hh45 _ _ _ _ ?_
      · clear h; refine ⟨rfl, by rw [j30.1]; exact h20, by decide, by decide, ?_⟩
        rw [j30.1]
        cases tot with
        | zero => exact absurd c17 (j30.2.mpr hg.1)
        | succ q =>
          obtain ⟨m, hm⟩ := rm_B hg
          exact ⟨m, q, hm, Nat.add_comm _ _⟩
    · skip
      refine hh45 _ _ _ _ ?_
      · clear h; refine ⟨rfl, by rw [j30.1]; exact h20, by decide, by decide, ?_⟩
        rw [j30.1]
        have s41 := j30.2.mp c17
        cases tot with
        | zero => exact ⟨0, 0, ⟨rfl, rfl, s41, h2⟩, rfl⟩
        | succ q =>
          exfalso
          cases q with
          | zero => obtain ⟨e, z, -⟩ := hg; exact ePa_first z s41
          | succ q => obtain ⟨e, z, -⟩ := hg; exact ePa_first z s41
  intro x18 hx18
  refine ⟨ib_131074.mpr ?_, ?_⟩
  · clear h; rw [hx18]; exact ⟨h20, Int32.lt_trans h2 hP⟩  -- b32
  refine ⟨fun c19 => ?_, fun c19 => ?_⟩
  · skip
    refine hj30 _ _ _ ?_
    · clear h; exact ⟨rfl, hx18, ⟨fun z => absurd rfl z, fun z => absurd (by rw [hx18]; exact z.1) c19⟩⟩  -- k33
  · skip
    refine ⟨ib_131074.mpr ?_, ?_⟩
    · clear h; rw [hx18]; exact ⟨h20, Int32.lt_trans h2 hP⟩  -- b34
    refine ⟨fun c20 => ?_, fun c20 => ?_⟩
    · skip
      refine hj30 _ _ _ ?_
      · clear h; exact ⟨rfl, hx18, ⟨fun z => absurd rfl z, fun z => absurd (by rw [hx18]; exact z.2) c20⟩⟩  -- k35
    · skip
      refine hj30 _ _ _ ?_
      · clear h; exact ⟨rfl, hx18, ⟨fun _ => by rw [hx18] at c19 c20; exact ⟨c19, c20⟩, fun _ => by decide⟩⟩  -- k36

end
section
set_option maxHeartbeats 1600000
/-! the reference: calls are looked up -/
/-- references changed at calls' names alone -/
def rC (S N R R' : Nat → Int32) : Prop := ∀ t : Int32, 0 ≤ t → ¬ sg S N (t + 1) 40 → R' t.toNatClampNeg = R t.toNatClampNeg
theorem rC_refl {S N R : Nat → Int32} : rC S N R R := fun _ _ _ => rfl
theorem rC_tr {S N R R' R'' : Nat → Int32} (h : rC S N R R') (g : rC S N R' R'') : rC S N R R'' := fun t h0 hs => (g t h0 hs).trans (h t h0 hs)
theorem ePa_C {S N R R' : Nat → Int32} {a e : Int32} (h : ePa S N R a e) (h0 : 0 ≤ a) (hC : rC S N R R') : ePa S N R' a e := ePa_R h (fun t ht _ hs => hC t (Int32.le_trans h0 ht) hs)
theorem xO_C {S N R R' : Nat → Int32} {B P a : Int32} (h0 : 0 ≤ B) (h : xO S N R B P a) (hC : rC S N R R') : xO S N R' B P a := by
  obtain ⟨h1, e, h2, h3⟩ := h
  exact ⟨h1, e, ePa_C h2 (Int32.le_trans h0 h1) hC, h3⟩
theorem tgO_C {S N R R' : Nat → Int32} {B P a : Int32} (h0 : 0 ≤ B) (h : tgO S N R B P a) (hC : rC S N R R') : tgO S N R' B P a := by
  obtain ⟨h1, h2, h4, h5⟩ := h
  refine ⟨h1, h2, h4, ?_⟩
  rw [hC a (Int32.le_trans h0 h1) h4]
  rcases h5 with q | q
  · exact Or.inl q
  · exact Or.inr ⟨q.1, xO_C h0 q.2 hC⟩
theorem gB_C {S N R R' : Nat → Int32} {P : Int32} (hP2 : P < 131074) (hC : rC S N R R') {k : Nat} : ∀ {a : Int32}, 0 ≤ a → gB S N R P k a → gB S N R' P k a := by
  induction k with
  | zero =>
    rintro a h0 ⟨e, h1, h2⟩
    exact ⟨e, ePa_C h1 h0 hC, h2⟩
  | succ k ih =>
    rintro a h0 ⟨e, h1, h2, h3, h4, h6⟩
    exact ⟨e, ePa_C h1 h0 hC, h2, h3, h4, ih (lt2 (Int32.le_trans h0 h2) h3 hP2).2 h6⟩
theorem gN_C {S N R R' : Nat → Int32} {P a : Int32} {n : Nat} (hP2 : P < 131074) (h0 : 0 ≤ a) (h : gN S N R P n a) (hC : rC S N R R') : gN S N R' P n a := by
  cases n with
  | zero => exact h
  | succ k => exact gB_C hP2 hC h0 h
theorem prB_C {S N R R' : Nat → Int32} {P : Int32} (hC : rC S N R R') {k : Nat} : ∀ {p : Int32}, 0 ≤ p → prB S N R P k p → prB S N R' P k p := by
  induction k with
  | zero =>
    rintro p h0 ⟨e1, e2, h1, h2, h3, h4, h5, h6⟩
    have g1 := Int32.le_trans h0 (Int32.le_of_lt h3)
    exact ⟨e1, e2, ePa_C h1 g1 hC, h2, h3, ePa_C h4 (Int32.le_trans g1 (Int32.le_trans h2 (Int32.le_of_lt h5))) hC, h5, h6⟩
  | succ k ih =>
    rintro p h0 ⟨e1, e2, h1, h2, h3, h4, h5, h6, h7, h8, h9⟩
    have g1 := Int32.le_trans h0 (Int32.le_of_lt h3)
    have g2 := Int32.le_trans g1 (Int32.le_trans h2 (Int32.le_of_lt h5))
    exact ⟨e1, e2, ePa_C h1 g1 hC, h2, h3, ePa_C h4 g2 hC, h5, h6, h7, h8, ih (Int32.le_trans g2 h6) h9⟩
theorem drO_C {S N R R' : Nat → Int32} {P x : Int32} (h0 : 0 ≤ x) (h2 : 0 ≤ x + 2) (h : drO S N R P x) (hC : rC S N R R') : drO S N R' P x := by
  obtain ⟨d1, d2, d3⟩ := h
  refine ⟨fun z => ?_, fun z => ?_, fun z => ?_⟩
  · obtain ⟨e, e1, e2⟩ := d1 z
    exact ⟨e, ePa_C e1 h2 hC, e2⟩
  · obtain ⟨e1, e2, g1, g2, g3, g4, g5⟩ := d2 z
    have m0 : x + 2 ≤ e1 := by obtain ⟨n, hn⟩ := g1; exact eTo_ge hn
    exact ⟨e1, e2, ePa_C g1 h2 hC, g2, g3, ePa_C g4 (Int32.le_trans h2 (Int32.le_trans m0 (Int32.le_of_lt g2))) hC, g5⟩
  · obtain ⟨k, hk, hb⟩ := d3 z
    exact ⟨k, hk, prB_C hC h0 hb⟩
theorem stK_C {S N R R' : Nat → Int32} {B P k b x : Int32} (h0 : 0 ≤ B) (hP2 : P < 131074) (h : stK S N R B P k b x) (hC : rC S N R R') : stK S N R' B P k b x := by
  rcases h with ⟨rfl, h1, h2, h3, h5, h6, h7⟩ | ⟨rfl, h1, h2⟩ | ⟨rfl, h1, h2, h3, h4⟩ | ⟨rfl, h1, h2, h3, h4⟩ | ⟨rfl, h1, h2⟩ | ⟨h1, h2⟩
  · refine Or.inl ⟨rfl, h1, h2, h3, h5, ?_, xO_C h0 h7 hC⟩
    rw [hC (b + 1) (Int32.le_trans h0 (Int32.le_trans h1 (Int32.le_of_lt h2))) (by rw [up_2]; exact h5)]; exact h6
  · exact Or.inr (Or.inl ⟨rfl, tgO_C h0 h1 hC, xO_C h0 h2 hC⟩)
  · exact Or.inr (Or.inr (Or.inl ⟨rfl, tgO_C h0 h1 hC, h2, h3, drO_C (Int32.le_trans h0 h2) (lt2 (Int32.le_trans h0 h2) h3 hP2).1 h4 hC⟩))
  · exact Or.inr (Or.inr (Or.inr (Or.inl ⟨rfl, tgO_C h0 h1 hC, h2, h3, xO_C h0 h4 hC⟩)))
  · refine Or.inr (Or.inr (Or.inr (Or.inr (Or.inl ⟨rfl, ?_, fun z => ?_⟩))))
    · obtain ⟨c1, c2, c4, c5, n, c6⟩ := h1
      exact ⟨c1, c2, c4, c5, n, gN_C hP2 (lt2 (Int32.le_trans h0 c1) c2 hP2).1 c6 hC⟩
    · obtain ⟨c1, c2, c4, c5⟩ := h2 z
      refine ⟨c1, c2, c4, ?_⟩
      rw [hC b (Int32.le_trans h0 c1) c4]; exact c5
  · exact Or.inr (Or.inr (Or.inr (Or.inr (Or.inr ⟨h1, xO_C h0 h2 hC⟩))))
theorem stK_call {S N R : Nat → Int32} {B P k b x : Int32} (h : stK S N R B P k b x) (hk : k = 5) : cO S N R B P x := by
  rcases h with ⟨q, -⟩ | ⟨q, -⟩ | ⟨q, -⟩ | ⟨q, -⟩ | ⟨-, q, -⟩ | ⟨q, -⟩
  · rw [hk] at q; exact absurd q (by decide)
  · rw [hk] at q; exact absurd q (by decide)
  · rw [hk] at q; exact absurd q (by decide)
  · rw [hk] at q; exact absurd q (by decide)
  · exact q
  · rw [hk] at q; exact absurd q (by decide)
theorem gN_b {S N R : Nat → Int32} {P a : Int32} {n : Nat} (hP : P < 131074) (h0 : 0 ≤ a) (h : gN S N R P n a) : a < P ∧ n < 131074 := by
  cases n with
  | zero => exact ⟨h.2, by decide⟩
  | succ k =>
    have h' : gB S N R P k a := h
    obtain ⟨m, hm⟩ := rm_B h'
    have l1 := rm_le hm
    have l2 := rm_k hP h0 hm
    have hT := Int32.lt_iff_toInt_lt.mp hP
    rw [show (131074 : Int32).toInt = 131074 from rfl] at hT
    have h0' := Int32.le_iff_toInt_le.mp h0
    rw [Int32.toInt_zero] at h0'
    refine ⟨?_, by omega⟩
    cases m with
    | zero => exact hm.2.2.2
    | succ m => exact hm.2.1
/-- a call's name refers to a function with as many givens as there are arguments -/
def kO (S N R G : Nat → Int32) (funcs P x : Int32) : Prop := 300 ≤ R x.toNatClampNeg ∧ R x.toNatClampNeg < 300 + funcs ∧ gN S N R P (G (R x.toNatClampNeg - 300).toNatClampNeg).toNatClampNeg (x + 2)
theorem f300 {f : Int32} (h0 : 0 ≤ f) (h1 : f < 11) : 300 ≤ 300 + f ∧ 300 + f - 300 = f := by grind
theorem f300b {f g : Int32} (h0 : 0 ≤ f) (h1 : f < g) (h2 : g ≤ 10) : 300 + f < 300 + g := by grind
theorem s_up {s n : Int32} (h0 : 0 ≤ s) (h : ¬ n ≤ s) (hn : n ≤ 150) : 0 ≤ s + 1 ∧ s + 1 ≤ n ∧ n - (s + 1) < n - s ∧ 0 ≤ n - (s + 1) ∧ s < n ∧ s < 150 := by grind
theorem s_lt1 {s n : Int32} (h0 : 0 ≤ n) (hn : n < 150) (h : s < n + 1) : s = n ∨ s < n := by grind
theorem f_up2 {s n : Int32} (h0 : 0 ≤ s) (h : ¬ n ≤ s) (hn : n ≤ 10) : 0 ≤ s + 1 ∧ s + 1 ≤ n ∧ n - (s + 1) < n - s ∧ 0 ≤ n - (s + 1) ∧ s < n ∧ s < 10 := by grind
theorem calledBy_c {C : rCx} (hC : cOK C)  {σ : rS} {a1 : Int32} {Q : Int32 → rS → Prop} (hp : 0 ≤ a1 ∧ a1 < 150) (h : ∀ (v : Int32), (v = rd σ 32 a1) → Q v σ) : cI C 0 m_calledBy [.ref (co C), .int a1] σ Q := by
  refine m_calledBy_run hC ?_
  unfold w_calledBy_0
  refine ⟨ib_150.mpr ?_, ?_⟩
  · clear h; exact hp  -- b1
  refine h _ ?_
  · clear h; rfl  -- q2

end
section
set_option maxHeartbeats 1600000
/-! the reference: calls are looked up (the method) -/
def outR (R R' : Nat → Int32) (B P : Int32) : Prop := ∀ t : Int32, 0 ≤ t → (t < B ∨ P ≤ t) → R' t.toNatClampNeg = R t.toNatClampNeg
abbrev kAll (σ τ : rS) (P n : Int32) : Prop := ∀ s : Int32, 0 ≤ s → s < n → rd σ 30 s = 5 → kO (σ.2.2.1 5) (σ.2.2.1 7) (τ.2.2.1 39) (σ.2.2.1 26) (σ.1 18) P (rd σ 32 s)
theorem rC_upd {S N R : Nat → Int32} {x v : Int32} (h0 : 0 ≤ x) (hs : sg S N (x + 1) 40) : rC S N R (upd R x.toNatClampNeg v) := fun t ht hn => upd_ne (fun e => hn (by rw [cn_inj ht h0 e]; exact hs))
theorem kO_new {S N R G : Nat → Int32} {funcs P x f : Int32} (h0 : 0 ≤ x) (hs : sg S N (x + 1) 40) (hP : P < 131074) (h2 : 0 ≤ x + 2) (f0 : 0 ≤ f) (f1 : f < funcs) (f2 : funcs ≤ 10) (hg : gN S N R P (G f.toNatClampNeg).toNatClampNeg (x + 2)) : kO S N (upd R x.toNatClampNeg (300 + f)) G funcs P x := by
  have u := f300 f0 (Int32.lt_of_lt_of_le f1 (Int32.le_trans f2 (by decide)))
  refine ⟨by rw [upd_eq]; exact u.1, by rw [upd_eq]; exact f300b f0 f1 f2, ?_⟩
  rw [upd_eq, u.2]
  exact gN_C hP h2 hg (rC_upd h0 hs)
theorem kO_old {S N R G : Nat → Int32} {funcs P x y f : Int32} (h0 : 0 ≤ x) (hs : sg S N (x + 1) 40) (hP : P < 131074) (h2 : 0 ≤ x + 2) (f0 : 0 ≤ f) (f1 : f < funcs) (f2 : funcs ≤ 10) (hg : gN S N R P (G f.toNatClampNeg).toNatClampNeg (x + 2)) (hy : 0 ≤ y) (hy2 : 0 ≤ y + 2) (h : kO S N R G funcs P y) : kO S N (upd R x.toNatClampNeg (300 + f)) G funcs P y := by
  by_cases e : y.toNatClampNeg = x.toNatClampNeg
  · rw [cn_inj hy h0 e]; exact kO_new h0 hs hP h2 f0 f1 f2 hg
  · obtain ⟨k1, k2, k3⟩ := h
    refine ⟨by rw [upd_ne e]; exact k1, by rw [upd_ne e]; exact k2, ?_⟩
    rw [upd_ne e]
    exact gN_C hP hy2 k3 (rC_upd h0 hs)
theorem m1_0 {x : Int32} (h : -1 ≤ x) (h2 : x ≠ -1) : 0 ≤ x := by grind
theorem m1_f {x : Int32} (h : 0 ≤ x) : -1 ≤ x := by grind
theorem lookAtCalls_c {C : rCx} (hC : cOK C) (B P : Int32) {σ : rS}  {Q : rS → Prop} (hp : tF σ ∧ tN σ ∧ tS σ ∧ eB (σ.2.2.1 37) (-1) 150 ∧ stA σ B P ∧ 0 ≤ B ∧ P < 131074 ∧ σ.1 11 = 0) (h : ∀ (σ' : rS), (((∀ k, k ≠ 11 → k ≠ 12 → k ≠ 40 → σ'.1 k = σ.1 k) ∧ (∀ k,  σ'.2.1 k = σ.2.1 k) ∧ (∀ k, k ≠ 37 → k ≠ 39 → σ'.2.2.1 k = σ.2.2.1 k) ∧ (∀ k j, k ≠ 37 → k ≠ 39 → σ'.2.2.1 k j = σ.2.2.1 k j) ∧ (∀ k j,  σ'.2.2.2 k j = σ.2.2.2 k j)) ∧ -1 ≤ σ'.1 40 ∧ σ'.1 40 < 10 ∧ (eB (σ'.2.2.1 37) (-1) 150 ∧ ∀ s : Int32, 0 ≤ s → s < σ.1 19 → rd σ' 37 s < σ.1 19) ∧ (outR (σ.2.2.1 39) (σ'.2.2.1 39) B P ∧ 0 ≤ σ'.1 11) ∧ (σ'.1 11 = 0 → rC (σ.2.2.1 5) (σ.2.2.1 7) (σ.2.2.1 39) (σ'.2.2.1 39) ∧ 0 ≤ σ'.1 40 ∧ σ'.1 40 < σ.1 18 ∧ kAll σ σ' P (σ.1 19))) → Q σ') : cV C 2 m_lookAtCalls [.ref (co C)] σ Q := by
  refine m_lookAtCalls_run hC ?_
  unfold w_lookAtCalls_0
  obtain ⟨hF, hN, hS, h37, hst, hB, hP, h11⟩ := hp
  have fb : 0 ≤ σ.1 18 ∧ σ.1 18 ≤ 10 ∧ 0 ≤ σ.1 19 ∧ σ.1 19 ≤ 150 := by clear hst; grind [tyF]
  have hh204 : ∀ (l1 : Int32) (τ : rS), (((∀ k, k ≠ 11 → k ≠ 12 → k ≠ 40 → τ.1 k = σ.1 k) ∧ (∀ k,  τ.2.1 k = σ.2.1 k) ∧ (∀ k, k ≠ 37 → k ≠ 39 → τ.2.2.1 k = σ.2.2.1 k) ∧ (∀ k j, k ≠ 37 → k ≠ 39 → τ.2.2.1 k j = σ.2.2.1 k j) ∧ (∀ k j,  τ.2.2.2 k j = σ.2.2.2 k j)) ∧ 0 ≤ l1 ∧ l1 ≤ σ.1 19 ∧ -1 ≤ τ.1 40 ∧ τ.1 40 < σ.1 18 ∧ (eB (τ.2.2.1 37) (-1) 150 ∧ ∀ s : Int32, 0 ≤ s → s < l1 → rd τ 37 s < σ.1 19) ∧ (outR (σ.2.2.1 39) (τ.2.2.1 39) B P ∧ 0 ≤ τ.1 11) ∧ rC (σ.2.2.1 5) (σ.2.2.1 7) (σ.2.2.1 39) (τ.2.2.1 39) ∧ (τ.1 11 = 0 → kAll σ τ P (σ.1 19) ∧ τ.1 40 ≠ -1)) → w_lookAtCalls_204 C Q  l1 τ := by
    intro z1 τi hinit
    unfold w_lookAtCalls_204
    refine ⟨fun n l1 τ => n = (σ.1 19 - l1).toNatClampNeg ∧ (((∀ k, k ≠ 11 → k ≠ 12 → k ≠ 40 → τ.1 k = σ.1 k) ∧ (∀ k,  τ.2.1 k = σ.2.1 k) ∧ (∀ k, k ≠ 37 → k ≠ 39 → τ.2.2.1 k = σ.2.2.1 k) ∧ (∀ k j, k ≠ 37 → k ≠ 39 → τ.2.2.1 k j = σ.2.2.1 k j) ∧ (∀ k j,  τ.2.2.2 k j = σ.2.2.2 k j)) ∧ 0 ≤ l1 ∧ l1 ≤ σ.1 19 ∧ -1 ≤ τ.1 40 ∧ τ.1 40 < σ.1 18 ∧ (eB (τ.2.2.1 37) (-1) 150 ∧ ∀ s : Int32, 0 ≤ s → s < l1 → rd τ 37 s < σ.1 19) ∧ (outR (σ.2.2.1 39) (τ.2.2.1 39) B P ∧ 0 ≤ τ.1 11) ∧ rC (σ.2.2.1 5) (σ.2.2.1 7) (σ.2.2.1 39) (τ.2.2.1 39) ∧ (τ.1 11 = 0 → kAll σ τ P (σ.1 19) ∧ τ.1 40 ≠ -1)), ⟨_, rfl, hinit⟩, ?_⟩
    clear hinit
    rintro n204 x204_1 σ204 ⟨hn204, i204⟩
    obtain ⟨g1, g2, g3, g4, g5, g6, g7, g8, g9⟩ := i204
    have rr := g1.2.2.1
    have hj290 : ∀ (l1 : Int32) (s1 : Int32) (s2 : Int32) (τ : rS), (σ204 = τ ∧ ¬ σ.1 19 ≤ x204_1 ∧ l1 = x204_1 ∧ s1 = x204_1 ∧ -1 ≤ s2 ∧ s2 < σ.1 19) → w_lookAtCalls_290 C Q (fun l1' τ => ∃ k < n204, (fun n l1 τ => n = (σ.1 19 - l1).toNatClampNeg ∧ (((∀ k, k ≠ 11 → k ≠ 12 → k ≠ 40 → τ.1 k = σ.1 k) ∧ (∀ k,  τ.2.1 k = σ.2.1 k) ∧ (∀ k, k ≠ 37 → k ≠ 39 → τ.2.2.1 k = σ.2.2.1 k) ∧ (∀ k j, k ≠ 37 → k ≠ 39 → τ.2.2.1 k j = σ.2.2.1 k j) ∧ (∀ k j,  τ.2.2.2 k j = σ.2.2.2 k j)) ∧ 0 ≤ l1 ∧ l1 ≤ σ.1 19 ∧ -1 ≤ τ.1 40 ∧ τ.1 40 < σ.1 18 ∧ (eB (τ.2.2.1 37) (-1) 150 ∧ ∀ s : Int32, 0 ≤ s → s < l1 → rd τ 37 s < σ.1 19) ∧ (outR (σ.2.2.1 39) (τ.2.2.1 39) B P ∧ 0 ≤ τ.1 11) ∧ rC (σ.2.2.1 5) (σ.2.2.1 7) (σ.2.2.1 39) (τ.2.2.1 39) ∧ (τ.1 11 = 0 → kAll σ τ P (σ.1 19) ∧ τ.1 40 ≠ -1))) k l1' τ) l1 s1 s2 τ := by
      rintro y290_1 y290_s1 y290_s2 τ290 j290
      unfold w_lookAtCalls_290
      obtain ⟨e, hn', e1, es, l, u⟩ := j290
      have su := s_up g2 hn' fb.2.2.2
      refine ⟨ib_150.mpr ?_, ?_⟩
      · clear h; rw [es]; exact ⟨g2, su.2.2.2.2.2⟩  -- b1
      intro σ_1 hσ_1
      intro x2 hx2
      refine ⟨_, cn_lt2 hn204 ?_ ?_, rfl, ?_⟩
      · clear h; rw [hx2, e1]; exact su.2.2.2.1  -- d2
      · clear h; rw [hx2, e1]; exact su.2.2.1  -- d3
      · clear h; have ff : ∀ k, σ_1.1 k = σ204.1 k := fun k => by rw [hσ_1, ri1, ← e]
        have r' : ∀ k, k ≠ 37 → σ_1.2.2.1 k = σ204.2.2.1 k := fun k hk => by rw [hσ_1, ri3 hk, ← e]
        have r39 := r' 39 (by decide)
        refine ⟨⟨fun k z1 z2 z3 => (ff k).trans (g1.1 k z1 z2 z3), fun k => by rw [hσ_1, ri2, ← e]; exact g1.2.1 k, fun k z1 z2 => (r' k z1).trans (g1.2.2.1 k z1 z2), fun k j z1 z2 => (congrFun (r' k z1) j).trans (g1.2.2.2.1 k j z1 z2), fun k j => by rw [hσ_1, ri5, ← e]; exact g1.2.2.2.2 k j⟩, by rw [hx2, e1]; exact su.1, by rw [hx2, e1]; exact su.2.1, by rw [ff]; exact g4, by rw [ff]; exact g5, ⟨by rw [hσ_1, ri_row, ← e]; exact eB_upd g6.1 l (Int32.lt_of_lt_of_le u fb.2.2.2), ?_⟩, ⟨by rw [r39]; exact g7.1, by rw [ff]; exact g7.2⟩, by rw [r39]; exact g8, fun f => ?_⟩
        · intro s s0 s1
          rw [hx2, e1] at s1
          rw [rd, hσ_1, ri_row, ← e, es]
          by_cases ee : s.toNatClampNeg = x204_1.toNatClampNeg
          · rw [ee, upd_eq]; exact u
          · rw [upd_ne ee]
            refine g6.2 s s0 ?_
            rcases s_lt1 g2 su.2.2.2.2.2 s1 with z | z
            · exact absurd (by rw [z]) ee
            · exact z
        rw [ff] at f
        exact ⟨by simp only [kAll]; rw [r39]; exact (g9 f).1, by rw [ff]; exact (g9 f).2⟩
    have hj260 : ∀ (l1 : Int32) (l2 : Int32) (τ : rS), (σ204 = τ ∧ ¬ σ.1 19 ≤ x204_1 ∧ l1 = x204_1 ∧ 0 ≤ l2 ∧ l2 < σ.1 19) → w_lookAtCalls_260 C Q (fun l1' τ => ∃ k < n204, (fun n l1 τ => n = (σ.1 19 - l1).toNatClampNeg ∧ (((∀ k, k ≠ 11 → k ≠ 12 → k ≠ 40 → τ.1 k = σ.1 k) ∧ (∀ k,  τ.2.1 k = σ.2.1 k) ∧ (∀ k, k ≠ 37 → k ≠ 39 → τ.2.2.1 k = σ.2.2.1 k) ∧ (∀ k j, k ≠ 37 → k ≠ 39 → τ.2.2.1 k j = σ.2.2.1 k j) ∧ (∀ k j,  τ.2.2.2 k j = σ.2.2.2 k j)) ∧ 0 ≤ l1 ∧ l1 ≤ σ.1 19 ∧ -1 ≤ τ.1 40 ∧ τ.1 40 < σ.1 18 ∧ (eB (τ.2.2.1 37) (-1) 150 ∧ ∀ s : Int32, 0 ≤ s → s < l1 → rd τ 37 s < σ.1 19) ∧ (outR (σ.2.2.1 39) (τ.2.2.1 39) B P ∧ 0 ≤ τ.1 11) ∧ rC (σ.2.2.1 5) (σ.2.2.1 7) (σ.2.2.1 39) (τ.2.2.1 39) ∧ (τ.1 11 = 0 → kAll σ τ P (σ.1 19) ∧ τ.1 40 ≠ -1))) k l1' τ) l1 l2 τ := by
      rintro y260_1 y260_2 τ260 j260
      unfold w_lookAtCalls_260
      obtain ⟨e, hn', e1, l0, l1⟩ := j260
      have lt150 : y260_2 < 150 := Int32.lt_of_lt_of_le l1 fb.2.2.2
      refine ⟨ib_150.mpr ?_, ?_⟩
      · clear h; exact ⟨l0, lt150⟩  -- b5
      refine ⟨fun c3 => ?_, fun c3 => ?_⟩
      · skip
        refine ⟨ib_150.mpr ?_, ?_⟩
        · clear h; exact ⟨l0, lt150⟩  -- b6
        refine hj290 _ _ _ _ ?_
        · clear h; exact ⟨e, hn', e1, e1, by rw [← e, rr 36 (by decide) (by decide)]; exact (hS.2.2.2.2.1 _).1, by rw [← e, rr 36 (by decide) (by decide)]; exact Int32.lt_trans (hst y260_2 l0 l1).2.1 l1⟩  -- k7
      · skip
        refine ⟨ib_150.mpr ?_, ?_⟩
        · clear h; exact ⟨l0, lt150⟩  -- b8
        refine hj290 _ _ _ _ ?_
        · clear h; exact ⟨e, hn', e1, e1, by rw [← e, rr 35 (by decide) (by decide)]; exact (hS.2.2.2.1 _).1, by rw [← e, rr 35 (by decide) (by decide)]; exact (hst y260_2 l0 l1).2.2.2.2⟩  -- k9
    refine ⟨fun c4 => ?_, fun c4 => ?_⟩
    · skip
      refine h _ ?_
      · clear h; exact ⟨g1, g4, Int32.lt_of_lt_of_le g5 fb.2.1, ⟨g6.1, fun s s0 s1 => g6.2 s s0 (Int32.lt_of_lt_of_le s1 (by rw [← g1.1 19 (by decide) (by decide) (by decide)]; exact c4))⟩, g7, fun f => ⟨g8, m1_0 g4 (g9 f).2, g5, (g9 f).1⟩⟩  -- q10
    · skip
      have c4' : ¬ σ.1 19 ≤ x204_1 := by rw [← g1.1 19 (by decide) (by decide) (by decide)]; exact c4
      unfold w_lookAtCalls_214
      refine ⟨fun n l1 l2 τ => n = (l2).toNatClampNeg ∧ (σ204 = τ ∧ l1 = x204_1 ∧ 0 ≤ l2 ∧ l2 < σ.1 19), ⟨_, rfl, ?_⟩, ?_⟩
      · clear h; exact ⟨rfl, rfl, g2, Int32.not_le.mp c4'⟩  -- j11
      rintro n214 x214_1 x214_2 σ214 ⟨hn214, i214⟩
      obtain ⟨e214, i214⟩ := i214
      have r36 : σ214.2.2.1 36 = σ.2.2.1 36 := by rw [← e214]; exact rr 36 (by decide) (by decide)
      have lt150 : x214_2 < 150 := Int32.lt_of_lt_of_le i214.2.2 fb.2.2.2
      refine ⟨ib_150.mpr ?_, ?_⟩
      · clear h; exact ⟨i214.2.1, lt150⟩  -- b12
      refine ⟨fun c5 => ?_, fun c5 => ?_⟩
      · skip
        refine hj260 _ _ _ ?_
        · clear h; exact ⟨e214, c4', i214.1, i214.2.1, i214.2.2⟩  -- k13
      · skip
        refine ⟨ib_150.mpr ?_, ?_⟩
        · clear h; exact ⟨i214.2.1, lt150⟩  -- b14
        refine ⟨fun c6 => ?_, fun c6 => ?_⟩
        · skip
          refine hj260 _ _ _ ?_
          · clear h; exact ⟨e214, c4', i214.1, i214.2.1, i214.2.2⟩  -- k15
        · skip
          refine ⟨ib_150.mpr ?_, ?_⟩
          · clear h; exact ⟨i214.2.1, lt150⟩  -- b16
          have p36 : 0 ≤ σ214.2.2.1 36 x214_2.toNatClampNeg := m1_0 (by rw [r36]; exact (hS.2.2.2.2.1 _).1) c6
          have q36 : σ214.2.2.1 36 x214_2.toNatClampNeg < x214_2 := by rw [r36]; exact (hst x214_2 i214.2.1 i214.2.2).2.1
          refine ⟨ib_150.mpr ?_, ?_⟩
          · clear h; exact ⟨p36, Int32.lt_trans q36 lt150⟩  -- b17
          refine ⟨fun c7 => ?_, fun c7 => ?_⟩
          · skip
            refine hj260 _ _ _ ?_
            · clear h; exact ⟨e214, c4', i214.1, i214.2.1, i214.2.2⟩  -- k18
          · skip
            refine ⟨ib_150.mpr ?_, ?_⟩
            · clear h; exact ⟨i214.2.1, lt150⟩  -- b19
            intro x8 hx8
            refine ⟨_, cn_lt2 hn214 ?_ ?_, rfl, ?_⟩
            · clear h; rw [hx8]; exact p36  -- d20
            · clear h; rw [hx8]; exact q36  -- d21
            · clear h; exact ⟨e214, i214.1, by rw [hx8]; exact p36, by rw [hx8]; exact Int32.lt_trans q36 i214.2.2⟩  -- i22
  unfold w_lookAtCalls_2
  refine ⟨fun n l1 τ => n = (σ.1 19 - l1).toNatClampNeg ∧ (((∀ k, k ≠ 11 → k ≠ 12 → τ.1 k = σ.1 k) ∧ (∀ k,  τ.2.1 k = σ.2.1 k) ∧ (∀ k, k ≠ 39 → τ.2.2.1 k = σ.2.2.1 k) ∧ (∀ k j, k ≠ 39 → τ.2.2.1 k j = σ.2.2.1 k j) ∧ (∀ k j,  τ.2.2.2 k j = σ.2.2.2 k j)) ∧ 0 ≤ l1 ∧ l1 ≤ σ.1 19 ∧ (outR (σ.2.2.1 39) (τ.2.2.1 39) B P ∧ 0 ≤ τ.1 11) ∧ rC (σ.2.2.1 5) (σ.2.2.1 7) (σ.2.2.1 39) (τ.2.2.1 39) ∧ (τ.1 11 = 0 → kAll σ τ P l1)), ⟨_, rfl, ?_⟩, ?_⟩
  · clear h; exact ⟨⟨fun _ _ _ => rfl, fun _ => rfl, fun _ _ => rfl, fun _ _ _ => rfl, fun _ _ => rfl⟩, by decide, fb.2.2.1, ⟨fun _ _ _ => rfl, by rw [h11]; decide⟩, rC_refl, fun _ s s0 s1 => absurd s1 (Int32.not_lt.mpr s0)⟩  -- j23
  rintro n2 x2_1 σ2 ⟨hn2, i2⟩
  obtain ⟨g1, g2, g3, g4, g5, g6⟩ := i2
  have rr := g1.2.2.1
  have e19 : σ2.1 19 = σ.1 19 := g1.1 19 (by decide) (by decide)
  have hj74 : ∀ (l1 : Int32) (l2 : Int32) (l3 : Int32) (τ : rS), (((∀ k, k ≠ 11 → k ≠ 12 → τ.1 k = σ.1 k) ∧ (∀ k,  τ.2.1 k = σ.2.1 k) ∧ (∀ k, k ≠ 39 → τ.2.2.1 k = σ.2.2.1 k) ∧ (∀ k j, k ≠ 39 → τ.2.2.1 k j = σ.2.2.1 k j) ∧ (∀ k j,  τ.2.2.2 k j = σ.2.2.2 k j)) ∧ l1 = x2_1 ∧ ¬ σ.1 19 ≤ x2_1 ∧ l2 = rd σ 32 x2_1 ∧ rd σ 30 x2_1 = 5 ∧ cO (σ.2.2.1 5) (σ.2.2.1 7) (σ.2.2.1 39) B P l2 ∧ (outR (σ.2.2.1 39) (τ.2.2.1 39) B P ∧ 0 ≤ τ.1 11) ∧ rC (σ.2.2.1 5) (σ.2.2.1 7) (σ.2.2.1 39) (τ.2.2.1 39) ∧ (τ.1 11 = 0 → kAll σ τ P x2_1 ∧ 0 ≤ l3 ∧ l3 < σ.1 18 ∧ gN (σ.2.2.1 5) (σ.2.2.1 7) (τ.2.2.1 39) P (rd σ 26 l3).toNatClampNeg (l2 + 2))) → w_lookAtCalls_74 C Q (fun l1' τ => ∃ k < n2, (fun n l1 τ => n = (σ.1 19 - l1).toNatClampNeg ∧ (((∀ k, k ≠ 11 → k ≠ 12 → τ.1 k = σ.1 k) ∧ (∀ k,  τ.2.1 k = σ.2.1 k) ∧ (∀ k, k ≠ 39 → τ.2.2.1 k = σ.2.2.1 k) ∧ (∀ k j, k ≠ 39 → τ.2.2.1 k j = σ.2.2.1 k j) ∧ (∀ k j,  τ.2.2.2 k j = σ.2.2.2 k j)) ∧ 0 ≤ l1 ∧ l1 ≤ σ.1 19 ∧ (outR (σ.2.2.1 39) (τ.2.2.1 39) B P ∧ 0 ≤ τ.1 11) ∧ rC (σ.2.2.1 5) (σ.2.2.1 7) (σ.2.2.1 39) (τ.2.2.1 39) ∧ (τ.1 11 = 0 → kAll σ τ P l1))) k l1' τ) l1 l2 l3 τ := by
    rintro y74_1 y74_2 y74_3 τ74 j74
    unfold w_lookAtCalls_74
    obtain ⟨m1, m2, m3, m4, m5, m6, m7, m8, m9⟩ := j74
    have su := s_up g2 m3 fb.2.2.2
    obtain ⟨o1, o2, o3, o4, -⟩ := m6
    have x0 : 0 ≤ y74_2 := Int32.le_trans hB o1
    have x2' := (lt2 x0 o2 hP).1
    refine ⟨ib_131074.mpr ?_, ?_⟩
    · clear h; exact ⟨x0, Int32.lt_trans o2 hP⟩  -- b24
    intro σ_9 hσ_9
    intro x10 hx10
    refine ⟨_, cn_lt2 hn2 ?_ ?_, rfl, ?_⟩
    · clear h; rw [hx10, m2]; exact su.2.2.2.1  -- d25
    · clear h; rw [hx10, m2]; exact su.2.2.1  -- d26
    · clear h; have ff : ∀ k, σ_9.1 k = τ74.1 k := fun k => by rw [hσ_9, ri1]
      have r' : ∀ k, k ≠ 39 → σ_9.2.2.1 k = τ74.2.2.1 k := fun k hk => by rw [hσ_9, ri3 hk]
      have r39 : σ_9.2.2.1 39 = upd (τ74.2.2.1 39) y74_2.toNatClampNeg (300 + y74_3) := by rw [hσ_9, ri_row]
      refine ⟨⟨fun k z1 z2 => (ff k).trans (m1.1 k z1 z2), fun k => by rw [hσ_9, ri2]; exact m1.2.1 k, fun k z1 => (r' k z1).trans (m1.2.2.1 k z1), fun k j z1 => (congrFun (r' k z1) j).trans (m1.2.2.2.1 k j z1), fun k j => by rw [hσ_9, ri5]; exact m1.2.2.2.2 k j⟩, by rw [hx10, m2]; exact su.1, by rw [hx10, m2]; exact su.2.1, ⟨fun t t0 ht => ?_, by rw [ff]; exact m7.2⟩, ?_, fun f => ?_⟩
      · rw [r39, upd_ne ?_]
        · exact m7.1 t t0 ht
        · rcases ht with z | z
          · exact cn_ne t0 (Int32.lt_of_lt_of_le z o1)
          · exact (cn_ne x0 (Int32.lt_of_lt_of_le o2 z)).symm
      · rw [r39]; exact rC_tr m8 (rC_upd x0 o4)
      · rw [ff] at f
        obtain ⟨n1, n2, n3, n4⟩ := m9 f
        rw [hx10, m2]
        intro s s0 s1 s5
        rw [r39]
        rcases s_lt1 g2 su.2.2.2.2.2 s1 with e | e
        · rw [e, ← m4]
          exact kO_new x0 o4 hP x2' n2 n3 fb.2.1 n4
        · obtain ⟨y1, y2, -⟩ := stK_call (hst s s0 (Int32.lt_trans e su.2.2.2.2.1)).1 s5
          have y0 := Int32.le_trans hB y1
          exact kO_old x0 o4 hP x2' n2 n3 fb.2.1 n4 y0 (lt2 y0 y2 hP).1 (n1 s s0 e s5)
  have hj58 : ∀ (l1 : Int32) (l2 : Int32) (l3 : Int32) (τ : rS), (((∀ k, k ≠ 11 → k ≠ 12 → τ.1 k = σ.1 k) ∧ (∀ k,  τ.2.1 k = σ.2.1 k) ∧ (∀ k, k ≠ 39 → τ.2.2.1 k = σ.2.2.1 k) ∧ (∀ k j, k ≠ 39 → τ.2.2.1 k j = σ.2.2.1 k j) ∧ (∀ k j,  τ.2.2.2 k j = σ.2.2.2 k j)) ∧ l1 = x2_1 ∧ ¬ σ.1 19 ≤ x2_1 ∧ l2 = rd σ 32 x2_1 ∧ rd σ 30 x2_1 = 5 ∧ cO (σ.2.2.1 5) (σ.2.2.1 7) (σ.2.2.1 39) B P l2 ∧ (outR (σ.2.2.1 39) (τ.2.2.1 39) B P ∧ 0 ≤ τ.1 11) ∧ rC (σ.2.2.1 5) (σ.2.2.1 7) (σ.2.2.1 39) (τ.2.2.1 39)) → w_lookAtCalls_58 C Q (fun l1' τ => ∃ k < n2, (fun n l1 τ => n = (σ.1 19 - l1).toNatClampNeg ∧ (((∀ k, k ≠ 11 → k ≠ 12 → τ.1 k = σ.1 k) ∧ (∀ k,  τ.2.1 k = σ.2.1 k) ∧ (∀ k, k ≠ 39 → τ.2.2.1 k = σ.2.2.1 k) ∧ (∀ k j, k ≠ 39 → τ.2.2.1 k j = σ.2.2.1 k j) ∧ (∀ k j,  τ.2.2.2 k j = σ.2.2.2 k j)) ∧ 0 ≤ l1 ∧ l1 ≤ σ.1 19 ∧ (outR (σ.2.2.1 39) (τ.2.2.1 39) B P ∧ 0 ≤ τ.1 11) ∧ rC (σ.2.2.1 5) (σ.2.2.1 7) (σ.2.2.1 39) (τ.2.2.1 39) ∧ (τ.1 11 = 0 → kAll σ τ P l1))) k l1' τ) l1 l2 l3 τ := by
    rintro y58_1 y58_2 y58_3 τ58 j58
    unfold w_lookAtCalls_58
    intro σ_11 hσ_11
    obtain ⟨m1, m2, m3, m4, m5, m6, m7, m8⟩ := j58
    refine ⟨ib_131074.mpr ?_, ?_⟩
    · clear h; exact ⟨Int32.le_trans hB m6.1, Int32.lt_trans m6.2.1 hP⟩  -- b28
    intro σ_12 hσ_12
    refine hj74 _ _ _ _ ?_
    · clear h; have e11 : σ_12.1 11 = 16 := by rw [hσ_12, si1, if_neg (by decide), hσ_11, si1, if_pos rfl]
      have s12 : σ_12.2 = τ58.2 := by rw [hσ_12, si2, hσ_11, si2]
      refine ⟨⟨fun k z1 z2 => by rw [hσ_12, si1, if_neg z2, hσ_11, si1, if_neg z1]; exact m1.1 k z1 z2, fun k => by rw [s12]; exact m1.2.1 k, fun k z => by rw [s12]; exact m1.2.2.1 k z, fun k j z => by rw [s12]; exact m1.2.2.2.1 k j z, fun k j => by rw [s12]; exact m1.2.2.2.2 k j⟩, m2, m3, m4, m5, m6, ⟨by rw [s12]; exact m7.1, by rw [e11]; decide⟩, by rw [s12]; exact m8, fun f => ?_⟩
      rw [e11] at f; exact absurd f (by decide)
  refine ⟨fun c13 => ?_, fun c13 => ?_⟩
  · skip
    intro σ_14 hσ_14
    unfold w_lookAtCalls_98
    refine ⟨fun n l1 τ => n = (σ.1 18 - l1).toNatClampNeg ∧ (((∀ k, k ≠ 11 → k ≠ 12 → k ≠ 40 → τ.1 k = σ.1 k) ∧ (∀ k,  τ.2.1 k = σ.2.1 k) ∧ (∀ k, k ≠ 39 → τ.2.2.1 k = σ.2.2.1 k) ∧ (∀ k j, k ≠ 39 → τ.2.2.1 k j = σ.2.2.1 k j) ∧ (∀ k j,  τ.2.2.2 k j = σ.2.2.2 k j)) ∧ 0 ≤ l1 ∧ l1 ≤ σ.1 18 ∧ -1 ≤ τ.1 40 ∧ τ.1 40 < σ.1 18 ∧ (outR (σ.2.2.1 39) (τ.2.2.1 39) B P ∧ 0 ≤ τ.1 11) ∧ rC (σ.2.2.1 5) (σ.2.2.1 7) (σ.2.2.1 39) (τ.2.2.1 39) ∧ (τ.1 11 = 0 → kAll σ τ P (σ.1 19))), ⟨_, rfl, ?_⟩, ?_⟩
    · clear h; have s14 : σ_14.2 = σ2.2 := by rw [hσ_14, si2]
      have ee : ∀ k, k ≠ 40 → σ_14.1 k = σ2.1 k := fun k hk => by rw [hσ_14, si1, if_neg hk]
      have e40 : σ_14.1 40 = -1 := by rw [hσ_14, si1, if_pos rfl]
      refine ⟨⟨fun k z1 z2 z3 => (ee k z3).trans (g1.1 k z1 z2), fun k => by rw [s14]; exact g1.2.1 k, fun k z => by rw [s14]; exact g1.2.2.1 k z, fun k j z => by rw [s14]; exact g1.2.2.2.1 k j z, fun k j => by rw [s14]; exact g1.2.2.2.2 k j⟩, by decide, fb.1, by rw [e40]; decide, by rw [e40]; exact Int32.lt_of_lt_of_le (by decide) fb.1, ⟨by rw [s14]; exact g4.1, by rw [ee 11 (by decide)]; exact g4.2⟩, by rw [s14]; exact g5, fun f s s0 s1 s5 => ?_⟩
      rw [ee 11 (by decide)] at f
      rw [s14]
      exact g6 f s s0 (Int32.lt_of_lt_of_le s1 (by rw [← e19]; exact c13)) s5
    rintro n98 x98_1 σ98 ⟨hn98, i98⟩
    obtain ⟨k1, k2, k3, k4, k5, k6, k7, k8⟩ := i98
    have e18 : σ98.1 18 = σ.1 18 := k1.1 18 (by decide) (by decide) (by decide)
    have hj164 : ∀ (l1 : Int32) (s1 : Int32) (τ : rS), (τ = σ98 ∧ l1 = x98_1 ∧ ¬ σ.1 18 ≤ x98_1 ∧ -1 ≤ s1 ∧ s1 < σ.1 18) → w_lookAtCalls_164 C Q (fun l1' τ => ∃ k < n98, (fun n l1 τ => n = (σ.1 18 - l1).toNatClampNeg ∧ (((∀ k, k ≠ 11 → k ≠ 12 → k ≠ 40 → τ.1 k = σ.1 k) ∧ (∀ k,  τ.2.1 k = σ.2.1 k) ∧ (∀ k, k ≠ 39 → τ.2.2.1 k = σ.2.2.1 k) ∧ (∀ k j, k ≠ 39 → τ.2.2.1 k j = σ.2.2.1 k j) ∧ (∀ k j,  τ.2.2.2 k j = σ.2.2.2 k j)) ∧ 0 ≤ l1 ∧ l1 ≤ σ.1 18 ∧ -1 ≤ τ.1 40 ∧ τ.1 40 < σ.1 18 ∧ (outR (σ.2.2.1 39) (τ.2.2.1 39) B P ∧ 0 ≤ τ.1 11) ∧ rC (σ.2.2.1 5) (σ.2.2.1 7) (σ.2.2.1 39) (τ.2.2.1 39) ∧ (τ.1 11 = 0 → kAll σ τ P (σ.1 19)))) k l1' τ) l1 s1 τ := by
      rintro y164_1 y164_s1 τ164 j164
      unfold w_lookAtCalls_164
      intro σ_15 hσ_15
      intro x16 hx16
      obtain ⟨e, m2, m3, m4, m5⟩ := j164
      have su := f_up2 k2 m3 fb.2.1
      refine ⟨_, cn_lt2 hn98 ?_ ?_, rfl, ?_⟩
      · clear h; rw [hx16, m2]; exact su.2.2.2.1  -- d31
      · clear h; rw [hx16, m2]; exact su.2.2.1  -- d32
      · clear h; have s15 : σ_15.2 = σ98.2 := by rw [hσ_15, si2, e]
        have ee : ∀ k, k ≠ 40 → σ_15.1 k = σ98.1 k := fun k hk => by rw [hσ_15, si1, if_neg hk, e]
        have e40 : σ_15.1 40 = y164_s1 := by rw [hσ_15, si1, if_pos rfl]
        refine ⟨⟨fun k z1 z2 z3 => (ee k z3).trans (k1.1 k z1 z2 z3), fun k => by rw [s15]; exact k1.2.1 k, fun k z => by rw [s15]; exact k1.2.2.1 k z, fun k j z => by rw [s15]; exact k1.2.2.2.1 k j z, fun k j => by rw [s15]; exact k1.2.2.2.2 k j⟩, by rw [hx16, m2]; exact su.1, by rw [hx16, m2]; exact su.2.1, by rw [e40]; exact m4, by rw [e40]; exact m5, ⟨by rw [s15]; exact k6.1, by rw [ee 11 (by decide)]; exact k6.2⟩, by rw [s15]; exact k7, fun f => ?_⟩
        rw [ee 11 (by decide)] at f
        simp only [kAll]; rw [s15]; exact k8 f
    have fr : ((∀ k, k ≠ 11 → k ≠ 12 → k ≠ 40 → σ98.1 k = σ.1 k) ∧ (∀ k,  σ98.2.1 k = σ.2.1 k) ∧ (∀ k, k ≠ 37 → k ≠ 39 → σ98.2.2.1 k = σ.2.2.1 k) ∧ (∀ k j, k ≠ 37 → k ≠ 39 → σ98.2.2.1 k j = σ.2.2.1 k j) ∧ (∀ k j,  σ98.2.2.2 k j = σ.2.2.2 k j)) := ⟨k1.1, k1.2.1, fun k _ z => k1.2.2.1 k z, fun k j _ z => k1.2.2.2.1 k j z, k1.2.2.2.2⟩
    have e37 : eB (σ98.2.2.1 37) (-1) 150 ∧ ∀ s : Int32, 0 ≤ s → s < 0 → rd σ98 37 s < σ.1 19 := ⟨by rw [k1.2.2.1 37 (by decide)]; exact h37, fun s s0 s1 => absurd s1 (Int32.not_lt.mpr s0)⟩
    refine ⟨fun c17 => ?_, fun c17 => ?_⟩
    · skip
      refine isRight_c hC  (fun r18 q20 => ?_)
      refine ⟨fun c21 => ?_, fun c21 => ?_⟩
      · skip
        refine hh204 _ _ ?_
        · clear h; exact ⟨fr, by decide, fb.2.2.1, k4, k5, e37, k6, k7, fun f => absurd c21 (q20.2.mpr f)⟩  -- j34
      · skip
        refine ⟨fun c22 => ?_, fun c22 => ?_⟩
        · skip
          refine hh204 _ _ ?_
          · clear h; exact ⟨fr, by decide, fb.2.2.1, k4, k5, e37, k6, k7, fun f => ⟨k8 f, c22⟩⟩  -- j35
        · skip
          intro σ_23 hσ_23
          intro σ_24 hσ_24
          refine hh204 _ _ ?_
          · clear h; have s24 : σ_24.2 = σ98.2 := by rw [hσ_24, si2, hσ_23, si2]
            have ee : ∀ k, k ≠ 11 → k ≠ 12 → σ_24.1 k = σ98.1 k := fun k z1 z2 => by rw [hσ_24, si1, if_neg z2, hσ_23, si1, if_neg z1]
            have e11 : σ_24.1 11 = 17 := by rw [hσ_24, si1, if_neg (by decide), hσ_23, si1, if_pos rfl]
            refine ⟨⟨fun k z1 z2 z3 => (ee k z1 z2).trans (k1.1 k z1 z2 z3), fun k => by rw [s24]; exact k1.2.1 k, fun k _ z => by rw [s24]; exact k1.2.2.1 k z, fun k j _ z => by rw [s24]; exact k1.2.2.2.1 k j z, fun k j => by rw [s24]; exact k1.2.2.2.2 k j⟩, by decide, fb.2.2.1, by rw [ee 40 (by decide) (by decide)]; exact k4, by rw [ee 40 (by decide) (by decide)]; exact k5, ⟨by rw [s24]; exact e37.1, fun s s0 s1 => absurd s1 (Int32.not_lt.mpr s0)⟩, ⟨by rw [s24]; exact k6.1, by rw [e11]; decide⟩, by rw [s24]; exact k7, fun f => ?_⟩
            rw [e11] at f; exact absurd f (by decide)
    · skip
      have c17' : ¬ σ.1 18 ≤ x98_1 := by rw [← e18]; exact c17
      have su := f_up2 k2 c17' fb.2.1
      refine ⟨ib_10.mpr ?_, ?_⟩
      · clear h; exact ⟨k2, su.2.2.2.2.2⟩  -- b37
      intro x25 hx25
      have t25 : 0 ≤ x25 ∧ x25 < 131074 := by rw [hx25, k1.2.2.1 25 (by decide)]; exact hN.2.2.1 _
      refine ⟨ib_131074.mpr ?_, ?_⟩
      · clear h; exact t25  -- b38
      refine word_c hC  (fun r26 q28 => ?_)
      refine ⟨fun c29 => ?_, fun c29 => ?_⟩
      · skip
        refine hj164 _ _ _ ?_
        · clear h; exact ⟨rfl, rfl, c17', k4, k5⟩  -- k39
      · skip
        refine ⟨ib_131074.mpr ?_, ?_⟩
        · clear h; exact t25  -- b40
        refine ⟨fun c30 => ?_, fun c30 => ?_⟩
        · skip
          refine hj164 _ _ _ ?_
          · clear h; exact ⟨rfl, rfl, c17', k4, k5⟩  -- k41
        · skip
          refine ⟨ib_10.mpr ?_, ?_⟩
          · clear h; exact ⟨k2, su.2.2.2.2.2⟩  -- b42
          refine ⟨fun c31 => ?_, fun c31 => ?_⟩
          · skip
            refine hj164 _ _ _ ?_
            · clear h; exact ⟨rfl, rfl, c17', k4, k5⟩  -- k43
          · skip
            refine hj164 _ _ _ ?_
            · clear h; exact ⟨rfl, rfl, c17', m1_f k2, su.2.2.2.2.1⟩  -- k44
  · skip
    have c13' : ¬ σ.1 19 ≤ x2_1 := by rw [← e19]; exact c13
    have su := s_up g2 c13' fb.2.2.2
    refine ⟨ib_150.mpr ?_, ?_⟩
    · clear h; exact ⟨g2, su.2.2.2.2.2⟩  -- b45
    refine ⟨fun c32 => ?_, fun c32 => ?_⟩
    · skip
      intro x33 hx33
      refine ⟨_, cn_lt2 hn2 ?_ ?_, rfl, ?_⟩
      · clear h; rw [hx33]; exact su.2.2.2.1  -- d46
      · clear h; rw [hx33]; exact su.2.2.1  -- d47
      · clear h; refine ⟨g1, by rw [hx33]; exact su.1, by rw [hx33]; exact su.2.1, g4, g5, fun f s s0 s1 s5 => ?_⟩
        rw [hx33] at s1
        rcases s_lt1 g2 su.2.2.2.2.2 s1 with e | e
        · rw [e, rd, ← rr 30 (by decide)] at s5
          exact absurd s5 c32
        · exact g6 f s s0 e s5
    · skip
      refine isRight_c hC  (fun r34 q36 => ?_)
      refine ⟨fun c37 => ?_, fun c37 => ?_⟩
      · skip
        intro x38 hx38
        refine ⟨_, cn_lt2 hn2 ?_ ?_, rfl, ?_⟩
        · clear h; rw [hx38]; exact su.2.2.2.1  -- d49
        · clear h; rw [hx38]; exact su.2.2.1  -- d50
        · clear h; exact ⟨g1, by rw [hx38]; exact su.1, by rw [hx38]; exact su.2.1, g4, g5, fun f => absurd c37 (q36.2.mpr f)⟩  -- i51
      · skip
        refine calledBy_c hC  ?_ (fun r39 q41 => ?_)
        · clear h; exact ⟨g2, su.2.2.2.2.2⟩  -- p52
        have f2 := q36.2.mp c37
        have k5' : rd σ 30 x2_1 = 5 := by rw [rd, ← rr 30 (by decide)]; exact c32
        have er : r39 = rd σ 32 x2_1 := by rw [q41, rd, rr 32 (by decide)]
        have hc : cO (σ.2.2.1 5) (σ.2.2.1 7) (σ.2.2.1 39) B P r39 := by rw [er]; exact stK_call (hst x2_1 g2 su.2.2.2.2.1).1 k5'
        have x0 := Int32.le_trans hB hc.1
        refine functionOf_c hC  ?_ (fun r42 q44 => ?_)
        · clear h; refine ⟨?_, ?_, x0, Int32.lt_trans hc.2.1 hP⟩
          · show tyF _ _ _ _ _ _ _ _
            rw [g1.1 15 (by decide) (by decide), g1.1 16 (by decide) (by decide), g1.1 17 (by decide) (by decide), g1.1 18 (by decide) (by decide), g1.1 19 (by decide) (by decide), g1.1 40 (by decide) (by decide), g1.1 41 (by decide) (by decide), g1.1 42 (by decide) (by decide)]
            exact hF
          · show tyN _ _ _ _ _ _
            rw [rr 20 (by decide), rr 22 (by decide), rr 25 (by decide), rr 28 (by decide), rr 26 (by decide), rr 27 (by decide)]
            exact hN
        refine ⟨fun c45 => ?_, fun c45 => ?_⟩
        · skip
          refine hj58 _ _ _ _ ?_
          · clear h; exact ⟨g1, rfl, c13', er, k5', hc, g4, g5⟩  -- k54
        · skip
          have fr : 0 ≤ r42 ∧ r42 < σ.1 18 := by
            rw [g1.1 18 (by decide) (by decide)] at q44
            rcases q44 with z | z
            · exact absurd z c45
            · exact z
          refine ⟨ib_10.mpr ?_, ?_⟩
          · clear h; exact ⟨fr.1, Int32.lt_of_lt_of_le fr.2 fb.2.1⟩  -- b55
          obtain ⟨nn, hg⟩ := hc.2.2.2.2
          have xp := (lt2 x0 hc.2.1 hP).1
          have hb := gN_b hP xp hg
          have hg2 := gN_C hP xp hg g5
          refine countArguments_c hC P nn (σ2.2.2.1 39) ?_ (fun r46 q48 => ?_)
          · clear h; exact ⟨x0, hc.2.1, hP, by rw [rr 5 (by decide), rr 7 (by decide)]; exact hg2, hb.2, hb.1⟩  -- p56
          refine ⟨fun c49 => ?_, fun c49 => ?_⟩
          · skip
            refine hj74 _ _ _ _ ?_
            · clear h; refine ⟨g1, rfl, c13', er, k5', hc, g4, g5, fun f => ⟨g6 f, fr.1, fr.2, ?_⟩⟩
              have e26 : rd σ 26 r42 = r46 := by rw [rd, ← rr 26 (by decide)]; exact c49
              rw [e26, q48.2]; exact hg2
          · skip
            refine hj58 _ _ _ _ ?_
            · clear h; exact ⟨g1, rfl, c13', er, k5', hc, g4, g5⟩  -- k58

end
section
set_option maxHeartbeats 1600000
/-! the reference: a whole text is read -/
abbrev pFF : List Nat := [10, 11, 12, 13, 15, 16, 17, 18, 19, 41, 42, 48, 49]
abbrev pRR : List Nat := [20, 21, 22, 23, 24, 25, 26, 27, 28, 29, 30, 31, 32, 33, 34, 35, 36, 38, 39, 43, 44, 45, 50, 51, 52]
abbrev qFF : List Nat := [3, 4, 10, 11, 12, 13, 15, 16, 17, 18, 19, 40, 41, 42, 46, 47, 48, 49]
abbrev qRR : List Nat := [5, 6, 7, 9, 20, 21, 22, 23, 24, 25, 26, 27, 28, 29, 30, 31, 32, 33, 34, 35, 36, 37, 38, 39, 43, 44, 45, 50, 51, 52]
/-- fields and rows, long ones of row 8 aside -/
def frH (F R : List Nat) (σ τ : rS) : Prop := (∀ k, k ∉ F → τ.1 k = σ.1 k) ∧ (∀ k, τ.2.1 k = σ.2.1 k) ∧ (∀ k, k ∉ R → τ.2.2.1 k = σ.2.2.1 k) ∧ (∀ k j, k ≠ 8 → τ.2.2.2 k j = σ.2.2.2 k j)
theorem frH_tr {F R : List Nat} {σ τ υ : rS} (h : frH F R σ τ) (g : frH F R τ υ) : frH F R σ υ := ⟨fun k z => (g.1 k z).trans (h.1 k z), fun k => (g.2.1 k).trans (h.2.1 k), fun k z => (g.2.2.1 k z).trans (h.2.2.1 k z), fun k j z => (g.2.2.2 k j z).trans (h.2.2.2 k j z)⟩
theorem frG_mono {F F' R R' : List Nat} {σ τ : rS} (h : frG F R σ τ) (hF : ∀ k, k ∈ F → k ∈ F') (hR : ∀ k, k ∈ R → k ∈ R') : frG F' R' σ τ := ⟨fun k z => h.1 k (fun e => z (hF k e)), h.2.1, fun k z => h.2.2.1 k (fun e => z (hR k e)), h.2.2.2⟩
theorem frH_G {F F' R R' : List Nat} {σ τ : rS} (h : frG F R σ τ) (hF : ∀ k, k ∈ F → k ∈ F') (hR : ∀ k, k ∈ R → k ∈ R') : frH F' R' σ τ := ⟨fun k z => h.1 k (fun e => z (hF k e)), h.2.1, fun k z => h.2.2.1 k (fun e => z (hR k e)), fun k j _ => h.2.2.2 k j⟩
/-- a program in order: its tokens from B to T -/
def progOK (σ : rS) (B T : Int32) : Prop := 0 ≤ B ∧ B ≤ T ∧ T < 131074 ∧ T.toInt - B.toInt ≤ 65536 ∧ rd σ 5 T = 5 ∧ stA σ B T ∧ 0 ≤ σ.1 40 ∧ σ.1 40 < σ.1 18 ∧ kAll σ σ T (σ.1 19) ∧ fA σ (σ.1 18) ∧ ∀ s : Int32, 0 ≤ s → s < σ.1 19 → rd σ 37 s < σ.1 19
/-- ranges that always hold of a program's tables -/
def tyAll (σ : rS) : Prop := tF σ ∧ tN σ ∧ tA σ ∧ tS σ ∧ eB (σ.2.2.1 37) (-1) 150
/-- while declarations are read -/
def dI (σ τ : rS) (B T : Int32) : Prop := frG pFF pRR σ τ ∧ p0 τ B T ∧ tS τ ∧ rHi (σ.2.2.1 39) (τ.2.2.1 39) T ∧ rLo (σ.2.2.1 39) (τ.2.2.1 39) B ∧ (τ.1 11 = 0 → τ.1 13 = 0 ∧ stA τ B (τ.1 10) ∧ fA τ (τ.1 18))
theorem dI_F {σ τ υ : rS} {B T : Int32} (h : dI σ τ B T) (f : fI τ υ B T) (ho : υ.1 11 = 0 → υ.1 13 = 0 ∧ fA υ (υ.1 18)) : dI σ υ B T := by
  obtain ⟨h1, h2, h3, h4, h5, h6⟩ := h
  obtain ⟨f1, f2, f3, f4, f5, f6⟩ := f
  exact ⟨frG_tr h1 (frG_mono f1 (by decide) (by decide)), f2, f3, rHi_tr h4 f4, rLo_tr h5 f5 (Int32.le_refl _), fun z => ⟨(ho z).1, (f6 z).2.1, (ho z).2⟩⟩
theorem dI_V {σ τ υ : rS} {B T : Int32} (h : dI σ τ B T) (hf : frG [10, 11, 12, 13, 15, 16, 17] [20, 21, 22, 23, 24] τ υ) (hT : tK υ B T) (hF : tF υ) (hN : tN υ) (hA : tA υ) (hl : υ.1 11 = 0 → τ.1 11 = 0 ∧ τ.1 10 ≤ υ.1 10 ∧ υ.1 13 = τ.1 13) : dI σ υ B T := by
  obtain ⟨h1, h2, h3, h4, h5, h6⟩ := h
  have hA2 := aI_at (aI_refl h2)
  have rr := hf.2.2.1
  have r39 := rr 39 (by decide)
  refine ⟨frG_tr h1 (frG_mono hf (by decide) (by decide)), ⟨hT, h2.2.1, hF, hN, hA, by rw [hf.1 46 (by decide)]; exact h2.2.2.2.2.2.1, by rw [hf.1 47 (by decide)]; exact h2.2.2.2.2.2.2⟩, ?_, by rw [r39]; exact h4, by rw [r39]; exact h5, fun f => ?_⟩
  · show tyS _ _ _ _ _ _ _ _
    rw [rr 29 (by decide), rr 33 (by decide), rr 34 (by decide), rr 35 (by decide), rr 36 (by decide), rr 38 (by decide), rr 43 (by decide), rr 44 (by decide)]
    exact h3
  · obtain ⟨l1, l2, l3⟩ := hl f
    obtain ⟨m1, m2, m3⟩ := h6 l1
    exact ⟨by rw [l3]; exact m1, stA_up h2.1.1 hA2.2.2.2.2 m2 (rr 5 (by decide)) (rr 7 (by decide)) (hf.1 19 (by decide)) ⟨rr 30 (by decide), rr 31 (by decide), rr 32 (by decide), rr 36 (by decide), rr 33 (by decide), rr 34 (by decide), rr 35 (by decide)⟩ (by rw [r39]; exact rLo_refl) l2, by rw [hf.1 18 (by decide)]; exact fA_lk m3 (lkF_o (rr 29 (by decide)) (hf.1 19 (by decide)))⟩
/-- where the reading of a text began -/
def LK (σ τ : rS) (B T : Int32) : Prop := frH qFF qRR σ τ ∧ τ.1 3 = B ∧ (B = 0 ∨ B = 65537) ∧ B ≠ σ.1 3 ∧ T ≤ B + 65536 ∧ τ.2.2.1 39 = σ.2.2.1 39 ∧ τ.2.2.1 37 = σ.2.2.1 37 ∧ (∀ k, (k = 5 ∨ k = 6 ∨ k = 7 ∨ k = 9) → ∀ t : Int32, 0 ≤ t → (t < B ∨ B + 65536 < t) → rd τ k t = rd σ k t)
theorem frH_si {σ : rS} {k : Nat} {x : Int32} (hk : k ∈ qFF) : frH qFF qRR σ (siU σ k x) := ⟨fun q z => if_neg (fun e => z (by rw [e]; exact hk)), fun _ => rfl, fun _ _ => rfl, fun _ _ _ => rfl⟩
theorem stA_C {σ τ : rS} {B P : Int32} (h0 : 0 ≤ B) (hP2 : P < 131074) (h : stA σ B P) (h5 : τ.2.2.1 5 = σ.2.2.1 5) (h7 : τ.2.2.1 7 = σ.2.2.1 7) (h19 : τ.1 19 = σ.1 19) (hr : τ.2.2.1 30 = σ.2.2.1 30 ∧ τ.2.2.1 31 = σ.2.2.1 31 ∧ τ.2.2.1 32 = σ.2.2.1 32 ∧ τ.2.2.1 36 = σ.2.2.1 36 ∧ τ.2.2.1 33 = σ.2.2.1 33 ∧ τ.2.2.1 34 = σ.2.2.1 34 ∧ τ.2.2.1 35 = σ.2.2.1 35) (hC : rC (σ.2.2.1 5) (σ.2.2.1 7) (σ.2.2.1 39) (τ.2.2.1 39)) : stA τ B P := by
  intro s hs0 hs1
  rw [h19] at hs1
  have := h s hs0 hs1
  simp only [rd] at this ⊢
  rw [h5, h7, hr.1, hr.2.1, hr.2.2.1, hr.2.2.2.1, h19]
  exact ⟨stK_C h0 hP2 this.1 hC, this.2.1, lkS_o this.2.2 hr.2.2.2.2.1 hr.2.2.2.2.2.1 hr.2.2.2.2.2.2⟩
theorem dI_all {σ τ υ : rS} {B T : Int32} (l : LK σ τ B T) (h : dI τ υ B T) (h37 : eB (σ.2.2.1 37) (-1) 150) : frH qFF qRR σ υ ∧ tyAll υ ∧ (υ.1 3 = 0 ∨ υ.1 3 = 65537) ∧ υ.1 3 ≠ σ.1 3 ∧ υ.1 3 = B ∧ (∀ k, (k = 5 ∨ k = 6 ∨ k = 7 ∨ k = 9 ∨ k = 39) → ∀ t : Int32, 0 ≤ t → (t < B ∨ B + 65536 < t) → rd υ k t = rd σ k t) := by
  obtain ⟨l1, l2, l3, l4, l5, l6, l7, l8⟩ := l
  obtain ⟨d1, d2, d3, d4, d5, d6⟩ := h
  have e3 : υ.1 3 = B := (d1.1 3 (by decide)).trans l2
  refine ⟨frH_tr l1 (frH_G d1 (by decide) (by decide)), ⟨d2.2.2.1, d2.2.2.2.1, d2.2.2.2.2.1, d3, ?_⟩, by rw [e3]; exact l3, by rw [e3]; exact l4, e3, fun k hk t ht hh => ?_⟩
  · rw [d1.2.2.1 37 (by decide), l7]; exact h37
  · rcases hk with rfl | rfl | rfl | rfl | rfl
    · rw [rd, d1.2.2.1 5 (by decide)]; exact l8 5 (by decide) t ht hh
    · rw [rd, d1.2.2.1 6 (by decide)]; exact l8 6 (by decide) t ht hh
    · rw [rd, d1.2.2.1 7 (by decide)]; exact l8 7 (by decide) t ht hh
    · rw [rd, d1.2.2.1 9 (by decide)]; exact l8 9 (by decide) t ht hh
    · have : rd υ 39 t = rd τ 39 t := by
        rcases hh with z | z
        · exact d5 t ht z
        · exact d4 t (Int32.lt_of_le_of_lt l5 z)
      rw [this, rd, l6]
theorem bk_bR9 {s t : Int32} (hs : s = 0 ∨ s = 65537) (h0 : 0 ≤ t) (h1 : t ≤ 65536) : 0 ≤ s ∧ s < 131074 ∧ s ≤ s + t ∧ s + t < 131074 ∧ s + t ≤ s + 65536 ∧ (s + t).toInt - s.toInt ≤ 65536 := by
  have hs0 : 0 ≤ s := by rcases hs with rfl | rfl <;> decide
  have hs1 : s.toInt ≤ 65537 := by rcases hs with rfl | rfl <;> decide
  have t1 := Int32.le_iff_toInt_le.mp h1
  rw [show (65536 : Int32).toInt = 65536 from rfl] at t1
  have e := i_add hs0 h0 (by omega)
  refine ⟨hs0, by rcases hs with rfl | rfl <;> decide, by clear t1 e hs1; grind, by clear t1 e hs1; grind, by clear t1 e hs1; grind, by rw [e]; omega⟩
theorem tellProgram_c {C : rCx} (hC : cOK C)  {σ : rS}  {Q : rS → Prop} (hp : (σ.1 3 = 0 ∨ σ.1 3 = 65537) ∧ 0 ≤ σ.1 2 ∧ σ.1 2 ≤ 65536 ∧ tyAll σ) (h : ∀ (σ' : rS), (frH qFF qRR σ σ' ∧ tyAll σ' ∧ (σ'.1 3 = 0 ∨ σ'.1 3 = 65537) ∧ σ'.1 3 ≠ σ.1 3 ∧ (∀ k, (k = 5 ∨ k = 6 ∨ k = 7 ∨ k = 9 ∨ k = 39) → ∀ t : Int32, 0 ≤ t → (t < σ'.1 3 ∨ σ'.1 3 + 65536 < t) → rd σ' k t = rd σ k t) ∧ (σ'.1 11 = 0 → ∃ T, progOK σ' (σ'.1 3) T) ∧ 0 ≤ σ'.1 11) → Q σ') : cV C 12 m_tellProgram [.ref (co C)] σ Q := by
  refine m_tellProgram_run hC ?_
  unfold w_tellProgram_0
  obtain ⟨hb, hs0, hs1, hF, hN, hA, hS, h37⟩ := hp
  have hj161 : ∀  (τ : rS), (∃ SS BB TT, LK σ SS BB TT ∧ dI SS τ BB TT) → w_tellProgram_161 C Q   τ := by
    rintro  τ161 j161
    unfold w_tellProgram_161
    obtain ⟨SS, BB, TT, lk, di⟩ := j161
    have dA := dI_all lk di h37
    refine isRight_c hC  (fun r1 q3 => ?_)
    refine ⟨fun c4 => ?_, fun c4 => ?_⟩
    · skip
      refine h _ ?_
      · clear h; refine ⟨dA.1, dA.2.1, dA.2.2.1, dA.2.2.2.1, by rw [dA.2.2.2.2.1]; exact dA.2.2.2.2.2, fun f => absurd c4 (q3.2.mpr f), di.2.1.1.2.2.2.1.2.1⟩  -- q1
    · skip
      have f := q3.2.mp c4
      have tk := di.2.1.1
      have TT2 : TT < 131074 := tk.2.2.1
      have st : stA τ161 BB TT := stA_up tk.1 (Int32.lt_of_le_of_lt tk.2.2.2.2.2 TT2) (di.2.2.2.2.2 f).2.1 rfl rfl rfl ⟨rfl, rfl, rfl, rfl, rfl, rfl, rfl⟩ rLo_refl tk.2.2.2.2.2
      refine lookAtCalls_c hC BB TT ?_ (fun σ_5 q6 => ?_)
      · clear h; exact ⟨dA.2.1.1, dA.2.1.2.1, dA.2.1.2.2.2.1, dA.2.1.2.2.2.2, st, tk.1, TT2, f⟩  -- p2
      refine h _ ?_
      · clear h; obtain ⟨r1, r2, r3, r4, r5, r6⟩ := q6
        have rr := r1.2.2.1
        have ff := r1.1
        have fH : frH qFF qRR τ161 σ_5 := ⟨fun k z => ff k (fun e => z (by rw [e]; decide)) (fun e => z (by rw [e]; decide)) (fun e => z (by rw [e]; decide)), r1.2.1, fun k z => rr k (fun e => z (by rw [e]; decide)) (fun e => z (by rw [e]; decide)), fun k j _ => r1.2.2.2.2 k j⟩
        have e3 : σ_5.1 3 = BB := (ff 3 (by decide) (by decide) (by decide)).trans dA.2.2.2.2.1
        refine ⟨frH_tr dA.1 fH, ⟨?_, ?_, ?_, ?_, r4.1⟩, by rw [e3, ← dA.2.2.2.2.1]; exact dA.2.2.1, by rw [e3, ← dA.2.2.2.2.1]; exact dA.2.2.2.1, ?_, fun f5 => ⟨TT, ?_⟩, r5.2⟩
        · show tyF _ _ _ _ _ _ _ _
          rw [ff 15 (by decide) (by decide) (by decide), ff 16 (by decide) (by decide) (by decide), ff 17 (by decide) (by decide) (by decide), ff 18 (by decide) (by decide) (by decide), ff 19 (by decide) (by decide) (by decide), ff 41 (by decide) (by decide) (by decide), ff 42 (by decide) (by decide) (by decide)]
          have t := dA.2.1.1
          clear dA di lk st r1 r4 r5 r6 rr ff fH hF hN hA hS h37 q3 tk
          grind [tyF]
        · show tyN _ _ _ _ _ _
          rw [rr 20 (by decide) (by decide), rr 22 (by decide) (by decide), rr 25 (by decide) (by decide), rr 28 (by decide) (by decide), rr 26 (by decide) (by decide), rr 27 (by decide) (by decide)]
          exact dA.2.1.2.1
        · show tyA _ _
          rw [rr 23 (by decide) (by decide), rr 24 (by decide) (by decide)]
          exact dA.2.1.2.2.1
        · show tyS _ _ _ _ _ _ _ _
          rw [rr 29 (by decide) (by decide), rr 33 (by decide) (by decide), rr 34 (by decide) (by decide), rr 35 (by decide) (by decide), rr 36 (by decide) (by decide), rr 38 (by decide) (by decide), rr 43 (by decide) (by decide), rr 44 (by decide) (by decide)]
          exact dA.2.1.2.2.2.1
        · intro k hk t ht hh
          rw [e3] at hh
          have base := dA.2.2.2.2.2 k hk t ht hh
          rcases hk with rfl | rfl | rfl | rfl | rfl
          · rw [rd, rr 5 (by decide) (by decide)]; exact base
          · rw [rd, rr 6 (by decide) (by decide)]; exact base
          · rw [rd, rr 7 (by decide) (by decide)]; exact base
          · rw [rd, rr 9 (by decide) (by decide)]; exact base
          · refine (r5.1 t ht ?_).trans base
            rcases hh with z | z
            · exact Or.inl z
            · exact Or.inr (Int32.le_of_lt (Int32.lt_of_le_of_lt lk.2.2.2.2.1 z))
        · obtain ⟨w1, w2, w3, w4⟩ := r6 f5
          rw [e3]
          refine ⟨tk.1, tk.2.1, tk.2.2.1, di.2.1.2.1, by rw [rd, rr 5 (by decide) (by decide)]; exact tk.2.2.2.1.1, ?_, w2, by rw [ff 18 (by decide) (by decide) (by decide)]; exact w3, ?_, by rw [ff 18 (by decide) (by decide) (by decide)]; exact fA_lk (di.2.2.2.2.2 f).2.2 (lkF_o (rr 29 (by decide) (by decide)) (ff 19 (by decide) (by decide) (by decide))), by rw [ff 19 (by decide) (by decide) (by decide)]; exact r4.2⟩
          · exact stA_C tk.1 TT2 st (rr 5 (by decide) (by decide)) (rr 7 (by decide) (by decide)) (ff 19 (by decide) (by decide) (by decide)) ⟨rr 30 (by decide) (by decide), rr 31 (by decide) (by decide), rr 32 (by decide) (by decide), rr 36 (by decide) (by decide), rr 33 (by decide) (by decide), rr 34 (by decide) (by decide), rr 35 (by decide) (by decide)⟩ w1
          · intro s s0 s1 s5
            rw [ff 19 (by decide) (by decide) (by decide)] at s1
            rw [rd, rr 30 (by decide) (by decide)] at s5
            have := w4 s s0 s1 s5
            simp only [rd] at this ⊢
            rw [rr 5 (by decide) (by decide), rr 7 (by decide) (by decide), rr 26 (by decide) (by decide), rr 32 (by decide) (by decide), ff 18 (by decide) (by decide) (by decide)]
            exact this
  have hj65 : ∀ (s1 : Int32) (τ : rS), (frH qFF qRR σ τ ∧ τ.2 = σ.2 ∧ (s1 = 0 ∨ s1 = 65537) ∧ s1 ≠ σ.1 3 ∧ τ.1 11 = 0 ∧ τ.1 13 = 0 ∧ τ.1 46 = 0 ∧ τ.1 47 = 0 ∧ τ.1 19 = 0 ∧ tF τ ∧ τ.1 18 = 0) → w_tellProgram_65 C Q  s1 τ := by
    rintro y65_s1 τ65 j65
    unfold w_tellProgram_65
    intro σ_7 hσ_7
    obtain ⟨j1, j2, j3, j4, j5, j6, j7, j8, j9, j10, j11⟩ := j65
    have e7 : ∀ k, k ≠ 3 → σ_7.1 k = τ65.1 k := fun k hk => by rw [hσ_7, si1, if_neg hk]
    have e73 : σ_7.1 3 = y65_s1 := by rw [hσ_7, si1, if_pos rfl]
    have s7 : σ_7.2 = σ.2 := by rw [hσ_7, si2]; exact j2
    have e2 : σ_7.1 2 = σ.1 2 := (e7 2 (by decide)).trans (j1.1 2 (by decide))
    refine cutTape_c hC  ?_ (fun σ_8 q9 => ?_)
    · clear h; exact ⟨by rw [e73]; exact j3, by rw [e2]; exact hs0, by rw [e2]; exact hs1⟩  -- p4
    intro σ_10 hσ_10
    obtain ⟨t1, t2, t3, t4, t5⟩ := q9
    rw [e73] at t2 t5
    have bk := bk_bR9 j3 t3 t4
    have e10 : ∀ k, k ≠ 10 → σ_10.1 k = σ_8.1 k := fun k hk => by rw [hσ_10, si1, if_neg hk]
    have e83 : σ_8.1 3 = y65_s1 := (t1.1 3 (by decide)).trans e73
    have e1010 : σ_10.1 10 = y65_s1 := by rw [hσ_10, si1, if_pos rfl, e83]
    have s10 : σ_10.2 = σ_8.2 := by rw [hσ_10, si2]
    refine readNext_c hC  ?_ (fun σ_11 q12 => ?_)
    · clear h; rw [e1010]; exact ⟨bk.1, bk.2.1⟩  -- p5
    have fz : ∀ k, k ≠ 3 → k ≠ 4 → k ≠ 10 → k ≠ 11 → k ≠ 12 → σ_11.1 k = τ65.1 k := fun k z1 z2 z3 z4 z5 => (q12.1.1 k z4 z5).trans ((e10 k z3).trans ((t1.1 k z2).trans (e7 k z1)))
    have s11 : σ_11.2 = σ_8.2 := q12.1.2.trans s10
    have rz : ∀ k, k ≠ 5 → k ≠ 6 → k ≠ 7 → k ≠ 9 → σ_11.2.2.1 k = σ.2.2.1 k := fun k z1 z2 z3 z4 => by rw [s11, t1.2.2.1 k z1 z2 z3 z4, s7]
    have e3' : σ_11.1 3 = y65_s1 := (q12.1.1 3 (by decide) (by decide)).trans ((e10 3 (by decide)).trans e83)
    have at11 : σ_11.1 10 = y65_s1 := (q12.1.1 10 (by decide) (by decide)).trans e1010
    have lk : LK σ σ_11 y65_s1 (y65_s1 + σ_8.1 4) := by
      refine ⟨?_, e3', j3, j4, bk.2.2.2.2.1, rz 39 (by decide) (by decide) (by decide) (by decide), rz 37 (by decide) (by decide) (by decide) (by decide), fun k hk t ht hh => ?_⟩
      · have u1 : frH qFF qRR τ65 σ_7 := by rw [hσ_7]; exact frH_si (by decide)
        have u2 : frH qFF qRR σ_7 σ_8 := ⟨fun k z => t1.1 k (fun e => z (by rw [e]; decide)), t1.2.1, fun k z => t1.2.2.1 k (fun e => z (by rw [e]; decide)) (fun e => z (by rw [e]; decide)) (fun e => z (by rw [e]; decide)) (fun e => z (by rw [e]; decide)), t1.2.2.2.2⟩
        have u3 : frH qFF qRR σ_8 σ_10 := by rw [hσ_10]; exact frH_si (by decide)
        have u4 : frH qFF qRR σ_10 σ_11 := ⟨fun k z => q12.1.1 k (fun e => z (by rw [e]; decide)) (fun e => z (by rw [e]; decide)), fun k => by rw [q12.1.2], fun k _ => by rw [q12.1.2], fun k j _ => by rw [q12.1.2]⟩
        exact frH_tr j1 (frH_tr u1 (frH_tr u2 (frH_tr u3 u4)))
      · have z := t2.1 k t ht hh
        simp only [rd] at z ⊢
        rw [s11, z, s7]
    unfold w_tellProgram_84
    refine ⟨fun n  τ => n = eMs (τ.1 11) 0 0 (τ.1 10) (y65_s1 + σ_8.1 4) ∧ (dI σ_11 τ y65_s1 (y65_s1 + σ_8.1 4)), ⟨_, rfl, ?_⟩, ?_⟩
    · clear h; refine ⟨frG_refl, ⟨⟨bk.1, bk.2.2.1, bk.2.2.2.1, ⟨by rw [rd, s11]; exact t5, q12.2.2.2 (by rw [e10 11 (by decide), t1.1 11 (by decide), e7 11 (by decide), j5]; decide), by rw [fz 47 (by decide) (by decide) (by decide) (by decide) (by decide), j8]; decide⟩, by rw [at11]; exact Int32.le_refl _, by rw [at11]; exact bk.2.2.1⟩, bk.2.2.2.2.2, ?_, ?_, ?_, (fz 46 (by decide) (by decide) (by decide) (by decide) (by decide)).trans j7, (fz 47 (by decide) (by decide) (by decide) (by decide) (by decide)).trans j8⟩, ?_, rHi_refl, rLo_refl, fun f => ⟨(fz 13 (by decide) (by decide) (by decide) (by decide) (by decide)).trans j6, fun s s0 s1 => ?_, fun s s0 s1 => ?_⟩⟩
      · show tyF _ _ _ _ _ _ _ _
        rw [fz 15 (by decide) (by decide) (by decide) (by decide) (by decide), fz 16 (by decide) (by decide) (by decide) (by decide) (by decide), fz 17 (by decide) (by decide) (by decide) (by decide) (by decide), fz 18 (by decide) (by decide) (by decide) (by decide) (by decide), fz 19 (by decide) (by decide) (by decide) (by decide) (by decide), fz 40 (by decide) (by decide) (by decide) (by decide) (by decide), fz 41 (by decide) (by decide) (by decide) (by decide) (by decide), fz 42 (by decide) (by decide) (by decide) (by decide) (by decide)]
        exact j10
      · show tyN _ _ _ _ _ _
        rw [rz 20 (by decide) (by decide) (by decide) (by decide), rz 22 (by decide) (by decide) (by decide) (by decide), rz 25 (by decide) (by decide) (by decide) (by decide), rz 28 (by decide) (by decide) (by decide) (by decide), rz 26 (by decide) (by decide) (by decide) (by decide), rz 27 (by decide) (by decide) (by decide) (by decide)]
        exact hN
      · show tyA _ _
        rw [rz 23 (by decide) (by decide) (by decide) (by decide), rz 24 (by decide) (by decide) (by decide) (by decide)]
        exact hA
      · show tyS _ _ _ _ _ _ _ _
        rw [rz 29 (by decide) (by decide) (by decide) (by decide), rz 33 (by decide) (by decide) (by decide) (by decide), rz 34 (by decide) (by decide) (by decide) (by decide), rz 35 (by decide) (by decide) (by decide) (by decide), rz 36 (by decide) (by decide) (by decide) (by decide), rz 38 (by decide) (by decide) (by decide) (by decide), rz 43 (by decide) (by decide) (by decide) (by decide), rz 44 (by decide) (by decide) (by decide) (by decide)]
        exact hS
      · rw [fz 19 (by decide) (by decide) (by decide) (by decide) (by decide), j9] at s1
        exact absurd s1 (Int32.not_lt.mpr s0)
      · rw [fz 18 (by decide) (by decide) (by decide) (by decide) (by decide), j11] at s1
        exact absurd s1 (Int32.not_lt.mpr s0)
    rintro n84  σ84 ⟨hn84, i84⟩
    refine isRight_c hC  (fun r13 q15 => ?_)
    refine ⟨fun c16 => ?_, fun c16 => ?_⟩
    · skip
      refine hj161 _ ?_
      · clear h; exact ⟨σ_11, y65_s1, _, lk, i84⟩  -- k7
    · skip
      refine ⟨ib_131074.mpr ?_, ?_⟩
      · clear h; exact (aI_at (aI_refl i84.2.1)).2.2.2  -- b8
      refine ⟨fun c17 => ?_, fun c17 => ?_⟩
      · skip
        refine hj161 _ ?_
        · clear h; exact ⟨σ_11, y65_s1, _, lk, i84⟩  -- k9
      · skip
        have f := q15.2.mp c16
        have hA4 := aI_at (aI_refl i84.2.1)
        refine isWord_c hC  ?_ (fun r18 q20 => ?_)
        · clear h; exact hA4.2.2.2  -- p10
        refine ⟨fun c21 => ?_, fun c21 => ?_⟩
        · skip
          refine isWord_c hC  ?_ (fun r22 q24 => ?_)
          · clear h; exact hA4.2.2.2  -- p11
          refine ⟨fun c25 => ?_, fun c25 => ?_⟩
          · skip
            refine isWord_c hC  ?_ (fun r26 q28 => ?_)
            · clear h; exact hA4.2.2.2  -- p12
            refine ⟨fun c29 => ?_, fun c29 => ?_⟩
            · skip
              refine flaw_c hC  ?_ (fun σ_30 q31 => ?_)
              · clear h; exact ⟨hA4.2.2.2.1, hA4.2.2.2.2, by decide⟩  -- p13
              refine ⟨_, ?_, rfl, ?_⟩
              · clear h; show eMs (σ_30.1 11) 0 0 (σ_30.1 10) (y65_s1 + σ_8.1 4) < n84
                rw [hn84, f]
                exact eMs_lt (by decide) (fun f1 _ _ => absurd f1 q31.2.2.1) hA4.2.2.2.1 (by rw [q31.1.1 10 (by decide) (by decide)]; exact i84.2.1.1.2.2.2.2.2)
              · clear h; have a := aI_flaw (aI_refl i84.2.1) q31
                exact dI_V i84 ⟨fun k z => q31.1.1 k (fun e => z (by rw [e]; decide)) (fun e => z (by rw [e]; decide)), fun k => by rw [q31.1.2], fun k _ => by rw [q31.1.2], fun k j => by rw [q31.1.2]⟩ a.1.2.1.1 a.1.2.1.2.2.1 a.1.2.1.2.2.2.1 a.1.2.1.2.2.2.2.1 (fun f' => absurd f' q31.2.2.1)
            · skip
              refine tellFunc_c hC y65_s1 (y65_s1 + σ_8.1 4) ?_ (fun σ_32 q33 => ?_)
              · clear h; exact ⟨i84.2.1, i84.2.2.1, f, (i84.2.2.2.2.2 f).1, (i84.2.2.2.2.2 f).2.1, c17, (i84.2.2.2.2.2 f).2.2⟩  -- p16
              refine ⟨_, ?_, rfl, ?_⟩
              · clear h; show eMs (σ_32.1 11) 0 0 (σ_32.1 10) (y65_s1 + σ_8.1 4) < n84
                rw [hn84, f]
                exact eMs_lt (by decide) (fun f' _ _ => (q33.1.2.2.2.2.2 f').1) hA4.2.2.2.1 q33.1.2.1.1.2.2.2.2.2
              · clear h; exact dI_F i84 q33.1 q33.2  -- i18
          · skip
            refine tellArr_c hC y65_s1 (y65_s1 + σ_8.1 4) ?_ (fun σ_34 q35 => ?_)
            · clear h; exact ⟨i84.2.1.1, i84.2.1.2.2.1, i84.2.1.2.2.2.1, i84.2.1.2.2.2.2.1, c17⟩  -- p19
            refine ⟨_, ?_, rfl, ?_⟩
            · clear h; show eMs (σ_34.1 11) 0 0 (σ_34.1 10) (y65_s1 + σ_8.1 4) < n84
              rw [hn84, f]
              exact eMs_lt (by decide) (fun f' _ _ => (q35.2.2.2.2.2 f').2.1) hA4.2.2.2.1 q35.2.1.2.2.2.2.2
            · clear h; exact dI_V i84 ⟨fun k z => q35.1.1 k (fun e => z (by rw [e]; decide)) (fun e => z (by rw [e]; decide)) (fun e => z (by rw [e]; decide)) (fun e => z (by rw [e]; decide)) (fun e => z (by rw [e]; decide)) (fun e => z (by rw [e]; decide)), q35.1.2.1, fun k z => q35.1.2.2.1 k (fun e => z (by rw [e]; decide)) (fun e => z (by rw [e]; decide)) (fun e => z (by rw [e]; decide)), q35.1.2.2.2.2⟩ q35.2.1 q35.2.2.1 q35.2.2.2.1 q35.2.2.2.2.1 (fun f' => ⟨(q35.2.2.2.2.2 f').1, Int32.le_of_lt (q35.2.2.2.2.2 f').2.1, (q35.2.2.2.2.2 f').2.2⟩)  -- i21
        · skip
          refine tellVar_c hC y65_s1 (y65_s1 + σ_8.1 4) ?_ (fun σ_36 q37 => ?_)
          · clear h; exact ⟨i84.2.1.1, i84.2.1.2.2.1, i84.2.1.2.2.2.1, c17⟩  -- p22
          refine ⟨_, ?_, rfl, ?_⟩
          · clear h; show eMs (σ_36.1 11) 0 0 (σ_36.1 10) (y65_s1 + σ_8.1 4) < n84
            rw [hn84, f]
            exact eMs_lt (by decide) (fun f' _ _ => (q37.2.2.2.2 f').2) hA4.2.2.2.1 q37.2.1.2.2.2.2.2
          · clear h; have ta : tA σ_36 := by
              show tyA _ _
              rw [q37.1.2.2.1 23 (by decide) (by decide), q37.1.2.2.1 24 (by decide) (by decide)]
              exact i84.2.1.2.2.2.2.1
            exact dI_V i84 ⟨fun k z => q37.1.1 k (fun e => z (by rw [e]; decide)) (fun e => z (by rw [e]; decide)) (fun e => z (by rw [e]; decide)) (fun e => z (by rw [e]; decide)), q37.1.2.1, fun k z => q37.1.2.2.1 k (fun e => z (by rw [e]; decide)) (fun e => z (by rw [e]; decide)), q37.1.2.2.2.2⟩ q37.2.1 q37.2.2.1 q37.2.2.2.1 ta (fun f' => ⟨(q37.2.2.2.2 f').1, Int32.le_of_lt (q37.2.2.2.2 f').2, q37.1.1 13 (by decide) (by decide) (by decide) (by decide)⟩)
  intro σ_38 hσ_38
  intro σ_39 hσ_39
  intro σ_40 hσ_40
  intro σ_41 hσ_41
  intro σ_42 hσ_42
  intro σ_43 hσ_43
  intro σ_44 hσ_44
  intro σ_45 hσ_45
  intro σ_46 hσ_46
  intro σ_47 hσ_47
  refine ⟨fun c48 => ?_, fun c48 => ?_⟩
  · skip
    refine hj65 _ _ ?_
    · clear h; have fr : frH qFF qRR σ σ_47 := frH_tr (frH_tr (frH_tr (frH_tr (frH_tr (frH_tr (frH_tr (frH_tr (frH_tr (by rw [hσ_38]; exact frH_si (by decide) : frH qFF qRR σ σ_38) (by rw [hσ_39]; exact frH_si (by decide) : frH qFF qRR σ_38 σ_39)) (by rw [hσ_40]; exact frH_si (by decide) : frH qFF qRR σ_39 σ_40)) (by rw [hσ_41]; exact frH_si (by decide) : frH qFF qRR σ_40 σ_41)) (by rw [hσ_42]; exact frH_si (by decide) : frH qFF qRR σ_41 σ_42)) (by rw [hσ_43]; exact frH_si (by decide) : frH qFF qRR σ_42 σ_43)) (by rw [hσ_44]; exact frH_si (by decide) : frH qFF qRR σ_43 σ_44)) (by rw [hσ_45]; exact frH_si (by decide) : frH qFF qRR σ_44 σ_45)) (by rw [hσ_46]; exact frH_si (by decide) : frH qFF qRR σ_45 σ_46)) (by rw [hσ_47]; exact frH_si (by decide) : frH qFF qRR σ_46 σ_47)
      have s47 : σ_47.2 = σ.2 := by rw [hσ_47, si2, hσ_46, si2, hσ_45, si2, hσ_44, si2, hσ_43, si2, hσ_42, si2, hσ_41, si2, hσ_40, si2, hσ_39, si2, hσ_38, si2]
      have v11 : σ_47.1 11 = 0 := by rw [hσ_47, si1, if_neg (by decide), hσ_46, si1, if_neg (by decide), hσ_45, si1, if_neg (by decide), hσ_44, si1, if_neg (by decide), hσ_43, si1, if_neg (by decide), hσ_42, si1, if_neg (by decide), hσ_41, si1, if_neg (by decide), hσ_40, si1, if_pos rfl]
      have v13 : σ_47.1 13 = 0 := by rw [hσ_47, si1, if_neg (by decide), hσ_46, si1, if_neg (by decide), hσ_45, si1, if_neg (by decide), hσ_44, si1, if_neg (by decide), hσ_43, si1, if_neg (by decide), hσ_42, si1, if_pos rfl]
      have v46 : σ_47.1 46 = 0 := by rw [hσ_47, si1, if_neg (by decide), hσ_46, si1, if_neg (by decide), hσ_45, si1, if_neg (by decide), hσ_44, si1, if_neg (by decide), hσ_43, si1, if_neg (by decide), hσ_42, si1, if_neg (by decide), hσ_41, si1, if_neg (by decide), hσ_40, si1, if_neg (by decide), hσ_39, si1, if_neg (by decide), hσ_38, si1, if_pos rfl]
      have v47 : σ_47.1 47 = 0 := by rw [hσ_47, si1, if_neg (by decide), hσ_46, si1, if_neg (by decide), hσ_45, si1, if_neg (by decide), hσ_44, si1, if_neg (by decide), hσ_43, si1, if_neg (by decide), hσ_42, si1, if_neg (by decide), hσ_41, si1, if_neg (by decide), hσ_40, si1, if_neg (by decide), hσ_39, si1, if_pos rfl]
      have v15 : σ_47.1 15 = 0 := by rw [hσ_47, si1, if_neg (by decide), hσ_46, si1, if_neg (by decide), hσ_45, si1, if_neg (by decide), hσ_44, si1, if_neg (by decide), hσ_43, si1, if_pos rfl]
      have v16 : σ_47.1 16 = 0 := by rw [hσ_47, si1, if_neg (by decide), hσ_46, si1, if_neg (by decide), hσ_45, si1, if_neg (by decide), hσ_44, si1, if_pos rfl]
      have v17 : σ_47.1 17 = 0 := by rw [hσ_47, si1, if_neg (by decide), hσ_46, si1, if_neg (by decide), hσ_45, si1, if_pos rfl]
      have v18 : σ_47.1 18 = 0 := by rw [hσ_47, si1, if_neg (by decide), hσ_46, si1, if_pos rfl]
      have v19 : σ_47.1 19 = 0 := by rw [hσ_47, si1, if_pos rfl]
      have v40 : σ_47.1 40 = σ.1 40 := by rw [hσ_47, si1, if_neg (by decide), hσ_46, si1, if_neg (by decide), hσ_45, si1, if_neg (by decide), hσ_44, si1, if_neg (by decide), hσ_43, si1, if_neg (by decide), hσ_42, si1, if_neg (by decide), hσ_41, si1, if_neg (by decide), hσ_40, si1, if_neg (by decide), hσ_39, si1, if_neg (by decide), hσ_38, si1, if_neg (by decide)]
      have v41 : σ_47.1 41 = σ.1 41 := by rw [hσ_47, si1, if_neg (by decide), hσ_46, si1, if_neg (by decide), hσ_45, si1, if_neg (by decide), hσ_44, si1, if_neg (by decide), hσ_43, si1, if_neg (by decide), hσ_42, si1, if_neg (by decide), hσ_41, si1, if_neg (by decide), hσ_40, si1, if_neg (by decide), hσ_39, si1, if_neg (by decide), hσ_38, si1, if_neg (by decide)]
      have v42 : σ_47.1 42 = σ.1 42 := by rw [hσ_47, si1, if_neg (by decide), hσ_46, si1, if_neg (by decide), hσ_45, si1, if_neg (by decide), hσ_44, si1, if_neg (by decide), hσ_43, si1, if_neg (by decide), hσ_42, si1, if_neg (by decide), hσ_41, si1, if_neg (by decide), hσ_40, si1, if_neg (by decide), hσ_39, si1, if_neg (by decide), hσ_38, si1, if_neg (by decide)]
      have v3 : σ_47.1 3 = σ.1 3 := by rw [hσ_47, si1, if_neg (by decide), hσ_46, si1, if_neg (by decide), hσ_45, si1, if_neg (by decide), hσ_44, si1, if_neg (by decide), hσ_43, si1, if_neg (by decide), hσ_42, si1, if_neg (by decide), hσ_41, si1, if_neg (by decide), hσ_40, si1, if_neg (by decide), hσ_39, si1, if_neg (by decide), hσ_38, si1, if_neg (by decide)]
      have tf : tF σ_47 := by
        show tyF _ _ _ _ _ _ _ _
        rw [v15, v16, v17, v18, v19, v40, v41, v42]
        clear fr hS hN hA h37
        clear hσ_38 hσ_39 hσ_40 hσ_41 hσ_42 hσ_43 hσ_44 hσ_45 hσ_46 hσ_47
        grind [tyF]
      refine ⟨fr, s47, Or.inl rfl, ?_, v11, v13, v46, v47, v19, tf, v18⟩
      rw [v3] at c48
      exact fun e => c48 e.symm
  · skip
    refine hj65 _ _ ?_
    · clear h; have fr : frH qFF qRR σ σ_47 := frH_tr (frH_tr (frH_tr (frH_tr (frH_tr (frH_tr (frH_tr (frH_tr (frH_tr (by rw [hσ_38]; exact frH_si (by decide) : frH qFF qRR σ σ_38) (by rw [hσ_39]; exact frH_si (by decide) : frH qFF qRR σ_38 σ_39)) (by rw [hσ_40]; exact frH_si (by decide) : frH qFF qRR σ_39 σ_40)) (by rw [hσ_41]; exact frH_si (by decide) : frH qFF qRR σ_40 σ_41)) (by rw [hσ_42]; exact frH_si (by decide) : frH qFF qRR σ_41 σ_42)) (by rw [hσ_43]; exact frH_si (by decide) : frH qFF qRR σ_42 σ_43)) (by rw [hσ_44]; exact frH_si (by decide) : frH qFF qRR σ_43 σ_44)) (by rw [hσ_45]; exact frH_si (by decide) : frH qFF qRR σ_44 σ_45)) (by rw [hσ_46]; exact frH_si (by decide) : frH qFF qRR σ_45 σ_46)) (by rw [hσ_47]; exact frH_si (by decide) : frH qFF qRR σ_46 σ_47)
      have s47 : σ_47.2 = σ.2 := by rw [hσ_47, si2, hσ_46, si2, hσ_45, si2, hσ_44, si2, hσ_43, si2, hσ_42, si2, hσ_41, si2, hσ_40, si2, hσ_39, si2, hσ_38, si2]
      have v11 : σ_47.1 11 = 0 := by rw [hσ_47, si1, if_neg (by decide), hσ_46, si1, if_neg (by decide), hσ_45, si1, if_neg (by decide), hσ_44, si1, if_neg (by decide), hσ_43, si1, if_neg (by decide), hσ_42, si1, if_neg (by decide), hσ_41, si1, if_neg (by decide), hσ_40, si1, if_pos rfl]
      have v13 : σ_47.1 13 = 0 := by rw [hσ_47, si1, if_neg (by decide), hσ_46, si1, if_neg (by decide), hσ_45, si1, if_neg (by decide), hσ_44, si1, if_neg (by decide), hσ_43, si1, if_neg (by decide), hσ_42, si1, if_pos rfl]
      have v46 : σ_47.1 46 = 0 := by rw [hσ_47, si1, if_neg (by decide), hσ_46, si1, if_neg (by decide), hσ_45, si1, if_neg (by decide), hσ_44, si1, if_neg (by decide), hσ_43, si1, if_neg (by decide), hσ_42, si1, if_neg (by decide), hσ_41, si1, if_neg (by decide), hσ_40, si1, if_neg (by decide), hσ_39, si1, if_neg (by decide), hσ_38, si1, if_pos rfl]
      have v47 : σ_47.1 47 = 0 := by rw [hσ_47, si1, if_neg (by decide), hσ_46, si1, if_neg (by decide), hσ_45, si1, if_neg (by decide), hσ_44, si1, if_neg (by decide), hσ_43, si1, if_neg (by decide), hσ_42, si1, if_neg (by decide), hσ_41, si1, if_neg (by decide), hσ_40, si1, if_neg (by decide), hσ_39, si1, if_pos rfl]
      have v15 : σ_47.1 15 = 0 := by rw [hσ_47, si1, if_neg (by decide), hσ_46, si1, if_neg (by decide), hσ_45, si1, if_neg (by decide), hσ_44, si1, if_neg (by decide), hσ_43, si1, if_pos rfl]
      have v16 : σ_47.1 16 = 0 := by rw [hσ_47, si1, if_neg (by decide), hσ_46, si1, if_neg (by decide), hσ_45, si1, if_neg (by decide), hσ_44, si1, if_pos rfl]
      have v17 : σ_47.1 17 = 0 := by rw [hσ_47, si1, if_neg (by decide), hσ_46, si1, if_neg (by decide), hσ_45, si1, if_pos rfl]
      have v18 : σ_47.1 18 = 0 := by rw [hσ_47, si1, if_neg (by decide), hσ_46, si1, if_pos rfl]
      have v19 : σ_47.1 19 = 0 := by rw [hσ_47, si1, if_pos rfl]
      have v40 : σ_47.1 40 = σ.1 40 := by rw [hσ_47, si1, if_neg (by decide), hσ_46, si1, if_neg (by decide), hσ_45, si1, if_neg (by decide), hσ_44, si1, if_neg (by decide), hσ_43, si1, if_neg (by decide), hσ_42, si1, if_neg (by decide), hσ_41, si1, if_neg (by decide), hσ_40, si1, if_neg (by decide), hσ_39, si1, if_neg (by decide), hσ_38, si1, if_neg (by decide)]
      have v41 : σ_47.1 41 = σ.1 41 := by rw [hσ_47, si1, if_neg (by decide), hσ_46, si1, if_neg (by decide), hσ_45, si1, if_neg (by decide), hσ_44, si1, if_neg (by decide), hσ_43, si1, if_neg (by decide), hσ_42, si1, if_neg (by decide), hσ_41, si1, if_neg (by decide), hσ_40, si1, if_neg (by decide), hσ_39, si1, if_neg (by decide), hσ_38, si1, if_neg (by decide)]
      have v42 : σ_47.1 42 = σ.1 42 := by rw [hσ_47, si1, if_neg (by decide), hσ_46, si1, if_neg (by decide), hσ_45, si1, if_neg (by decide), hσ_44, si1, if_neg (by decide), hσ_43, si1, if_neg (by decide), hσ_42, si1, if_neg (by decide), hσ_41, si1, if_neg (by decide), hσ_40, si1, if_neg (by decide), hσ_39, si1, if_neg (by decide), hσ_38, si1, if_neg (by decide)]
      have v3 : σ_47.1 3 = σ.1 3 := by rw [hσ_47, si1, if_neg (by decide), hσ_46, si1, if_neg (by decide), hσ_45, si1, if_neg (by decide), hσ_44, si1, if_neg (by decide), hσ_43, si1, if_neg (by decide), hσ_42, si1, if_neg (by decide), hσ_41, si1, if_neg (by decide), hσ_40, si1, if_neg (by decide), hσ_39, si1, if_neg (by decide), hσ_38, si1, if_neg (by decide)]
      have tf : tF σ_47 := by
        show tyF _ _ _ _ _ _ _ _
        rw [v15, v16, v17, v18, v19, v40, v41, v42]
        clear fr hS hN hA h37
        clear hσ_38 hσ_39 hσ_40 hσ_41 hσ_42 hσ_43 hσ_44 hσ_45 hσ_46 hσ_47
        grind [tyF]
      refine ⟨fr, s47, Or.inr rfl, ?_, v11, v13, v46, v47, v19, tf, v18⟩
      rw [v3] at c48
      rw [c48]; decide

end
section
set_option maxHeartbeats 1600000
/-! the reference: a program's tables kept and brought back -/
theorem cn_add {x y : Int32} (h0 : 0 ≤ x) (h1 : x ≤ 1600) (h2 : 0 ≤ y) (h3 : y ≤ 200) : (x + y).toNatClampNeg = x.toNatClampNeg + y.toNatClampNeg := by
  have a : (x + y).toNatClampNeg = (x + y).toInt.toNat := rfl
  have b : x.toNatClampNeg = x.toInt.toNat := rfl
  have c : y.toNatClampNeg = y.toInt.toNat := rfl
  have h0' := Int32.le_iff_toInt_le.mp h0
  have h1' := Int32.le_iff_toInt_le.mp h1
  have h2' := Int32.le_iff_toInt_le.mp h2
  have h3' := Int32.le_iff_toInt_le.mp h3
  rw [Int32.toInt_zero] at h0' h2'
  rw [show (1600 : Int32).toInt = 1600 from rfl] at h1'
  rw [show (200 : Int32).toInt = 200 from rfl] at h3'
  rw [a, b, c, i_add h0 h2 (by omega)]
  omega
theorem sw_b {l n c x : Int32} (h0 : 0 ≤ l) (h : ¬ n ≤ l) (hn : n ≤ 200) (hc0 : 0 ≤ c) (hc : c ≤ 1600) (hx : x = c + l) : 0 ≤ l + 1 ∧ l + 1 ≤ n ∧ n - (l + 1) < n - l ∧ 0 ≤ n - (l + 1) ∧ l < n ∧ l ≤ 200 ∧ 0 ≤ x ∧ x < 2048 ∧ x + 1 = c + (l + 1) ∧ l < 1000000 := by grind
theorem sw_e {l n : Int32} (h1 : l ≤ n) (h : n ≤ l) : l = n := by grind
theorem in_L {l n : Int32} {L : Nat} (h0 : 0 ≤ l) (h : l < n) (hL : n.toInt ≤ L) : inb l L := by
  rw [inb_iff]
  have h0' := Int32.le_iff_toInt_le.mp h0
  rw [Int32.toInt_zero] at h0'
  have := Int32.lt_iff_toInt_lt.mp h
  omega
theorem swing_c_s {C : rCx} (hC : cOK C) (L : Nat) {σ : rS} {a1 : Nat} {a2 : Int32} {a3 : Int32} {Q : rS → Prop} (hp : a3 = 0 ∧ rT a1 = some (0, L) ∧ a2.toInt ≤ L ∧ a1 ≠ 54 ∧ 0 ≤ σ.1 55 ∧ σ.1 55 ≤ 1600 ∧ 0 ≤ a2 ∧ a2 ≤ 200) (h : ∀ (σ' : rS), (((∀ k, k ≠ 55 → σ'.1 k = σ.1 k) ∧ (∀ k,  σ'.2.1 k = σ.2.1 k) ∧ (∀ k, k ≠ 54 → σ'.2.2.1 k = σ.2.2.1 k) ∧ (∀ k j, k ≠ 54 → σ'.2.2.1 k j = σ.2.2.1 k j) ∧ (∀ k j,  σ'.2.2.2 k j = σ.2.2.2 k j)) ∧ σ'.1 55 = σ.1 55 + a2 ∧ (∀ i, i < a2.toNatClampNeg → σ'.2.2.1 54 ((σ.1 55).toNatClampNeg + i) = σ.2.2.1 a1 i) ∧ (∀ j, j < (σ.1 55).toNatClampNeg → σ'.2.2.1 54 j = σ.2.2.1 54 j)) → Q σ') : cV C 0 m_swing [.ref (co C), .ref (cad C a1), .int a2, .int a3] σ Q := by
  refine m_swing_run hC ?_
  unfold w_swing_0
  obtain ⟨h3, hT, hL, h54, c0, c1, n0, n1⟩ := hp
  unfold w_swing_3
  refine ⟨fun n l1 l2 l3 l4 τ => n = (a2 - l4).toNatClampNeg ∧ (l1 = a1 ∧ l2 = a2 ∧ l3 = a3 ∧ ((∀ k, k ≠ 55 → τ.1 k = σ.1 k) ∧ (∀ k,  τ.2.1 k = σ.2.1 k) ∧ (∀ k, k ≠ 54 → τ.2.2.1 k = σ.2.2.1 k) ∧ (∀ k j, k ≠ 54 → τ.2.2.1 k j = σ.2.2.1 k j) ∧ (∀ k j,  τ.2.2.2 k j = σ.2.2.2 k j)) ∧ 0 ≤ l4 ∧ l4 ≤ a2 ∧ τ.1 55 = σ.1 55 + l4 ∧ (∀ i, i < l4.toNatClampNeg → τ.2.2.1 54 ((σ.1 55).toNatClampNeg + i) = σ.2.2.1 a1 i) ∧ (∀ j, j < (σ.1 55).toNatClampNeg → τ.2.2.1 54 j = σ.2.2.1 54 j)), ⟨_, rfl, ?_⟩, ?_⟩
  · clear h; exact ⟨rfl, rfl, rfl, ⟨fun _ _ => rfl, fun _ => rfl, fun _ _ => rfl, fun _ _ _ => rfl, fun _ _ => rfl⟩, by decide, n0, by rw [Int32.add_zero], fun i hi => absurd hi (Nat.not_lt_zero i), fun _ _ => rfl⟩  -- j1
  rintro n3 x3_1 x3_2 x3_3 x3_4 σ3 ⟨hn3, i3⟩
  obtain ⟨e1, e2, e3, g1, g2, g3, g4, g5, g6⟩ := i3
  have hj42 : ∀ (l1 : Nat) (l2 : Int32) (l3 : Int32) (l4 : Int32) (τ : rS), (l1 = a1 ∧ l2 = a2 ∧ l3 = a3 ∧ ¬ a2 ≤ x3_4 ∧ l4 = x3_4 ∧ τ = riU σ3 54 (σ3.1 55).toNatClampNeg (σ3.2.2.1 a1 x3_4.toNatClampNeg)) → w_swing_42 C Q (fun l1' l2' l3' l4' τ => ∃ k < n3, (fun n l1 l2 l3 l4 τ => n = (a2 - l4).toNatClampNeg ∧ (l1 = a1 ∧ l2 = a2 ∧ l3 = a3 ∧ ((∀ k, k ≠ 55 → τ.1 k = σ.1 k) ∧ (∀ k,  τ.2.1 k = σ.2.1 k) ∧ (∀ k, k ≠ 54 → τ.2.2.1 k = σ.2.2.1 k) ∧ (∀ k j, k ≠ 54 → τ.2.2.1 k j = σ.2.2.1 k j) ∧ (∀ k j,  τ.2.2.2 k j = σ.2.2.2 k j)) ∧ 0 ≤ l4 ∧ l4 ≤ a2 ∧ τ.1 55 = σ.1 55 + l4 ∧ (∀ i, i < l4.toNatClampNeg → τ.2.2.1 54 ((σ.1 55).toNatClampNeg + i) = σ.2.2.1 a1 i) ∧ (∀ j, j < (σ.1 55).toNatClampNeg → τ.2.2.1 54 j = σ.2.2.1 54 j))) k l1' l2' l3' l4' τ) l1 l2 l3 l4 τ := by
    rintro y42_1 y42_2 y42_3 y42_4 τ42 j42
    unfold w_swing_42
    intro σ_1 hσ_1
    intro x2 hx2
    obtain ⟨p1, p2, p3, p4, p5, p6⟩ := j42
    have su := sw_b g2 p4 n1 c0 c1 g4
    have ci : (σ3.1 55).toNatClampNeg = (σ.1 55).toNatClampNeg + x3_4.toNatClampNeg := by rw [g4, cn_add c0 c1 g2 su.2.2.2.2.2.1]
    refine ⟨_, cn_lt2 hn3 ?_ ?_, rfl, ?_⟩
    · clear h; rw [hx2, p5]; exact su.2.2.2.1  -- d2
    · clear h; rw [hx2, p5]; exact su.2.2.1  -- d3
    · clear h; refine ⟨p1, p2, p3, ⟨fun k z => ?_, fun k => ?_, fun k z => ?_, fun k j z => ?_, fun k j => ?_⟩, by rw [hx2, p5]; exact su.1, by rw [hx2, p5]; exact su.2.1, ?_, fun i hi => ?_, fun j hj => ?_⟩
      · rw [hσ_1, si1, if_neg z, p6, ri1]; exact g1.1 k z
      · rw [hσ_1, si2, p6, ri2]; exact g1.2.1 k
      · rw [hσ_1, si2, p6, ri3 z]; exact g1.2.2.1 k z
      · rw [hσ_1, si2, p6, ri3 z]; exact g1.2.2.2.1 k j z
      · rw [hσ_1, si2, p6, ri5]; exact g1.2.2.2.2 k j
      · rw [hσ_1, si1, if_pos rfl, p6, ri1, hx2, p5]; exact su.2.2.2.2.2.2.2.2.1
      · rw [hx2, p5, cn_succ g2 su.2.2.2.2.2.2.2.2.2] at hi
        rw [hσ_1, si2, p6, ri4, ci]
        by_cases e : i = x3_4.toNatClampNeg
        · rw [if_pos (by rw [e]), e, g1.2.2.1 a1 h54]
        · rw [if_neg (by omega)]; exact g5 i (by omega)
      · rw [hσ_1, si2, p6, ri4, ci, if_neg (by omega)]; exact g6 j hj
  refine ⟨fun c3 => ?_, fun c3 => ?_⟩
  · skip
    refine h _ ?_
    · clear h; rw [e2] at c3
      have el := sw_e g3 c3
      rw [el] at g4 g5
      exact ⟨g1, g4, g5, g6⟩
  · skip
    have c3' : ¬ a2 ≤ x3_4 := by rw [← e2]; exact c3
    have su := sw_b g2 c3' n1 c0 c1 g4
    refine ⟨fun c4 => ?_, fun c4 => ?_⟩
    · skip
      refine ⟨L, ?_, ?_, ?_⟩
      · clear h; rw [e1]; exact hT  -- t6
      · clear h; exact in_L g2 su.2.2.2.2.1 hL  -- b7
      refine ⟨ib_2048.mpr ?_, ?_⟩
      · clear h; exact ⟨su.2.2.2.2.2.2.1, su.2.2.2.2.2.2.2.1⟩  -- b8
      intro σ_5 hσ_5
      refine hj42 _ _ _ _ _ ?_
      · clear h; exact ⟨e1, e2, e3, c3', rfl, by rw [hσ_5, e1]⟩  -- k9
    · skip
      refine ⟨ib_2048.mpr ?_, ?_⟩
      · clear h; exact absurd (e3.trans h3) c4  -- b10
      refine ⟨L, ?_, ?_, ?_⟩
      · clear h; exact absurd (e3.trans h3) c4  -- t11
      · clear h; exact absurd (e3.trans h3) c4  -- b12
      intro σ_6 hσ_6
      refine hj42 _ _ _ _ _ ?_
      · clear h; exact absurd (e3.trans h3) c4  -- k13

theorem swing_c_b {C : rCx} (hC : cOK C) (L : Nat) {σ : rS} {a1 : Nat} {a2 : Int32} {a3 : Int32} {Q : rS → Prop} (hp : a3 ≠ 0 ∧ rT a1 = some (0, L) ∧ a2.toInt ≤ L ∧ a1 ≠ 54 ∧ 0 ≤ σ.1 55 ∧ σ.1 55 ≤ 1600 ∧ 0 ≤ a2 ∧ a2 ≤ 200) (h : ∀ (σ' : rS), (((∀ k, k ≠ 55 → σ'.1 k = σ.1 k) ∧ (∀ k,  σ'.2.1 k = σ.2.1 k) ∧ (∀ k, k ≠ a1 → σ'.2.2.1 k = σ.2.2.1 k) ∧ (∀ k j, k ≠ a1 → σ'.2.2.1 k j = σ.2.2.1 k j) ∧ (∀ k j,  σ'.2.2.2 k j = σ.2.2.2 k j)) ∧ σ'.1 55 = σ.1 55 + a2 ∧ (∀ i, i < a2.toNatClampNeg → σ'.2.2.1 a1 i = σ.2.2.1 54 ((σ.1 55).toNatClampNeg + i)) ∧ (∀ j, a2.toNatClampNeg ≤ j → σ'.2.2.1 a1 j = σ.2.2.1 a1 j)) → Q σ') : cV C 0 m_swing [.ref (co C), .ref (cad C a1), .int a2, .int a3] σ Q := by
  refine m_swing_run hC ?_
  unfold w_swing_0
  obtain ⟨h3, hT, hL, h54, c0, c1, n0, n1⟩ := hp
  unfold w_swing_3
  refine ⟨fun n l1 l2 l3 l4 τ => n = (a2 - l4).toNatClampNeg ∧ (l1 = a1 ∧ l2 = a2 ∧ l3 = a3 ∧ ((∀ k, k ≠ 55 → τ.1 k = σ.1 k) ∧ (∀ k,  τ.2.1 k = σ.2.1 k) ∧ (∀ k, k ≠ a1 → τ.2.2.1 k = σ.2.2.1 k) ∧ (∀ k j, k ≠ a1 → τ.2.2.1 k j = σ.2.2.1 k j) ∧ (∀ k j,  τ.2.2.2 k j = σ.2.2.2 k j)) ∧ 0 ≤ l4 ∧ l4 ≤ a2 ∧ τ.1 55 = σ.1 55 + l4 ∧ (∀ i, i < l4.toNatClampNeg → τ.2.2.1 a1 i = σ.2.2.1 54 ((σ.1 55).toNatClampNeg + i)) ∧ (∀ j, l4.toNatClampNeg ≤ j → τ.2.2.1 a1 j = σ.2.2.1 a1 j)), ⟨_, rfl, ?_⟩, ?_⟩
  · clear h; exact ⟨rfl, rfl, rfl, ⟨fun _ _ => rfl, fun _ => rfl, fun _ _ => rfl, fun _ _ _ => rfl, fun _ _ => rfl⟩, by decide, n0, by rw [Int32.add_zero], fun i hi => absurd hi (Nat.not_lt_zero i), fun _ _ => rfl⟩  -- j1
  rintro n3 x3_1 x3_2 x3_3 x3_4 σ3 ⟨hn3, i3⟩
  obtain ⟨e1, e2, e3, g1, g2, g3, g4, g5, g6⟩ := i3
  have hj42 : ∀ (l1 : Nat) (l2 : Int32) (l3 : Int32) (l4 : Int32) (τ : rS), (l1 = a1 ∧ l2 = a2 ∧ l3 = a3 ∧ ¬ a2 ≤ x3_4 ∧ l4 = x3_4 ∧ τ = riU σ3 a1 x3_4.toNatClampNeg (σ3.2.2.1 54 (σ3.1 55).toNatClampNeg)) → w_swing_42 C Q (fun l1' l2' l3' l4' τ => ∃ k < n3, (fun n l1 l2 l3 l4 τ => n = (a2 - l4).toNatClampNeg ∧ (l1 = a1 ∧ l2 = a2 ∧ l3 = a3 ∧ ((∀ k, k ≠ 55 → τ.1 k = σ.1 k) ∧ (∀ k,  τ.2.1 k = σ.2.1 k) ∧ (∀ k, k ≠ a1 → τ.2.2.1 k = σ.2.2.1 k) ∧ (∀ k j, k ≠ a1 → τ.2.2.1 k j = σ.2.2.1 k j) ∧ (∀ k j,  τ.2.2.2 k j = σ.2.2.2 k j)) ∧ 0 ≤ l4 ∧ l4 ≤ a2 ∧ τ.1 55 = σ.1 55 + l4 ∧ (∀ i, i < l4.toNatClampNeg → τ.2.2.1 a1 i = σ.2.2.1 54 ((σ.1 55).toNatClampNeg + i)) ∧ (∀ j, l4.toNatClampNeg ≤ j → τ.2.2.1 a1 j = σ.2.2.1 a1 j))) k l1' l2' l3' l4' τ) l1 l2 l3 l4 τ := by
    rintro y42_1 y42_2 y42_3 y42_4 τ42 j42
    unfold w_swing_42
    intro σ_1 hσ_1
    intro x2 hx2
    obtain ⟨p1, p2, p3, p4, p5, p6⟩ := j42
    have su := sw_b g2 p4 n1 c0 c1 g4
    have ci : (σ3.1 55).toNatClampNeg = (σ.1 55).toNatClampNeg + x3_4.toNatClampNeg := by rw [g4, cn_add c0 c1 g2 su.2.2.2.2.2.1]
    refine ⟨_, cn_lt2 hn3 ?_ ?_, rfl, ?_⟩
    · clear h; rw [hx2, p5]; exact su.2.2.2.1  -- d2
    · clear h; rw [hx2, p5]; exact su.2.2.1  -- d3
    · clear h; refine ⟨p1, p2, p3, ⟨fun k z => ?_, fun k => ?_, fun k z => ?_, fun k j z => ?_, fun k j => ?_⟩, by rw [hx2, p5]; exact su.1, by rw [hx2, p5]; exact su.2.1, ?_, fun i hi => ?_, fun j hj => ?_⟩
      · rw [hσ_1, si1, if_neg z, p6, ri1]; exact g1.1 k z
      · rw [hσ_1, si2, p6, ri2]; exact g1.2.1 k
      · rw [hσ_1, si2, p6, ri3 z]; exact g1.2.2.1 k z
      · rw [hσ_1, si2, p6, ri3 z]; exact g1.2.2.2.1 k j z
      · rw [hσ_1, si2, p6, ri5]; exact g1.2.2.2.2 k j
      · rw [hσ_1, si1, if_pos rfl, p6, ri1, hx2, p5]; exact su.2.2.2.2.2.2.2.2.1
      · rw [hx2, p5, cn_succ g2 su.2.2.2.2.2.2.2.2.2] at hi
        rw [hσ_1, si2, p6, ri4, ci]
        by_cases e : i = x3_4.toNatClampNeg
        · rw [if_pos e, e, g1.2.2.1 54 (fun z => h54 z.symm)]
        · rw [if_neg e]; exact g5 i (by omega)
      · rw [hx2, p5, cn_succ g2 su.2.2.2.2.2.2.2.2.2] at hj
        rw [hσ_1, si2, p6, ri4, if_neg (by omega)]; exact g6 j (by omega)
  refine ⟨fun c3 => ?_, fun c3 => ?_⟩
  · skip
    refine h _ ?_
    · clear h; rw [e2] at c3
      have el := sw_e g3 c3
      rw [el] at g4 g5 g6
      exact ⟨g1, g4, g5, g6⟩
  · skip
    have c3' : ¬ a2 ≤ x3_4 := by rw [← e2]; exact c3
    have su := sw_b g2 c3' n1 c0 c1 g4
    refine ⟨fun c4 => ?_, fun c4 => ?_⟩
    · skip
      refine ⟨L, ?_, ?_, ?_⟩
      · clear h; exact absurd (e3.symm.trans c4) h3  -- t6
      · clear h; exact absurd (e3.symm.trans c4) h3  -- b7
      refine ⟨ib_2048.mpr ?_, ?_⟩
      · clear h; exact absurd (e3.symm.trans c4) h3  -- b8
      intro σ_5 hσ_5
      refine hj42 _ _ _ _ _ ?_
      · clear h; exact absurd (e3.symm.trans c4) h3  -- k9
    · skip
      refine ⟨ib_2048.mpr ?_, ?_⟩
      · clear h; exact ⟨su.2.2.2.2.2.2.1, su.2.2.2.2.2.2.2.1⟩  -- b10
      refine ⟨L, ?_, ?_, ?_⟩
      · clear h; rw [e1]; exact hT  -- t11
      · clear h; exact in_L g2 su.2.2.2.2.1 hL  -- b12
      intro σ_6 hσ_6
      refine hj42 _ _ _ _ _ ?_
      · clear h; exact ⟨e1, e2, e3, c3', rfl, by rw [hσ_6, e1]⟩  -- k13

end
