set_option maxHeartbeats 1600000
/-! the class: Calc's common -/
/-- the numbers that a Calc works with -/
def caS (κ : zS) (a : Nat) : Nat → Prop := fun b => b = zR κ caQuotient a ∨ b = zR κ caRest a ∨ b = zR κ caDivisor a ∨ b = zR κ caX a ∨ b = zR κ caY a
def caF (P : Nat → Prop) (a : Nat) : Nat → Nat → Prop := fun f b => (P b ∧ (f = nuLimbs ∨ f = nuLength)) ∨ (b = a ∧ (f = caRest ∨ f = caX ∨ f = caY ∨ f = caFactors))
def caN (κ : zS) (a : Nat) : Prop := (zR κ caQuotient a ≠ zR κ caRest a ∧ zR κ caQuotient a ≠ zR κ caDivisor a ∧ zR κ caRest a ≠ zR κ caDivisor a) ∧ (zR κ caX a ≠ zR κ caQuotient a ∧ zR κ caX a ≠ zR κ caRest a ∧ zR κ caX a ≠ zR κ caDivisor a) ∧ (zR κ caY a ≠ zR κ caQuotient a ∧ zR κ caY a ≠ zR κ caRest a ∧ zR κ caY a ≠ zR κ caDivisor a) ∧ zR κ caX a ≠ zR κ caY a
def caK (κ : zS) (a c : Nat) : Prop := (nuC κ (zR κ caQuotient a) c ∧ nuC κ (zR κ caRest a) c ∧ nuC κ (zR κ caDivisor a) c ∧ nuC κ (zR κ caX a) c ∧ nuC κ (zR κ caY a) c) ∧ (zN κ (zR κ caFactors a)) = 4
def caI (κ : zS) (a c : Nat) : Prop := caN κ a ∧ caK κ a c
theorem ca_ref {P : Nat → Prop} {κ τ : zS} {a : Nat} (Z : zF (nuFp P) κ τ) : zR τ caQuotient a = zR κ caQuotient a ∧ zR τ caRest a = zR κ caRest a ∧ zR τ caDivisor a = zR κ caDivisor a ∧ zR τ caX a = zR κ caX a ∧ zR τ caY a = zR κ caY a ∧ zR τ caFactors a = zR κ caFactors a := ⟨nuFp_r Z (by decide) (by decide), nuFp_r Z (by decide) (by decide), nuFp_r Z (by decide) (by decide), nuFp_r Z (by decide) (by decide), nuFp_r Z (by decide) (by decide), nuFp_r Z (by decide) (by decide)⟩
theorem caF_n {P P' : Nat → Prop} {κ τ : zS} {a : Nat} (Z : zF (nuFp P) κ τ) (h : ∀ b, P b → P' b) : zF (caF P' a) κ τ := Z.mono (fun f b z => Or.inl ⟨h b z.1, z.2⟩)
theorem nu_same {κ τ : zS} {z c : Nat} (hR : zR τ nuLimbs z = zR κ nuLimbs z) (hI : zI τ = zI κ) (hA : zA τ = zA κ) (hN : zN τ = zN κ) : (nuI κ z c → nuI τ z c) ∧ nuN τ z = nuN κ z ∧ (nuC κ z c → nuC τ z c) := by
  refine ⟨fun h => ?_, ?_, fun h => ?_⟩
  · unfold nuI nuB nuZ
    rw [hR, hI, hA, hN]
    exact h
  · unfold nuN
    rw [hR, hI, hA]
  · unfold nuC
    rw [hR, hN]
    exact h
/-- x, y and the rest change places -/
theorem ca_sw {κ κ1 κ2 κ3 : zS} {a x : Nat} (hx : x = zR κ caX a) (e1 : κ1 = ur κ caX a (zR κ caY a)) (e2 : κ2 = ur κ1 caY a (zR κ1 caRest a)) (e3 : κ3 = ur κ2 caRest a x) : (zR κ3 caX a = zR κ caY a ∧ zR κ3 caY a = zR κ caRest a ∧ zR κ3 caRest a = zR κ caX a) ∧ (∀ f b, f ≠ caX → f ≠ caY → f ≠ caRest → zR κ3 f b = zR κ f b) ∧ (zI κ3 = zI κ ∧ zA κ3 = zA κ ∧ zN κ3 = zN κ) ∧ ∀ P : Nat → Prop, zF (caF P a) κ κ3 := by
  have r1 : ∀ f b, zR κ1 f b = if f = caX ∧ b = a then zR κ caY a else zR κ f b := fun f b => by rw [e1]; rfl
  have r2 : ∀ f b, zR κ2 f b = if f = caY ∧ b = a then zR κ1 caRest a else zR κ1 f b := fun f b => by rw [e2]; rfl
  have r3 : ∀ f b, zR κ3 f b = if f = caRest ∧ b = a then x else zR κ2 f b := fun f b => by rw [e3]; rfl
  refine ⟨⟨?_, ?_, ?_⟩, fun f b h1 h2 h3 => ?_, ⟨by rw [e3, e2, e1]; rfl, by rw [e3, e2, e1]; rfl, by rw [e3, e2, e1]; rfl⟩, fun P => ?_⟩
  · rw [r3, if_neg (fun z => absurd z.1 (by decide)), r2, if_neg (fun z => absurd z.1 (by decide)), r1, if_pos ⟨rfl, rfl⟩]
  · rw [r3, if_neg (fun z => absurd z.1 (by decide)), r2, if_pos ⟨rfl, rfl⟩, r1, if_neg (fun z => absurd z.1 (by decide))]
  · rw [r3, if_pos ⟨rfl, rfl⟩, hx]
  · rw [r3, if_neg (fun z => h3 z.1), r2, if_neg (fun z => h2 z.1), r1, if_neg (fun z => h1 z.1)]
  · have z1 : zF (caF P a) κ κ1 := by rw [e1]; exact zF_ur (Or.inr ⟨rfl, Or.inr (Or.inl rfl)⟩) (show zr caX = some 8 by decide +kernel) (by decide)
    have z2 : zF (caF P a) κ1 κ2 := by rw [e2]; exact zF_ur (Or.inr ⟨rfl, Or.inr (Or.inr (Or.inl rfl))⟩) (show zr caY = some 8 by decide +kernel) (by decide)
    have z3 : zF (caF P a) κ2 κ3 := by rw [e3]; exact zF_ur (Or.inr ⟨rfl, Or.inl rfl⟩) (show zr caRest = some 8 by decide +kernel) (by decide)
    exact (z1.tr z2).tr z3
/-- a search for a common divisor on its way -/
def cmI (κ τ : zS) (a c m A B n : Nat) : Prop := (zF (caF (caS κ a) a) κ τ ∧ caI τ a c ∧ ∀ b, caS τ a b → caS κ a b) ∧ (nuI τ (zR τ caX a) c ∧ nuI τ (zR τ caY a) c) ∧ (nuN τ (zR τ caY a) ≤ nuN τ (zR τ caX a) ∧ nuN τ (zR τ caX a) < 2147483648 ^ m) ∧ Nat.gcd (nuN τ (zR τ caX a)) (nuN τ (zR τ caY a)) = Nat.gcd A B ∧ nuN τ (zR τ caX a) * nuN τ (zR τ caY a) * 2 ^ n ≤ A * B
theorem cm_n {x y x' y' n M : Nat} (h : x * y * 2 ^ n ≤ M) (g : 2 * (x' * y') ≤ x * y) : x' * y' * 2 ^ (n + 1) ≤ M := by
  have m := Nat.mul_le_mul_right (2 ^ n) g
  rw [Nat.pow_succ, Nat.mul_comm (2 ^ n) 2, ← Nat.mul_assoc, Nat.mul_comm (x' * y') 2]
  omega
theorem cm_div {C : zC} {n0 a c m A B n x : Nat} {κ τ σ κ1 κ2 ρ : zS} (W : zW C n0 τ) (Ta : zT τ a = 4) (h : cmI κ τ a c m A B n) (hy : 0 < nuN τ (zR τ caY a)) (D : dvO τ σ (zR τ caQuotient a) (zR τ caRest a) (zR τ caDivisor a) (nuN τ (zR τ caX a)) (nuN τ (zR τ caY a)) c) (hx : x = zR σ caX a) (e1 : κ1 = ur σ caX a (zR σ caY a)) (e2 : κ2 = ur κ1 caY a (zR κ1 caRest a)) (e3 : ρ = ur κ2 caRest a x) : cmI κ ρ a c m A B (n + 1) := by
  obtain ⟨⟨Z, ⟨⟨⟨n1, n2, n3⟩, ⟨n4, n5, n6⟩, ⟨n7, n8, n9⟩, na⟩, ⟨⟨k1, k2, k3, k4, k5⟩, k6⟩⟩, S⟩, ⟨IX, IY⟩, ⟨o1, o2⟩, G, P⟩ := h
  obtain ⟨DZ, ⟨DQ, DV⟩, ⟨DR, DW⟩, DC⟩ := D
  obtain ⟨rq, rr, rd, rx, ry, rf⟩ := ca_ref (a := a) DZ
  obtain ⟨⟨s1, s2, s3⟩, s4, ⟨sI, sA, sN⟩, s6⟩ := ca_sw hx e1 e2 e3
  have Tx := ty_caX W Ta
  have Ty := ty_caY W Ta
  have bx := nuFp_B (c := c) W Tx DZ (oo3_n n4 n5 n6)
  have cx := nuFp_C W Tx DZ (oo3_n n4 n5 n6) k4
  have by' := nuFp_B (c := c) W Ty DZ (oo3_n n7 n8 n9)
  have cy := nuFp_C W Ty DZ (oo3_n n7 n8 n9) k5
  have lim : ∀ z, zR ρ nuLimbs z = zR σ nuLimbs z := fun z => s4 _ _ (by decide) (by decide) (by decide)
  have sm : ∀ z, (nuI σ z c → nuI ρ z c) ∧ nuN ρ z = nuN σ z ∧ (nuC σ z c → nuC ρ z c) := fun z => nu_same (lim z) sI sA sN
  have eq : zR ρ caQuotient a = zR τ caQuotient a := (s4 _ _ (by decide) (by decide) (by decide)).trans rq
  have ed : zR ρ caDivisor a = zR τ caDivisor a := (s4 _ _ (by decide) (by decide) (by decide)).trans rd
  have ef : zR ρ caFactors a = zR τ caFactors a := (s4 _ _ (by decide) (by decide) (by decide)).trans rf
  rw [ry] at s1
  rw [rr] at s2
  rw [rx] at s3
  have eN : zN ρ (zR τ caFactors a) = zN τ (zR τ caFactors a) := by rw [sN]; exact DZ.l (ty_caFactors W Ta)
  have eu := eu_m hy o1
  have sub : ∀ b, caS ρ a b → caS τ a b := fun b z => by
    unfold caS at z ⊢
    rw [eq, ed, s1, s2, s3] at z
    rcases z with z | z | z | z | z
    · exact Or.inl z
    · exact Or.inr (Or.inr (Or.inr (Or.inl z)))
    · exact Or.inr (Or.inr (Or.inl z))
    · exact Or.inr (Or.inr (Or.inr (Or.inr z)))
    · exact Or.inr (Or.inl z)
  have mem : ∀ b, oo3 (zR τ caQuotient a) (zR τ caRest a) (zR τ caDivisor a) b → caS κ a b := fun b z => S b ((show b = _ ∨ b = _ ∨ b = _ from z).elim Or.inl (fun z => z.elim (fun y => Or.inr (Or.inl y)) (fun y => Or.inr (Or.inr (Or.inl y)))))
  refine ⟨⟨(Z.tr (caF_n DZ mem)).tr (s6 _), ⟨?_, ?_⟩, fun b z => S b (sub b z)⟩, ?_, ?_, ?_, ?_⟩
  · unfold caN
    rw [eq, ed, s1, s2, s3]
    exact ⟨⟨n4.symm, n2, n6⟩, ⟨n7, na.symm, n9⟩, ⟨n1.symm, n5.symm, n3⟩, n8⟩
  · unfold caK
    rw [eq, ed, s1, s2, s3, ef, eN]
    exact ⟨⟨(sm _).2.2 DQ.1.2.1, (sm _).2.2 cx, (sm _).2.2 DC, (sm _).2.2 cy, (sm _).2.2 DR.1.2.1⟩, k6⟩
  · rw [s1, s2]
    exact ⟨(sm _).1 (by'.2.1 IY), (sm _).1 DR⟩
  · rw [s1, s2, (sm _).2.1, (sm _).2.1, DW, by'.2.2.1]
    exact ⟨Nat.le_of_lt (Nat.mod_lt _ hy), Nat.lt_of_le_of_lt o1 o2⟩
  · rw [s1, s2, (sm _).2.1, (sm _).2.1, DW, by'.2.2.1, eu.1]
    exact G
  · rw [s1, s2, (sm _).2.1, (sm _).2.1, DW, by'.2.2.1]
    exact cm_n P eu.2
theorem cm_lp {κ τ σ : zS} {a c m A B n : Nat} (h : cmI κ τ a c m A B n) (Z1 : zF (oneF caFactors a) τ σ) (hR : zR σ = zR τ) (hI : zI σ = zI τ) (hN : zN σ = zN τ) (hA : zA σ = zA τ) : cmI κ σ a c m A B n := by
  obtain ⟨⟨Z, ⟨N, K⟩, S⟩, I, o, G, P⟩ := h
  have sm : ∀ z, (nuI τ z c → nuI σ z c) ∧ nuN σ z = nuN τ z ∧ (nuC τ z c → nuC σ z c) := fun z => nu_same (by rw [hR]) hI hA hN
  refine ⟨⟨Z.tr (Z1.mono (fun f b z => Or.inr ⟨z.2, Or.inr (Or.inr (Or.inr z.1))⟩)), ⟨?_, ?_⟩, ?_⟩, ?_, ?_, ?_, ?_⟩
  · unfold caN
    rw [hR]
    exact N
  · unfold caK nuC
    rw [hR, hN]
    exact K
  · unfold caS
    rw [hR]
    exact S
  · rw [hR]
    exact ⟨(sm _).1 I.1, (sm _).1 I.2⟩
  · rw [hR, (sm _).2.1, (sm _).2.1]
    exact o
  · rw [hR, (sm _).2.1, (sm _).2.1]
    exact G
  · rw [hR, (sm _).2.1, (sm _).2.1]
    exact P
theorem cm_bl {C : zC} {n0 a c m A B n : Nat} {κ τ ρ : zS} {a1 b1 c1 d1 : Int} (W : zW C n0 τ) (Ta : zT τ a = 4) (h : cmI κ τ a c m A B n) (V : lpV (nuN τ (zR τ caX a)) (nuN τ (zR τ caY a)) a1 b1 c1 d1) (hb : b1 ≠ 0) (Z1 : zF (nuFp (oo2 (zR τ caX a) (zR τ caY a))) τ ρ) (J1 : nuI ρ (zR τ caX a) c) (J2 : nuI ρ (zR τ caY a) c) (v1 : (nuN ρ (zR τ caX a) : Int) = a1 * nuN τ (zR τ caX a) + b1 * nuN τ (zR τ caY a)) (v2 : (nuN ρ (zR τ caY a) : Int) = c1 * nuN τ (zR τ caX a) + d1 * nuN τ (zR τ caY a)) : cmI κ ρ a c m A B (n + 1) := by
  obtain ⟨⟨Z, ⟨⟨⟨n1, n2, n3⟩, ⟨n4, n5, n6⟩, ⟨n7, n8, n9⟩, na⟩, ⟨⟨k1, k2, k3, k4, k5⟩, k6⟩⟩, S⟩, ⟨IX, IY⟩, ⟨o1, o2⟩, G, P⟩ := h
  obtain ⟨rq, rr, rd, rx, ry, rf⟩ := ca_ref (a := a) Z1
  have Tq := ty_caQuotient W Ta
  have Tr := ty_caRest W Ta
  have Td := ty_caDivisor W Ta
  have cq := nuFp_C W Tq Z1 (oo2_n n4.symm n7.symm) k1
  have cr := nuFp_C W Tr Z1 (oo2_n n5.symm n8.symm) k2
  have cd := nuFp_C W Td Z1 (oo2_n n6.symm n9.symm) k3
  obtain ⟨x, y, hx, hy, w1, w2, w3, w4⟩ := V
  have ex : nuN ρ (zR τ caX a) = x := Int.ofNat.inj (v1.trans hx.symm)
  have ey : nuN ρ (zR τ caY a) = y := Int.ofNat.inj (v2.trans hy.symm)
  have w5 : 2 * (x * y) ≤ nuN τ (zR τ caX a) * nuN τ (zR τ caY a) := by
    rcases w4 with w | w
    · exact absurd w.1 hb
    · exact w
  have eN : zN ρ (zR τ caFactors a) = zN τ (zR τ caFactors a) := Z1.l (ty_caFactors W Ta)
  have mem : ∀ b, oo2 (zR τ caX a) (zR τ caY a) b → caS κ a b := fun b z => S b ((show b = _ ∨ b = _ from z).elim (fun y => Or.inr (Or.inr (Or.inr (Or.inl y)))) (fun y => Or.inr (Or.inr (Or.inr (Or.inr y)))))
  refine ⟨⟨Z.tr (caF_n Z1 mem), ⟨?_, ?_⟩, ?_⟩, ?_, ?_, ?_, ?_⟩
  · unfold caN
    rw [rq, rr, rd, rx, ry]
    exact ⟨⟨n1, n2, n3⟩, ⟨n4, n5, n6⟩, ⟨n7, n8, n9⟩, na⟩
  · unfold caK
    rw [rq, rr, rd, rx, ry, rf, eN]
    exact ⟨⟨cq, cr, cd, J1.1.2.1, J2.1.2.1⟩, k6⟩
  · unfold caS
    rw [rq, rr, rd, rx, ry]
    exact S
  · rw [rx, ry]
    exact ⟨J1, J2⟩
  · rw [rx, ry, ex, ey]
    exact ⟨w1, Nat.lt_of_le_of_lt w3 o2⟩
  · rw [rx, ry, ex, ey, w2]
    exact G
  · rw [rx, ry, ex, ey]
    exact cm_n P w5
theorem cm_end {κ τ : zS} {a c m A B n : Nat} (h : cmI κ τ a c m A B n) (hA : A < 2147483648 ^ m) (hB : B < 2147483648 ^ m) (hm : m ≤ 16000) (hn : 1000000 ≤ n) : nuN τ (zR τ caY a) = 0 := by
  obtain ⟨_, _, ⟨o1, o2⟩, _, P⟩ := h
  refine Nat.eq_zero_of_not_pos (fun z => ?_)
  have p : 1 ≤ nuN τ (zR τ caX a) * nuN τ (zR τ caY a) := Nat.mul_pos (Nat.lt_of_lt_of_le z o1) z
  have q := Nat.mul_le_mul_right (2 ^ n) p
  rw [Nat.one_mul] at q
  have r := Nat.mul_le_mul (Nat.le_of_lt hA) (Nat.le_of_lt hB)
  rw [p31_2, ← Nat.pow_add] at r
  have s : 2 ^ n ≤ 2 ^ (31 * m + 31 * m) := Nat.le_trans q (Nat.le_trans P r)
  have := (Nat.pow_le_pow_iff_right (by decide : 1 < 2)).mp s
  omega
