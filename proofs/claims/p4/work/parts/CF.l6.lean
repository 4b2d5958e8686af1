set_option maxHeartbeats 1600000
/-! the class: Calc's reduce, join -/
theorem caF_m {P P' : Nat → Prop} {κ τ : zS} {a : Nat} (h : ∀ b, P b → P' b) (Z : zF (caF P a) κ τ) : zF (caF P' a) κ τ := Z.mono (fun f b z => (show (P b ∧ (f = nuLimbs ∨ f = nuLength)) ∨ (b = a ∧ (f = caRest ∨ f = caX ∨ f = caY ∨ f = caFactors)) from z).elim (fun y => Or.inl ⟨h b y.1, y.2⟩) Or.inr)
theorem caF_x {P : Nat → Prop} {a w : Nat} (h : ¬ P w) : ¬ caF P a nuLimbs w ∧ ¬ caF P a nuLength w := by
  refine ⟨fun z => ?_, fun z => ?_⟩
  · rcases z with z | ⟨_, z | z | z | z⟩
    · exact h z.1
    · exact absurd z (by decide)
    · exact absurd z (by decide)
    · exact absurd z (by decide)
    · exact absurd z (by decide)
  · rcases z with z | ⟨_, z | z | z | z⟩
    · exact h z.1
    · exact absurd z (by decide)
    · exact absurd z (by decide)
    · exact absurd z (by decide)
    · exact absurd z (by decide)
theorem caF_B {C : zC} {n0 w c a : Nat} {P : Nat → Prop} {κ τ : zS} (W : zW C n0 κ) (T : zT κ w = 8) (Z : zF (caF P a) κ τ) (h : ¬ P w) : (nuI κ w c → nuI τ w c) ∧ nuN τ w = nuN κ w ∧ nuK τ w = nuK κ w ∧ (nuC κ w c → nuC τ w c) := by
  have x := caF_x (a := a) h
  have b := nuB_z (c := c) W T Z x.1 x.2
  have u := nu_z W T Z x.1 x.2
  refine ⟨b.2.1, b.2.2.1, b.2.2.2, fun y => ?_⟩
  unfold nuC
  rw [u.2.1, u.2.2.2]
  exact y
/-- refs of a Calc that stay -/
theorem caF_r {P : Nat → Prop} {κ τ : zS} {a f b : Nat} (Z : zF (caF P a) κ τ) (h : f ≠ nuLimbs ∧ f ≠ nuLength ∧ f ≠ caRest ∧ f ≠ caX ∧ f ≠ caY ∧ f ≠ caFactors) : zR τ f b = zR κ f b := Z.r (fun z => by
  rcases z with ⟨_, z | z⟩ | ⟨_, z | z | z | z⟩
  · exact h.1 z
  · exact h.2.1 z
  · exact h.2.2.1 z
  · exact h.2.2.2.1 z
  · exact h.2.2.2.2.1 z
  · exact h.2.2.2.2.2 z)
theorem ca_dv {C : zC} {n0 a c A B : Nat} {σ τ : zS} (W : zW C n0 σ) (Ta : zT σ a = 4) (h : caI σ a c) (D : dvO σ τ (zR σ caQuotient a) (zR σ caRest a) (zR σ caDivisor a) A B c) : caI τ a c ∧ (∀ b, caS τ a b → caS σ a b) ∧ zF (caF (caS σ a) a) σ τ ∧ (zR τ caQuotient a = zR σ caQuotient a ∧ zR τ caRest a = zR σ caRest a ∧ zR τ caX a = zR σ caX a) ∧ (nuI σ (zR σ caX a) c → nuI τ (zR σ caX a) c) ∧ nuN τ (zR σ caX a) = nuN σ (zR σ caX a) := by
  obtain ⟨⟨⟨n1, n2, n3⟩, ⟨n4, n5, n6⟩, ⟨n7, n8, n9⟩, na⟩, ⟨⟨k1, k2, k3, k4, k5⟩, k6⟩⟩ := h
  obtain ⟨DZ, ⟨DQ, DV⟩, ⟨DR, DW⟩, DC⟩ := D
  obtain ⟨rq, rr, rd, rx, ry, rf⟩ := ca_ref (a := a) DZ
  have Tx := ty_caX W Ta
  have Ty := ty_caY W Ta
  have bx := nuFp_B (c := c) W Tx DZ (oo3_n n4 n5 n6)
  have cx := nuFp_C W Tx DZ (oo3_n n4 n5 n6) k4
  have cy := nuFp_C W Ty DZ (oo3_n n7 n8 n9) k5
  have eN : zN τ (zR σ caFactors a) = zN σ (zR σ caFactors a) := DZ.l (ty_caFactors W Ta)
  refine ⟨⟨?_, ?_⟩, ?_, caF_n DZ (fun b z => (show b = _ ∨ b = _ ∨ b = _ from z).elim Or.inl (fun z => z.elim (fun y => Or.inr (Or.inl y)) (fun y => Or.inr (Or.inr (Or.inl y))))), ⟨rq, rr, rx⟩, bx.2.1, bx.2.2.1⟩
  · unfold caN
    rw [rq, rr, rd, rx, ry]
    exact ⟨⟨n1, n2, n3⟩, ⟨n4, n5, n6⟩, ⟨n7, n8, n9⟩, na⟩
  · unfold caK
    rw [rq, rr, rd, rx, ry, rf, eN]
    exact ⟨⟨DQ.1.2.1, DR.1.2.1, DC, cx, cy⟩, k6⟩
  · unfold caS
    rw [rq, rr, rd, rx, ry]
    exact fun b z => z
theorem ca_o {C : zC} {n0 a c w : Nat} {σ τ : zS} (W : zW C n0 σ) (Ta : zT σ a = 4) (h : caI σ a c) (Z : zF (nuF w) σ τ) (hw : ¬ caS σ a w) : caI τ a c ∧ (∀ b, caS τ a b → caS σ a b) ∧ zF (caF (fun b => b = w) a) σ τ ∧ (zR τ caQuotient a = zR σ caQuotient a ∧ zR τ caX a = zR σ caX a) ∧ (nuI σ (zR σ caX a) c → nuI τ (zR σ caX a) c) ∧ nuN τ (zR σ caX a) = nuN σ (zR σ caX a) := by
  obtain ⟨⟨⟨n1, n2, n3⟩, ⟨n4, n5, n6⟩, ⟨n7, n8, n9⟩, na⟩, ⟨⟨k1, k2, k3, k4, k5⟩, k6⟩⟩ := h
  have Zp : zF (nuFp (fun b => b = w)) σ τ := nuFp_m rfl Z
  obtain ⟨rq, rr, rd, rx, ry, rf⟩ := ca_ref (a := a) Zp
  have cq := nuFp_C W (ty_caQuotient W Ta) Zp (fun e => hw (Or.inl e.symm)) k1
  have cr := nuFp_C W (ty_caRest W Ta) Zp (fun e => hw (Or.inr (Or.inl e.symm))) k2
  have cd := nuFp_C W (ty_caDivisor W Ta) Zp (fun e => hw (Or.inr (Or.inr (Or.inl e.symm)))) k3
  have cx := nuFp_C W (ty_caX W Ta) Zp (fun e => hw (Or.inr (Or.inr (Or.inr (Or.inl e.symm))))) k4
  have cy := nuFp_C W (ty_caY W Ta) Zp (fun e => hw (Or.inr (Or.inr (Or.inr (Or.inr e.symm))))) k5
  have bx := nuFp_B (c := c) W (ty_caX W Ta) Zp (fun e => hw (Or.inr (Or.inr (Or.inr (Or.inl e.symm)))))
  have eN : zN τ (zR σ caFactors a) = zN σ (zR σ caFactors a) := Zp.l (ty_caFactors W Ta)
  refine ⟨⟨?_, ?_⟩, ?_, caF_n Zp (fun b z => z), ⟨rq, rx⟩, bx.2.1, bx.2.2.1⟩
  · unfold caN
    rw [rq, rr, rd, rx, ry]
    exact ⟨⟨n1, n2, n3⟩, ⟨n4, n5, n6⟩, ⟨n7, n8, n9⟩, na⟩
  · unfold caK
    rw [rq, rr, rd, rx, ry, rf, eN]
    exact ⟨⟨cq, cr, cd, cx, cy⟩, k6⟩
  · unfold caS
    rw [rq, rr, rd, rx, ry]
    exact fun b z => z
theorem caS_n {κ : zS} {a w : Nat} (h : ¬ caS κ a w) : (w ≠ zR κ caQuotient a ∧ w ≠ zR κ caRest a ∧ w ≠ zR κ caDivisor a) ∧ w ≠ zR κ caX a ∧ w ≠ zR κ caY a := ⟨⟨fun e => h (Or.inl e), fun e => h (Or.inr (Or.inl e)), fun e => h (Or.inr (Or.inr (Or.inl e)))⟩, fun e => h (Or.inr (Or.inr (Or.inr (Or.inl e)))), fun e => h (Or.inr (Or.inr (Or.inr (Or.inr e))))⟩
/-- a Calc may divide a number of someone else's by its x -/
theorem ca_pd {κ : zS} {a c w m : Nat} (h : caI κ a c) (IX : nuI κ (zR κ caX a) c) (IW : nuI κ w 30000000) (hw : ¬ caS κ a w) (k : nuK κ w ≤ m) (hc : m + 1 + (m + 1) / 2 + 2 ≤ c) (hl : c ≤ 30000000) : (nuC κ (zR κ caQuotient a) c ∧ nuC κ (zR κ caRest a) c ∧ nuC κ (zR κ caDivisor a) c) ∧ (nuI κ w 30000000 ∧ nuI κ (zR κ caX a) 30000000) ∧ (zR κ caQuotient a ≠ zR κ caRest a ∧ zR κ caQuotient a ≠ zR κ caDivisor a ∧ zR κ caRest a ≠ zR κ caDivisor a) ∧ (w ≠ zR κ caQuotient a ∧ w ≠ zR κ caRest a ∧ w ≠ zR κ caDivisor a) ∧ (zR κ caX a ≠ zR κ caQuotient a ∧ zR κ caX a ≠ zR κ caRest a ∧ zR κ caX a ≠ zR κ caDivisor a) ∧ nuK κ w + 1 + (nuK κ w + 1) / 2 + 2 ≤ c ∧ c ≤ 30000000 := ⟨⟨h.2.1.1, h.2.1.2.1, h.2.1.2.2.1⟩, ⟨IW, nuI_mono hl IX⟩, h.1.1, (caS_n hw).1, h.1.2.1, by omega, hl⟩
theorem Ca_reduce_c {C : zC} {n0 : Nat} {a0 : Nat} {a1 : Nat} {a2 : Nat} {κ : zS} {Q : zS → Prop} (W : zW C n0 κ) (Ta0 : zT κ a0 = 4) (Ta1 : zT κ a1 = 8) (Ta2 : zT κ a2 = 8) (c9 m9 t9 : Nat) (hp : (nuI κ a1 t9 ∧ nuI κ a2 t9) ∧ caI κ a0 c9 ∧ (¬ caS κ a0 a1 ∧ ¬ caS κ a0 a2 ∧ a1 ≠ a2) ∧ (nuN κ a1 < 2147483648 ^ m9 ∧ nuN κ a2 < 2147483648 ^ m9) ∧ (m9 + 1 + (m9 + 1) / 2 + 2 ≤ c9 ∧ m9 + m9 / 2 + 1 ≤ t9 ∧ t9 ≤ 30000000) ∧ c9 ≤ 30000000 ∧ m9 ≤ 16000) (h : ∀ (κ' : zS), ((zF (caF (fun b => caS κ a0 b ∨ b = a1 ∨ b = a2) a0) κ κ' ∧ caI κ' a0 c9 ∧ ∀ b, caS κ' a0 b → caS κ a0 b) ∧ (nuI κ' a1 t9 ∧ nuN κ' a1 = nuN κ a1 / Nat.gcd (nuN κ a1) (nuN κ a2)) ∧ nuI κ' a2 t9 ∧ nuN κ' a2 = nuN κ a2 / Nat.gcd (nuN κ a1) (nuN κ a2)) → Q κ') : zRun C 5 mCa_reduce [.ref a0, .ref a1, .ref a2] κ (oV Q noX) := by
  refine Ca_reduce_run W Ta0 Ta1 Ta2 ?_
  replace W := W.lo (Nat.le_trans W.1.2.1 W.1.2.2) (Nat.le_refl (zn κ))
  unfold w_Ca_reduce_0
  obtain ⟨⟨I1, I2⟩, CI, ⟨n1, n2, n12⟩, ⟨h1, h2⟩, ⟨p1, p2, p3⟩, p4, p5⟩ := hp
  have k1 := nuK_lt I1 h1
  have k2 := nuK_lt I2 h2
  intro T1
  intro T2
  intro T3
  refine Ca_common_c W T1 T2 T3 c9 m9 ?_ (fun κ_4 q5 => ?_)
  · exact ⟨⟨nuI_mono p3 I1, nuI_mono p3 I2⟩, CI, ⟨(caS_n n1).2.1, (caS_n n1).2.2, (caS_n n2).2.1, (caS_n n2).2.2⟩, ⟨h1, h2⟩, p1, p4, p5⟩  -- p1
  obtain ⟨Z4, C4, S4, I4, V4⟩ := q5
  have b1 := caF_B (c := t9) W Ta1 Z4 n1
  have b2 := caF_B (c := t9) W Ta2 Z4 n2
  have Z4' : zF (caF (fun b => caS κ a0 b ∨ b = a1 ∨ b = a2) a0) κ κ_4 := caF_m (fun b z => Or.inl z) Z4
  have T4 : zT κ_4 a0 = 4 := Z4.t Ta0 (by decide)
  have T14 : zT κ_4 a1 = 8 := Z4.t Ta1 (by decide)
  have T24 : zT κ_4 a2 = 8 := Z4.t Ta2 (by decide)
  have m1 : ¬ caS κ_4 a0 a1 := fun z => n1 (S4 _ z)
  have m2 : ¬ caS κ_4 a0 a2 := fun z => n2 (S4 _ z)
  intro W6
  intro M7
  intro T8
  refine Nu_isOne_c W6 T8 30000000 ?_ (fun r9 q11 => ?_)
  · exact nuI_mono p4 I4  -- p2
  intro W12
  intro M13
  refine ⟨fun c14 => ?_, fun c14 => ?_⟩
  · skip
    refine h _ ?_
    · have g1 : Nat.gcd (nuN κ a1) (nuN κ a2) = 1 := V4.symm.trans (q11.2.mp c14)
      rw [g1, Nat.div_one, Nat.div_one]
      exact ⟨⟨Z4', C4, S4⟩, ⟨b1.1 I1, b1.2.1⟩, b2.1 I2, b2.2.1⟩
  · skip
    refine ⟨fun c15 => ?_, fun c15 => ?_⟩
    · skip
      refine h _ ?_
      · rw [lei, t0i] at c15
        have kx := nuK_i I4.1
        have xz := (nuK_z I4).mp (by omega)
        rw [V4] at xz
        have zz := Nat.gcd_eq_zero_iff.mp xz
        rw [xz, Nat.div_zero, Nat.div_zero]
        exact ⟨⟨Z4', C4, S4⟩, ⟨b1.1 I1, by rw [b1.2.1]; exact zz.1⟩, b2.1 I2, by rw [b2.2.1]; exact zz.2⟩
    · skip
      intro T16
      intro T17
      intro T18
      refine Ca_divide_c W12 T16 T17 T18 c9 ?_ (fun κ_19 q20 => ?_)
      · exact ca_pd (m := m9) C4 I4 (nuI_mono p3 (b1.1 I1)) m1 (by rw [b1.2.2.1]; exact k1) p1 p4  -- p5
      obtain ⟨C19, S19, Z19, ⟨rq19, rr19, rx19⟩, x19, v19⟩ := ca_dv W12 T4 C4 q20
      have T19 : zT κ_19 a0 = 4 := Z19.t T4 (by decide)
      have DQ := q20.2.1
      rw [b1.2.1, V4] at DQ
      have c1 := caF_B (c := t9) W12 T14 Z19 m1
      have c2 := caF_B (c := t9) W12 T24 Z19 m2
      have T119 : zT κ_19 a1 = 8 := Z19.t T14 (by decide)
      have T219 : zT κ_19 a2 = 8 := Z19.t T24 (by decide)
      have kq : nuK κ_19 (zR κ_4 caQuotient a0) ≤ m9 := nuK_lt DQ.1 (by rw [DQ.2]; exact Nat.lt_of_le_of_lt (Nat.div_le_self _ _) h1)
      have m119 : ¬ caS κ_19 a0 a1 := fun z => m1 (S19 _ z)
      have m219 : ¬ caS κ_19 a0 a2 := fun z => m2 (S19 _ z)
      intro W21
      intro M22
      intro T23
      intro T24
      refine Nu_copy_c W21 T23 T24 t9 30000000 ?_ (fun κ_25 q26 => ?_)
      · rw [rq19]
        exact ⟨(c1.1 (b1.1 I1)).1.2.1, nuB_mono p4 DQ.1.1, (caS_n m1).1.1, by omega, p3⟩
      rw [rq19] at q26
      obtain ⟨F25, B25, V25, K25, Y25⟩ := q26
      obtain ⟨C25, S25, Z25, ⟨rq25, rx25⟩, x25, v25⟩ := ca_o W21 T19 C19 F25 m119
      have T25 : zT κ_25 a0 = 4 := F25.t T19 (by decide)
      have T225 : zT κ_25 a2 = 8 := F25.t T219 (by decide)
      have T125 : zT κ_25 a1 = 8 := F25.t T119 (by decide)
      have d2 := nuB_z (c := t9) W21 T219 F25 (fun z => n12 z.1.symm) (fun z => n12 z.1.symm)
      have m225 : ¬ caS κ_25 a0 a2 := fun z => m219 (S25 _ z)
      have m125 : ¬ caS κ_25 a0 a1 := fun z => m119 (S25 _ z)
      have IX25 : nuI κ_25 (zR κ_25 caX a0) c9 := by
        rw [rx25]
        refine x25 ?_
        rw [rx19]
        exact x19 I4
      have VX25 : nuN κ_25 (zR κ_25 caX a0) = Nat.gcd (nuN κ a1) (nuN κ a2) := by
        rw [rx25, v25, rx19, v19]
        exact V4
      have I225 : nuI κ_25 a2 t9 := d2.2.1 (c2.1 (b2.1 I2))
      have V225 : nuN κ_25 a2 = nuN κ a2 := by rw [d2.2.2.1, c2.2.1, b2.2.1]
      have K225 : nuK κ_25 a2 ≤ m9 := by rw [d2.2.2.2, c2.2.2.1, b2.2.2.1]; exact k2
      have I125 : nuI κ_25 a1 t9 := ⟨B25, Y25 DQ.1.2⟩
      have V125 : nuN κ_25 a1 = nuN κ a1 / Nat.gcd (nuN κ a1) (nuN κ a2) := by rw [V25]; exact DQ.2
      intro W27
      intro M28
      intro T29
      intro T30
      intro T31
      refine Ca_divide_c W27 T29 T30 T31 c9 ?_ (fun κ_32 q33 => ?_)
      · exact ca_pd (m := m9) C25 IX25 (nuI_mono p3 I225) m225 K225 p1 p4  -- p7
      obtain ⟨C32, S32, Z32, ⟨rq32, rr32, rx32⟩, x32, v32⟩ := ca_dv W27 T25 C25 q33
      have T32 : zT κ_32 a0 = 4 := Z32.t T25 (by decide)
      have DQ2 := q33.2.1
      rw [V225, VX25] at DQ2
      have e1 := caF_B (c := t9) W27 T125 Z32 m125
      have e2 := caF_B (c := t9) W27 T225 Z32 m225
      have T132 : zT κ_32 a1 = 8 := Z32.t T125 (by decide)
      have kq2 : nuK κ_32 (zR κ_25 caQuotient a0) ≤ m9 := nuK_lt DQ2.1 (by rw [DQ2.2]; exact Nat.lt_of_le_of_lt (Nat.div_le_self _ _) h2)
      have m232 : ¬ caS κ_32 a0 a2 := fun z => m225 (S32 _ z)
      intro W34
      intro M35
      intro T36
      intro T37
      refine Nu_copy_c W34 T36 T37 t9 30000000 ?_ (fun κ_38 q39 => ?_)
      · rw [rq32]
        exact ⟨(e2.1 I225).1.2.1, nuB_mono p4 DQ2.1.1, (caS_n m225).1.1, by omega, p3⟩
      intro W40
      intro M41
      refine h _ ?_
      · rw [rq32] at q39
        obtain ⟨F38, B38, V38, K38, Y38⟩ := q39
        obtain ⟨C38, S38, Z38, ⟨rq38, rx38⟩, x38, v38⟩ := ca_o W34 T32 C32 F38 m232
        have f1 := nuB_z (c := t9) W34 T132 F38 (fun z => n12 z.1) (fun z => n12 z.1)
        have sub4 : ∀ b, caS κ_4 a0 b → caS κ a0 b ∨ b = a1 ∨ b = a2 := fun b z => Or.inl (S4 b z)
        have sub25 : ∀ b, caS κ_25 a0 b → caS κ a0 b ∨ b = a1 ∨ b = a2 := fun b z => sub4 b (S19 b (S25 b z))
        have Zf := (((Z4'.tr (caF_m sub4 Z19)).tr (caF_m (fun b z => Or.inr (Or.inl z)) Z25)).tr (caF_m sub25 Z32)).tr (caF_m (fun b z => Or.inr (Or.inr z)) Z38)
        exact ⟨⟨Zf, C38, fun b z => S4 b (S19 b (S25 b (S32 b (S38 b z))))⟩, ⟨f1.2.1 (e1.1 I125), by rw [f1.2.2.1, e1.2.1]; exact V125⟩, ⟨B38, Y38 DQ2.1.2⟩, by rw [V38]; exact DQ2.2⟩

theorem lcm_r {M O : Nat} : M * (O / Nat.gcd O (M % O)) = Nat.lcm M O := by
  have g : Nat.gcd O (M % O) = Nat.gcd M O := gc_m
  rw [g]
  unfold Nat.lcm
  exact (Nat.mul_div_assoc M (Nat.gcd_dvd_right M O)).symm
theorem lcm_z {M O : Nat} (h : M % O = 0) : Nat.lcm M O = M := by
  rw [← lcm_r, h, Nat.gcd_zero_right]
  by_cases z : O = 0
  · rw [z] at h
    rw [Nat.mod_zero] at h
    rw [h, Nat.zero_mul]
  · rw [Nat.div_self (Nat.pos_of_ne_zero z), Nat.mul_one]
theorem Ca_join_c {C : zC} {n0 : Nat} {a0 : Nat} {a1 : Nat} {a2 : Nat} {κ : zS} {Q : zS → Prop} (W : zW C n0 κ) (Ta0 : zT κ a0 = 4) (Ta1 : zT κ a1 = 8) (Ta2 : zT κ a2 = 8) (c9 m9 t9 s9 : Nat) (hp : (nuI κ a1 t9 ∧ nuI κ a2 30000000 ∧ nuI κ (zR κ caSpare a0) s9) ∧ caI κ a0 c9 ∧ (¬ caS κ a0 a1 ∧ ¬ caS κ a0 a2 ∧ ¬ caS κ a0 (zR κ caSpare a0)) ∧ (a1 ≠ a2 ∧ a1 ≠ (zR κ caSpare a0) ∧ a2 ≠ (zR κ caSpare a0)) ∧ (nuN κ a1 < 2147483648 ^ m9 ∧ nuN κ a2 < 2147483648 ^ m9) ∧ (m9 + 1 + (m9 + 1) / 2 + 2 ≤ c9 ∧ nuK κ a1 + nuK κ a2 + (nuK κ a1 + nuK κ a2) / 2 + 1 ≤ t9 ∧ t9 ≤ 30000000) ∧ (nuK κ a1 + nuK κ a2 + (nuK κ a1 + nuK κ a2) / 2 + 1 ≤ s9 ∧ s9 ≤ 30000000) ∧ c9 ≤ 30000000 ∧ m9 ≤ 16000) (h : ∀ (κ' : zS), ((zF (caF (fun b => caS κ a0 b ∨ b = a1 ∨ b = (zR κ caSpare a0)) a0) κ κ' ∧ caI κ' a0 c9 ∧ ∀ b, caS κ' a0 b → caS κ a0 b) ∧ nuI κ' (zR κ caSpare a0) s9 ∧ nuI κ' a1 t9 ∧ nuN κ' a1 = Nat.lcm (nuN κ a1) (nuN κ a2)) → Q κ') : zRun C 5 mCa_join [.ref a0, .ref a1, .ref a2] κ (oV Q noX) := by
  refine Ca_join_run W Ta0 Ta1 Ta2 ?_
  replace W := W.lo (Nat.le_trans W.1.2.1 W.1.2.2) (Nat.le_refl (zn κ))
  unfold w_Ca_join_0
  obtain ⟨⟨I1, I2, Is⟩, CI, ⟨n1, n2, ns⟩, ⟨n12, n1s, n2s⟩, ⟨h1, h2⟩, ⟨p1, p2, p3⟩, ⟨p4, p5⟩, p6, p7⟩ := hp
  have k1 := nuK_lt I1 h1
  have k2 := nuK_lt I2 h2
  have Ts := ty_caSpare W Ta0
  have Cs : nuC κ (zR κ caSpare a0) s9 := Is.1.2.1
  intro T1
  intro T2
  intro T3
  refine Ca_divide_c W T1 T2 T3 c9 ?_ (fun κ_4 q5 => ?_)
  · exact ⟨⟨CI.2.1.1, CI.2.1.2.1, CI.2.1.2.2.1⟩, ⟨nuI_mono p3 I1, I2⟩, CI.1.1, (caS_n n1).1, (caS_n n2).1, by omega, p6⟩  -- p1
  obtain ⟨C4, S4, Z4, ⟨rq4, rr4, rx4⟩, x4, v4⟩ := ca_dv W Ta0 CI q5
  have T4 : zT κ_4 a0 = 4 := Z4.t Ta0 (by decide)
  have b1 := caF_B (c := t9) W Ta1 Z4 n1
  have b2 := caF_B (c := 30000000) W Ta2 Z4 n2
  have bs := caF_B (c := s9) W Ts Z4 ns
  have DR := q5.2.2.1
  have T14 : zT κ_4 a1 = 8 := Z4.t Ta1 (by decide)
  have T24 : zT κ_4 a2 = 8 := Z4.t Ta2 (by decide)
  have Ts4 : zT κ_4 (zR κ caSpare a0) = 8 := Z4.t Ts (by decide)
  have m1 : ¬ caS κ_4 a0 a1 := fun z => n1 (S4 _ z)
  have m2 : ¬ caS κ_4 a0 a2 := fun z => n2 (S4 _ z)
  have ms : ¬ caS κ_4 a0 (zR κ caSpare a0) := fun z => ns (S4 _ z)
  have kr := nuK_i DR.1.1
  intro W6
  intro M7
  refine ⟨fun c8 => ?_, fun c8 => ?_⟩
  · skip
    refine h _ ?_
    · rw [rr4, lei, t0i] at c8
      have rz := (nuK_z DR.1).mp (by omega)
      rw [DR.2] at rz
      exact ⟨⟨caF_m (fun b z => Or.inl z) Z4, C4, S4⟩, bs.1 Is, b1.1 I1, by rw [b1.2.1, lcm_z rz]⟩
  · skip
    intro T9
    intro T10
    intro T11
    refine Ca_common_c W6 T9 T10 T11 c9 m9 ?_ (fun κ_12 q13 => ?_)
    · have hr : nuN κ_4 (zR κ caRest a0) < 2147483648 ^ m9 := by
        rw [DR.2]
        exact Nat.lt_of_le_of_lt (Nat.mod_le _ _) h1
      rw [rr4]
      refine ⟨⟨b2.1 I2, nuI_mono p6 DR.1⟩, C4, ⟨(caS_n m2).2.1, (caS_n m2).2.2, ?_, ?_⟩, ⟨by rw [b2.2.1]; exact h2, hr⟩, p1, p6, p7⟩
      · rw [← rr4]; exact C4.1.2.1.2.1.symm
      · rw [← rr4]; exact C4.1.2.2.1.2.1.symm
    obtain ⟨Z12, C12, S12, I12, V12⟩ := q13
    rw [rr4, b2.2.1, DR.2] at V12
    have T12 : zT κ_12 a0 = 4 := Z12.t T4 (by decide)
    have c1 := caF_B (c := t9) W6 T14 Z12 m1
    have c2 := caF_B (c := 30000000) W6 T24 Z12 m2
    have cs := caF_B (c := s9) W6 Ts4 Z12 ms
    have T112 : zT κ_12 a1 = 8 := Z12.t T14 (by decide)
    have T212 : zT κ_12 a2 = 8 := Z12.t T24 (by decide)
    have Ts12 : zT κ_12 (zR κ caSpare a0) = 8 := Z12.t Ts4 (by decide)
    have m112 : ¬ caS κ_12 a0 a1 := fun z => m1 (S12 _ z)
    have m212 : ¬ caS κ_12 a0 a2 := fun z => m2 (S12 _ z)
    have ms12 : ¬ caS κ_12 a0 (zR κ caSpare a0) := fun z => ms (S12 _ z)
    have V212 : nuN κ_12 a2 = nuN κ a2 := by rw [c2.2.1, b2.2.1]
    have K212 : nuK κ_12 a2 ≤ m9 := by rw [c2.2.2.1, b2.2.2.1]; exact k2
    intro W14
    intro M15
    intro T16
    intro T17
    intro T18
    refine Ca_divide_c W14 T16 T17 T18 c9 ?_ (fun κ_19 q20 => ?_)
    · exact ca_pd (m := m9) C12 I12 (c2.1 (b2.1 I2)) m212 K212 p1 p6  -- p4
    obtain ⟨C19, S19, Z19, ⟨rq19, rr19, rx19⟩, x19, v19⟩ := ca_dv W14 T12 C12 q20
    have T19 : zT κ_19 a0 = 4 := Z19.t T12 (by decide)
    have DQ := q20.2.1
    rw [V212, V12] at DQ
    have d1 := caF_B (c := t9) W14 T112 Z19 m112
    have ds := caF_B (c := s9) W14 Ts12 Z19 ms12
    have T119 : zT κ_19 a1 = 8 := Z19.t T112 (by decide)
    have Ts19 : zT κ_19 (zR κ caSpare a0) = 8 := Z19.t Ts12 (by decide)
    have m119 : ¬ caS κ_19 a0 a1 := fun z => m112 (S19 _ z)
    have ms19 : ¬ caS κ_19 a0 (zR κ caSpare a0) := fun z => ms12 (S19 _ z)
    have I119 : nuI κ_19 a1 t9 := d1.1 (c1.1 (b1.1 I1))
    have V119 : nuN κ_19 a1 = nuN κ a1 := by rw [d1.2.1, c1.2.1, b1.2.1]
    have K119 : nuK κ_19 a1 = nuK κ a1 := by rw [d1.2.2.1, c1.2.2.1, b1.2.2.1]
    have kq : nuK κ_19 (zR κ_12 caQuotient a0) ≤ nuK κ a2 := nuK_le (d := 0) DQ.1 (by rw [DQ.2]; exact Nat.div_le_self _ _)
    have es19 : zR κ_19 caSpare a0 = (zR κ caSpare a0) := (caF_r Z19 (by decide)).trans ((caF_r Z12 (by decide)).trans (caF_r Z4 (by decide)))
    intro W21
    intro M22
    intro T23
    intro T24
    intro T25
    refine Nu_product_c W21 T23 T24 T25 s9 30000000 30000000 ?_ (fun κ_26 q27 => ?_)
    · rw [es19, rq19, K119]
      exact ⟨ds.2.2.2 (cs.2.2.2 (bs.2.2.2 Cs)), ⟨nuI_mono p3 I119, nuI_mono p6 DQ.1⟩, ⟨n1s.symm, (caS_n ms12).1.1⟩, by omega, p5⟩
    rw [es19, rq19, V119, DQ.2] at q27
    obtain ⟨F26, I26, V26⟩ := q27
    obtain ⟨C26, S26, Z26, ⟨rq26, rx26⟩, x26, v26⟩ := ca_o W21 T19 C19 F26 ms19
    have T26 : zT κ_26 a0 = 4 := F26.t T19 (by decide)
    have T126 : zT κ_26 a1 = 8 := F26.t T119 (by decide)
    have Ts26 : zT κ_26 (zR κ caSpare a0) = 8 := F26.t Ts19 (by decide)
    have f1 := nuB_z (c := t9) W21 T119 F26 (fun z => n1s z.1) (fun z => n1s z.1)
    have es26 : zR κ_26 caSpare a0 = (zR κ caSpare a0) := (nuF_r F26 (by decide) (by decide)).trans es19
    have m126 : ¬ caS κ_26 a0 a1 := fun z => m119 (S26 _ z)
    have ks : nuK κ_26 (zR κ caSpare a0) ≤ nuK κ a1 + nuK κ a2 := by
      refine nuK_lt I26 ?_
      have u1 := nuN_lt (κ := κ) (x := a1)
      have u2 := nuN_lt (κ := κ) (x := a2)
      rw [V26, Nat.pow_add]
      exact Nat.lt_of_le_of_lt (Nat.mul_le_mul_left _ (Nat.div_le_self _ _)) (Nat.mul_lt_mul'' u1 u2)
    intro W28
    intro M29
    intro T30
    intro T31
    refine Nu_copy_c W28 T30 T31 t9 30000000 ?_ (fun κ_32 q33 => ?_)
    · rw [es26]
      exact ⟨(f1.2.1 I119).1.2.1, nuB_mono p5 I26.1, n1s, by omega, p3⟩
    intro W34
    intro M35
    refine h _ ?_
    · rw [es26] at q33
      obtain ⟨F32, B32, V32, K32, Y32⟩ := q33
      obtain ⟨C32, S32, Z32, _, _, _⟩ := ca_o W28 T26 C26 F32 m126
      have us := nuB_z (c := s9) W28 Ts26 F32 (fun z => n1s z.1.symm) (fun z => n1s z.1.symm)
      have sub4 : ∀ b, caS κ_4 a0 b → caS κ a0 b ∨ b = a1 ∨ b = (zR κ caSpare a0) := fun b z => Or.inl (S4 b z)
      have sub12 : ∀ b, caS κ_12 a0 b → caS κ a0 b ∨ b = a1 ∨ b = (zR κ caSpare a0) := fun b z => sub4 b (S12 b z)
      have Zf := ((((caF_m (fun b z => Or.inl z) Z4 : zF (caF (fun b => caS κ a0 b ∨ b = a1 ∨ b = (zR κ caSpare a0)) a0) κ κ_4).tr (caF_m sub4 Z12)).tr (caF_m sub12 Z19)).tr (caF_m (fun b z => Or.inr (Or.inr z)) Z26)).tr (caF_m (fun b z => Or.inr (Or.inl z)) Z32)
      refine ⟨⟨Zf, C32, fun b z => S4 b (S12 b (S19 b (S26 b (S32 b z))))⟩, us.2.1 I26, ⟨B32, Y32 I26.2⟩, ?_⟩
      rw [V32, V26]
      exact lcm_r
