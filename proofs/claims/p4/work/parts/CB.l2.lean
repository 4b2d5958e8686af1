set_option maxHeartbeats 1600000
/-! the class: Calc's blend -/
theorem j_sar {x : Int64} : (x >>> ((31 : Int32).toInt64 &&& 63)).toInt = x.toInt / 2147483648 := by
  have e : (x >>> ((31 : Int32).toInt64 &&& 63)).toBitVec = x.toBitVec.sshiftRight 31 := by
    rw [Int64.toBitVec_shiftRight, BitVec.sshiftRight_eq']
    rfl
  have t : (x >>> ((31 : Int32).toInt64 &&& 63)).toInt = (x.toBitVec.sshiftRight 31).toInt := by rw [← e]; rfl
  rw [t, BitVec.toInt_sshiftRight, Int.shiftRight_eq_div_pow]
  rfl
/-- opposite signs -/
def lpP (a b : Int) : Prop := ((0 ≤ a ∧ b ≤ 0) ∨ (a ≤ 0 ∧ 0 ≤ b)) ∧ (-2147483647 ≤ a ∧ a ≤ 2147483647) ∧ (-2147483647 ≤ b ∧ b ≤ 2147483647)
theorem lpP_1 {a b c d : Int} (S : lpS a b c d) (B : lpB a b c d) : lpP a b ∧ lpP c d := by
  obtain ⟨B1, B2, B3, B4⟩ := B
  refine ⟨⟨?_, B1, B2⟩, ⟨?_, B3, B4⟩⟩
  · rcases S with s | s
    · exact Or.inl ⟨s.1, s.2.1⟩
    · exact Or.inr ⟨s.1, s.2.1⟩
  · rcases S with s | s
    · exact Or.inr ⟨s.2.2.1, s.2.2.2⟩
    · exact Or.inl ⟨s.2.2.1, s.2.2.2⟩
theorem lpP_t {a l : Int} (ha : -2147483647 ≤ a ∧ a ≤ 2147483647) (hl : 0 ≤ l ∧ l ≤ 2147483647) : (-4611686014132420609 ≤ a * l ∧ a * l ≤ 4611686014132420609) ∧ (0 ≤ a → 0 ≤ a * l) ∧ (a ≤ 0 → a * l ≤ 0) := by
  have m1 := Int.mul_le_mul_of_nonneg_right ha.1 hl.1
  have m2 := Int.mul_le_mul_of_nonneg_right ha.2 hl.1
  exact ⟨by omega, fun z => Int.mul_nonneg z hl.1, fun z => Int.mul_nonpos_of_nonpos_of_nonneg z hl.1⟩
theorem lpP_b {a b l r : Int} (h : lpP a b) (hl : 0 ≤ l ∧ l ≤ 2147483647) (hr : 0 ≤ r ∧ r ≤ 2147483647) : (-4611686014132420609 ≤ a * l ∧ a * l ≤ 4611686014132420609) ∧ (-4611686014132420609 ≤ b * r ∧ b * r ≤ 4611686014132420609) ∧ -4611686014132420609 ≤ a * l + b * r ∧ a * l + b * r ≤ 4611686014132420609 := by
  have t1 := lpP_t h.2.1 hl
  have t2 := lpP_t h.2.2 hr
  rcases h.1 with s | s
  · have u1 := t1.2.1 s.1
    have u2 := t2.2.2 s.2
    omega
  · have u1 := t1.2.2 s.1
    have u2 := t2.2.1 s.2
    omega
/-- a sum of multiples, limb by limb -/
def blI (L M Z : Nat → Int32) (a b : Int) (i : Nat) (o : Int) : Prop := (uV Z i : Int) + o * ((2147483648 ^ i : Nat) : Int) = a * uV L i + b * uV M i ∧ (-2147483648 ≤ o ∧ o ≤ 2147483648) ∧ ∀ j, j < i → 0 ≤ (Z j).toInt
theorem bl_ar {z o a b p S T D x y v : Int} (h : D + o * p = a * S + b * T) (hv : v = o + (a * x + b * y)) : D + v % 2147483648 * p + v / 2147483648 * (2147483648 * p) = a * (S + x * p) + b * (T + y * p) := by
  have m := Int.mul_ediv_add_emod v 2147483648
  have e : (2147483648 * (v / 2147483648) + v % 2147483648) * p = (o + (a * x + b * y)) * p := by rw [m, hv]
  simp only [Int.add_mul, Int.mul_add, Int.mul_assoc, Int.mul_left_comm (v / 2147483648)] at *
  omega
theorem blI_s {L M Z Z' : Nat → Int32} {a b o v : Int} {i : Nat} {x : Int32} (h : blI L M Z a b i o) (P : lpP a b) (hl : 0 ≤ (L i).toInt) (hr : 0 ≤ (M i).toInt) (hv : v = o + (a * (L i).toInt + b * (M i).toInt)) (ex : x.toInt = v % 2147483648) (e : Z' = upd Z i x) : blI L M Z' a b (i + 1) (v / 2147483648) := by
  obtain ⟨h1, h2, h3⟩ := h
  have kl := cnk hl
  have kr := cnk hr
  have l1 := ihi (L i)
  have l2 := ihi (M i)
  have pb := lpP_b P (l := (L i).toInt) (r := (M i).toInt) (by omega) (by omega)
  have kx := cnk (x := x) (by omega)
  have mi : Z' i = x := by rw [e]; exact if_pos rfl
  have mj : ∀ j, j ≠ i → Z' j = Z j := fun j hj => by rw [e]; exact if_neg hj
  refine ⟨?_, by omega, fun j hj => ?_⟩
  · show ((uV Z' i + (Z' i).toNatClampNeg * 2147483648 ^ i : Nat) : Int) + _ = a * ((uV L i + (L i).toNatClampNeg * 2147483648 ^ i : Nat) : Int) + b * ((uV M i + (M i).toNatClampNeg * 2147483648 ^ i : Nat) : Int)
    rw [uV_e (g := Z) (fun j hj => mj j (Nat.ne_of_lt hj)), mi, p31_s]
    rw [Int.natCast_add, Int.natCast_mul, Int.natCast_add, Int.natCast_mul, Int.natCast_add, Int.natCast_mul, Int.natCast_mul, kx, kl, kr, ex]
    exact bl_ar (z := 0) h1 hv
  · by_cases z : j = i
    · rw [z, mi]; omega
    · rw [mj j z]; exact h3 j (by omega)
theorem blI_e {L M Z : Nat → Int32} {a b o : Int} {m x X : Nat} (h : blI L M Z a b m o) (hx : (x : Int) = a * uV L m + b * uV M m) (hX : x ≤ X) (hl : X < 2147483648 ^ m) : uV Z m = x := by
  obtain ⟨h1, h2, h3⟩ := h
  rw [← hx] at h1
  have lz := uV_lt (f := Z) (n := m)
  generalize (2147483648 : Nat) ^ m = P at *
  have oz : o = 0 := by
    by_cases y : 1 ≤ o
    · have := Int.mul_le_mul_of_nonneg_right y (show (0 : Int) ≤ (P : Int) by omega)
      omega
    · by_cases y2 : o ≤ -1
      · have := Int.mul_le_mul_of_nonneg_right y2 (show (0 : Int) ≤ (P : Int) by omega)
        omega
      · omega
  rw [oz] at h1
  omega
theorem nuT_o {κ τ : zS} {x y c : Nat} (h : nuT κ τ y) (n : x ≠ y) : (nuI κ x c → nuI τ x c) ∧ nuN τ x = nuN κ x ∧ (nuB κ x c → nuB τ x c) := by
  have i := h.2.2.2.2 nuLength x (fun z => n z.2)
  refine ⟨fun I => ?_, ?_, fun I => ?_⟩
  · unfold nuI nuB nuZ
    rw [i, h.2.1, h.2.2.1, h.2.2.2.1]
    exact I
  · unfold nuN
    rw [i, h.2.1, h.2.2.1]
  · unfold nuB
    rw [i, h.2.1, h.2.2.1, h.2.2.2.1]
    exact I
theorem Ca_blend_c {C : zC} {n0 : Nat} {a0 : Nat} {a1 : Int64} {a3 : Int64} {a5 : Int64} {a7 : Int64} {κ : zS} {Q : zS → Prop} (W : zW C n0 κ) (Ta0 : zT κ a0 = 4) (c9 : Nat) (hp : (nuI κ (zR κ caX a0) c9 ∧ nuI κ (zR κ caY a0) c9) ∧ (zR κ caX a0) ≠ (zR κ caY a0) ∧ nuN κ (zR κ caY a0) ≤ nuN κ (zR κ caX a0) ∧ (lpS a1.toInt a3.toInt a5.toInt a7.toInt ∧ lpB a1.toInt a3.toInt a5.toInt a7.toInt ∧ lpV (nuN κ (zR κ caX a0)) (nuN κ (zR κ caY a0)) a1.toInt a3.toInt a5.toInt a7.toInt) ∧ nuK κ (zR κ caX a0) + nuK κ (zR κ caX a0) / 2 + 1 ≤ c9 ∧ c9 ≤ 30000000) (h : ∀ (κ' : zS), (zF (nuFp (oo2 (zR κ caX a0) (zR κ caY a0))) κ κ' ∧ nuI κ' (zR κ caX a0) c9 ∧ nuI κ' (zR κ caY a0) c9 ∧ (nuN κ' (zR κ caX a0) : Int) = a1.toInt * nuN κ (zR κ caX a0) + a3.toInt * nuN κ (zR κ caY a0) ∧ (nuN κ' (zR κ caY a0) : Int) = a5.toInt * nuN κ (zR κ caX a0) + a7.toInt * nuN κ (zR κ caY a0)) → Q κ') : zRun C 3 mCa_blend [.ref a0, .long a1, .long a3, .long a5, .long a7] κ (oV Q noX) := by
  refine Ca_blend_run W Ta0 ?_
  replace W := W.lo (Nat.le_trans W.1.2.1 W.1.2.2) (Nat.le_refl (zn κ))
  unfold w_Ca_blend_0
  obtain ⟨⟨IX, IY⟩, nxy, p1, ⟨LS, LB, LV⟩, p2, p3⟩ := hp
  have PP := lpP_1 LS LB
  have kx := nuK_i IX.1
  have ky := nuK_i IY.1
  have kyd : nuK κ (zR κ caY a0) = (zI κ nuLength (zR κ caY a0)).toNatClampNeg := rfl
  have lx := IX.1.1
  have ly := IY.1.1
  have cx := IX.1.2.1
  have cy := IY.1.2.1
  have kl : nuK κ (zR κ caY a0) ≤ nuK κ (zR κ caX a0) := nuK_le (d := 0) IY p1
  have Tx := ty_caX W Ta0
  have Ty := ty_caY W Ta0
  have hh228 : ∀ (l0 : Nat) (τ : zS), zW C (zn κ) τ → zT τ l0 = 4 → (a0 = l0 ∧ ∃ ρ, (zF (nuFp (oo2 (zR κ caX a0) (zR κ caY a0))) κ ρ ∧ (nuI ρ (zR κ caX a0) c9 ∧ nuB ρ (zR κ caY a0) c9) ∧ (nuN ρ (zR κ caX a0) : Int) = a1.toInt * nuN κ (zR κ caX a0) + a3.toInt * nuN κ (zR κ caY a0) ∧ (nuN ρ (zR κ caY a0) : Int) = a5.toInt * nuN κ (zR κ caX a0) + a7.toInt * nuN κ (zR κ caY a0)) ∧ nuR ρ τ (zR κ caY a0)) → w_Ca_blend_228 C (zn κ) Q  l0 τ := by
    intro z0 τi Wi _ hinit
    unfold w_Ca_blend_228
    refine ⟨fun n l0 τ => n = ((zI τ nuLength (zR κ caY a0)).toInt).toNat ∧ (a0 = l0 ∧ ∃ ρ, (zF (nuFp (oo2 (zR κ caX a0) (zR κ caY a0))) κ ρ ∧ (nuI ρ (zR κ caX a0) c9 ∧ nuB ρ (zR κ caY a0) c9) ∧ (nuN ρ (zR κ caX a0) : Int) = a1.toInt * nuN κ (zR κ caX a0) + a3.toInt * nuN κ (zR κ caY a0) ∧ (nuN ρ (zR κ caY a0) : Int) = a5.toInt * nuN κ (zR κ caX a0) + a7.toInt * nuN κ (zR κ caY a0)) ∧ nuR ρ τ (zR κ caY a0)), ⟨_, rfl, hinit⟩, ?_⟩
    clear hinit
    rintro n228 _ κ228 W228 T228_0 ⟨hn228, rfl, i228⟩
    obtain ⟨ρ, ⟨Zρ, ⟨IXρ, BYρ⟩, VXρ, VYρ⟩, Rρ⟩ := i228
    have eY : zR κ228 caY a0 = (zR κ caY a0) := by rw [Rρ.1.2.1]; exact nuFp_r Zρ (by decide) (by decide)
    have lρ := BYρ.1
    have l2ρ := Rρ.2.1
    have yf : zF (nuFp (oo2 (zR κ caX a0) (zR κ caY a0))) κ κ228 := Zρ.tr (nuFp_m (Or.inr rfl) Rρ.1.1)
    refine ⟨fun c1 => ?_, fun c1 => ?_⟩
    · skip
      refine h _ ?_
      · rw [eY, lei, t0i] at c1
        have q := nuR_e Rρ BYρ (Or.inl c1)
        have o := nuT_o (c := c9) Rρ.1 nxy
        exact ⟨yf, o.1 IXρ, q.1, by rw [o.2.1]; exact VXρ, by rw [q.2.1]; exact VYρ⟩
    · skip
      rw [eY, lei, t0i] at c1
      have d := dec_i (x := zI κ228 nuLength (zR κ caY a0)) (by omega)
      refine ⟨?_, ?_⟩
      · rw [eY, Rρ.1.2.1, Rρ.1.2.2.2.1, inb_iff, d]; omega  -- b2
      refine ⟨fun c2 => ?_, fun c2 => ?_⟩
      · skip
        refine h _ ?_
        · rw [eY] at c2
          have q := nuR_e Rρ BYρ (Or.inr c2)
          have o := nuT_o (c := c9) Rρ.1 nxy
          exact ⟨yf, o.1 IXρ, q.1, by rw [o.2.1]; exact VXρ, by rw [q.2.1]; exact VYρ⟩
      · skip
        intro κ_3 hκ_3
        intro W4
        refine ⟨_, ?_, rfl, ?_⟩
        · rw [eY] at c2 hκ_3
          have s := nuR_s Rρ (by omega) c2 hκ_3
          rw [hn228]; omega
        · rw [eY] at c2 hκ_3
          exact ⟨rfl, ρ, ⟨Zρ, ⟨IXρ, BYρ⟩, VXρ, VYρ⟩, (nuR_s Rρ (by omega) c2 hκ_3).1⟩
  intro x5 hx5
  intro T6
  refine Nu_widen_c W T6  ?_ (fun κ_7 q8 => ?_)
  · rw [hx5]
    exact ⟨by omega, cy.1⟩
  obtain ⟨F7, I7, R7, L7, A7⟩ := q8
  rw [hx5] at L7
  have rX : zR κ_7 caX a0 = (zR κ caX a0) := R7 _ _ (fun z => absurd z.1 (by decide))
  have rY : zR κ_7 caY a0 = (zR κ caY a0) := R7 _ _ (fun z => absurd z.1 (by decide))
  have rxl : zR κ_7 nuLimbs (zR κ caX a0) = zR κ nuLimbs (zR κ caX a0) := R7 _ _ (fun z => nxy z.2)
  have ux := nu_z W Tx F7 (fun z => nxy z.1) (fun z => nxy z.1)
  have Tx7 : zT κ_7 (zR κ caX a0) = 8 := F7.t Tx (by decide)
  have Ty7 : zT κ_7 (zR κ caY a0) = 8 := F7.t Ty (by decide)
  intro W9
  intro M10
  intro T11
  refine Ar_fill4_c W9 T11  ?_ (fun κ_12 q13 => ?_)
  · rw [rY, I7, hx5]
    exact ⟨by rw [lei, t0i]; omega, by rw [lei]; omega, by
      have e : (zI κ nuLength (zR κ caX a0)).toNatClampNeg = nuK κ (zR κ caX a0) := rfl
      rw [e]; omega⟩
  rw [rY, I7, hx5] at q13
  have R12 : zR κ_12 = zR κ_7 := by rw [q13]; rfl
  have I12 : zI κ_12 = zI κ := by rw [q13]; exact I7
  have N12 : zN κ_12 = zN κ_7 := by rw [q13]; rfl
  have ow := W9.o (show zr nuLimbs = some 20 by decide +kernel) (by decide) Ty7
  have Z12 : zF (nuFp (oo2 (zR κ caX a0) (zR κ caY a0))) κ κ_12 := nuFp_m (Or.inr rfl) (F7.tr (by rw [q13]; exact zF_uf (by rw [ow]; exact ⟨rfl, Or.inl rfl⟩)))
  have nr := nu_ne W9 Tx7 Ty7 nxy
  rw [rxl] at nr
  have AX : zA κ_12 (zR κ nuLimbs (zR κ caX a0)) = zA κ (zR κ nuLimbs (zR κ caX a0)) := by
    rw [q13]
    exact (if_neg nr).trans ux.2.2.1
  have AY : ∀ j, j < nuK κ (zR κ caX a0) → zA κ_12 (zR κ_7 nuLimbs (zR κ caY a0)) j = uP κ (zR κ caY a0) j := fun j hj => by
    rw [q13]
    refine (congrFun (if_pos rfl) j).trans ?_
    show (if nuK κ (zR κ caY a0) ≤ j ∧ j < nuK κ (zR κ caX a0) then (0 : Int32) else _) = if j < nuK κ (zR κ caY a0) then _ else 0
    by_cases z : j < nuK κ (zR κ caY a0)
    · rw [if_neg (by omega), if_pos z]
      exact A7 j (by omega)
    · rw [if_pos (by omega), if_neg z]
  intro W14
  intro M15
  unfold w_Ca_blend_47
  refine ⟨fun n l0 l1 l3 l5 l7 l9 l10 l12 l14 τ => n = (l9.toInt - l14.toInt).toNat ∧ (a0 = l0 ∧ a1 = l1 ∧ a3 = l3 ∧ a5 = l5 ∧ a7 = l7 ∧ x5 = l9 ∧ nuEp (oo2 (zR κ caX a0) (zR κ caY a0)) κ_12 τ ∧ (0 ≤ l14.toInt ∧ l14.toInt ≤ nuK κ (zR κ caX a0)) ∧ blI (zA κ (zR κ nuLimbs (zR κ caX a0))) (uP κ (zR κ caY a0)) (zA τ (zR κ nuLimbs (zR κ caX a0))) a1.toInt a3.toInt l14.toNatClampNeg l10.toInt ∧ blI (zA κ (zR κ nuLimbs (zR κ caX a0))) (uP κ (zR κ caY a0)) (zA τ (zR κ_7 nuLimbs (zR κ caY a0))) a5.toInt a7.toInt l14.toNatClampNeg l12.toInt ∧ ∀ j, l14.toNatClampNeg ≤ j → j < nuK κ (zR κ caX a0) → zA τ (zR κ nuLimbs (zR κ caX a0)) j = zA κ (zR κ nuLimbs (zR κ caX a0)) j ∧ zA τ (zR κ_7 nuLimbs (zR κ caY a0)) j = uP κ (zR κ caY a0) j), ⟨_, rfl, ?_⟩, ?_⟩
  · refine ⟨rfl, rfl, rfl, rfl, rfl, rfl, nuEp.rf, ⟨by decide, by rw [t0i]; omega⟩, ⟨?_, ⟨by decide, by decide⟩, fun j hj => absurd hj (Nat.not_lt_zero _)⟩, ⟨?_, ⟨by decide, by decide⟩, fun j hj => absurd hj (Nat.not_lt_zero _)⟩, fun j _ hj => ⟨by rw [AX], AY j hj⟩⟩
    · show ((0 : Nat) : Int) + 0 * _ = _ * ((0 : Nat) : Int) + _ * ((0 : Nat) : Int)
      omega
    · show ((0 : Nat) : Int) + 0 * _ = _ * ((0 : Nat) : Int) + _ * ((0 : Nat) : Int)
      omega
  rintro n47 _ _ _ _ _ x47_9 x47_10 x47_12 x47_14 κ47 W47 T47_0 ⟨hn47, rfl, rfl, rfl, rfl, rfl, i47⟩
  obtain ⟨rfl, E47, k47, J1, J2, O47⟩ := i47
  have rs : zR κ47 = zR κ_7 := E47.2.1.trans R12
  have is : zI κ47 = zI κ := E47.2.2.1.trans I12
  have ns : zN κ47 = zN κ_7 := E47.2.2.2.trans N12
  have kn := cnk k47.1
  have Z47 := Z12.tr E47.1
  have Tx47 : zT κ47 (zR κ caX a0) = 8 := Z47.t Tx (by decide)
  have Ty47 : zT κ47 (zR κ caY a0) = 8 := Z47.t Ty (by decide)
  have fin : ∀ σ ρ : zS, x5 ≤ x47_14 → σ = ui κ47 nuLength (zR κ47 caX a0) x5 → ρ = ui σ nuLength (zR σ caY a0) x5 → zR ρ = zR κ_7 ∧ zF (nuFp (oo2 (zR κ caX a0) (zR κ caY a0))) κ ρ ∧ (nuB ρ (zR κ caX a0) c9 ∧ (nuN ρ (zR κ caX a0) : Int) = a1.toInt * nuN κ (zR κ caX a0) + a3.toInt * nuN κ (zR κ caY a0)) ∧ nuB ρ (zR κ caY a0) c9 ∧ (nuN ρ (zR κ caY a0) : Int) = a5.toInt * nuN κ (zR κ caX a0) + a7.toInt * nuN κ (zR κ caY a0) := fun σ ρ c16 e1 e2 => by
    rw [lei, hx5] at c16
    have kk : x47_14.toNatClampNeg = nuK κ (zR κ caX a0) := by omega
    rw [kk] at J1 J2
    have rσ : zR σ = zR κ_7 := by rw [e1]; exact rs
    rw [rs, rX] at e1
    rw [rσ, rY] at e2
    have rρ : zR ρ = zR κ_7 := by rw [e2]; exact rσ
    have nρ : zN ρ = zN κ_7 := by rw [e2, e1]; exact ns
    have aρ : zA ρ = zA κ47 := by rw [e2, e1]; rfl
    have iy : zI ρ nuLength (zR κ caY a0) = x5 := by rw [e2]; exact if_pos ⟨rfl, rfl⟩
    have ix : zI ρ nuLength (zR κ caX a0) = x5 := by
      rw [e2]
      refine (if_neg (fun z => nxy z.2)).trans ?_
      rw [e1]
      exact if_pos ⟨rfl, rfl⟩
    have Zσ : zF (nuFp (oo2 (zR κ caX a0) (zR κ caY a0))) κ47 σ := nuFp_m (Or.inl rfl) (by rw [e1]; exact zF_ui ⟨rfl, Or.inr rfl⟩)
    have Zρ : zF (nuFp (oo2 (zR κ caX a0) (zR κ caY a0))) σ ρ := nuFp_m (Or.inr rfl) (by rw [e2]; exact zF_ui ⟨rfl, Or.inr rfl⟩)
    obtain ⟨x', y', v1, v2, v3, v4, v5, v6⟩ := LV
    have lX : nuN κ (zR κ caX a0) < 2147483648 ^ nuK κ (zR κ caX a0) := nuN_lt
    have uX : uV (zA κ (zR κ nuLimbs (zR κ caX a0))) (nuK κ (zR κ caX a0)) = nuN κ (zR κ caX a0) := rfl
    have uY : uV (uP κ (zR κ caY a0)) (nuK κ (zR κ caX a0)) = nuN κ (zR κ caY a0) := uP_v kl
    have f1 := blI_e J1 (by rw [uX, uY]; exact v1) v5 lX
    have f2 := blI_e J2 (by rw [uX, uY]; exact v2) (Nat.le_trans v3 v5) lX
    have e5 : x5.toInt = nuK κ (zR κ caX a0) := by rw [hx5]; omega
    have e5n : x5.toNatClampNeg = nuK κ (zR κ caX a0) := by rw [hx5]; rfl
    refine ⟨rρ, (Z47.tr Zσ).tr Zρ, ⟨⟨?_, ?_, fun i hi => ?_⟩, ?_⟩, ⟨?_, ?_, fun i hi => ?_⟩, ?_⟩
    · rw [rρ, nρ, ix, rxl, ux.2.2.2]; omega
    · rw [rρ, nρ, rxl, ux.2.2.2]; exact cx
    · rw [ix] at hi
      rw [rρ, aρ, rxl]
      exact J1.2.2 i (by omega)
    · have : nuN ρ (zR κ caX a0) = x' := by
        unfold nuN
        rw [ix, rρ, aρ, rxl, e5n]
        exact f1
      rw [this]; exact v1
    · rw [rρ, nρ, iy]; omega
    · rw [rρ, nρ]; omega
    · rw [iy] at hi
      rw [rρ, aρ]
      exact J2.2.2 i (by omega)
    · have : nuN ρ (zR κ caY a0) = y' := by
        unfold nuN
        rw [iy, rρ, aρ, e5n]
        exact f2
      rw [this]; exact v2
  refine ⟨fun c16 => ?_, fun c16 => ?_⟩
  · skip
    intro κ_17 hκ_17
    intro W18
    intro κ_19 hκ_19
    intro W20
    unfold w_Ca_blend_182
    refine ⟨fun n l0 τ => n = ((zI τ nuLength (zR κ caX a0)).toInt).toNat ∧ (a0 = l0 ∧ nuR κ_19 τ (zR κ caX a0)), ⟨_, rfl, ?_⟩, ?_⟩
    · obtain ⟨R19, Z19, ⟨B19, V19⟩, By19, Vy19⟩ := fin _ _ c16 hκ_17 hκ_19
      exact ⟨rfl, nuT.rf, ⟨B19.1.1, Int.le_refl _⟩, rfl⟩
    rintro n182 _ κ182 W182 T182_0 ⟨hn182, rfl, i182⟩
    obtain ⟨R19, Z19, ⟨B19, V19⟩, By19, Vy19⟩ := fin _ _ c16 hκ_17 hκ_19
    have r19 : zR κ182 = zR κ_7 := i182.1.2.1.trans R19
    have eX : zR κ182 caX a0 = (zR κ caX a0) := by rw [r19]; exact rX
    have b19 := B19.1
    have l82 := i182.2.1
    have Z82 : zF (nuFp (oo2 (zR κ caX a0) (zR κ caY a0))) κ κ182 := Z19.tr (nuFp_m (Or.inl rfl) i182.1.1)
    have oy := nuT_o (c := c9) i182.1 nxy.symm
    refine ⟨fun c21 => ?_, fun c21 => ?_⟩
    · skip
      refine hh228 _ _ W182 (by assumption) ?_
      · rw [eX, lei, t0i] at c21
        have q := nuR_e i182 B19 (Or.inl c21)
        have By := oy.2.2 By19
        exact ⟨rfl, κ182, ⟨Z82, ⟨q.1, By⟩, by rw [q.2.1]; exact V19, by rw [oy.2.1]; exact Vy19⟩, nuT.rf, ⟨By.1.1, Int.le_refl _⟩, rfl⟩
    · skip
      rw [eX, lei, t0i] at c21
      have d := dec_i (x := zI κ182 nuLength (zR κ caX a0)) (by omega)
      refine ⟨?_, ?_⟩
      · rw [eX, i182.1.2.1, i182.1.2.2.2.1, inb_iff, d]; omega  -- b11
      refine ⟨fun c22 => ?_, fun c22 => ?_⟩
      · skip
        refine hh228 _ _ W182 (by assumption) ?_
        · rw [eX] at c22
          have q := nuR_e i182 B19 (Or.inr c22)
          have By := oy.2.2 By19
          exact ⟨rfl, κ182, ⟨Z82, ⟨q.1, By⟩, by rw [q.2.1]; exact V19, by rw [oy.2.1]; exact Vy19⟩, nuT.rf, ⟨By.1.1, Int.le_refl _⟩, rfl⟩
      · skip
        intro κ_23 hκ_23
        intro W24
        refine ⟨_, ?_, rfl, ?_⟩
        · rw [eX] at c22 hκ_23
          have s := nuR_s i182 (by omega) c22 hκ_23
          rw [hn182]; omega
        · rw [eX] at c22 hκ_23
          exact ⟨rfl, (nuR_s i182 (by omega) c22 hκ_23).1⟩
  · skip
    clear fin hh228
    rw [lei, hx5] at c16
    have o1 := O47 x47_14.toNatClampNeg (Nat.le_refl _) (by omega)
    have gl := IX.1.2.2 x47_14.toNatClampNeg (by omega)
    have gr := uP_0 (j := x47_14.toNatClampNeg) IY.1
    have hl := ihi (zA κ (zR κ nuLimbs (zR κ caX a0)) x47_14.toNatClampNeg)
    have hr := ihi (uP κ (zR κ caY a0) x47_14.toNatClampNeg)
    have b1 := lpP_b PP.1 (l := (zA κ (zR κ nuLimbs (zR κ caX a0)) x47_14.toNatClampNeg).toInt) (r := (uP κ (zR κ caY a0) x47_14.toNatClampNeg).toInt) ⟨gl, by omega⟩ ⟨gr, by omega⟩
    have b2 := lpP_b PP.2 (l := (zA κ (zR κ nuLimbs (zR κ caX a0)) x47_14.toNatClampNeg).toInt) (r := (uP κ (zR κ caY a0) x47_14.toNatClampNeg).toInt) ⟨gl, by omega⟩ ⟨gr, by omega⟩
    have j1 := J1.2.1
    have j2 := J2.2.1
    have e5 := cn1 (x := x47_14) k47.1 (by omega)
    have c1 : (zA κ (zR κ nuLimbs (zR κ caX a0)) x47_14.toNatClampNeg).toInt64.toInt = (zA κ (zR κ nuLimbs (zR κ caX a0)) x47_14.toNatClampNeg).toInt := Int32.toInt_toInt64 _
    have c2 : (uP κ (zR κ caY a0) x47_14.toNatClampNeg).toInt64.toInt = (uP κ (zR κ caY a0) x47_14.toNatClampNeg).toInt := Int32.toInt_toInt64 _
    refine ⟨?_, ?_⟩
    · rw [rs, rX, rxl, ns, ux.2.2.2, inb_iff]; omega  -- b15
    intro x25 hx25
    refine ⟨?_, ?_⟩
    · rw [rs, rY, ns, inb_iff]; omega  -- b16
    intro x26 hx26
    intro x27 hx27
    intro x28 hx28
    rw [rs, rX, rxl, o1.1] at hx25
    rw [rs, rY, o1.2] at hx26
    have d1 : x25.toInt = (zA κ (zR κ nuLimbs (zR κ caX a0)) x47_14.toNatClampNeg).toInt := by rw [hx25]; exact c1
    have d2 : x26.toInt = (uP κ (zR κ caY a0) x47_14.toNatClampNeg).toInt := by rw [hx26]; exact c2
    rw [← d1, ← d2] at b1 b2
    have m1 : (a1 * x25).toInt = a1.toInt * x25.toInt := jmul_i (by omega) (by omega)
    have m2 : (a3 * x26).toInt = a3.toInt * x26.toInt := jmul_i (by omega) (by omega)
    have m3 : (a5 * x25).toInt = a5.toInt * x25.toInt := jmul_i (by omega) (by omega)
    have m4 : (a7 * x26).toInt = a7.toInt * x26.toInt := jmul_i (by omega) (by omega)
    have s1 : (a1 * x25 + a3 * x26).toInt = a1.toInt * x25.toInt + a3.toInt * x26.toInt := by rw [jadd_i (by rw [m1, m2]; omega) (by rw [m1, m2]; omega), m1, m2]
    have s2 : (a5 * x25 + a7 * x26).toInt = a5.toInt * x25.toInt + a7.toInt * x26.toInt := by rw [jadd_i (by rw [m3, m4]; omega) (by rw [m3, m4]; omega), m3, m4]
    have e27 : x27.toInt = x47_10.toInt + (a1.toInt * x25.toInt + a3.toInt * x26.toInt) := by rw [hx27, jadd_i (by rw [s1]; omega) (by rw [s1]; omega), s1]
    have e28 : x28.toInt = x47_12.toInt + (a5.toInt * x25.toInt + a7.toInt * x26.toInt) := by rw [hx28, jadd_i (by rw [s2]; omega) (by rw [s2]; omega), s2]
    rw [d1, d2] at e27 e28
    refine ⟨?_, ?_⟩
    · rw [rs, rX, rxl, ns, ux.2.2.2, inb_iff]; omega  -- b17
    intro κ_29 hκ_29
    intro W30
    rw [rs, rX] at hκ_29
    rw [← rs] at hκ_29
    obtain ⟨v1, v2, v3⟩ := nu_u W47 Tx47 hκ_29
    rw [rs, rxl] at v2
    have r29 : zR κ_29 = zR κ_7 := v1.2.1.trans rs
    have n29 : zN κ_29 = zN κ_7 := v1.2.2.2.trans ns
    have Ty29 : zT κ_29 (zR κ caY a0) = 8 := v1.1.t Ty47 (by decide)
    have a29 : zA κ_29 (zR κ_7 nuLimbs (zR κ caY a0)) = zA κ47 (zR κ_7 nuLimbs (zR κ caY a0)) := by
      rw [hκ_29, rs, rxl]
      exact if_neg (fun z => nr z.symm)
    refine ⟨?_, ?_⟩
    · rw [r29, rY, n29, inb_iff]; omega  -- b18
    intro κ_31 hκ_31
    intro W32
    intro x33 hx33
    intro x34 hx34
    intro x35 hx35
    refine ⟨_, ?_, rfl, ?_⟩
    · rw [hn47, hx35, e5.2, hx5]; omega  -- d19
    · rw [r29, rY] at hκ_31
      rw [← r29] at hκ_31
      obtain ⟨w1, w2, w3⟩ := nu_u W30 Ty29 hκ_31
      rw [r29, a29] at w2
      have a31 : zA κ_31 (zR κ nuLimbs (zR κ caX a0)) = zA κ_29 (zR κ nuLimbs (zR κ caX a0)) := by
        rw [hκ_31, r29]
        exact if_neg nr
      have g1 := (j_and (x := x27)).2
      have g2 := (j_and (x := x28)).2
      have h1 := j_sar (x := x27)
      have h2 := j_sar (x := x28)
      rw [← hx33] at h1
      rw [← hx34] at h2
      have n1 := blI_s (x := (x27 &&& 2147483647).toInt32) J1 PP.1 gl gr e27 g1 v2
      have n2 := blI_s (x := (x28 &&& 2147483647).toInt32) J2 PP.2 gl gr e28 g2 w2
      rw [← h1] at n1
      rw [← h2] at n2
      rw [hx35]
      refine ⟨rfl, rfl, rfl, rfl, rfl, rfl, (E47.tr (v1.up (Or.inl rfl))).tr (w1.up (Or.inr rfl)), by rw [e5.2]; omega, by rw [e5.1, a31]; exact n1, by rw [e5.1]; exact n2, fun j hj hm => ?_⟩
      rw [e5.1] at hj
      rw [a31, v2, w2]
      have o := O47 j (by omega) hm
      exact ⟨(if_neg (by omega)).trans o.1, (if_neg (by omega)).trans o.2⟩
