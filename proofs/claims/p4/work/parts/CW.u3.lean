set_option maxHeartbeats 1600000
/-! the class: the Solver's cells -/
/-- numbers stay in order where new ones come -/
theorem nm_x9 {C : zC} {n0 : Nat} {ρ ρ' : Nat → Nat} {F : Nat → Nat → Prop} {κ τ : zS} (W : zW C n0 κ) (N : nmI ρ κ) (Z : zF F κ τ) (hF : ∀ f b, F f b → zn κ ≤ b ∨ f / 100 = 12) (hr : ∀ b, b < zn κ → ρ' b = ρ b) (h1 : ∀ w, zn κ ≤ w → nmR (ρ' w) → zT τ w = 8 ∧ nuC τ w (capR (ρ' w)) ∧ (ρ' w ≠ 10 → nuI τ w (capR (ρ' w)))) (h2 : ∀ v, zn κ ≤ v → raR (ρ' v) → zT τ v = 11 ∧ ρ' (zR τ raTop v) = ρ' v + 1 ∧ ρ' (zR τ raBottom v) = ρ' v + 2) : nmI ρ' τ := by
  have lt : ∀ x, zT κ x ≠ 0 → x < zn κ := fun x h => (W.2.1 x h).2
  have nf : ∀ f b, b < zn κ → f / 100 ≠ 12 → ¬ F f b := fun f b hb hf z => by
    rcases hF f b z with q | q
    · omega
    · exact hf q
  refine ⟨fun w h => ?_, fun v h => ?_⟩
  · by_cases l : w < zn κ
    · rw [hr w l] at h ⊢
      obtain ⟨t, c, i⟩ := N.1 w h
      have u := nu_z W t Z (nf _ _ l (by decide)) (nf _ _ l (by decide))
      refine ⟨Z.t t (by decide), ?_, fun y => (nuB_z (c := capR (ρ w)) W t Z (nf _ _ l (by decide)) (nf _ _ l (by decide))).2.1 (i y)⟩
      unfold nuC
      rw [u.2.1, u.2.2.2]
      exact c
    · exact h1 w (by omega) h
  · by_cases l : v < zn κ
    · rw [hr v l] at h ⊢
      obtain ⟨t, p, q⟩ := N.2 v h
      have a1 := ty_raTop W t
      have a2 := ty_raBottom W t
      refine ⟨Z.t t (by decide), ?_, ?_⟩
      · rw [Z.r (nf _ _ l (by decide)), hr _ (lt _ (by rw [a1]; decide))]; exact p
      · rw [Z.r (nf _ _ l (by decide)), hr _ (lt _ (by rw [a2]; decide))]; exact q
    · exact h2 v (by omega) h
/-- no roles for what isn't there -/
theorem nm_no9 {C : zC} {n0 b : Nat} {ρ : Nat → Nat} {κ : zS} (W : zW C n0 κ) (N : nmI ρ κ) (h : zn κ ≤ b) : ¬ nmR (ρ b) ∧ ¬ raR (ρ b) := by
  refine ⟨fun z => ?_, fun z => ?_⟩
  · have t := (N.1 b z).1
    have l := (W.2.1 b (by rw [t]; decide)).2
    omega
  · have t := (N.2 b z).1
    have l := (W.2.1 b (by rw [t]; decide)).2
    omega
theorem so_x9 {C : zC} {n0 a : Nat} {ρ ρ' : Nat → Nat} {F : Nat → Nat → Prop} {κ τ : zS} (W : zW C n0 κ) (Ta : zT κ a = 12) (I : soI ρ κ a) (Z : zF F κ τ) (hF : ∀ f b, F f b → zn κ ≤ b ∨ (f / 100 = 12 ∧ 1214 ≤ f)) (hr : ∀ b, b < zn κ → ρ' b = ρ b) : soI ρ' τ a := by
  have lt : ∀ x, zT κ x ≠ 0 → x < zn κ := fun x h => (W.2.1 x h).2
  have l0 := lt a (by rw [Ta]; decide)
  have tc := ty_soCalc W Ta
  have lc := lt _ (show zT κ (zR κ soCalc a) ≠ 0 by rw [tc]; decide)
  have nf : ∀ f b, b < zn κ → f / 100 ≠ 12 ∨ f < 1214 → ¬ F f b := fun f b hb hf z => by
    rcases hF f b z with q | q
    · omega
    · rcases hf with r | r
      · exact r q.1
      · omega
  have e : ∀ f, f < 1214 → zR τ f a = zR κ f a := fun f hf => Z.r (nf f a l0 (Or.inr hf))
  have ec : ∀ f, f / 100 = 4 → zR τ f (zR κ soCalc a) = zR κ f (zR κ soCalc a) := fun f hf => Z.r (nf f _ lc (Or.inl (by omega)))
  have tf := ty_caFactors W tc
  have nq := Z.l tf
  obtain ⟨⟨i1, i2, i3, i4, i5, i6, i7⟩, ⟨i8, i9⟩, i10, i11⟩ := I
  have r8 : ∀ x, zT κ x = 8 → ρ' x = ρ x := fun x h => hr x (lt x (by rw [h]; decide))
  have r11 : ∀ x, zT κ x = 11 → ρ' x = ρ x := fun x h => hr x (lt x (by rw [h]; decide))
  unfold soI caN caS
  rw [e soWhole (by decide), e soFactor (by decide), e soScaled (by decide), e soTerm (by decide), e soSum (by decide), e soLess (by decide), e soPart (by decide), e soCalc (by decide), ec caQuotient (by decide), ec caRest (by decide), ec caDivisor (by decide), ec caX (by decide), ec caY (by decide), ec caFactors (by decide), ec caSpare (by decide), nq, r8 _ (ty_soWhole W Ta), r8 _ (ty_soFactor W Ta), r8 _ (ty_soScaled W Ta), r8 _ (ty_soTerm W Ta), r8 _ (ty_soSum W Ta), r8 _ (ty_soLess W Ta), r11 _ (ty_soPart W Ta), r8 _ (ty_caSpare W tc)]
  refine ⟨⟨i1, i2, i3, i4, i5, i6, i7⟩, ⟨i8, i9⟩, fun b hb => ?_, i11⟩
  have q := i10 b hb
  have tb : zT κ b = 8 := by
    rcases hb with h | h | h | h | h <;> rw [h]
    · exact ty_caQuotient W tc
    · exact ty_caRest W tc
    · exact ty_caDivisor W tc
    · exact ty_caX W tc
    · exact ty_caY W tc
  rw [r8 b tb]
  exact q
/-- a cell's number -/
def cU9 (κ : zS) (a i j : Nat) : Nat := (zQ κ (zR κ soCells a) (33 * i + j)).getD 0
def clK9 (ρ : Nat → Nat) (κ : zS) (a : Nat) : Prop := ∀ i u, i < 1056 → zQ κ (zR κ soCells a) i = some u → ρ u = 1000000 + i
def cF9 (m a : Nat) : Nat → Nat → Prop := fun f b => (f = soCells ∧ b = a) ∨ m ≤ b
theorem ix_9 {x y : Int32} (h1 : 0 ≤ x.toInt ∧ x.toInt < 32) (h2 : 0 ≤ y.toInt ∧ y.toInt ≤ 32) : (x * 33 + y).toInt = 33 * (x.toNatClampNeg : Int) + y.toNatClampNeg ∧ (x * 33 + y).toNatClampNeg = 33 * x.toNatClampNeg + y.toNatClampNeg := by
  have t : (33 : Int32).toInt = 33 := rfl
  have k1 := cnk h1.1
  have k2 := cnk h2.1
  have m : (x * 33).toInt = x.toInt * 33 := by
    have q := mul_i (x := x) (y := 33) (by rw [t]; omega) (by rw [t]; omega)
    rw [t] at q
    exact q
  have s : (x * 33 + y).toInt = x.toInt * 33 + y.toInt := by
    have q := add_i (x := x * 33) (y := y) (by rw [m]; omega) (by rw [m]; omega)
    rw [m] at q
    exact q
  have k3 := cnk (x := x * 33 + y) (by omega)
  exact ⟨by omega, by omega⟩
theorem So_cell_c2 {C : zC} {n0 : Nat} {a0 : Nat} {a1 : Int32} {a2 : Int32} {κ : zS} {Q : Nat → zS → Prop} (W : zW C n0 κ) (Ta0 : zT κ a0 = 12) (hp : (zN κ (zR κ soCells a0)) = 1056 ∧ (0 ≤ a1.toInt ∧ a1.toInt < 32) ∧ (0 ≤ a2.toInt ∧ a2.toInt ≤ 32) ∧ zQ κ (zR κ soCells a0) (33 * a1.toNatClampNeg + a2.toNatClampNeg) = some (cU9 κ a0 a1.toNatClampNeg a2.toNatClampNeg)) (h : ∀ (v : Nat), (v = cU9 κ a0 a1.toNatClampNeg a2.toNatClampNeg) → Q v κ) : zRun C 2 mSo_cell [.ref a0, .int a1, .int a2] κ (oR 8 Q noX) := by
  refine So_cell_run W Ta0 ?_
  replace W := W.lo (Nat.le_trans W.1.2.1 W.1.2.2) (Nat.le_refl (zn κ))
  unfold w_So_cell_0
  obtain ⟨hl, p1, p2, hu⟩ := hp
  have ix := ix_9 p1 p2
  have k1 := cnk p1.1
  have k2 := cnk p2.1
  refine ⟨fun _ => ?_, fun c => absurd c (by rw [hl]; decide)⟩
  unfold w_So_cell_18
  intro x hx
  rw [← hx] at ix
  have ib : inb x (zN κ (zR κ soCells a0)) := by rw [inb_iff]; omega
  refine ⟨ib, fun u2 h2 => ?_, fun h2 => ?_⟩
  · unfold w_So_cell_49
    exact ⟨ib, _, by rw [ix.2]; exact hu, h _ rfl⟩
  · rw [ix.2, hu] at h2
    cases h2
/-- old cells stay -/
def clO9 (κ τ : zS) (a : Nat) : Prop := (zN κ (zR κ soCells a)) = 1056 → zR τ soCells a = zR κ soCells a ∧ ∀ i u, zQ κ (zR κ soCells a) i = some u → zQ τ (zR κ soCells a) i = some u
theorem So_cell_c {C : zC} {n0 : Nat} {a0 : Nat} {a1 : Int32} {a2 : Int32} {κ : zS} {Q : Nat → zS → Prop} (W : zW C n0 κ) (Ta0 : zT κ a0 = 12) (ρ : Nat → Nat) (hp : (nmI ρ κ ∧ soI ρ κ a0) ∧ clK9 ρ κ a0 ∧ ((zN κ (zR κ soCells a0)) = 0 ∨ (zN κ (zR κ soCells a0)) = 1056) ∧ (0 ≤ a1.toInt ∧ a1.toInt < 32) ∧ (0 ≤ a2.toInt ∧ a2.toInt ≤ 32)) (h : ∀ (v : Nat) (κ' : zS), ((zF (cF9 (zn κ) a0) κ κ' ∧ zK9 κ κ' a0) ∧ (∃ ρ' : Nat → Nat, (∀ b, b < zn κ → ρ' b = ρ b) ∧ (nmI ρ' κ' ∧ soI ρ' κ' a0) ∧ clK9 ρ' κ' a0) ∧ (zN κ' (zR κ' soCells a0)) = 1056 ∧ zQ κ' (zR κ' soCells a0) (33 * a1.toNatClampNeg + a2.toNatClampNeg) = some v ∧ clO9 κ κ' a0) → Q v κ') : zRun C 2 mSo_cell [.ref a0, .int a1, .int a2] κ (oR 8 Q noX) := by
  refine So_cell_run W Ta0 ?_
  replace W := W.lo (Nat.le_trans W.1.2.1 W.1.2.2) (Nat.le_refl (zn κ))
  unfold w_So_cell_0
  obtain ⟨⟨N0, S0⟩, K0, L0, p1, p2⟩ := hp
  have ix := ix_9 p1 p2
  have k1 := cnk p1.1
  have k2 := cnk p2.1
  have hj49 : ∀ (l0 : Nat) (l3 : Int32) (τ : zS), zW C (zn κ) τ → zT τ l0 = 12 → (a0 = l0 ∧ (zF (cF9 (zn κ) a0) κ τ ∧ zK9 κ τ a0) ∧ (∃ ρ' : Nat → Nat, (∀ b, b < zn κ → ρ' b = ρ b) ∧ (nmI ρ' τ ∧ soI ρ' τ a0) ∧ clK9 ρ' τ a0) ∧ (zN τ (zR τ soCells a0)) = 1056 ∧ (∃ u, zQ τ (zR τ soCells a0) (33 * a1.toNatClampNeg + a2.toNatClampNeg) = some u) ∧ clO9 κ τ a0 ∧ l3.toInt = 33 * (a1.toNatClampNeg : Int) + a2.toNatClampNeg ∧ l3.toNatClampNeg = 33 * a1.toNatClampNeg + a2.toNatClampNeg) → w_So_cell_49 C (zn κ) Q  l0 l3 τ := by
    rintro _ y49_3 τ49 W49 T49_0 ⟨rfl, j49⟩
    unfold w_So_cell_49
    obtain ⟨Zj, Ej, Lj, ⟨u9, Uj⟩, Oj, i3, i4⟩ := j49
    refine ⟨?_, ?_⟩
    · rw [inb_iff]; omega  -- b1
    refine ex_some ?_ (fun u1 hu1 => ?_)
    · exact ⟨u9, by rw [i4]; exact Uj⟩  -- e2
    refine h _ _ ?_
    · rw [i4] at hu1
      exact ⟨Zj, Ej, Lj, hu1, Oj⟩
  have hj18 : ∀ (l0 : Nat) (l1 : Int32) (l2 : Int32) (τ : zS), zW C (zn κ) τ → zT τ l0 = 12 → (a0 = l0 ∧ a1 = l1 ∧ a2 = l2 ∧ (zF (cF9 (zn κ) a0) κ τ ∧ zK9 κ τ a0) ∧ (nmI ρ τ ∧ soI ρ τ a0) ∧ clK9 ρ τ a0 ∧ (zN τ (zR τ soCells a0)) = 1056 ∧ clO9 κ τ a0) → w_So_cell_18 C (zn κ) Q  l0 l1 l2 τ := by
    rintro _ _ _ τ18 W18 T18_0 ⟨rfl, rfl, rfl, j18⟩
    unfold w_So_cell_18
    intro x2 hx2
    obtain ⟨⟨Zj, Zk⟩, ⟨Nj, Sj⟩, Kj, Lj, Oj⟩ := j18
    rw [← hx2] at ix
    refine ⟨?_, ?_⟩
    · rw [inb_iff]; omega  -- b4
    refine ⟨fun uc3 c3 => ?_, fun c3 => ?_⟩
    · skip
      refine hj49 _ _ _ W18 ?_ ?_
      · exact T18_0  -- t5
      · exact ⟨rfl, ⟨Zj, Zk⟩, ⟨ρ, fun _ _ => rfl, ⟨Nj, Sj⟩, Kj⟩, Lj, ⟨uc3, by rw [← ix.2]; exact c3⟩, Oj, ix.1, ix.2⟩  -- k6
    · skip
      intro κ_4 hκ_4
      intro W5
      intro T6
      refine Nu_init_c W5 T6  ?_ (fun κ_7 q8 => ?_)
      · decide  -- p7
      intro W9
      intro M10
      have n25 : (if (25 : Int32) < (2 : Int32) then (2 : Int32) else 25).toNatClampNeg = 25 := by decide
      rw [n25] at q8
      have A := mk_Nu9 (κ6 := nff κ_7 (zn τ18)) W18 hκ_4 q8 rfl
      have r7 : zR κ_7 nuLimbs (zn τ18) = zn κ_4 := by rw [q8]; exact if_pos ⟨rfl, rfl⟩
      refine ⟨?_, ?_⟩
      · refine zOk_8 ?_ ?_
        · rw [r7, q8]
          exact if_pos rfl
        · rw [r7, q8]
          exact if_pos rfl
      intro κ_11 hκ_11
      intro W12
      rw [← hκ_11] at A
      obtain ⟨A1, ⟨A2, A3, A4, A5, A6, A7, A8⟩, A9⟩ := A
      have tr := ty_soCells W18 T18_0
      have lr := (W18.2.1 _ (show zT τ18 (zR τ18 soCells a0) ≠ 0 by rw [tr]; decide)).2
      have l0 := (W18.2.1 a0 (by rw [T18_0]; decide)).2
      have m18 := Zj.2.2.2.2.2.2
      have e11 : zR κ_11 soCells a0 = zR τ18 soCells a0 := A1.r (show ¬ zn τ18 ≤ a0 by omega)
      refine ⟨?_, ?_⟩
      · rw [inb_iff, A1.l (c := 23) tr]; omega  -- b9
      intro κ_13 hκ_13
      intro W14
      have o11 : zO κ_11 (zR τ18 soCells a0) = (soCells, a0) := by
        have q := (A1.2.2.1 (zR τ18 soCells a0) (by rw [tr]; decide) (by rw [W18.o (show zr soCells = some 24 by decide +kernel) (by decide) T18_0]; exact fun z => absurd (show soCells = 0 from congrArg Prod.fst z) (by decide)))
        rw [q]
        exact W18.o (show zr soCells = some 24 by decide +kernel) (by decide) T18_0
      have q11 : zQ κ_11 (zR τ18 soCells a0) = zQ τ18 (zR τ18 soCells a0) := (A1.2.1 (zR τ18 soCells a0) (by rw [tr]; decide) (by rw [W18.o (show zr soCells = some 24 by decide +kernel) (by decide) T18_0]; show ¬ zn τ18 ≤ a0; omega)).2.2.1
      have Zq : zF (fun f b => (f = soCells ∧ b = a0) ∨ zn τ18 ≤ b) τ18 κ_13 := (A1.mono (fun _ _ z => Or.inr z)).tr (by rw [hκ_13]; exact zF_uq (by rw [o11]; exact Or.inl ⟨rfl, rfl⟩))
      have Zt : zF (cF9 (zn κ) a0) κ κ_13 := Zj.tr (Zq.mono (fun f b z => by
        rcases z with z | z
        · exact Or.inl z
        · exact Or.inr (by omega)))
      have e13 : zR κ_13 = zR κ_11 := by rw [hκ_13]; rfl
      have ec13 : zR κ_13 soCells a0 = zR τ18 soCells a0 := by rw [e13]; exact e11
      have q13 : zQ κ_13 (zR τ18 soCells a0) = va_up (zQ τ18 (zR τ18 soCells a0)) x2.toNatClampNeg (some (zn τ18)) := by
        rw [hκ_13, ← q11]
        exact if_pos rfl
      have lx : x2.toNatClampNeg < 1056 := by omega
      have Kz : zK9 τ18 κ_13 a0 := by
        have c11 : ∀ t, nT9 t κ_11 = nT9 t τ18 + (if 8 = t then 1 else 0) + (if 20 = t then 1 else 0) := fun t => by
          have q := nT_29 (t := t) (κ := τ18) (τ := κ_11) A6 A9
          rw [A2, A7] at q
          exact q
        have c13 : ∀ t, nT9 t κ_13 = nT9 t κ_11 := fun t => nT_09 (by rw [hκ_13]; rfl) (fun b _ => by rw [hκ_13]; rfl)
        have cv := zV_z9 W18 T18_0 Zq (fun z => by
          rcases z with z | z
          · exact absurd z.1 (by decide)
          · omega) (fun z => by
          rcases z with z | z
          · exact absurd z.1 (by decide)
          · omega)
        have cn := nn_u9 (κ := τ18) (τ := κ_13) (x := zR τ18 soCells a0) (y := zR κ_13 soCells a0) (i := x2.toNatClampNeg) (u := zn τ18) (by rw [ec13]; exact Zq.l (c := 23) tr) (by rw [Lj]; exact lx) c3 (by rw [ec13]; exact q13)
        have d8 := c13 8
        have d11 := c13 11
        rw [c11] at d8 d11
        simp at d8 d11
        unfold zK9
        rw [cv, cn]
        exact ⟨by omega, by omega⟩
      have N13 : nmI (fun b => if b = zn τ18 then 1000000 + x2.toNatClampNeg else ρ b) κ_13 := by
        refine nm_x9 W18 Nj Zq (fun f b z => ?_) (fun b hb => if_neg (by omega)) (fun w hw hr => ?_) (fun v hv hr => ?_)
        · rcases z with z | z
          · rw [z.1]; exact Or.inr (by decide)
          · exact Or.inl z
        · by_cases e : w = zn τ18
          · rw [if_pos e] at hr ⊢
            have nw := nu_new9 (κ := κ_13) (w := w) (n := 25) (by rw [e, e13, A3, hκ_13]; exact A4) (by rw [e, hκ_13]; exact A5) (by decide)
            have cp : 25 ≤ capR (1000000 + x2.toNatClampNeg) := by
              unfold capR
              rw [if_neg (by omega), if_neg (by omega), if_pos (by omega)]
              split <;> decide
            have nm := nuI_mono cp nw.1
            exact ⟨by rw [e, hκ_13]; exact A2, nm.1.2.1, fun _ => nm⟩
          · rw [if_neg e] at hr
            exact absurd hr (nm_no9 W18 Nj hw).1
        · by_cases e : v = zn τ18
          · rw [if_pos e] at hr
            rcases hr with z | z | z <;> omega
          · rw [if_neg e] at hr
            exact absurd hr (nm_no9 W18 Nj hv).2
      have S13 : soI (fun b => if b = zn τ18 then 1000000 + x2.toNatClampNeg else ρ b) κ_13 a0 := by
        refine so_x9 W18 T18_0 Sj Zq (fun f b z => ?_) (fun b hb => if_neg (by omega))
        rcases z with z | z
        · rw [z.1]; exact Or.inr ⟨by decide, by decide⟩
        · exact Or.inl z
      refine hj49 _ _ _ W14 ?_ ?_
      · exact Zq.t T18_0 (by decide)  -- t10
      · refine ⟨rfl, ⟨Zt, Zk.tr Kz⟩, ⟨fun b => if b = zn τ18 then 1000000 + x2.toNatClampNeg else ρ b, fun b hb => if_neg (by omega), ⟨N13, S13⟩, fun i u hi hu => ?_⟩, ?_, ⟨zn τ18, ?_⟩, fun h56 => ?_, ix.1, ix.2⟩
        · rw [ec13, q13] at hu
          unfold va_up at hu
          show (if u = zn τ18 then 1000000 + x2.toNatClampNeg else ρ u) = 1000000 + i
          by_cases e : i = x2.toNatClampNeg
          · rw [if_pos e] at hu
            rw [if_pos (Option.some.inj hu).symm, e]
          · rw [if_neg e] at hu
            have tu := W18.2.2.2.1 _ _ _ tr hu
            have lu := (W18.2.1 u (by rw [tu]; decide)).2
            rw [if_neg (by omega)]
            exact Kj i u hi hu
        · rw [ec13, hκ_13]
          show zN κ_11 _ = 1056
          rw [A1.l (c := 23) tr]
          exact Lj
        · rw [ec13, q13, ← ix.2]
          exact if_pos rfl
        · have o := Oj h56
          refine ⟨by rw [ec13]; exact o.1, fun i u hu => ?_⟩
          have q := o.2 i u hu
          rw [← o.1, q13]
          unfold va_up
          by_cases e : i = x2.toNatClampNeg
          · rw [o.1, ← e, q] at c3
            cases c3
          · rw [if_neg e, o.1]
            exact q
  refine ⟨fun c15 => ?_, fun c15 => ?_⟩
  · skip
    refine hj18 _ _ _ _ W ?_ ?_
    · exact Ta0  -- t12
    · have L1 : (zN κ (zR κ soCells a0)) = 1056 := by
        rcases L0 with z | z
        · exact absurd (by rw [z]; rfl) c15
        · exact z
      exact ⟨rfl, rfl, rfl, ⟨zF.rf, zK9.rf⟩, ⟨N0, S0⟩, K0, L1, fun _ => ⟨rfl, fun _ _ z => z⟩⟩
  · skip
    refine ⟨?_, ?_⟩
    · exact ⟨by decide, by decide⟩  -- b14
    intro κ_16 hκ_16
    intro W17
    refine ⟨?_, ?_⟩
    · rw [hκ_16]; exact if_pos rfl  -- b15
    intro κ_18 hκ_18
    intro W19
    have L1 : (zN κ (zR κ soCells a0)) = 0 := by
      rcases L0 with z | z
      · exact z
      · exact absurd c15 (by rw [z]; decide)
    have n56 : (1056 : Int32).toNatClampNeg = 1056 := by decide
    rw [n56] at hκ_16
    have G := we_gr (f := soCells) (c := a0) W (show zr soCells = some 24 by decide +kernel) (by decide) Ta0 hκ_16 hκ_18 (by rw [L1]; decide) (by rw [L1]; decide)
    have Zg : zF (cF9 (zn κ) a0) κ κ_18 := G.1.mono (fun f b z => Or.inl z)
    refine hj18 _ _ _ _ W19 ?_ ?_
    · exact G.1.t Ta0 (by decide)  -- t16
    · refine ⟨rfl, rfl, rfl, ⟨Zg, zK_g9 W Ta0 G.1 (fun b _ z => absurd z.1 (by decide)) (by unfold nn9; rw [L1]; exact Nat.zero_le _) (fun z => absurd z.1 (by decide)) (fun z => absurd z.1 (by decide))⟩, ⟨?_, ?_⟩, fun i u hi hu => ?_, by rw [G.2.2.2.1]; exact G.2.2.2.2.1, fun z => by rw [L1] at z; exact absurd z (by decide)⟩
      · refine nm_x9 W N0 Zg (fun f b z => ?_) (fun b hb => rfl) (fun w hw hr => absurd hr (nm_no9 W N0 hw).1) (fun v hv hr => absurd hr (nm_no9 W N0 hv).2)
        rcases z with z | z
        · rw [z.1]; exact Or.inr (by decide)
        · exact Or.inl z
      · refine so_x9 W Ta0 S0 Zg (fun f b z => ?_) (fun b hb => rfl)
        rcases z with z | z
        · rw [z.1]; exact Or.inr ⟨by decide, by decide⟩
        · exact Or.inl z
      · rw [G.2.2.2.1, hκ_18, hκ_16] at hu
        have e : zQ (uo (na κ 24 1056) soCells a0 (zn κ)) (zn κ) i = none := by
          show (if zn κ = zn κ then fun _ => none else _) i = none
          rw [if_pos rfl]
        rw [e] at hu
        cases hu
