set_option maxHeartbeats 1600000
/-! the class: Solver's findWorth -/
def fwR9 (w : Nat) : Nat → Prop := fun r => r = 6 ∨ r = 7 ∨ r = 8 ∨ r = w ∨ r = w + 1 ∨ r = w + 2
def cpR9 (w : Nat) : Nat → Prop := fun r => r = 7 ∨ r = 8 ∨ r = w ∨ r = w + 1 ∨ r = w + 2
/-- a state has a next -/
theorem wy_9 {κ : zS} {a n k : Nat} (A : atW κ a n) (hk : k < n) : (zA κ (zR κ atFirsts a) k).toInt < (zA κ (zR κ atFirsts a) (k + 1)).toInt ∧ 0 ≤ (zA κ (zR κ atFirsts a) k).toInt ∧ (zA κ (zR κ atFirsts a) (k + 1)).toInt ≤ 20000 := by
  obtain ⟨_, AL, _, _, A5, A6⟩ := A
  obtain ⟨⟨e1, e2, e3⟩, _, e5, _⟩ := A6 k hk
  have l := AL.2.2
  by_cases z : (zA κ (zR κ atFirsts a) k).toInt = (zA κ (zR κ atFirsts a) (k + 1)).toInt
  · rw [z, wSm_0] at e5
    omega
  · omega
/-- a fraction and a spare number were written -/
theorem aw_w9 {C : zC} {n0 a p r s : Nat} {ρ : Nat → Nat} {κ τ : zS} (W : zW C n0 κ) (Ta : zT κ a = 12) (N : nmI ρ κ) (I : soI ρ κ a) (hp : ρ p = r) (h1 : 100 ≤ r) (h2 : r < 999990) (h3 : r % 4 = 0) (hs : ρ s = 6) (Z : zF (fun f x => raF (zR κ raTop p) (zR κ raBottom p) p f x ∨ nuF s f x) κ τ) (J : raJ τ p 20) (K : nuI τ s 6500) : (nmI ρ τ ∧ soI ρ τ a) ∧ ∀ ca, zF (soF ρ (fun q => q = 6 ∨ q = r ∨ q = r + 1 ∨ q = r + 2) ca) κ τ := by
  have hr : raR r := Or.inr (Or.inr ⟨h1, by omega, h3⟩)
  have P := N.2 p (by rw [hp]; exact hr)
  have t1 : ρ (zR κ raTop p) = r + 1 := by rw [P.2.1, hp]
  have t2 : ρ (zR κ raBottom p) = r + 2 := by rw [P.2.2, hp]
  have c := cap_v h1 h2
  have et : ∀ f b, f ≠ nuLimbs → f ≠ nuLength → f ≠ raSign → zR τ f b = zR κ f b := fun f b x y z => Z.r (fun q => by
    rcases q with (⟨_, q | q⟩ | ⟨_, q⟩) | ⟨_, q | q⟩
    · exact x q
    · exact y q
    · exact z q
    · exact x q
    · exact y q)
  have e1 : zR τ raTop p = zR κ raTop p := et _ _ (by decide) (by decide) (by decide)
  have e2 : zR τ raBottom p = zR κ raBottom p := et _ _ (by decide) (by decide) (by decide)
  have j1 := J.1
  have j2 := J.2.1
  rw [e1] at j1
  rw [e2] at j2
  refine ⟨⟨nm_k W N Z (fun w hw => ?_) (fun v => et _ _ (by decide) (by decide) (by decide)) (fun v => et _ _ (by decide) (by decide) (by decide)), so_k' I et (Z.l (ty_caFactors W (ty_soCalc W Ta)))⟩, fun ca => Z.mono (fun f b z => ?_)⟩
  · by_cases z1 : w = zR κ raTop p
    · right
      rw [z1, t1, c.2.1]
      exact ⟨j1.1.2.1, fun _ => j1⟩
    · by_cases z2 : w = zR κ raBottom p
      · right
        rw [z2, t2, c.2.2]
        exact ⟨j2.1.2.1, fun _ => j2⟩
      · by_cases z3 : w = s
        · right
          rw [z3, hs]
          exact ⟨K.1.2.1, fun _ => K⟩
        · left
          refine ⟨fun z => ?_, fun z => ?_⟩
          · rcases z with (⟨z | z, _⟩ | z) | z
            · exact z1 z
            · exact z2 z
            · exact absurd z.2 (by decide)
            · exact z3 z.1
          · rcases z with (⟨z | z, _⟩ | z) | z
            · exact z1 z
            · exact z2 z
            · exact absurd z.2 (by decide)
            · exact z3 z.1
  · rcases z with (⟨z | z, y⟩ | z) | z
    · exact Or.inl ⟨by rw [z, t1]; exact Or.inr (Or.inr (Or.inl rfl)), y.elim Or.inl (fun q => Or.inr (Or.inl q))⟩
    · exact Or.inl ⟨by rw [z, t2]; exact Or.inr (Or.inr (Or.inr rfl)), y.elim Or.inl (fun q => Or.inr (Or.inl q))⟩
    · exact Or.inl ⟨by rw [z.1, hp]; exact Or.inr (Or.inl rfl), Or.inr (Or.inr z.2)⟩
    · exact Or.inl ⟨by rw [z.1, hs]; exact Or.inl rfl, z.2.elim Or.inl (fun q => Or.inr (Or.inl q))⟩
/-- worths stay in order when one was written -/
theorem ws_w9 {C : zC} {n0 a n P ca k : Nat} {ρ : Nat → Nat} {R : Nat → Prop} {κ τ : zS} (W : zW C n0 κ) (Ta : zT κ a = 12) (N : nmI ρ κ) (Z : zF (soF ρ R ca) κ τ) (hn : n ≤ 1000) (hR : ∀ r, 100 ≤ r → R r → r = 104 + 8 * k ∨ r = 104 + 8 * k + 1 ∨ r = 104 + 8 * k + 2) (V : wsI9 ρ κ a n P) (Vk : wsK9 τ (wU9 κ a k) P) : wsI9 ρ τ a n P := by
  obtain ⟨e3, e4⟩ := wU9_f W Ta Z
  refine ⟨by rw [e3.2]; exact V.1, fun i hi => ?_⟩
  obtain ⟨h1, h2, h3⟩ := V.2 i hi
  rw [e3.1, e4]
  refine ⟨h1, h2, ?_⟩
  by_cases e : i = k
  · rw [e]
    exact Vk
  · exact wsK9_f W N Z h2 (ws_r9 (by omega)) ⟨fun z => by have q := hR _ (by omega) z; omega, fun z => by have q := hR _ (by omega) z; omega, fun z => by have q := hR _ (by omega) z; omega⟩ h3
theorem pw_m9 {ρ : Nat → Nat} {R R' : Nat → Prop} {ca a : Nat} {κ τ : zS} (h : ∀ r, R r → R' r) (Z : zF (pwF9 ρ R ca a) κ τ) : zF (pwF9 ρ R' ca a) κ τ := Z.mono (fun f b z => by
  rcases z with (z | z) | z
  · exact Or.inl (Or.inl ⟨h _ z.1, z.2⟩)
  · exact Or.inl (Or.inr z)
  · exact Or.inr z)
/-- what was taken at a state is one of its nexts, and nothing else changed there -/
def tkI9 (κ τ : zS) (a k : Nat) : Prop := zR τ soTaken a = zR κ soTaken a ∧ (0 ≤ (zA τ (zR κ soTaken a) k).toInt ∧ (zA τ (zR κ soTaken a) k).toInt < (zA κ (zR κ atFirsts (zR κ soAtlas a)) (k + 1)).toInt - (zA κ (zR κ atFirsts (zR κ soAtlas a)) k).toInt) ∧ ∀ i, i ≠ k → zA τ (zR κ soTaken a) i = zA κ (zR κ soTaken a) i
theorem tk_f9 {C : zC} {n0 a k ca : Nat} {ρ : Nat → Nat} {R : Nat → Prop} {κ τ τ' : zS} (W : zW C n0 τ) (Ta : zT τ a = 12) (Z : zF (soF ρ R ca) τ τ') (K : tkI9 κ τ a k) : tkI9 κ τ' a k := by
  have T9 : zT τ a = 11 + 1 := Ta
  have e : zR τ' soTaken a = zR τ soTaken a := (soF_r9 Z (by decide)).1
  have q := (Z.row W (f := soTaken) (t := 20) (by decide +kernel) (by decide) Ta (frS9_n W soF_fr T9 (by decide))).1
  rw [e, K.1] at q
  unfold tkI9
  rw [q]
  exact ⟨e.trans K.1, K.2⟩
theorem tk_u9 {a k : Nat} {κ τ τ' : zS} {x : Int32} (K : tkI9 κ τ a k) (e : τ' = ua τ (zR τ soTaken a) k x) (u : zA τ' (zR κ soTaken a) = upd (zA τ (zR κ soTaken a)) k x) (h0 : 0 ≤ x.toInt) (h1 : x.toInt < (zA κ (zR κ atFirsts (zR κ soAtlas a)) (k + 1)).toInt - (zA κ (zR κ atFirsts (zR κ soAtlas a)) k).toInt) : tkI9 κ τ' a k := by
  have q : upd (zA τ (zR κ soTaken a)) k x k = x := if_pos rfl
  unfold tkI9
  rw [u, q]
  refine ⟨by rw [e]; exact K.1, ⟨h0, h1⟩, fun i hi => ?_⟩
  have y : upd (zA τ (zR κ soTaken a)) k x i = zA τ (zR κ soTaken a) i := if_neg hi
  rw [y]
  exact K.2.2 i hi
theorem So_findWorth_c {C : zC} {n0 : Nat} {a0 : Nat} {a1 : Int32} {κ : zS} {Q : Int32 → zS → Prop} (W : zW C n0 κ) (Ta0 : zT κ a0 = 12) (ρ : Nat → Nat) (n9 P9 : Nat) (hp : pwI9 ρ κ κ a0 n9 P9 ∧ n9 ≤ 1000 ∧ (0 ≤ a1.toInt ∧ a1.toInt < n9 ∧ n9 ≤ (zN κ (zR κ soTaken a0))) ∧ tkI9 κ κ a0 a1.toNatClampNeg ∧ nuN κ (zR κ soLess a0) < pB9 4000) (h : ∀ (v : Int32) (κ' : zS), (nb v ∧ (zF (pwF9 ρ (fwR9 (104 + 8 * a1.toNatClampNeg)) (zR κ soCalc a0) a0) κ κ' ∧ nmI ρ κ' ∧ soI ρ κ' a0) ∧ nuN κ' (zR κ soLess a0) < pB9 4000 ∧ tkI9 κ κ' a0 a1.toNatClampNeg ∧ (v ≠ 0 → wsI9 ρ κ' a0 n9 P9) ∧ (∀ k, wU9 κ' a0 k = wU9 κ a0 k)) → Q v κ') : zRun C 5 mSo_findWorth [.ref a0, .int a1] κ (oI Q noX) := by
  refine So_findWorth_run W Ta0 ?_
  replace W := W.lo (Nat.le_trans W.1.2.1 W.1.2.2) (Nat.le_refl (zn κ))
  unfold w_So_findWorth_0
  obtain ⟨J0, hn, p1, p2, p3⟩ := hp
  have kn := cnk p1.1
  have A0 := J0.2.1.1
  have wy := wy_9 A0 (k := a1.toNatClampNeg) (by omega)
  have r8 : ρ (zR κ soLess a0) = 8 := J0.1.2.1.2.2.2.2.2.1
  have sm : ∀ x y : Int32, 0 ≤ x.toInt → x.toInt ≤ 20000 → 0 ≤ y.toInt → y.toInt ≤ 20000 → (x + y).toInt = x.toInt + y.toInt := fun x y h1 h2 h3 h4 => add_i (by omega) (by omega)
  have hj90 : ∀ (l0 : Nat) (l1 : Int32) (τ : zS), zW C (zn κ) τ → zT τ l0 = 12 → (a0 = l0 ∧ a1 = l1 ∧ ((nmI ρ τ ∧ soI ρ τ a0) ∧ (zR τ soAtlas a0 = zR κ soAtlas a0 ∧ atW τ (zR κ soAtlas a0) n9) ∧ zF (pwF9 ρ (cpR9 (104 + 8 * a1.toNatClampNeg)) (zR κ soCalc a0) a0) κ τ ∧ wsI9 ρ τ a0 n9 P9 ∧ (∀ k, wU9 τ a0 k = wU9 κ a0 k)) ∧ nuN τ (zR κ soLess a0) < pB9 4000 ∧ tkI9 κ τ a0 a1.toNatClampNeg) → w_So_findWorth_90 C (zn κ) Q  l0 l1 τ := by
    rintro _ _ τ90 W90 T90_0 ⟨rfl, rfl, j90⟩
    unfold w_So_findWorth_90
    obtain ⟨⟨⟨N2, S2⟩, ⟨ea, A2⟩, Z2, V2, U2⟩, le2, tk2⟩ := j90
    obtain ⟨v1, v2, v3⟩ := V2.2 a1.toNatClampNeg (by omega)
    have vl := V2.1
    refine ⟨?_, ?_⟩
    · rw [inb_iff]; omega  -- b1
    refine ⟨?_, ?_⟩
    · rw [ea, inb_iff, A2.1.2.2.1]; omega  -- b2
    refine ex_some ?_ (fun u1 hu1 => ?_)
    · exact ⟨_, v1⟩  -- e3
    intro T2
    intro T3
    have eu : u1 = wU9 τ90 a0 a1.toNatClampNeg := Option.some.inj (hu1.symm.trans v1)
    subst eu
    have gs := ra_g9 N2 v2 (by omega) (by omega) (by omega)
    have k1 := k256 gs.2.2.2.1 v3.1.1
    have k2 := k256 gs.2.2.2.2.1 v3.1.2
    have h6 : ρ (zR τ90 soTerm a0) = 6 := S2.1.2.2.2.1
    have g6 := nm_g N2 h6 (Or.inl ⟨by decide, by decide⟩) (by decide)
    refine Ra_addWhole_c W90 T2 T3 20 6500 ?_ (fun κ_4 q5 => ?_)
    · exact ⟨gs.2.2.2, g6.1, ⟨ro_n h6 gs.2.1.1 (by omega), ro_n h6 gs.2.1.2 (by omega)⟩, ⟨by omega, by decide⟩, ⟨by omega, by omega⟩, by decide⟩  -- p4
    intro W6
    intro M7
    obtain ⟨Zw, Jw, Cw, bw, tw, sw⟩ := q5
    obtain ⟨⟨N4, S4⟩, Zq⟩ := aw_w9 W90 T90_0 N2 S2 v2 (by omega) (by omega) (by omega) h6 Zw Jw Cw
    have Z4 := Zq (zR κ soCalc a0)
    have wu := wU9_f W90 T90_0 Z4
    have tl9 : zT τ90 (zR κ soLess a0) = 8 := Z2.t (ty_soLess W Ta0) (by decide)
    have eb4 : zR κ_4 raBottom (wU9 τ90 a0 a1.toNatClampNeg) = zR τ90 raBottom (wU9 τ90 a0 a1.toNatClampNeg) := Z4.r (soF_ra (Or.inr rfl))
    refine ⟨?_, ?_⟩
    · rw [wu.1.2, inb_iff]; omega  -- b5
    refine ex_some ?_ (fun u8 hu8 => ?_)
    · exact ⟨wU9 τ90 a0 a1.toNatClampNeg, by rw [wu.1.1]; exact v1⟩  -- e6
    intro T9
    have e8 : u8 = wU9 τ90 a0 a1.toNatClampNeg := Option.some.inj (hu8.symm.trans (by rw [wu.1.1]; exact v1))
    subst e8
    have gf := ra_g9 N4 v2 (by omega) (by omega) (by omega)
    refine Ra_fits_c W6 T9  ?_ (fun r10 q12 => ?_)
    · exact ⟨nuI_mono (by decide) gf.2.2.2.1, nuI_mono (by decide) gf.2.2.2.2.1⟩  -- p7
    intro W13
    intro M14
    refine ⟨?_, h _ _ ?_⟩
    · exact q12.1  -- b8
    · have sb := soF_B (c := 0) (w := (zR κ soLess a0)) W90 tl9 Z4 (by rw [r8]; omega)
      refine ⟨q12.1, ⟨(pw_m9 (fun r z => ?_) Z2).tr ((soF_m (fun r z => ?_) Z4).mono (fun f b z => Or.inl z)), N4, S4⟩, by rw [sb.2.1]; exact le2, tk_f9 W90 T90_0 Z4 tk2, fun y => ?_, fun i => (wu.2 i).trans (U2 i)⟩
      · unfold cpR9 at z
        unfold fwR9
        omega
      · unfold fwR9
        omega
      · have f2 := q12.2 y
        refine ws_w9 W90 T90_0 N2 Z4 hn (k := a1.toNatClampNeg) (fun r h z => by omega) V2 ⟨f2, ?_, sw v3.2.2⟩
        rw [eb4, bw]
        exact v3.2.1
  refine ⟨?_, ?_⟩
  · rw [inb_iff, A0.1.1]; omega  -- b10
  intro x15 hx15
  unfold w_So_findWorth_12
  refine ⟨fun n l0 l1 l2 l3 τ => n = ((zA κ (zR κ atFirsts (zR κ soAtlas a0)) (a1.toNatClampNeg + 1)).toInt - (zA κ (zR κ atFirsts (zR κ soAtlas a0)) a1.toNatClampNeg).toInt - l3.toInt).toNat ∧ (a0 = l0 ∧ a1 = l1 ∧ pwI9 ρ κ τ a0 n9 P9 ∧ zF (pwF9 ρ (fun r => r = 7 ∨ r = 8) (zR κ soCalc a0) a0) κ τ ∧ nuN τ (zR κ soLess a0) < pB9 4000 ∧ l2 = zA κ (zR κ atFirsts (zR κ soAtlas a0)) a1.toNatClampNeg ∧ (1 ≤ l3.toInt ∧ l3.toInt ≤ (zA κ (zR κ atFirsts (zR κ soAtlas a0)) (a1.toNatClampNeg + 1)).toInt - (zA κ (zR κ atFirsts (zR κ soAtlas a0)) a1.toNatClampNeg).toInt) ∧ tkI9 κ τ a0 a1.toNatClampNeg), ⟨_, rfl, ?_⟩, ?_⟩
  · exact ⟨rfl, rfl, J0, zF.rf, p3, hx15, ⟨by decide, by show (1 : Int) ≤ _; omega⟩, p2⟩  -- j11
  rintro n12 _ _ x12_2 x12_3 κ12 W12 T12_0 ⟨hn12, rfl, rfl, i12⟩
  obtain ⟨J1, Z1, le1, ef, h3, tk⟩ := i12
  have tb := tk.2.1
  have A1 := J1.2.1.1
  have eA := J1.2.1.2.1
  have eF : zA κ12 (zR κ12 atFirsts (zR κ soAtlas a0)) = zA κ (zR κ atFirsts (zR κ soAtlas a0)) := by rw [J1.2.1.2.2.2]; exact J1.2.1.2.2.1
  have eT : zR κ12 soTaken a0 = zR κ soTaken a0 := J1.2.2.2.2.1.1
  have nT : zN κ12 (zR κ soTaken a0) = zN κ (zR κ soTaken a0) := J1.2.2.2.2.1.2
  have sx : (x12_2 + zA κ12 (zR κ soTaken a0) a1.toNatClampNeg).toInt = (zA κ (zR κ atFirsts (zR κ soAtlas a0)) a1.toNatClampNeg).toInt + (zA κ12 (zR κ soTaken a0) a1.toNatClampNeg).toInt := by rw [ef]; exact sm _ _ (by omega) (by omega) (by omega) (by omega)
  have tle : zT κ12 (zR κ soLess a0) = 8 := Z1.t (ty_soLess W Ta0) (by decide)
  intro T16
  refine At_waysOf_c W12 T16  ?_ (fun r17 q19 => ?_)
  · rw [eA]
    exact ⟨A1.1.1, p1.1, by omega⟩
  intro W20
  intro M21
  rw [eA, eF] at q19
  have r9 : r17.toInt = (zA κ (zR κ atFirsts (zR κ soAtlas a0)) (a1.toNatClampNeg + 1)).toInt - (zA κ (zR κ atFirsts (zR κ soAtlas a0)) a1.toNatClampNeg).toInt := by rw [q19, sub_i (by omega) (by omega)]
  refine ⟨fun c22 => ?_, fun c22 => ?_⟩
  · skip
    refine ⟨?_, ?_⟩
    · rw [eT, inb_iff, nT]; omega  -- b13
    intro T23
    refine So_worthBehind_c W20 T23 ρ n9 P9 a1.toNatClampNeg ?_ (fun r24 q26 => ?_)
    · rw [eA, eF, eT]
      exact ⟨A1, J1.2.2.1, by omega, by rw [sx]; omega, by rw [sx]; omega, by rw [sx]; omega⟩
    intro W27
    intro M28
    intro T29
    refine ⟨fun c30 => ?_, fun uc30 c30 => ?_⟩
    · skip
      refine hj90 _ _ _ W27 ?_ ?_
      · exact T12_0  -- t15
      · refine ⟨rfl, rfl, ⟨J1.1, ⟨eA, A1⟩, pw_m9 (fun r z => ?_) Z1, J1.2.2.1, J1.2.2.2.1⟩, le1, tk⟩
        unfold cpR9
        omega
    · skip
      refine ⟨?_, ?_⟩
      · have vl := J1.2.2.1.1
        rw [inb_iff]; omega
      refine ex_some ?_ (fun u31 hu31 => ?_)
      · exact ⟨_, (J1.2.2.1.2 a1.toNatClampNeg (by omega)).1⟩  -- e18
      refine ex_some ?_ (fun u32 hu32 => ?_)
      · exact ⟨_, c30⟩  -- e19
      intro T33
      intro T34
      obtain ⟨j9, hj9, ej⟩ : ∃ j, j < n9 ∧ wU9 κ12 a0 j = u32 := by
        rcases q26 with z | ⟨j, hj, z⟩
        · rw [z] at hu32; cases hu32
        · exact ⟨j, hj, Option.some.inj (z.symm.trans hu32)⟩
      obtain ⟨y0, y1, y2⟩ := J1.2.2.1.2 a1.toNatClampNeg (by omega)
      obtain ⟨_, y3, y4⟩ := J1.2.2.1.2 j9 hj9
      have eu31 : wU9 κ12 a0 a1.toNatClampNeg = u31 := Option.some.inj (y0.symm.trans hu31)
      rw [eu31] at y1
      rw [ej] at y3 y4
      refine Ra_copy_w9 W27 T33 T34 ρ (104 + 8 * a1.toNatClampNeg) (104 + 8 * j9) ?_ (fun κ_35 q36 => ?_)
      · refine ⟨J1.1.1, ⟨y1, by omega, by omega, by omega⟩, ⟨y3, by omega, by omega, by omega⟩, fun e => ?_, y4.1.1, y4.1.2⟩
        have e' : a1.toNatClampNeg = j9 := by omega
        rw [← eu31, ← ej, e']
      intro W37
      intro M38
      refine hj90 _ _ _ W37 ?_ ?_
      · exact q36.1.t T12_0 (by decide)  -- t21
      · obtain ⟨⟨N5, S5⟩, Zq⟩ := ra_w9 W27 T12_0 J1.1.1 J1.1.2 y1 (by omega) (by omega) (by omega) q36.1 q36.2.1
        have Z5 := Zq (zR κ soCalc a0)
        have wu := wU9_f W27 T12_0 Z5
        have tz : zT κ12 (zR κ soAtlas a0) = 3 := by rw [← eA]; exact ty_soAtlas W27 T12_0
        have sb := soF_B (c := 0) (w := (zR κ soLess a0)) W27 tle Z5 (by rw [r8]; omega)
        have wk : wsK9 κ_35 (wU9 κ12 a0 a1.toNatClampNeg) P9 := by
          rw [eu31]
          unfold wsK9
          rw [q36.2.2.2.1, q36.2.2.2.2, q36.2.2.1]
          exact y4
        refine ⟨rfl, rfl, ⟨⟨N5, S5⟩, ⟨(soF_r9 Z5 (by decide)).1.trans eA, atW_f9 W27 soF_fr Z5 tz A1⟩, (pw_m9 (fun r z => ?_) Z1).tr ((soF_m (fun r z => ?_) Z5).mono (fun f b z => Or.inl z)), ws_w9 W27 T12_0 J1.1.1 Z5 hn (k := a1.toNatClampNeg) (fun r h z => z) J1.2.2.1 wk, fun i => (wu.2 i).trans (J1.2.2.2.1 i)⟩, by rw [sb.2.1]; exact le1, tk_f9 W27 T12_0 Z5 tk⟩
        · unfold cpR9
          omega
        · unfold cpR9
          omega
  · skip
    intro T39
    rw [lei, r9] at c22
    have sy : (x12_2 + x12_3).toInt = (zA κ (zR κ atFirsts (zR κ soAtlas a0)) a1.toNatClampNeg).toInt + x12_3.toInt := by rw [ef]; exact sm _ _ (by omega) (by omega) (by omega) (by omega)
    have ix : (x12_3 + 1).toInt = x12_3.toInt + 1 := (cn1 (by omega) (by omega)).2
    refine So_worthBehind_c W20 T39 ρ n9 P9 a1.toNatClampNeg ?_ (fun r40 q42 => ?_)
    · rw [eA, eF]
      exact ⟨A1, J1.2.2.1, by omega, by rw [sy]; omega, by rw [sy]; omega, by rw [sy]; omega⟩
    intro W43
    intro M44
    intro T45
    refine ⟨?_, ?_⟩
    · rw [eT, inb_iff, nT]; omega  -- b24
    intro T46
    refine So_worthBehind_c W43 T46 ρ n9 P9 a1.toNatClampNeg ?_ (fun r47 q49 => ?_)
    · rw [eA, eF, eT]
      exact ⟨A1, J1.2.2.1, by omega, by rw [sx]; omega, by rw [sx]; omega, by rw [sx]; omega⟩
    intro W50
    intro M51
    intro T52
    intro T53
    intro T54
    intro T55
    refine So_isAbove_c W50 T53 T54 T55 ρ n9 P9 ?_ (fun r56 κ_57 q58 => ?_)
    · exact ⟨J1.1, J1.2.2.1, hn, q42, q49⟩  -- p26
    intro W59
    intro M60
    obtain ⟨⟨Z6, N6, S6⟩, l6⟩ := q58
    rw [J1.2.2.2.2.2.1] at Z6
    rw [J1.2.2.2.2.2.2.2] at l6
    have J6 := pw_so9 W50 T12_0 hn J1 Z6 (fun r h z => by rcases z with z | z <;> omega) ⟨N6, S6⟩
    have le6 : nuN κ_57 (zR κ soLess a0) < pB9 4000 := by
      rcases l6 with z | z
      · exact z
      · rw [z]; exact le1
    have tk6 := tk_f9 W50 T12_0 Z6 tk
    have Zs := Z1.tr (Z6.mono (fun f b z => Or.inl z))
    have T6 : zT κ_57 a0 = 12 := Z6.t T12_0 (by decide)
    have tl6 : zT κ_57 (zR κ soLess a0) = 8 := Z6.t tle (by decide)
    refine ⟨fun c61 => ?_, fun c61 => ?_⟩
    · skip
      intro x62 hx62
      refine ⟨_, ?_, rfl, ?_⟩
      · rw [hn12, hx62, ix]; omega  -- d27
      · exact ⟨rfl, rfl, J6, Zs, le6, ef, ⟨by rw [hx62, ix]; omega, by rw [hx62, ix]; omega⟩, tk6⟩  -- i28
    · skip
      refine ⟨?_, ?_⟩
      · rw [J6.2.2.2.2.1.1, J6.2.2.2.2.1.2, inb_iff]; omega  -- b29
      intro κ_63 hκ_63
      intro W64
      intro x65 hx65
      refine ⟨_, ?_, rfl, ?_⟩
      · rw [hn12, hx65, ix]; omega  -- d30
      · obtain ⟨J7, Z7, u7⟩ := pw_u9 W59 T6 J6 hκ_63
        have lz := nuB_z (c := 0) W59 tl6 Z7 (fun z => absurd z.1 (by decide)) (fun z => absurd z.1 (by decide))
        exact ⟨rfl, rfl, J7, Zs.tr (Z7.mono (fun f b z => Or.inr z)), by rw [lz.2.2.1]; exact le6, ef, ⟨by rw [hx65, ix]; omega, by rw [hx65, ix]; omega⟩, tk_u9 tk6 hκ_63 u7 (by omega) (by omega)⟩
