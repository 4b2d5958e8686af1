set_option maxHeartbeats 1600000
/-! the class: a fraction copied to itself; Solver's findWorth -/
theorem ui_id9 {κ : zS} {f a : Nat} : ui κ f a (zI κ f a) = κ := by
  obtain ⟨k1, k2, k3, k4⟩ := κ
  have e : (fun g b => if g = f ∧ b = a then k3 f a else k3 g b) = k3 := by
    funext g b
    by_cases z : g = f ∧ b = a
    · rw [if_pos z, z.1, z.2]
    · exact if_neg z
  show (k1, k2, (fun g b => if g = f ∧ b = a then k3 f a else k3 g b), k4) = _
  rw [e]
theorem uc_id9 {κ : zS} {r n : Nat} : uc κ r r 0 0 n = κ := by
  obtain ⟨k1, k2, k3, k4, k5, k6⟩ := κ
  have c : va_cpy (k5 r) (k5 r) 0 0 n = k5 r := by
    funext j
    unfold va_cpy
    split
    · rw [Nat.zero_add, Nat.sub_zero]
    · rfl
  have e : (fun b => if b = r then va_cpy (k5 r) (k5 r) 0 0 n else k5 b) = k5 := by
    funext b
    by_cases z : b = r
    · rw [if_pos z, c, z]
    · exact if_neg z
  show (k1, k2, k3, k4, (fun b => if b = r then va_cpy (k5 r) (k5 r) 0 0 n else k5 b), k6) = _
  rw [e]
theorem Nu_copy_c2 {C : zC} {n0 : Nat} {a0 : Nat} {κ : zS} {Q : zS → Prop} (W : zW C n0 κ) (Ta0 : zT κ a0 = 8) (c9 : Nat) (hp : nuB κ a0 c9) (h : Q κ) : zRun C 1 mNu_copy [.ref a0, .ref a0] κ (oV Q noX) := by
  refine Nu_copy_run W Ta0 Ta0 ?_
  replace W := W.lo (Nat.le_trans W.1.2.1 W.1.2.2) (Nat.le_refl (zn κ))
  unfold w_Nu_copy_0
  have l := hp.1
  have k := cnk l.1
  have nl : zN κ (zR κ nuLimbs a0) ≤ 67108864 := (W.2.1 _ (show zT κ (zR κ nuLimbs a0) ≠ 0 by rw [ty_nuLimbs W Ta0]; decide)).1.2
  refine ⟨fun _ => ?_, fun c => ?_⟩
  · unfold w_Nu_copy_31
    refine ⟨⟨by decide, by decide, by rw [lei, t0i]; exact l.1, ?_, ?_⟩, fun κ1 e1 _ κ3 e3 _ => ?_⟩
    · show 0 + _ ≤ _
      omega
    · show 0 + _ ≤ _
      omega
    · have q1 : κ1 = κ := e1.trans uc_id9
      rw [q1] at e3
      have q3 : κ3 = κ := e3.trans ui_id9
      rw [q3]
      exact h
  · exfalso
    rw [lei, ofn_i nl] at c
    omega
theorem Ra_copy_c2 {C : zC} {n0 : Nat} {a0 : Nat} {κ : zS} {Q : zS → Prop} (W : zW C n0 κ) (Ta0 : zT κ a0 = 11) (c9 : Nat) (hp : raJ κ a0 c9) (h : Q κ) : zRun C 2 mRa_copy [.ref a0, .ref a0] κ (oV Q noX) := by
  refine Ra_copy_run W Ta0 Ta0 ?_
  replace W := W.lo (Nat.le_trans W.1.2.1 W.1.2.2) (Nat.le_refl (zn κ))
  unfold w_Ra_copy_0
  intro κ1 e1 W1 T1 T2
  have q1 : κ1 = κ := e1.trans ui_id9
  subst q1
  refine Nu_copy_c2 W1 T1 c9 hp.1.1 ?_
  intro W2 _ T3 T4
  refine Nu_copy_c2 W2 T3 c9 hp.2.1.1 ?_
  intro _ _
  exact h
/-- a fraction copied from one of its kind, itself or another -/
theorem Ra_copy_w9 {C : zC} {n0 : Nat} {a0 a1 : Nat} {κ : zS} {Q : zS → Prop} (W : zW C n0 κ) (Ta0 : zT κ a0 = 11) (Ta1 : zT κ a1 = 11) (ρ : Nat → Nat) (r s : Nat) (hp : nmI ρ κ ∧ (ρ a0 = r ∧ 100 ≤ r ∧ r < 999990 ∧ r % 8 = 0) ∧ (ρ a1 = s ∧ 100 ≤ s ∧ s < 999990 ∧ s % 8 = 0) ∧ (r = s → a0 = a1) ∧ nuN κ (zR κ raTop a1) < 2 ^ 256 ∧ nuN κ (zR κ raBottom a1) < 2 ^ 256) (h : ∀ κ' : zS, (zF (raF (zR κ raTop a0) (zR κ raBottom a0) a0) κ κ' ∧ raJ κ' a0 20 ∧ raV κ' a0 ((zI κ raSign a1).toInt) (nuN κ (zR κ raTop a1)) (nuN κ (zR κ raBottom a1))) → Q κ') : zRun C 2 mRa_copy [.ref a0, .ref a1] κ (oV Q noX) := by
  obtain ⟨N, ⟨h1, h2, h3, h4⟩, ⟨s1, s2, s3, s4⟩, hs, t1, t2⟩ := hp
  have g0 := ra_g9 N h1 h2 h3 (by omega)
  have g1 := ra_g9 N s1 s2 s3 (by omega)
  by_cases e : r = s
  · have ea := hs e
    subst ea
    exact Ra_copy_c2 W Ta0 20 g0.2.2.2 (h κ ⟨zF.rf, g0.2.2.2, rfl, rfl, rfl⟩)
  · have k1 := k256 g1.2.2.2.1 t1
    have k2 := k256 g1.2.2.2.2.1 t2
    exact Ra_copy_c W Ta0 Ta1 20 ⟨g0.2.2.1, ⟨nuI_mono (by decide) g1.2.2.2.1, nuI_mono (by decide) g1.2.2.2.2.1, g1.2.2.2.2.2⟩, ⟨ro_n g0.2.1.1 g1.2.1.1 (by omega), ro_n g0.2.1.1 g1.2.1.2 (by omega), ro_n g0.2.1.2 g1.2.1.1 (by omega), ro_n g0.2.1.2 g1.2.1.2 (by omega)⟩, ⟨by omega, by omega⟩, by decide⟩ (fun κ' q => h κ' q)
/-- worths stay where neither numbers nor fractions are touched -/
theorem ws_g9 {C : zC} {n0 a n P : Nat} {ρ : Nat → Nat} {F : Nat → Nat → Prop} {κ τ : zS} (W : zW C n0 κ) (Ta : zT κ a = 12) (Z : zF F κ τ) (h8 : ∀ f w, zT κ w = 8 → ¬ F f w) (h11 : ∀ f v, zT κ v = 11 → ¬ F f v) (hw : ¬ F soWorths a) (V : wsI9 ρ κ a n P) : wsI9 ρ τ a n P ∧ ∀ k, wU9 τ a k = wU9 κ a k := by
  have e3 := (Z.row W (f := soWorths) (t := 25) (by decide +kernel) (by decide) Ta hw).2.2
  have e5 : zN τ (zR τ soWorths a) = zN κ (zR κ soWorths a) := by
    rw [Z.r hw]
    exact Z.l (ty_soWorths W Ta)
  have e4 : ∀ k, wU9 τ a k = wU9 κ a k := fun k => by unfold wU9; rw [e3]
  refine ⟨⟨by rw [e5]; exact V.1, fun k hk => ?_⟩, e4⟩
  obtain ⟨h1, h2, h3⟩ := V.2 k hk
  have tu := W.2.2.2.2.1 _ _ _ (ty_soWorths W Ta) h1
  have tt := ty_raTop W tu
  have tb := ty_raBottom W tu
  rw [e3, e4]
  refine ⟨h1, h2, ?_⟩
  unfold wsK9
  rw [Z.i (h11 _ _ tu), Z.r (h11 _ _ tu), Z.r (h11 _ _ tu), (nuB_z (c := 0) W tt Z (h8 _ _ tt) (h8 _ _ tt)).2.2.1, (nuB_z (c := 0) W tb Z (h8 _ _ tb) (h8 _ _ tb)).2.2.1]
  exact h3
/-- all that the plan's steps keep -/
def pwI9 (ρ : Nat → Nat) (κ τ : zS) (a n P : Nat) : Prop := (nmI ρ τ ∧ soI ρ τ a) ∧ (atW τ (zR κ soAtlas a) n ∧ zR τ soAtlas a = zR κ soAtlas a ∧ zA τ (zR κ atFirsts (zR κ soAtlas a)) = zA κ (zR κ atFirsts (zR κ soAtlas a)) ∧ zR τ atFirsts (zR κ soAtlas a) = zR κ atFirsts (zR κ soAtlas a)) ∧ wsI9 ρ τ a n P ∧ (∀ k, wU9 τ a k = wU9 κ a k) ∧ (zR τ soTaken a = zR κ soTaken a ∧ zN τ (zR κ soTaken a) = zN κ (zR κ soTaken a)) ∧ zR τ soCalc a = zR κ soCalc a ∧ (zR τ soTerm a = zR κ soTerm a ∧ zR τ soLess a = zR κ soLess a)
def pwF9 (ρ : Nat → Nat) (R : Nat → Prop) (ca a : Nat) : Nat → Nat → Prop := fun f b => soF ρ R ca f b ∨ (f = soTaken ∧ b = a)
theorem pw_so9 {C : zC} {n0 a n P : Nat} {ρ : Nat → Nat} {R : Nat → Prop} {κ τ τ' : zS} (Wt : zW C n0 τ) (Tt : zT τ a = 12) (hn : n ≤ 1000) (J : pwI9 ρ κ τ a n P) (Z : zF (soF ρ R (zR κ soCalc a)) τ τ') (hR : ∀ r, 100 ≤ r → ¬ R r) (N : nmI ρ τ' ∧ soI ρ τ' a) : pwI9 ρ κ τ' a n P := by
  obtain ⟨⟨j1, j2⟩, ⟨j3, j4, j5, j6⟩, j7, j8, ⟨j9, j10⟩, j11, j12, j13⟩ := J
  have tb : zT τ (zR κ soAtlas a) = 3 := by rw [← j4]; exact ty_soAtlas Wt Tt
  have fr := at_f9 Wt soF_fr Z tb (f := atFirsts) (by decide)
  have wu := wU9_f Wt Tt Z
  have et : zR τ' soTaken a = zR τ soTaken a := (soF_r9 Z (by decide)).1
  have tt := ty_soTaken Wt Tt
  refine ⟨N, ⟨atW_f9 Wt soF_fr Z tb j3, (soF_r9 Z (by decide)).1.trans j4, ?_, fr.1.trans j6⟩, wsI9_f Wt Tt j1 Z hn hR j7, fun k => (wu.2 k).trans (j8 k), ⟨et.trans j9, ?_⟩, (soF_r9 Z (by decide)).1.trans j11, (soF_r9 Z (by decide)).1.trans j12, (soF_r9 Z (by decide)).1.trans j13⟩
  · have q := fr.2.1
    rw [fr.1, j6] at q
    rw [q]
    exact j5
  · rw [← j9, Z.l tt, j9]
    exact j10
theorem pw_u9 {C : zC} {n0 a n P i : Nat} {ρ : Nat → Nat} {κ τ τ' : zS} {x : Int32} (Wt : zW C n0 τ) (Tt : zT τ a = 12) (J : pwI9 ρ κ τ a n P) (e : τ' = ua τ (zR τ soTaken a) i x) : pwI9 ρ κ τ' a n P ∧ zF (fun f b => f = soTaken ∧ b = a) τ τ' ∧ zA τ' (zR κ soTaken a) = upd (zA τ (zR κ soTaken a)) i x := by
  obtain ⟨⟨j1, j2⟩, ⟨j3, j4, j5, j6⟩, j7, j8, ⟨j9, j10⟩, j11, j12, j13⟩ := J
  have o := Wt.o (show zr soTaken = some 20 by decide +kernel) (by decide) Tt
  have Z : zF (fun f b => f = soTaken ∧ b = a) τ τ' := by
    rw [e]
    exact zF_ua (by rw [o]; exact ⟨rfl, rfl⟩)
  have V : frV9 (zn τ) (fun f b => f = soTaken ∧ b = a) := fun f b z => by
    rw [z.1]
    exact Or.inr (Or.inr (Or.inr (Or.inr (Or.inl (by decide)))))
  have tb : zT τ (zR κ soAtlas a) = 3 := by rw [← j4]; exact ty_soAtlas Wt Tt
  have nt : ∀ (t f w : Nat), zT τ w = t → t ≠ 12 → ¬ (f = soTaken ∧ w = a) := fun t f w ht h12 z => by
    rw [z.2, Tt] at ht
    exact h12 ht.symm
  have eR : zR τ' = zR τ := by rw [e]; rfl
  have eN : zN τ' = zN τ := by rw [e]; rfl
  have fr := at_v9 Wt V Z tb (f := atFirsts) (by decide)
  have ws := ws_g9 Wt Tt Z (fun f w h => nt 8 f w h (by decide)) (fun f w h => nt 11 f w h (by decide)) (fun z => absurd z.1 (by decide)) j7
  refine ⟨⟨⟨nm_h9 Wt j1 Z (fun f w h => nt 8 f w h (by decide)) (fun f w h => nt 11 f w h (by decide)), so_x9 Wt Tt j2 Z (fun f b z => Or.inr ⟨by rw [z.1]; decide, by rw [z.1]; decide⟩) (fun _ _ => rfl)⟩, ⟨atW_v9 Wt V Z tb j3, by rw [eR]; exact j4, ?_, by rw [eR]; exact j6⟩, ws.1, fun k => (ws.2 k).trans (j8 k), ⟨by rw [eR]; exact j9, by rw [eN]; exact j10⟩, by rw [eR]; exact j11, by rw [eR]; exact j12, by rw [eR]; exact j13⟩, Z, ?_⟩
  · have q := fr.2.1
    rw [fr.1, j6] at q
    rw [q]
    exact j5
  · rw [e, ← j9]
    exact if_pos rfl
