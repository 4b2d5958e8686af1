set_option maxHeartbeats 1600000
/-! the class: Odds' groups -/
def k39 (a b c : Int32) : Nat → Int32 := fun i => if i = 0 then a else if i = 1 then b else c
theorem hhs_c9 {K K' : Nat → Int32} {x : Int32} : ∀ n, (∀ i, i < n → K i = K' i) → hhs9 K x n = hhs9 K' x n := by
  intro n
  induction n with
  | zero => intro _; rfl
  | succ n ih =>
    intro h
    show hst9 (hhs9 K x n) (K n) = hst9 (hhs9 K' x n) (K' n)
    rw [ih (fun i hi => h i (by omega)), h n (by omega)]
theorem hk_c9 {κ : zS} {h g : Nat} {K K' : Nat → Int32} {L : Int32} (hL : 0 ≤ L.toInt) (e : ∀ i, i < L.toNatClampNeg → K i = K' i) (H : hk9 κ h K L.toInt g) : hk9 κ h K' L.toInt g := by
  have k := cnk hL
  exact ⟨H.1, H.2.1, fun i hi => (H.2.2 i hi).trans (e i (by omega))⟩
theorem hkS_c9 {κ : zS} {h S g : Nat} {K K' : Nat → Int32} {L : Int32} (hL : 0 ≤ L.toInt) (e : ∀ i, i < L.toNatClampNeg → K i = K' i) (H : hkS9 κ h S K L g) : hkS9 κ h S K' L g := by
  obtain ⟨H1, j, H2, H3, H4⟩ := H
  have es : ∀ i, hs9 S K' L i = hs9 S K L i := fun i => by
    unfold hs9
    rw [hhs_c9 L.toNatClampNeg e]
  refine ⟨hk_c9 hL e H1, j, H2, fun i hi => ?_, by rw [es]; exact H4⟩
  rw [es]
  obtain ⟨a, b⟩ := H3 i hi
  exact ⟨a, fun z => b (hk_c9 hL (fun i hi => (e i hi).symm) z)⟩
theorem ho_t9 {C : zC} {n0 h : Nat} {F : Nat → Nat → Prop} {κ τ : zS} (W : zW C n0 κ) (T : zT κ h = 6) (Z : zF F κ τ) (hF : ∀ f b, F f b → f / 100 = 9) : (∀ S K L g, hkS9 τ h S K L g ↔ hkS9 κ h S K L g) ∧ (∀ S, hoU9 τ h S ↔ hoU9 κ h S) ∧ pV9 τ h = pV9 κ h ∧ zI τ hoTotal h = zI κ hoTotal h ∧ (∀ M D S, hoI κ h M D S → hoI τ h M D S) := by
  have n : ∀ f, f / 100 = 6 → ¬ F f h := fun f hf z => by
    have y := hF f h z
    omega
  have w : ∀ f, zr f = some 20 → f / 100 = 6 → zA τ (zR τ f h) = zA κ (zR κ f h) := fun f h1 h2 => (Z.row W h1 (by decide) (T.trans h2.symm) (n f h2)).1
  have s := w hoStarts (by decide +kernel) (by decide)
  have p := w hoPool (by decide +kernel) (by decide)
  have b := w hoTable (by decide +kernel) (by decide)
  have t : zI τ hoTotal h = zI κ hoTotal h := Z.i (n hoTotal (by decide))
  have k : hk9 τ h = hk9 κ h := by
    funext K L g
    unfold hk9
    rw [s, p, t]
  have wy : ∀ S, hkW9 τ h S = hkW9 κ h S := fun S => by
    funext K L j
    unfold hkW9
    rw [b, k]
  refine ⟨fun S K L g => ?_, fun S => ?_, ?_, t, fun M D S H => ?_⟩
  · unfold hkS9
    rw [b, k, wy]
  · unfold hoU9
    rw [b]
  · funext g i
    unfold pV9
    rw [t, s, p]
  · refine hoI_f H (fun f hf => Z.i (n f hf)) (fun f hf => ?_)
    have q : zr f = some 20 ∧ f / 100 = 6 := by rcases hf with rfl | rfl | rfl <;> decide +kernel
    have r := Z.r (n f q.2)
    refine ⟨r, ?_, Z.l (W.r q.1 (T.trans q.2.symm))⟩
    have y := w f q.1 q.2
    rw [r] at y
    exact y
/-- the groups in order -/
def grI9 (κ : zS) (a : Nat) : Prop := (hoI κ (zR κ odGroups a) 3000 3 8192 ∧ hoA κ (zR κ odGroups a) 3000 3 8192 ∧ hoU9 κ (zR κ odGroups a) 8192) ∧ (zN κ (zR κ odKey a)) = 3
/-- what the tables' steps touch -/
def tbF9 (a g : Nat) : Nat → Nat → Prop := fun f b => (b = a ∧ (f = odKey ∨ f = odLefts ∨ f = odRights ∨ f = odRanks)) ∨ hoF g f b
theorem tbF9_o {a g m : Nat} : frO9 m g (tbF9 a g) := fun f b z => by
  rcases z with ⟨_, z | z | z | z⟩ | ⟨y, z | z | z | z⟩
  · rw [z]; exact Or.inr (Or.inr (Or.inr (Or.inr (Or.inr (Or.inl (by decide))))))
  · rw [z]; exact Or.inr (Or.inr (Or.inr (Or.inr (Or.inr (Or.inl (by decide))))))
  · rw [z]; exact Or.inr (Or.inr (Or.inr (Or.inr (Or.inr (Or.inl (by decide))))))
  · rw [z]; exact Or.inr (Or.inr (Or.inr (Or.inr (Or.inr (Or.inl (by decide))))))
  · rw [z]; exact Or.inr (Or.inr (Or.inr (Or.inr (Or.inr (Or.inr (Or.inr ⟨by decide, y⟩))))))
  · rw [z]; exact Or.inr (Or.inr (Or.inr (Or.inr (Or.inr (Or.inr (Or.inr ⟨by decide, y⟩))))))
  · rw [z]; exact Or.inr (Or.inr (Or.inr (Or.inr (Or.inr (Or.inr (Or.inr ⟨by decide, y⟩))))))
  · rw [z]; exact Or.inr (Or.inr (Or.inr (Or.inr (Or.inr (Or.inr (Or.inr ⟨by decide, y⟩))))))
/-- a step of the tables -/
def tbS9 (κ κ' : zS) (a : Nat) : Prop := zF (tbF9 a (zR κ odGroups a)) κ κ' ∧ (∀ f, f / 100 = 9 → zR κ' f a = zR κ f a) ∧ grI9 κ' a ∧ ((zI κ hoTotal (zR κ odGroups a)).toInt ≤ (zI κ' hoTotal (zR κ odGroups a)).toInt ∧ (zI κ' hoTotal (zR κ odGroups a)).toInt ≤ (zI κ hoTotal (zR κ odGroups a)).toInt + 1) ∧ (∀ K L x, hkS9 κ (zR κ odGroups a) 8192 K L x → hkS9 κ' (zR κ odGroups a) 8192 K L x) ∧ ∀ x i : Int32, x.toInt < (zI κ hoTotal (zR κ odGroups a)).toInt → pV9 κ' (zR κ odGroups a) x i = pV9 κ (zR κ odGroups a) x i
/-- the rows of the tables stay -/
def tbN9 (κ κ' : zS) (a : Nat) : Prop := (zI κ' hoTotal (zR κ odGroups a)).toInt = (zI κ hoTotal (zR κ odGroups a)).toInt ∧ zA κ' (zR κ odLefts a) = zA κ (zR κ odLefts a) ∧ zA κ' (zR κ odRights a) = zA κ (zR κ odRights a) ∧ zA κ' (zR κ odRanks a) = zA κ (zR κ odRanks a)
theorem od_ow9 {C : zC} {n0 a f g : Nat} {κ : zS} (W : zW C n0 κ) (Ta : zT κ a = 9) (hf : zr f = some 20) (hg : zr g = some 20) (h1 : f / 100 = 9) (h2 : g / 100 = 9) (h : f ≠ g) : zR κ f a ≠ zR κ g a := ow_ne W hf (by decide) (Ta.trans h1.symm) hg (by decide) (Ta.trans h2.symm) h
theorem k39_i {a b c : Int32} {r : Nat → Int32} {i : Nat} (hi : i < (3 : Int32).toNatClampNeg) : upd (upd (upd r 0 a) 1 b) 2 c i = k39 a b c i := by
  have e : (3 : Int32).toNatClampNeg = 3 := rfl
  unfold upd k39
  by_cases z0 : i = 0
  · rw [if_neg (by omega), if_neg (by omega), if_pos z0, if_pos z0]
  · by_cases z1 : i = 1
    · rw [if_neg (by omega), if_pos z1, if_neg z0, if_pos z1]
    · rw [if_pos (by omega), if_neg z0, if_neg z1]
/-- a group is entered -/
def grP9 (κ κ' : zS) (g : Nat) (K : Nat → Int32) (v : Int32) : Prop := (0 ≤ v.toInt ∧ v.toInt < (zI κ' hoTotal g).toInt) ∧ hkS9 κ' g 8192 K 3 v.toNatClampNeg ∧ ((zI κ' hoTotal g).toInt = (zI κ hoTotal g).toInt ∨ ((zI κ' hoTotal g).toInt = (zI κ hoTotal g).toInt + 1 ∧ v.toInt = (zI κ hoTotal g).toInt)) ∧ ∀ x : Nat, hkS9 κ g 8192 K 3 x → (zI κ' hoTotal g).toInt = (zI κ hoTotal g).toInt ∧ v.toInt = (x : Int)
theorem Od_group_c {C : zC} {n0 : Nat} {a0 : Nat} {a1 : Int32} {a2 : Int32} {a3 : Int32} {κ : zS} {Q : Int32 → zS → Prop} (W : zW C n0 κ) (Ta0 : zT κ a0 = 9)  (hp : grI9 κ a0 ∧ ((zI κ hoTotal (zR κ odGroups a0)).toInt < 3000 ∨ ∃ x, hkS9 κ (zR κ odGroups a0) 8192 (k39 a1 a2 a3) 3 x)) (h : ∀ (v : Int32) (κ' : zS), (tbS9 κ κ' a0 ∧ zF (fun f b => (f = odKey ∧ b = a0) ∨ hoF (zR κ odGroups a0) f b) κ κ' ∧ grP9 κ κ' (zR κ odGroups a0) (k39 a1 a2 a3) v) → Q v κ') : zRun C 3 mOd_group [.ref a0, .int a1, .int a2, .int a3] κ (oI Q noX) := by
  refine Od_group_run W Ta0 ?_
  replace W := W.lo (Nat.le_trans W.1.2.1 W.1.2.2) (Nat.le_refl (zn κ))
  unfold w_Od_group_0
  obtain ⟨⟨⟨H1, H2, H3⟩, H4⟩, H5⟩ := hp
  have tg := ty_odGroups W Ta0
  have o := W.o (show zr odKey = some 20 by decide +kernel) (by decide) Ta0
  have l3 : zN κ (zR κ odKey a0) = 3 := H4
  have ag : a0 ≠ zR κ odGroups a0 := fun z => by rw [← z, Ta0] at tg; exact absurd tg (by decide)
  refine ⟨?_, ?_⟩
  · rw [inb_iff, l3]; decide  -- b1
  intro κ_1 hκ_1
  intro W2
  have r1 : zR κ_1 = zR κ := by rw [hκ_1]; rfl
  have n1 : zN κ_1 = zN κ := by rw [hκ_1]; rfl
  have o1 : zO κ_1 = zO κ := by rw [hκ_1]; rfl
  refine ⟨?_, ?_⟩
  · rw [inb_iff, r1, n1, l3]; decide  -- b2
  intro κ_3 hκ_3
  intro W4
  have r3 : zR κ_3 = zR κ := by rw [hκ_3]; exact r1
  have n3 : zN κ_3 = zN κ := by rw [hκ_3]; exact n1
  have o3 : zO κ_3 = zO κ := by rw [hκ_3]; exact o1
  refine ⟨?_, ?_⟩
  · rw [inb_iff, r3, n3, l3]; decide  -- b3
  intro κ_5 hκ_5
  intro W6
  intro T7
  intro T8
  have r5 : zR κ_5 = zR κ := by rw [hκ_5]; exact r3
  have n5 : zN κ_5 = zN κ := by rw [hκ_5]; exact n3
  have F1 : zF (oneF odKey a0) κ κ_1 := by rw [hκ_1]; exact zF_ua (by rw [o]; exact ⟨rfl, rfl⟩)
  have F3 : zF (oneF odKey a0) κ_1 κ_3 := by rw [hκ_3]; exact zF_ua (by rw [r1, o1, o]; exact ⟨rfl, rfl⟩)
  have F5 : zF (oneF odKey a0) κ_3 κ_5 := by rw [hκ_5]; exact zF_ua (by rw [r3, o3, o]; exact ⟨rfl, rfl⟩)
  have FF := (F1.tr F3).tr F5
  have x1 : zA κ_1 (zR κ odKey a0) = upd (zA κ (zR κ odKey a0)) 0 a1 := by rw [hκ_1]; exact if_pos rfl
  have x3 : zA κ_3 (zR κ odKey a0) = upd (zA κ_1 (zR κ odKey a0)) 1 a2 := by rw [hκ_3, r1]; exact if_pos rfl
  have x5 : zA κ_5 (zR κ odKey a0) = upd (zA κ_3 (zR κ odKey a0)) 2 a3 := by rw [hκ_5, r3]; exact if_pos rfl
  have K5 : ∀ i, i < (3 : Int32).toNatClampNeg → zA κ_5 (zR κ odKey a0) i = k39 a1 a2 a3 i := fun i hi => by
    rw [x5, x3, x1]
    exact k39_i hi
  obtain ⟨V1, V2, V3, V4, V5⟩ := ho_t9 W tg FF (fun f b z => by rw [z.1]; decide)
  have I5 := V5 _ _ _ H1
  have A5 : hoA κ_5 (zR κ odGroups a0) 3000 3 8192 := hoI_A I5 (Or.inr (by rw [r5, n5, H2.1]; decide))
  refine Ho_enter_c2 W6 T7 T8 3000 3 8192 ?_ (fun r9 κ_10 q11 => ?_)
  · rw [r5]
    exact ⟨I5, Or.inr (Or.inr ⟨rfl, rfl, rfl⟩), by decide, A5, (V2 _).mpr H3, by rw [n5, l3]; decide⟩
  intro W12
  intro M13
  refine h _ _ ?_
  · rw [r5] at q11
    obtain ⟨⟨Z7, I7, A7, v0, v1, e7⟩, u7, p7, s7, d7, f7, w7⟩ := q11
    have t3 : (3 : Int32).toInt = 3 := rfl
    have t30 : (3000 : Int32).toInt = 3000 := rfl
    have vn : 0 ≤ r9.toInt := by
      by_cases y : 0 ≤ r9.toInt
      · exact y
      · have q := f7 (by omega)
        rw [V4, t3, t30] at q
        rcases H5 with z | ⟨x, z⟩
        · omega
        · have w := (d7 x (hkS_c9 (by decide) (fun i hi => (K5 i hi).symm) ((V1 _ _ _ _).mpr z))).2
          omega
    rw [if_neg (by rw [lti, t0i]; omega)]
    have rr : ∀ f, f / 100 = 9 → zR κ_10 f a0 = zR κ f a0 := fun f _ => (Z7.r (fun z => ag z.1)).trans (by rw [r5])
    have tot : (zI κ_10 hoTotal (zR κ odGroups a0)).toInt = (zI κ hoTotal (zR κ odGroups a0)).toInt ∨ ((zI κ_10 hoTotal (zR κ odGroups a0)).toInt = (zI κ hoTotal (zR κ odGroups a0)).toInt + 1 ∧ r9.toInt = (zI κ hoTotal (zR κ odGroups a0)).toInt) := by
      rcases e7 with z | z
      · left
        rw [z, V4]
      · right
        have z1 := z.1
        have z2 := z.2.1
        rw [V4] at z1 z2
        exact ⟨z1, z2⟩
    have kl : zN κ_10 (zR κ odKey a0) = 3 := by
      rw [Z7.l (c := 19) (FF.t (ty_odKey W Ta0) (by decide)), n5]
      exact l3
    refine ⟨⟨(FF.mono (fun f b z => Or.inl ⟨z.2, Or.inl z.1⟩)).tr (Z7.mono (fun f b z => Or.inr z)), rr, ⟨?_, by rw [rr odKey (by decide)]; exact kl⟩, by omega, fun K L x H => p7 _ _ _ ((V1 _ _ _ _).mpr H), fun x i hx => by rw [w7 x i (by rw [V4]; exact hx), V3]⟩, (FF.mono (fun f b z => Or.inl z)).tr (Z7.mono (fun f b z => Or.inr z)), ⟨vn, v1⟩, hkS_c9 (by decide) K5 (s7 vn), tot, fun x H => ?_⟩
    · rw [rr odGroups (by decide)]
      exact ⟨I7, A7, u7⟩
    · have w := d7 x (hkS_c9 (by decide) (fun i hi => (K5 i hi).symm) ((V1 _ _ _ _).mpr H))
      exact ⟨by rw [w.1, V4], w.2⟩

/-- tables and their ranks in order -/
def gP9 (T : Int) (tag tb : Int32 → Int32) (lf rt rk : Nat → Int32) (ml mr : Int) : Prop := ∀ x : Int32, 0 ≤ x.toInt → x.toInt < T → (tag x = 0 → (0 ≤ (lf x.toNatClampNeg).toInt ∧ (lf x.toNatClampNeg).toInt ≤ ml) ∧ 0 ≤ (rt x.toNatClampNeg).toInt ∧ (rt x.toNatClampNeg).toInt ≤ mr) ∧ (tag x = 1 → ((0 ≤ (tb x).toInt ∧ (tb x).toInt < T) ∧ tag (tb x) = 0) ∧ 0 ≤ (rk x.toNatClampNeg).toInt ∧ (rk x.toNatClampNeg).toInt < (lf (tb x).toNatClampNeg).toInt) ∧ (tag x = 2 → ((0 ≤ (tb x).toInt ∧ (tb x).toInt < T) ∧ tag (tb x) = 0) ∧ 0 ≤ (rk x.toNatClampNeg).toInt ∧ (rk x.toNatClampNeg).toInt < (rt (tb x).toNatClampNeg).toInt)
theorem gp_m9 {T : Int} {tag tb : Int32 → Int32} {lf rt rk : Nat → Int32} {ml mr ml' mr' : Int} (h : gP9 T tag tb lf rt rk ml mr) (h1 : ml ≤ ml') (h2 : mr ≤ mr') : gP9 T tag tb lf rt rk ml' mr' := fun x x0 x1 => by
  obtain ⟨a, b, c⟩ := h x x0 x1
  exact ⟨fun z => ⟨⟨(a z).1.1, Int.le_trans (a z).1.2 h1⟩, (a z).2.1, Int.le_trans (a z).2.2 h2⟩, b, c⟩
/-- the same groups -/
theorem gp_e9 {T : Int} {tag tb tag' tb' : Int32 → Int32} {lf rt rk : Nat → Int32} {ml mr : Int} (h : gP9 T tag tb lf rt rk ml mr) (e1 : ∀ x, x.toInt < T → tag' x = tag x) (e2 : ∀ x, x.toInt < T → tb' x = tb x) : gP9 T tag' tb' lf rt rk ml mr := fun x x0 x1 => by
  rw [e1 x x1, e2 x x1]
  obtain ⟨a, b, c⟩ := h x x0 x1
  exact ⟨a, fun z => ⟨⟨(b z).1.1, by rw [e1 _ (b z).1.1.2]; exact (b z).1.2⟩, (b z).2⟩, fun z => ⟨⟨(c z).1.1, by rw [e1 _ (c z).1.1.2]; exact (c z).1.2⟩, (c z).2⟩⟩
/-- a new table -/
theorem gp_t9 {T : Int} {n : Int32} {tag tb tag' tb' : Int32 → Int32} {lf rt rk : Nat → Int32} {ml mr : Int} (h : gP9 T tag tb lf rt rk ml mr) (hn : n.toInt = T) (hT : 0 ≤ T) (e1 : ∀ x, x.toInt < T → tag' x = tag x) (e2 : ∀ x, x.toInt < T → tb' x = tb x) (en : tag' n = 0) (h1 : 0 ≤ ml) (h2 : 0 ≤ mr) : gP9 (T + 1) tag' tb' (upd lf n.toNatClampNeg 0) (upd rt n.toNatClampNeg 0) rk ml mr := fun x x0 x1 => by
  have kx := cnk x0
  have kn := cnk (x := n) (by omega)
  by_cases z : x.toInt = T
  · have ex : x = n := Int32.toInt_inj.mp (z.trans hn.symm)
    rw [ex, en]
    refine ⟨fun _ => ?_, fun y => absurd y (by decide), fun y => absurd y (by decide)⟩
    unfold upd
    rw [if_pos rfl, if_pos rfl, t0i]
    exact ⟨⟨Int.le_refl _, h1⟩, Int.le_refl _, h2⟩
  · have xl : x.toInt < T := by omega
    rw [e1 x xl, e2 x xl]
    obtain ⟨a, b, c⟩ := h x x0 xl
    have ne : ∀ y : Int32, 0 ≤ y.toInt → y.toInt < T → ∀ r : Nat → Int32, upd r n.toNatClampNeg 0 y.toNatClampNeg = r y.toNatClampNeg := fun y y0 y1 r => by
      have ky := cnk y0
      exact if_neg (by omega)
    refine ⟨fun q => ?_, fun q => ?_, fun q => ?_⟩
    · rw [ne x x0 xl, ne x x0 xl]
      exact a q
    · obtain ⟨⟨⟨q1, q2⟩, q3⟩, q4⟩ := b q
      rw [ne _ q1 q2, e1 _ q2]
      exact ⟨⟨⟨q1, by omega⟩, q3⟩, q4⟩
    · obtain ⟨⟨⟨q1, q2⟩, q3⟩, q4⟩ := c q
      rw [ne _ q1 q2, e1 _ q2]
      exact ⟨⟨⟨q1, by omega⟩, q3⟩, q4⟩
/-- a new number of the first -/
theorem gp_l9 {T : Int} {n t : Int32} {tag tb tag' tb' : Int32 → Int32} {lf rt rk : Nat → Int32} {ml mr : Int} (h : gP9 T tag tb lf rt rk ml mr) (hn : n.toInt = T) (hT : 0 ≤ T) (e1 : ∀ x, x.toInt < T → tag' x = tag x) (e2 : ∀ x, x.toInt < T → tb' x = tb x) (en : tag' n = 1) (et : tb' n = t) (t0 : 0 ≤ t.toInt) (t1 : t.toInt < T) (tt : tag t = 0) (hm : ml < 100000) : gP9 (T + 1) tag' tb' (upd lf t.toNatClampNeg (lf t.toNatClampNeg + 1)) rt (upd rk n.toNatClampNeg (lf t.toNatClampNeg)) (ml + 1) mr := fun x x0 x1 => by
  have kx := cnk x0
  have kn := cnk (x := n) (by omega)
  have kt := cnk t0
  obtain ⟨⟨ta, tb9⟩, _⟩ := (h t t0 t1).1 tt
  have i1 : (lf t.toNatClampNeg + 1).toInt = (lf t.toNatClampNeg).toInt + 1 := by rw [add_i (by rw [t1i]; omega) (by rw [t1i]; omega), t1i]
  have up : ∀ y : Int32, 0 ≤ y.toInt → (lf y.toNatClampNeg).toInt ≤ (upd lf t.toNatClampNeg (lf t.toNatClampNeg + 1) y.toNatClampNeg).toInt ∧ (upd lf t.toNatClampNeg (lf t.toNatClampNeg + 1) y.toNatClampNeg).toInt ≤ (lf y.toNatClampNeg).toInt + 1 := fun y y0 => by
    unfold upd
    by_cases w : y.toNatClampNeg = t.toNatClampNeg
    · rw [if_pos w, i1, w]; omega
    · rw [if_neg w]; omega
  by_cases z : x.toInt = T
  · have ex : x = n := Int32.toInt_inj.mp (z.trans hn.symm)
    rw [ex, en, et]
    refine ⟨fun y => absurd y (by decide), fun _ => ⟨⟨⟨t0, by omega⟩, by rw [e1 t t1]; exact tt⟩, ?_⟩, fun y => absurd y (by decide)⟩
    unfold upd
    rw [if_pos rfl, if_pos rfl, i1]
    omega
  · have xl : x.toInt < T := by omega
    rw [e1 x xl, e2 x xl]
    obtain ⟨a, b, c⟩ := h x x0 xl
    have ne : upd rk n.toNatClampNeg (lf t.toNatClampNeg) x.toNatClampNeg = rk x.toNatClampNeg := if_neg (by omega)
    refine ⟨fun q => ?_, fun q => ?_, fun q => ?_⟩
    · have u := up x x0
      have a1 := a q
      exact ⟨⟨by omega, by omega⟩, a1.2⟩
    · obtain ⟨⟨⟨q1, q2⟩, q3⟩, q4, q5⟩ := b q
      have u := up (tb x) q1
      rw [ne, e1 _ q2]
      exact ⟨⟨⟨q1, by omega⟩, q3⟩, q4, by omega⟩
    · obtain ⟨⟨⟨q1, q2⟩, q3⟩, q4⟩ := c q
      rw [ne, e1 _ q2]
      exact ⟨⟨⟨q1, by omega⟩, q3⟩, q4⟩
/-- a new number of the second -/
theorem gp_r9 {T : Int} {n t : Int32} {tag tb tag' tb' : Int32 → Int32} {lf rt rk : Nat → Int32} {ml mr : Int} (h : gP9 T tag tb lf rt rk ml mr) (hn : n.toInt = T) (hT : 0 ≤ T) (e1 : ∀ x, x.toInt < T → tag' x = tag x) (e2 : ∀ x, x.toInt < T → tb' x = tb x) (en : tag' n = 2) (et : tb' n = t) (t0 : 0 ≤ t.toInt) (t1 : t.toInt < T) (tt : tag t = 0) (hm : mr < 100000) : gP9 (T + 1) tag' tb' lf (upd rt t.toNatClampNeg (rt t.toNatClampNeg + 1)) (upd rk n.toNatClampNeg (rt t.toNatClampNeg)) ml (mr + 1) := fun x x0 x1 => by
  have kx := cnk x0
  have kn := cnk (x := n) (by omega)
  have kt := cnk t0
  obtain ⟨_, ta, tb9⟩ := (h t t0 t1).1 tt
  have i1 : (rt t.toNatClampNeg + 1).toInt = (rt t.toNatClampNeg).toInt + 1 := by rw [add_i (by rw [t1i]; omega) (by rw [t1i]; omega), t1i]
  have up : ∀ y : Int32, 0 ≤ y.toInt → (rt y.toNatClampNeg).toInt ≤ (upd rt t.toNatClampNeg (rt t.toNatClampNeg + 1) y.toNatClampNeg).toInt ∧ (upd rt t.toNatClampNeg (rt t.toNatClampNeg + 1) y.toNatClampNeg).toInt ≤ (rt y.toNatClampNeg).toInt + 1 := fun y y0 => by
    unfold upd
    by_cases w : y.toNatClampNeg = t.toNatClampNeg
    · rw [if_pos w, i1, w]; omega
    · rw [if_neg w]; omega
  by_cases z : x.toInt = T
  · have ex : x = n := Int32.toInt_inj.mp (z.trans hn.symm)
    rw [ex, en, et]
    refine ⟨fun y => absurd y (by decide), fun y => absurd y (by decide), fun _ => ⟨⟨⟨t0, by omega⟩, by rw [e1 t t1]; exact tt⟩, ?_⟩⟩
    unfold upd
    rw [if_pos rfl, if_pos rfl, i1]
    omega
  · have xl : x.toInt < T := by omega
    rw [e1 x xl, e2 x xl]
    obtain ⟨a, b, c⟩ := h x x0 xl
    have ne : upd rk n.toNatClampNeg (rt t.toNatClampNeg) x.toNatClampNeg = rk x.toNatClampNeg := if_neg (by omega)
    refine ⟨fun q => ?_, fun q => ?_, fun q => ?_⟩
    · have u := up x x0
      have a1 := a q
      exact ⟨a1.1, by omega, by omega⟩
    · obtain ⟨⟨⟨q1, q2⟩, q3⟩, q4⟩ := b q
      rw [ne, e1 _ q2]
      exact ⟨⟨⟨q1, by omega⟩, q3⟩, q4⟩
    · obtain ⟨⟨⟨q1, q2⟩, q3⟩, q4, q5⟩ := c q
      have u := up (tb x) q1
      rw [ne, e1 _ q2]
      exact ⟨⟨⟨q1, by omega⟩, q3⟩, q4, by omega⟩
def gI9 (κ : zS) (a : Nat) (ml mr : Int) : Prop := gP9 ((zI κ hoTotal (zR κ odGroups a)).toInt) (fun x => pV9 κ (zR κ odGroups a) x 0) (fun x => pV9 κ (zR κ odGroups a) x 1) (zA κ (zR κ odLefts a)) (zA κ (zR κ odRights a)) (zA κ (zR κ odRanks a)) ml mr
/-- the tables' rows are made -/
def tbL9 (κ : zS) (a : Nat) : Prop := (zN κ (zR κ odLefts a)) = 3000 ∧ (zN κ (zR κ odRights a)) = 3000 ∧ (zN κ (zR κ odBases a)) = 3000 ∧ (zN κ (zR κ odRanks a)) = 3000 ∧ (zN κ (zR κ odCellOf a)) = 1000 ∧ (zN κ (zR κ odHeads a)) = 1000 ∧ (zN κ (zR κ odEdges a)) = 31
