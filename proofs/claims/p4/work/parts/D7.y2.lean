set_option maxHeartbeats 1600000
/-! the class: Solver's findVisits -/
/-- a Solver at rest -/
def soR9 (ρ : Nat → Nat) (κ : zS) (a : Nat) : Prop := (nmI ρ κ ∧ soI ρ κ a) ∧ clK9 ρ κ a ∧ ((zN κ (zR κ soCells a)) = 0 ∨ (zN κ (zR κ soCells a)) = 1056) ∧ ((∀ j u, j < 1000 → zQ κ (zR κ soVisits a) j = some u → ρ u = 100 + 8 * j) ∧ (zN κ (zR κ soVisits a)) ≤ 1000) ∧ ((∀ j u, j < 1000 → zQ κ (zR κ soWorths a) j = some u → ρ u = 104 + 8 * j) ∧ (zN κ (zR κ soWorths a)) ≤ 1000) ∧ ((zN κ (zR κ soRows a)) = 0 ∨ (zN κ (zR κ soRows a)) = 1000) ∧ nuN κ (zR κ soLess a) < pB9 4000
theorem nm_h9 {C : zC} {n0 : Nat} {ρ : Nat → Nat} {F : Nat → Nat → Prop} {κ τ : zS} (W : zW C n0 κ) (N : nmI ρ κ) (Z : zF F κ τ) (h8 : ∀ f w, zT κ w = 8 → ¬ F f w) (h11 : ∀ f v, zT κ v = 11 → ¬ F f v) : nmI ρ τ := by
  refine ⟨fun w h => ?_, fun v h => ?_⟩
  · obtain ⟨t, c, i⟩ := N.1 w h
    have u := nu_z W t Z (h8 _ w t) (h8 _ w t)
    refine ⟨Z.t t (by decide), ?_, fun y => (nuB_z (c := capR (ρ w)) W t Z (h8 _ w t) (h8 _ w t)).2.1 (i y)⟩
    unfold nuC
    rw [u.2.1, u.2.2.2]
    exact c
  · obtain ⟨t, p, q⟩ := N.2 v h
    exact ⟨Z.t t (by decide), by rw [Z.r (h11 _ v t)]; exact p, by rw [Z.r (h11 _ v t)]; exact q⟩
/-- a step that touches neither numbers nor the Solver's rows -/
theorem rs_h9 {C : zC} {n0 a : Nat} {ρ : Nat → Nat} {F : Nat → Nat → Prop} {κ τ : zS} (W : zW C n0 κ) (Ta : zT κ a = 12) (S : soR9 ρ κ a) (Z : zF F κ τ) (h8 : ∀ f w, zT κ w = 8 → ¬ F f w) (h11 : ∀ f v, zT κ v = 11 → ¬ F f v) (h4 : ∀ f w, zT κ w = 4 → ¬ F f w) (ha : ∀ f, f ≠ soSolved → f ≠ soPlanned → ¬ F f a) : soR9 ρ τ a ∧ ∀ f, f ≠ soSolved → f ≠ soPlanned → zR τ f a = zR κ f a := by
  have tc := ty_soCalc W Ta
  have e : ∀ f, f ≠ soSolved → f ≠ soPlanned → zR τ f a = zR κ f a := fun f h1 h2 => Z.r (ha f h1 h2)
  have ec : ∀ f, zR τ f (zR κ soCalc a) = zR κ f (zR κ soCalc a) := fun f => Z.r (h4 f _ tc)
  obtain ⟨⟨N, I⟩, K, L, ⟨v1, v2⟩, ⟨w1, w2⟩, r, l⟩ := S
  have tl := ty_soLess W Ta
  have row : ∀ f t, zr f = some t → 20 ≤ t → f / 100 = 12 → f ≠ soSolved → f ≠ soPlanned → zQ τ (zR τ f a) = zQ κ (zR κ f a) ∧ zN τ (zR τ f a) = zN κ (zR κ f a) := fun f t h1 h2 h3 h4 h5 => by
    have T9 : zT κ a = f / 100 := by rw [h3]; exact Ta
    refine ⟨(Z.row W h1 h2 T9 (ha f h4 h5)).2.2, ?_⟩
    have q := W.r h1 T9
    obtain ⟨c, hc⟩ : ∃ c, t = c + 1 := ⟨t - 1, by omega⟩
    rw [e f h4 h5]
    exact Z.l (c := c) (q.trans hc)
  have rv := row soVisits 25 (by decide +kernel) (by decide) (by decide) (by decide) (by decide)
  have rw9 := row soWorths 25 (by decide +kernel) (by decide) (by decide) (by decide) (by decide)
  have rc := row soCells 24 (by decide +kernel) (by decide) (by decide) (by decide) (by decide)
  have rr := row soRows 20 (by decide +kernel) (by decide) (by decide) (by decide) (by decide)
  refine ⟨⟨⟨nm_h9 W N Z h8 h11, ?_⟩, ?_, by rw [rc.2]; exact L, ⟨by rw [rv.1]; exact v1, by rw [rv.2]; exact v2⟩, ⟨by rw [rw9.1]; exact w1, by rw [rw9.2]; exact w2⟩, by rw [rr.2]; exact r, ?_⟩, e⟩
  · unfold soI caN caS
    rw [e soWhole (by decide) (by decide), e soFactor (by decide) (by decide), e soScaled (by decide) (by decide), e soTerm (by decide) (by decide), e soSum (by decide) (by decide), e soLess (by decide) (by decide), e soPart (by decide) (by decide), e soCalc (by decide) (by decide), ec caQuotient, ec caRest, ec caDivisor, ec caX, ec caY, ec caFactors, ec caSpare, Z.l (ty_caFactors W tc)]
    exact I
  · unfold clK9
    rw [rc.1]
    exact K
  · rw [e soLess (by decide) (by decide), (nuB_z (c := 0) W tl Z (h8 _ _ tl) (h8 _ _ tl)).2.2.1]
    exact l
theorem rs_rg9 {C : zC} {n0 a : Nat} {R : Nat → Prop} {ρ ρ' : Nat → Nat} {κ τ : zS} (W : zW C n0 κ) (Ta : zT κ a = 12) (S : soR9 ρ κ a) (E : rgE9 R ρ κ τ a ρ') (hl : nuN τ (zR κ soLess a) < pB9 4000) (hr : (zN τ (zR τ soRows a)) = 0 ∨ (zN τ (zR τ soRows a)) = 1000) : soR9 ρ' τ a := by
  have Z := E.2.2.2.2
  have T9 : zT κ a = 11 + 1 := Ta
  have lt : ∀ x, zT κ x ≠ 0 → x < zn κ := fun x h => (W.2.1 x h).2
  have ev := Z.row W (f := soVisits) (t := 25) (by decide +kernel) (by decide) Ta (frS9_n W rgF9_fr T9 (by decide))
  have ew := Z.row W (f := soWorths) (t := 25) (by decide +kernel) (by decide) Ta (frS9_n W rgF9_fr T9 (by decide))
  have nv := frS9_w (f := soVisits) W rgF9_fr Z (t := 25) (by decide +kernel) (by decide) Ta (by decide) (by decide)
  have nw := frS9_w (f := soWorths) W rgF9_fr Z (t := 25) (by decide +kernel) (by decide) Ta (by decide) (by decide)
  obtain ⟨_, _, _, ⟨v1, v2⟩, ⟨w1, w2⟩, _, _⟩ := S
  refine ⟨E.2.1, E.2.2.1, E.2.2.2.1.1, ⟨fun j u hj hu => ?_, by rw [nv.2.2]; exact v2⟩, ⟨fun j u hj hu => ?_, by rw [nw.2.2]; exact w2⟩, hr, by rw [(rg_r9 W Ta E (by decide)).1]; exact hl⟩
  · rw [ev.2.2] at hu
    have t := W.2.2.2.2.1 _ _ _ (ty_soVisits W Ta) hu
    rw [E.1 u (lt u (by rw [t]; decide))]
    exact v1 j u hj hu
  · rw [ew.2.2] at hu
    have t := W.2.2.2.2.1 _ _ _ (ty_soWorths W Ta) hu
    rw [E.1 u (lt u (by rw [t]; decide))]
    exact w1 j u hj hu
/-- what findVisits may touch -/
def fvF9 (ρ : Nat → Nat) (κ : zS) (a : Nat) : Nat → Nat → Prop := fun f b => soF ρ (fun _ => True) (zR κ soCalc a) f b ∨ b = zR κ soWeb a ∨ (b = a ∧ (f = soSolved ∨ f = soCells ∨ f = soRows ∨ f = soVisits)) ∨ f = 0 ∨ b = 0 ∨ zn κ ≤ b
/-- on the way through the knots -/
def fvJ9 (ρ : Nat → Nat) (κ τ : zS) (a n : Nat) (ρ' : Nat → Nat) : Prop := (∀ b, b < zn κ → ρ' b = ρ b) ∧ zF (fvF9 ρ κ a) κ τ ∧ soR9 ρ' τ a ∧ svX9 τ a n ∧ n ≤ (zN τ (zR τ soRows a)) ∧ (∀ c : Nat, (c : Int) < (zI τ weKnots (zR τ soWeb a)).toInt → zA τ (zR τ weOpen (zR τ soWeb a)) (zA τ (zR τ weOrder (zR τ soWeb a)) (zA τ (zR τ weKnotFirsts (zR τ soWeb a)) c).toNatClampNeg).toNatClampNeg ≠ 0 → (zA τ (zR τ weKnotFirsts (zR τ soWeb a)) (c + 1)).toInt - (zA τ (zR τ weKnotFirsts (zR τ soWeb a)) c).toInt ≤ 32) ∧ zI τ soSolved a = 0 ∧ zR τ soAtlas a = zR κ soAtlas a ∧ zR τ soWeb a = zR κ soWeb a ∧ zR τ soCalc a = zR κ soCalc a ∧ zK9 κ τ a
theorem rg_fv9 {C : zC} {n0 a : Nat} {R : Nat → Prop} {ρ ρ1 ρ2 : Nat → Nat} {κ τ τ' : zS} (hρ : ∀ b, b < zn κ → ρ1 b = ρ b) (hn : zn κ ≤ zn τ) (hc : zR τ soCalc a = zR κ soCalc a) (E : rgE9 R ρ1 τ τ' a ρ2) : zF (fvF9 ρ κ a) τ τ' := E.2.2.2.2.mono (fun f b z => by
  rcases z with z | z | z | z
  · by_cases l : b < zn κ
    · left
      rcases z with z | z
      · exact Or.inl ⟨trivial, z.2⟩
      · rw [hc] at z; exact Or.inr z
    · exact Or.inr (Or.inr (Or.inr (Or.inr (Or.inr (by omega)))))
  · exact Or.inr (Or.inr (Or.inl ⟨z.2, Or.inr (Or.inl z.1)⟩))
  · exact Or.inr (Or.inr (Or.inl ⟨z.2, Or.inr (Or.inr (Or.inl z.1))⟩))
  · exact Or.inr (Or.inr (Or.inr (Or.inr (Or.inr (by omega))))))
theorem fv_s9 {C : zC} {n0 a n : Nat} {R : Nat → Prop} {ρ ρ1 ρ2 : Nat → Nat} {κ τ τ' : zS} (Wt : zW C n0 τ) (Tt : zT τ a = 12) (J : fvJ9 ρ κ τ a n ρ1) (E : rgE9 R ρ1 τ τ' a ρ2) (hl : nuN τ' (zR τ soLess a) < pB9 4000) (hr : zR τ' soRows a = zR τ soRows a) : fvJ9 ρ κ τ' a n ρ2 := by
  obtain ⟨j1, j2, j3, j4, j5, j6, j7, j8, j9, j10, j11⟩ := J
  have mn := j2.2.2.2.2.2.2
  have me := E.2.2.2.2.2.2.2.2.2.2
  have X := rg_x9 Wt Tt E j4
  have w := rg_w9 Wt Tt E j4
  have wo := (we_f9 Wt rgF9_fr E.2.2.2.2 (ty_soWeb Wt Tt) (f := weOpen) (by decide)).2.1
  have lr : zN τ' (zR τ' soRows a) = zN τ (zR τ soRows a) := by rw [hr]; exact E.2.2.2.2.l (ty_soRows Wt Tt)
  refine ⟨fun b hb => (E.1 b (by omega)).trans (j1 b hb), j2.tr (rg_fv9 (C := C) (n0 := n0) j1 mn j10 E), rs_rg9 Wt Tt j3 E hl (by rw [lr]; exact j3.2.2.2.2.2.1), X.1, by rw [lr]; exact j5, ?_, ?_, X.2.2.1.trans j8, X.2.1.trans j9, ((rg_r9 Wt Tt E (by decide)).1).trans j10, j11.tr E.2.2.2.1.2⟩
  · rw [w.2.2.1, w.2.2.2.1, w.1, X.2.1, wo]
    exact j6
  · rw [(rg_r9 Wt Tt E (by decide)).2]
    exact j7
/-- what findVisits leaves -/
def fvP9 (ρ : Nat → Nat) (κ κ' : zS) (a n : Nat) : Prop := ∃ ρ' : Nat → Nat, (∀ b, b < zn κ → ρ' b = ρ b) ∧ zF (fvF9 ρ κ a) κ κ' ∧ soR9 ρ' κ' a ∧ atW κ' (zR κ soAtlas a) n ∧ (weM κ' (zR κ soWeb a) ∧ weL κ' (zR κ soWeb a)) ∧ (zR κ' soAtlas a = zR κ soAtlas a ∧ zR κ' soWeb a = zR κ soWeb a ∧ zR κ' soCalc a = zR κ soCalc a) ∧ (zI κ' soSolved a ≠ 0 → ∃ P, vsI9 ρ' κ' a n P ∧ (0 < P ∧ P < pB9 1490) ∧ n ≤ (zN κ' (zR κ' soVisits a))) ∧ zK9 κ κ' a
theorem fv_p9 {ρ ρ1 : Nat → Nat} {κ τ : zS} {a n : Nat} (J : fvJ9 ρ κ τ a n ρ1) : fvP9 ρ κ τ a n := by
  obtain ⟨j1, j2, j3, j4, j5, j6, j7, j8, j9, j10, j11⟩ := J
  refine ⟨ρ1, j1, j2, j3, by rw [← j8]; exact j4.2.2.1, by rw [← j9]; exact j4.1.1, ⟨j8, j9, j10⟩, fun z => absurd j7 z, j11⟩
theorem P2000_9 {P e : Nat} (h : P ≤ 8000000 ^ e) (he : e ≤ 2000) : P < pB9 1490 := by
  have a : 8000000 ^ e ≤ 8000000 ^ 2000 := Nat.pow_le_pow_right (by decide) he
  have b : 8000000 ^ 2000 < pB9 1490 := by decide +kernel
  exact Nat.lt_of_le_of_lt (Nat.le_trans h a) b
theorem weG_K9 {C : zC} {n0 w b n : Nat} {p : Int32} {κ τ : zS} (W : zW C n0 κ) (T : zT κ w = 14) (Tb : zT κ b = 3) (h : knE κ τ w) (G : weG κ w b p n) : weG τ w b p n := by
  have Zo : zF (objF w) κ τ := h.1.mono (fun f x z => z.1)
  have r := fun f hf h7 => kn_r W T h (f := f) hf h7
  have rR := h.2.1
  have rN := h.2.2
  have ix : zI τ weTotal w = zI κ weTotal w := h.1.i (fun z => absurd z.2 (by decide))
  have e0 := lkD_E (p := p) W T Tb Zo
  have e1 := at_E W T Tb Zo (f := atFirsts) (by decide)
  unfold weG weM weL
  rw [ix, e0, e1.2.1, rR, rN, r weFirsts (by decide) (by decide), r weTargets (by decide) (by decide), r weBackFirsts (by decide) (by decide), r weSources (by decide) (by decide), r weEdges (by decide) (by decide)]
  exact G
theorem nm_uo9 {ρ : Nat → Nat} {κ : zS} {f a r : Nat} (hf : f / 100 = 12) (N : nmI ρ κ) : nmI ρ (uo κ f a r) := by
  have e : ∀ g b, g / 100 ≠ 12 → zR (uo κ f a r) g b = zR κ g b := fun g b h => if_neg (fun z => h (by rw [z.1]; exact hf))
  refine ⟨fun w h => ?_, fun v h => ?_⟩
  · obtain ⟨t, c, i⟩ := N.1 w h
    refine ⟨t, ?_, fun y => ?_⟩
    · unfold nuC
      rw [e nuLimbs _ (by decide)]
      exact c
    · have q := i y
      unfold nuI nuB nuZ at q ⊢
      rw [e nuLimbs _ (by decide)]
      exact q
  · obtain ⟨t, p, q⟩ := N.2 v h
    exact ⟨t, by rw [e raTop _ (by decide)]; exact p, by rw [e raBottom _ (by decide)]; exact q⟩
theorem so_uo9 {ρ : Nat → Nat} {κ : zS} {f a r : Nat} (hf : f = soVisits ∨ f = soWorths) (I : soI ρ κ a) : soI ρ (uo κ f a r) a := by
  have e : ∀ g b, g ≠ soVisits → g ≠ soWorths → zR (uo κ f a r) g b = zR κ g b := fun g b h1 h2 => if_neg (fun z => by
    rcases hf with q | q
    · exact h1 (z.1.trans q)
    · exact h2 (z.1.trans q))
  have n : zN (uo κ f a r) = zN κ := rfl
  unfold soI caN caS
  rw [e soWhole _ (by decide) (by decide), e soFactor _ (by decide) (by decide), e soScaled _ (by decide) (by decide), e soTerm _ (by decide) (by decide), e soSum _ (by decide) (by decide), e soLess _ (by decide) (by decide), e soPart _ (by decide) (by decide), e soCalc _ (by decide) (by decide), e caQuotient _ (by decide) (by decide), e caRest _ (by decide) (by decide), e caDivisor _ (by decide) (by decide), e caX _ (by decide) (by decide), e caY _ (by decide) (by decide), e caFactors _ (by decide) (by decide), e caSpare _ (by decide) (by decide), n]
  exact I
theorem rg_rn9 {C : zC} {n0 a : Nat} {R : Nat → Prop} {ρ : Nat → Nat} {κ κ1 : zS} (W : zW C n0 κ) (Ta : zT κ a = 12) (N : nmI ρ κ) (S : soI ρ κ a) (K : clK9 ρ κ a) (L : (zN κ (zR κ soCells a)) = 0 ∨ (zN κ (zR κ soCells a)) = 1056) (Z : zF (fun f b => f = soRows ∧ b = a) κ κ1) : rgE9 R ρ κ κ1 a ρ := by
  have nc : ¬ (soCells = soRows ∧ a = a) := fun z => absurd z.1 (by decide)
  have q := (Z.row W (f := soCells) (t := 24) (by decide +kernel) (by decide) Ta nc).2.2
  have e := Z.r nc
  refine ⟨fun _ _ => rfl, ⟨nm_x9 W N Z (fun f b z => Or.inr (by rw [z.1]; decide)) (fun _ _ => rfl) (fun w hw hr => absurd hr (nm_no9 W N hw).1) (fun v hv hr => absurd hr (nm_no9 W N hv).2), so_x9 W Ta S Z (fun f b z => Or.inr ⟨by rw [z.1]; decide, by rw [z.1]; decide⟩) (fun _ _ => rfl)⟩, ?_, ⟨?_, zK_z9 W Ta Z (fun b _ z => absurd z.1 (by decide)) (fun z => absurd z.1 (by decide)) (fun z => absurd z.1 (by decide)) (fun z => absurd z.1 (by decide))⟩, Z.mono (fun f b z => Or.inr (Or.inr (Or.inl z)))⟩
  · unfold clK9
    rw [q]
    exact K
  · rw [e, Z.l (ty_soCells W Ta)]
    exact L
theorem zK_w9 {C : zC} {n0 a w : Nat} {κ τ : zS} (W : zW C n0 κ) (Ta : zT κ a = 12) (Tw : zT κ w = 14) (Z : zF (objF w) κ τ) : zK9 κ τ a := by
  have l := (W.2.1 w (by rw [Tw]; decide)).2
  have n : ¬ a = w := fun e => by rw [e, Tw] at Ta; exact absurd Ta (by decide)
  exact zK_z9 W Ta Z (fun b hb z => by
    have e : b = w := z
    omega) n n n
theorem zSum_19 {f : Nat → Nat} : ∀ {n : Nat}, (∀ j, j < n → f j = 1) → zSum n f = n
  | 0, _ => rfl
  | n + 1, h => by
    show zSum n f + f n = n + 1
    rw [zSum_19 (fun j hj => h j (Nat.lt_succ_of_lt hj)), h n (Nat.lt_succ_self n)]
theorem zSum_m9 {f : Nat → Nat} {n : Nat} : ∀ {L : Nat}, n ≤ L → zSum n f ≤ zSum L f
  | 0, h => by
    have e : n = 0 := by omega
    rw [e]
    exact Nat.le_refl _
  | L + 1, h => by
    by_cases e : n = L + 1
    · rw [e]
      exact Nat.le_refl _
    · have q := zSum_m9 (f := f) (n := n) (L := L) (by omega)
      show zSum n f ≤ zSum L f + f L
      omega
theorem zSum_f9 {f g : Nat → Nat} {n : Nat} (h1 : ∀ j, j < n → f j = 1) : ∀ {L : Nat}, n ≤ L → (∀ j, n ≤ j → j < L → f j = g j) → zSum L f + zSum n g = n + zSum L g
  | 0, h, _ => by
    have e : n = 0 := by omega
    rw [e]
    rfl
  | L + 1, h, z => by
    by_cases e : n = L + 1
    · rw [← e, zSum_19 h1]
    · have q := zSum_f9 h1 (L := L) (by omega) (fun j a b => z j a (Nat.lt_succ_of_lt b))
      have y := z L (by omega) (Nat.lt_succ_self L)
      show zSum L f + f L + zSum n g = n + (zSum L g + g L)
      omega
/-- places that were filled, places that are -/
theorem fr_n9 {o r n : Nat} {κ κ1 τ : zS} {m : Int32} (hm : m.toInt = (n : Int)) (H : frW9 κ κ1 o r m) (hl : m.toInt ≤ (zN τ r : Int)) (ho : zN τ o = zN κ o) (hf : ∀ j, j < n → ∃ u, zQ τ r j = some u) (hq : ∀ j, n ≤ j → zQ τ o j = zQ κ o j) : n + nn9 κ o ≤ nn9 τ r + nk9 κ o n := by
  have f1 : ∀ j, j < n → (if zQ τ r j = none then 0 else 1) = 1 := fun j hj => by
    obtain ⟨u, hu⟩ := hf j hj
    rw [hu]
    exact if_neg (fun z => by cases z)
  unfold nn9 nk9
  rcases H with ⟨h1, _, h3⟩ | ⟨_, _, h3⟩
  · rw [h1] at f1 ⊢
    rw [ho, if_pos (by omega)]
    have q := zSum_f9 (f := fun j => if zQ τ o j = none then 0 else 1) (g := fun j => if zQ κ o j = none then 0 else 1) f1 (L := zN κ o) (by omega) (fun j a _ => by
      show (if zQ τ o j = none then 0 else 1) = if zQ κ o j = none then 0 else 1
      rw [hq j a])
    omega
  · rw [if_neg (show ¬ n ≤ zN κ o by omega)]
    have q := zSum_m9 (f := fun j => if zQ τ r j = none then 0 else 1) (n := n) (L := zN τ r) (by omega)
    rw [zSum_19 f1] at q
    omega
/-- fresh, stored: the Solver at rest -/
theorem fr_r9 {C : zC} {n0 a r n : Nat} {ρ : Nat → Nat} {κ τ τ1 : zS} {m : Int32} (W : zW C n0 κ) (Wt : zW C n0 τ) (Wt1 : zW C n0 τ1) (Ta : zT κ a = 12) (S : soR9 ρ κ a) (hm : m.toInt = (n : Int) ∧ n ≤ 1000) (H : frX9 ρ a 100 soVisits κ τ (zR κ soVisits a) r m m.toNatClampNeg (fun _ => True)) (Cc : frC9 κ τ (zR κ soVisits a) m.toNatClampNeg m.toNatClampNeg) (e : τ1 = uo τ soVisits a r) : zF (frF9 ρ κ soVisits a) κ τ1 ∧ zK9 κ τ1 a ∧ ∃ ρ' : Nat → Nat, (∀ x, x < zn κ → ρ' x = ρ x) ∧ soR9 ρ' τ1 a ∧ vsI9 ρ' τ1 a n 1 ∧ n ≤ (zN τ1 (zR τ1 soVisits a)) := by
  have hz : zr soVisits = some 25 := by decide +kernel
  have Z := fr_u9 W Wt Ta (Or.inl rfl) rfl ⟨by omega, by omega⟩ H e
  obtain ⟨κ1, ρ', Hw, R1, ⟨N1, S1⟩, Z1, O1, A1, A2, A3, _⟩ := H
  have To := ty_soVisits W Ta
  have rl : ρ (zR κ soLess a) = 8 := S.1.2.1.2.2.2.2.2.1
  obtain ⟨_, K, L, ⟨v1, v2⟩, ⟨w1, w2⟩, r0, l0⟩ := S
  have lv := fr_l9 W To (m := m) ⟨by omega, by omega⟩ v2 Hw Z1
  have lt : ∀ x, zT κ x ≠ 0 → x < zn κ := fun x h => (W.2.1 x h).2
  have la := lt a (by rw [Ta]; decide)
  have nf : ∀ f, 1200 ≤ f → f ≠ soVisits → ¬ frF9 ρ κ soVisits a f a := fun f h1 h2 z => by
    rcases z with z | z | z | z
    · rcases z with ⟨_, z | z | z⟩ | ⟨_, z | z | z | z⟩ <;> (rw [z] at h1; exact absurd h1 (by decide))
    · exact h2 z.1
    · omega
    · omega
  have row : ∀ f t, zr f = some t → 20 ≤ t → f / 100 = 12 → f ≠ soVisits → zQ τ1 (zR τ1 f a) = zQ κ (zR κ f a) ∧ zN τ1 (zR τ1 f a) = zN κ (zR κ f a) := fun f t h1 h2 h3 h4 => by
    have T9 : zT κ a = f / 100 := by rw [h3]; exact Ta
    refine ⟨(Z.row W h1 h2 T9 (nf f (by omega) h4)).2.2, ?_⟩
    have q := W.r h1 T9
    obtain ⟨c, hc⟩ : ∃ c, t = c + 1 := ⟨t - 1, by omega⟩
    rw [Z.r (nf f (by omega) h4)]
    exact Z.l (c := c) (q.trans hc)
  have rw9 := row soWorths 25 (by decide +kernel) (by decide) (by decide) (by decide)
  have rc := row soCells 24 (by decide +kernel) (by decide) (by decide) (by decide)
  have rr := row soRows 20 (by decide +kernel) (by decide) (by decide) (by decide)
  have ev : zR τ1 soVisits a = r := by rw [e]; exact if_pos ⟨rfl, rfl⟩
  have eq : zQ τ1 r = zQ τ r := by rw [e]; rfl
  have en : zN τ1 r = zN τ r := by rw [e]; rfl
  have ei : zI τ1 = zI τ := by rw [e]; rfl
  have tl := ty_soLess W Ta
  have ll := lt _ (show zT κ (zR κ soLess a) ≠ 0 by rw [tl]; decide)
  have nl : ∀ f, f / 100 = 8 → ¬ frF9 ρ κ soVisits a f (zR κ soLess a) := fun f hf z => by
    rcases z with z | z | z | z
    · rcases z with ⟨z, _⟩ | ⟨_, z | z | z | z⟩
      · rw [rl] at z; omega
      · rw [z] at hf; exact absurd hf (by decide)
      · rw [z] at hf; exact absurd hf (by decide)
      · rw [z] at hf; exact absurd hf (by decide)
      · rw [z] at hf; exact absurd hf (by decide)
    · rw [z.1] at hf; exact absurd hf (by decide)
    · rw [z] at hf; exact absurd hf (by decide)
    · omega
  have kc := cnk (x := m) (by omega)
  have kz : zK9 κ τ1 a := by
    have q := fr_n9 (n := m.toNatClampNeg) (by omega) Hw lv.1 lv.2.2.1 (fun j hj => (A3 j hj).imp (fun u h => h.1)) Cc.2
    have e1 : nn9 τ1 (zR τ1 soVisits a) = nn9 τ r := nn_s9 (by rw [ev, en]) (by rw [ev, eq])
    have e2 : nn9 τ1 (zR τ1 soWorths a) = nn9 κ (zR κ soWorths a) := nn_s9 rw9.2 rw9.1
    have e3 : nn9 τ1 (zR τ1 soCells a) = nn9 κ (zR κ soCells a) := nn_s9 rc.2 rc.1
    have t8 : nT9 8 τ1 = nT9 8 τ := nT_09 (by rw [e]; rfl) (fun b _ => by rw [e]; rfl)
    have t11 : nT9 11 τ1 = nT9 11 τ := nT_09 (by rw [e]; rfl) (fun b _ => by rw [e]; rfl)
    obtain ⟨⟨c11, c8⟩, _⟩ := Cc
    unfold zK9 zV9
    rw [e1, e2, e3, t8, t11]
    exact ⟨by omega, by omega⟩
  refine ⟨Z, kz, ρ', R1, ⟨⟨by rw [e]; exact nm_uo9 (by decide) N1, by rw [e]; exact so_uo9 (Or.inl rfl) S1⟩, fun i u hi hu => ?_, by rw [rc.2]; exact L, ⟨fun j u hj hu => ?_, by rw [ev, en]; exact lv.2.1⟩, ⟨fun j u hj hu => ?_, by rw [rw9.2]; exact w2⟩, by rw [rr.2]; exact r0, ?_⟩, fun k hk => ?_, by rw [ev, en]; omega⟩
  · rw [rc.1] at hu
    have t := W.2.2.2.1 _ _ _ (ty_soCells W Ta) hu
    rw [R1 u (lt u (by rw [t]; decide))]
    exact K i u hi hu
  · rw [ev, eq] at hu
    exact A1 j u hj hu
  · rw [rw9.1] at hu
    have t := W.2.2.2.2.1 _ _ _ (ty_soWorths W Ta) hu
    rw [R1 u (lt u (by rw [t]; decide))]
    exact w1 j u hj hu
  · rw [Z.r (nf soLess (by decide) (by decide)), (nuB_z (c := 0) W tl Z (nl _ (by decide)) (nl _ (by decide))).2.2.1]
    exact l0
  · obtain ⟨u, hu, hz9, _, _⟩ := A3 k (by omega)
    have vu : vU9 τ1 a k = u := by
      unfold vU9
      rw [ev, eq, hu]
      rfl
    rw [vu, ev, eq]
    refine ⟨hu, A1 k u (by omega) hu, fun s => ?_⟩
    rw [ei] at s
    exact absurd hz9 s
