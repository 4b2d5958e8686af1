set_option maxHeartbeats 1600000
/-! the code's own: rows and words -/
theorem in_d5 : ∀ g, g ∈ in5 → (g < 600) ∨ (¬ g < 600 ∧ g < 1100) ∨ (¬ g < 600 ∧ ¬ g < 1100) := by decide
theorem fx_d5 : ∀ g, g ∈ fx5 → ¬ g < 600 → g ≠ 1015 := by decide
/-- what the parser and the tape own stays where the code alone was touched -/
theorem cd_o5 {C : zC} {n0 p g : Nat} {κ τ : zS} (W : zW C n0 κ) (T : zT κ p = 10) (Z : zF (objF (zR κ paCode p)) κ τ) (hg : ¬ g < 600) : zI τ g (ow5 κ p g) = zI κ g (ow5 κ p g) ∧ zR τ g (ow5 κ p g) = zR κ g (ow5 κ p g) := by
  have n := pa_ne W T
  unfold ow5
  rw [if_neg hg]
  by_cases h : g < 1100
  · rw [if_pos h]
    exact ⟨Z.i (fun e => n.2.1 e.symm), Z.r (fun e => n.2.1 e.symm)⟩
  · rw [if_neg h]
    exact ⟨Z.i (fun e => n.2.2 e), Z.r (fun e => n.2.2 e)⟩
theorem cd_w5 {C : zC} {n0 p g : Nat} {κ τ : zS} (W : zW C n0 κ) (T : zT κ p = 10) (Z : zF (objF (zR κ paCode p)) κ τ) (hg : ¬ g < 600) (ha : g ∈ al5) : zA τ (zR τ g (ow5 κ p g)) = zA κ (zR κ g (ow5 κ p g)) ∧ zN τ (zR τ g (ow5 κ p g)) = zN κ (zR κ g (ow5 κ p g)) := by
  obtain ⟨t, hr, ht⟩ := al_r5 g ha
  have n := pa_ne W T
  have o : ¬ objF (zR κ paCode p) g (ow5 κ p g) := fun e => by
    have e' : ow5 κ p g = zR κ paCode p := e
    unfold ow5 at e'
    rw [if_neg hg] at e'
    by_cases h : g < 1100
    · rw [if_pos h] at e'
      exact n.2.1 e'.symm
    · rw [if_neg h] at e'
      exact n.2.2 e'
  refine ⟨(Z.row W hr ht (al_t5 W T ha) o).1, ?_⟩
  rw [(cd_o5 W T Z hg).2]
  have y := W.r hr (al_t5 W T ha)
  exact Z.l (c := t - 1) (by omega)
theorem cd_p5 {C : zC} {n0 p g : Nat} {κ τ : zS} (W : zW C n0 κ) (T : zT κ p = 10) (Z : zF (objF (zR κ paCode p)) κ τ) : ow5 τ p g = ow5 κ p g := by
  have n := pa_ne W T
  unfold ow5
  rw [Z.r (f := paCode) (a := p) (fun e => n.2.1 e.symm), Z.r (f := paTape) (a := p) (fun e => n.2.1 e.symm)]
/-- the record, where the code alone was touched -/
theorem cd_5 {C : zC} {n0 p : Nat} {κ τ : zS} {I : Nat → Int32} {A : Nat → Nat → Int32} (W : zW C n0 κ) (T : zT κ p = 10) (Z : zF (objF (zR κ paCode p)) κ τ) (hI : ∀ g, g ∈ in5 → g < 600 → zI τ g (zR κ paCode p) = I g) (hJ : ∀ g, ¬ (g ∈ in5 ∧ g < 600) → I g = (ab5 κ p).1 g)
    (hG : ∀ g, (g = 506 ∨ g = 507 ∨ g = 508) → ∀ j, (j < bd5 I g → zA τ (zR τ g (zR κ paCode p)) j = A g j) ∧ (¬ j < bd5 I g → A g j = 0)) (hF : ∀ g, g ∈ fx5 → g < 600 → zA τ (zR τ g (zR κ paCode p)) = zA κ (zR κ g (zR κ paCode p)) ∧ zN τ (zR τ g (zR κ paCode p)) = zN κ (zR κ g (zR κ paCode p))) (hA : ∀ g, ¬ (g = 506 ∨ g = 507 ∨ g = 508) → A g = (ab5 κ p).2.1 g) : ab5 τ p = (I, A, (ab5 κ p).2.2) := by
  have hc : ∀ g, g < 600 → ow5 κ p g = zR κ paCode p := fun g h => if_pos h
  refine ab_mk5 (fun g => ?_) (fun g hg j => ?_) (fun g hg => ?_) (fun g a b => ?_) (fun g a => ab_N5 a)
  · unfold ai5
    rw [cd_p5 W T Z]
    by_cases h : g ∈ in5
    · rw [if_pos h]
      by_cases h6 : g < 600
      · rw [hc g h6]; exact hI g h h6
      · rw [hJ g (fun z => h6 z.2), (cd_o5 W T Z h6).1]
        exact (if_pos h).symm
    · rw [if_neg h, hJ g (fun z => h z.1)]
      exact (if_neg h).symm
  · rw [cd_p5 W T Z]
    rcases hg with rfl | hg
    · have e := (cd_w5 W T Z (g := 1015) (by decide) (by decide)).1
      have b : bd5 I 1015 = bd5 (ai5 κ p) 1015 := by
        unfold bd5
        rw [if_pos rfl, if_pos rfl, hJ 1016 (fun z => absurd z.2 (by decide))]
        rfl
      rw [e, hA 1015 (by decide), b]
      exact ⟨fun hj => (ab_G5 (Or.inl rfl) hj).symm, fun hj => ab_Z5 (Or.inl rfl) hj⟩
    · have h6 : g < 600 := by rcases hg with rfl | rfl | rfl <;> decide
      rw [hc g h6]
      exact hG g hg j
  · rw [cd_p5 W T Z]
    have ng : ¬ (g = 506 ∨ g = 507 ∨ g = 508) := fun z => fx_gr5 g hg (Or.inr z)
    rw [hA g ng, (ab_F5 hg).1, (ab_F5 hg).2]
    by_cases h6 : g < 600
    · rw [hc g h6]
      exact hF g hg h6
    · exact cd_w5 W T Z h6 (fx_al5 g hg)
  · rw [hA g (fun z => a (Or.inr z))]
    exact ab_O5 a b
theorem bdr5 {κ : zS} {p : Nat} : bd5 (ai5 κ p) 506 = 11 * (zI κ coStatements (zR κ paCode p)).toNatClampNeg ∧ bd5 (ai5 κ p) 507 = (zI κ coLength (zR κ paCode p)).toNatClampNeg ∧ bd5 (ai5 κ p) 508 = (zI κ coLength (zR κ paCode p)).toNatClampNeg ∧ bd5 (ai5 κ p) 1015 = (zI κ paWaits p).toNatClampNeg := ⟨rfl, rfl, rfl, rfl⟩
/-- a row that grows stored to, below its end -/
theorem ab_ug5 {C : zC} {n0 : Nat} {κ τ : zS} {p f i : Nat} {x : Int32} (W : zW C n0 κ) (T : zT κ p = 10) (h : τ = ua κ (zR κ f (ow5 κ p f)) i x) (hf : f = 1015 ∨ f = 506 ∨ f = 507 ∨ f = 508) (hi : i < bd5 (ai5 κ p) f) : sa5 f i x (ab5 κ p) = .inl (ab5 τ p, ()) := by
  have e : ab5 τ p = ((ab5 κ p).1, fun g j => if g = f ∧ j = i then x else (ab5 κ p).2.1 g j, (ab5 κ p).2.2) := by
    have ne : ∀ g, g ∈ al5 → g ≠ f → zA τ (zR τ g (ow5 τ p g)) = zA κ (zR κ g (ow5 κ p g)) := fun g hg z => by
      subst h
      exact if_neg (al_n5 W T hg (gr_al5 f hf) z)
    refine ab_mk5 (fun g => by rw [h]; rfl) (fun g hg j => ?_) (fun g hg => ?_) (fun g a b => ?_) (fun g a => ab_N5 a)
    · by_cases z : g = f
      · subst z
        have e1 : zA τ (zR τ g (ow5 τ p g)) j = if j = i then x else zA κ (zR κ g (ow5 κ p g)) j := by
          subst h
          show (if zR κ g (ow5 κ p g) = zR κ g (ow5 κ p g) then upd (zA κ (zR κ g (ow5 κ p g))) i x else _) j = _
          rw [if_pos rfl]
          rfl
        rw [e1]
        by_cases y : j = i
        · rw [if_pos y, if_pos ⟨rfl, y⟩]
          exact ⟨fun _ => rfl, fun q => absurd (y ▸ hi) q⟩
        · rw [if_neg y, if_neg (fun q => y q.2)]
          exact ⟨fun hj => (ab_G5 hg hj).symm, fun hj => ab_Z5 hg hj⟩
      · rw [if_neg (fun q => z q.1), ne g (gr_al5 g hg) z]
        exact ⟨fun hj => (ab_G5 hg hj).symm, fun hj => ab_Z5 hg hj⟩
    · have z : g ≠ f := fun q => fx_gr5 g hg (q ▸ hf)
      refine ⟨?_, by rw [(ab_F5 hg).2, h]; rfl⟩
      funext j
      rw [if_neg (fun q => z q.1), ne g (fx_al5 g hg) z, (ab_F5 hg).1]
    · funext j
      show (if g = f ∧ j = i then x else (ab5 κ p).2.1 g j) = 0
      rw [if_neg (fun (q : g = f ∧ j = i) => a (q.1 ▸ hf)), ab_O5 a b]
  rw [e]
  rfl
theorem clk5 {x y : Int32} {n : Nat} (h0 : 0 ≤ x.toInt) (h : x.toInt < n) : x.toNatClampNeg < n := by
  have := cnk h0
  omega
theorem col_b5 {s c st : Int32} (h0 : ¬ s < 0) (h1 : ¬ st ≤ s) (hs : st.toInt ≤ 150) (p0 : 0 ≤ c.toInt) (p1 : c.toInt < 11) : (s * 11 + c).toNatClampNeg < 11 * st.toNatClampNeg := by
  rw [lti, t0i] at h0
  rw [lei] at h1
  have e := col_i (x := s) (y := c) (by omega) (by omega) p0 p1
  have a := cnk (x := s * 11 + c) (by omega)
  have b := cnk (x := st) (by omega)
  omega
/-- a row that grows made anew, longer: nothing of the record changes -/
theorem gwR_5 {C : zC} {n0 p f : Nat} {κ κ2 : zS} (W : zW C n0 κ) (T : zT κ p = 10) (hf : f = 1015 ∨ f = 506 ∨ f = 507 ∨ f = 508) (u1 : zI κ2 = zI κ) (u2 : ∀ g b, ¬ (g = f ∧ b = ow5 κ p f) → zR κ2 g b = zR κ g b) (u5 : ∀ x d, zT κ x = d + 1 → zN κ2 x = zN κ x ∧ zA κ2 x = zA κ x) (u6 : ∀ i, i < bd5 (ai5 κ p) f → zA κ2 (zR κ2 f (ow5 κ p f)) i = zA κ (zR κ f (ow5 κ p f)) i) : ab5 κ2 p = ab5 κ p := by
  have hc : ∀ g, g = paCode ∨ g = paTape → zR κ2 g p = zR κ g p := fun g hg => u2 g p (fun z => by
    have z1 := z.1
    rcases hg with e | e <;> rcases hf with y | y | y | y <;> (rw [e, y] at z1; exact absurd z1 (by decide)))
  have ho : ∀ g, ow5 κ2 p g = ow5 κ p g := fun g => by
    unfold ow5
    rw [hc paCode (Or.inl rfl), hc paTape (Or.inr rfl)]
  have hi : ∀ g, ai5 κ2 p g = ai5 κ p g := fun g => by
    unfold ai5
    rw [ho, u1]
  have hr : ∀ g, g ∈ al5 → g ≠ f → zA κ2 (zR κ2 g (ow5 κ2 p g)) = zA κ (zR κ g (ow5 κ p g)) ∧ zN κ2 (zR κ2 g (ow5 κ2 p g)) = zN κ (zR κ g (ow5 κ p g)) := fun g hg z => by
    obtain ⟨t, a, b⟩ := al_r5 g hg
    have y := W.r a (al_t5 W T hg)
    have q := u5 (zR κ g (ow5 κ p g)) (t - 1) (by omega)
    rw [ho, u2 g _ (fun w => z w.1)]
    exact ⟨q.2, q.1⟩
  refine ab_mk5 (I := (ab5 κ p).1) (A := (ab5 κ p).2.1) (N := (ab5 κ p).2.2) hi (fun g hg j => ?_) (fun g hg => ?_) (fun g a b => ab_O5 a b) (fun g a => ab_N5 a)
  · refine ⟨fun hj => ?_, fun hj => ab_Z5 hg hj⟩
    rw [ab_G5 hg hj]
    by_cases z : g = f
    · subst z
      rw [ho]
      exact u6 j hj
    · rw [(hr g (gr_al5 g hg) z).1]
  · rw [(ab_F5 hg).1, (ab_F5 hg).2]
    exact hr g (fx_al5 g hg) (fun z => fx_gr5 g hg (z ▸ hf))
/-- a number and rows stored at once: what is counted grows -/
theorem pu_5 {C : zC} {n0 p cf : Nat} {τ κ5 : zS} {x : Int32} {V : Nat → Nat → Int32} (W : zW C n0 τ) (T : zT τ p = 10) (hcf : cf ∈ in5) (hi : zI κ5 = fun g b => if g = cf ∧ b = ow5 τ p cf then x else zI τ g b) (hr : zR κ5 = zR τ) (hn : zN κ5 = zN τ) (ha : ∀ g, g ∈ fx5 → zA κ5 (zR τ g (ow5 τ p g)) = zA τ (zR τ g (ow5 τ p g)))
    (hb : ∀ g, g = 1015 ∨ g = 506 ∨ g = 507 ∨ g = 508 → ∀ j, (j < bd5 (ai5 τ p) g → j < bd5 (fun g => if g = cf then x else (ab5 τ p).1 g) g ∧ zA κ5 (zR τ g (ow5 τ p g)) j = zA τ (zR τ g (ow5 τ p g)) j) ∧ (¬ j < bd5 (ai5 τ p) g → j < bd5 (fun g => if g = cf then x else (ab5 τ p).1 g) g → zA κ5 (zR τ g (ow5 τ p g)) j = V g j)) :
    ab5 κ5 p = (fun g => if g = cf then x else (ab5 τ p).1 g, fun g j => if (g = 1015 ∨ g = 506 ∨ g = 507 ∨ g = 508) ∧ ¬ j < bd5 (ai5 τ p) g ∧ j < bd5 (fun g => if g = cf then x else (ab5 τ p).1 g) g then V g j else (ab5 τ p).2.1 g j, (ab5 τ p).2.2) := by
  have ho : ∀ g, ow5 κ5 p g = ow5 τ p g := fun g => by
    unfold ow5
    rw [hr]
  refine ab_mk5 (fun g => ?_) (fun g hg j => ?_) (fun g hg => ?_) (fun g a b => ?_) (fun g a => ab_N5 a)
  · unfold ai5
    rw [ho, hi]
    show (if g ∈ in5 then (if g = cf ∧ ow5 τ p g = ow5 τ p cf then x else zI τ g (ow5 τ p g)) else 0) = if g = cf then x else (if g ∈ in5 then zI τ g (ow5 τ p g) else 0)
    by_cases z : g = cf
    · subst z
      rw [if_pos hcf, if_pos ⟨rfl, rfl⟩, if_pos rfl]
    · rw [if_neg z]
      by_cases y : g ∈ in5
      · rw [if_pos y, if_pos y, if_neg (fun q => z q.1)]
      · rw [if_neg y, if_neg y]
  · rw [ho, hr]
    by_cases h0 : j < bd5 (ai5 τ p) g
    · have q := (hb g hg j).1 h0
      rw [if_neg (fun z => z.2.1 h0), q.2, ab_G5 hg h0]
      exact ⟨fun _ => rfl, fun z => absurd q.1 z⟩
    · by_cases h1 : j < bd5 (fun g => if g = cf then x else (ab5 τ p).1 g) g
      · rw [if_pos ⟨hg, h0, h1⟩]
        exact ⟨fun _ => (hb g hg j).2 h0 h1, fun z => absurd h1 z⟩
      · rw [if_neg (fun z => h1 z.2.2)]
        exact ⟨fun z => absurd z h1, fun _ => ab_Z5 hg h0⟩
  · rw [ho, hr, hn, ha g hg, (ab_F5 hg).2]
    refine ⟨?_, rfl⟩
    funext j
    rw [if_neg (fun z => fx_gr5 g hg z.1), (ab_F5 hg).1]
  · funext j
    rw [if_neg (fun z => a z.1), ab_O5 a b]
theorem bdw5 {I : Nat → Int32} : bd5 I 1015 = (I 1016).toNatClampNeg := if_pos rfl
theorem bdr_5 {I : Nat → Int32} : bd5 I 506 = 11 * (I 513).toNatClampNeg := (if_neg (by decide)).trans (if_pos rfl)
theorem bdo5 {I : Nat → Int32} : bd5 I 507 = (I 515).toNatClampNeg := (if_neg (by decide)).trans (if_neg (by decide))
theorem bda5 {I : Nat → Int32} : bd5 I 508 = (I 515).toNatClampNeg := (if_neg (by decide)).trans (if_neg (by decide))
/-- bounds of rows where one count was stored -/
theorem bu_w5 {I : Nat → Int32} {cf : Nat} {x : Int32} (h : 1016 ≠ cf) : bd5 (fun g => if g = cf then x else I g) 1015 = bd5 I 1015 := by rw [bdw5, bdw5, if_neg h]
theorem bu_r5 {I : Nat → Int32} {cf : Nat} {x : Int32} (h : 513 ≠ cf) : bd5 (fun g => if g = cf then x else I g) 506 = bd5 I 506 := by rw [bdr_5, bdr_5, if_neg h]
theorem bu_o5 {I : Nat → Int32} {cf : Nat} {x : Int32} (h : 515 ≠ cf) : bd5 (fun g => if g = cf then x else I g) 507 = bd5 I 507 := by rw [bdo5, bdo5, if_neg h]
theorem bu_a5 {I : Nat → Int32} {cf : Nat} {x : Int32} (h : 515 ≠ cf) : bd5 (fun g => if g = cf then x else I g) 508 = bd5 I 508 := by rw [bda5, bda5, if_neg h]
theorem inc_n5 {x : Int32} {n : Nat} (h0 : 0 ≤ x.toInt) (h : x.toInt < n) (hn : n ≤ 100000) : (x + 1).toNatClampNeg = x.toNatClampNeg + 1 := by
  have e : (x + 1).toInt = x.toInt + 1 := by rw [add_i (by rw [t1i]; omega) (by rw [t1i]; omega), t1i]
  have a := cnk h0
  have b := cnk (x := x + 1) (by omega)
  omega
theorem upd_5 {r : Nat → Int32} {i j : Nat} {x : Int32} : upd r i x j = if j = i then x else r j := rfl
/-- one word of code more -/
theorem em_5 {C : zC} {n0 p : Nat} {τ κ1 κ3 κ5 : zS} {o a : Int32} (W : zW C n0 τ) (T : zT τ p = 10) (h1 : κ1 = ua τ (zR τ coOps (zR τ paCode p)) (zI τ coLength (zR τ paCode p)).toNatClampNeg o) (h3 : κ3 = ua κ1 (zR κ1 coArgs (zR τ paCode p)) (zI κ1 coLength (zR τ paCode p)).toNatClampNeg a) (h5 : κ5 = ui κ3 coLength (zR τ paCode p) (zI κ3 coLength (zR τ paCode p) + 1)) (l0 : 0 ≤ (zI τ coLength (zR τ paCode p)).toInt) (l1 : (zI τ coLength (zR τ paCode p)).toInt < (20500 : Nat)) : f5_Co_emit o a (ab5 τ p) = .inl (ab5 κ5 p, ()) := by
  have nA : ∀ g, g ∈ al5 → g ≠ 508 → zR τ g (ow5 τ p g) ≠ zR τ coArgs (zR τ paCode p) := fun g hg z => al_n5 W T (f := g) (g := 508) hg (by decide) z
  have nO : ∀ g, g ∈ al5 → g ≠ 507 → zR τ g (ow5 τ p g) ≠ zR τ coOps (zR τ paCode p) := fun g hg z => al_n5 W T (f := g) (g := 507) hg (by decide) z
  have hne : zR τ coArgs (zR τ paCode p) ≠ zR τ coOps (zR τ paCode p) := nO 508 (by decide) (by decide)
  obtain ⟨c, hc⟩ : ∃ c, c = zR τ paCode p := ⟨_, rfl⟩
  rw [← hc] at h1 h3 h5 l0 l1 nA nO hne
  have hL := inc_n5 l0 l1 (by decide)
  obtain ⟨L, hLL⟩ : ∃ L, L = zI τ coLength c := ⟨_, rfl⟩
  have i3 : zI κ3 coLength c = L := by rw [hLL]; subst h1 h3; rfl
  have i1 : zI κ1 coLength c = L := by rw [hLL]; subst h1; rfl
  rw [i3] at h5
  rw [i1] at h3
  rw [← hLL] at h1 l0 l1 hL
  have eL : (ab5 τ p).1 515 = L := by rw [hLL, hc]; rfl
  have r1 : zR κ1 = zR τ := by rw [h1]; rfl
  rw [r1] at h3
  have hA : ∀ b, zA κ5 b = if b = zR τ coArgs c then upd (zA τ (zR τ coArgs c)) L.toNatClampNeg a else if b = zR τ coOps c then upd (zA τ (zR τ coOps c)) L.toNatClampNeg o else zA τ b := fun b => by
    rw [h5, h3, h1]
    show (if b = zR τ coArgs c then upd (if zR τ coArgs c = zR τ coOps c then _ else zA τ (zR τ coArgs c)) _ a else _) = _
    rw [if_neg hne]
    rfl
  have hr : zR κ5 = zR τ := by rw [h5, h3, h1]; rfl
  have hn : zN κ5 = zN τ := by rw [h5, h3, h1]; rfl
  have hi : zI κ5 = fun g b => if g = 515 ∧ b = ow5 τ p 515 then L + 1 else zI τ g b := by rw [h5, h3, h1, hc]; rfl
  have b7 : bd5 (ai5 τ p) 507 = L.toNatClampNeg := by rw [bdo5]; exact congrArg Int32.toNatClampNeg eL
  have b8 : bd5 (ai5 τ p) 508 = L.toNatClampNeg := by rw [bda5]; exact congrArg Int32.toNatClampNeg eL
  have d7 : bd5 (fun g => if g = 515 then L + 1 else (ab5 τ p).1 g) 507 = L.toNatClampNeg + 1 := by rw [bdo5, if_pos rfl, hL]
  have d8 : bd5 (fun g => if g = 515 then L + 1 else (ab5 τ p).1 g) 508 = L.toNatClampNeg + 1 := by rw [bda5, if_pos rfl, hL]
  have d6 : bd5 (fun g => if g = 515 then L + 1 else (ab5 τ p).1 g) 506 = bd5 (ai5 τ p) 506 := bu_r5 (by decide)
  have d1 : bd5 (fun g => if g = 515 then L + 1 else (ab5 τ p).1 g) 1015 = bd5 (ai5 τ p) 1015 := bu_w5 (by decide)
  have e := pu_5 (cf := 515) (κ5 := κ5) (x := L + 1) (V := fun g _ => if g = 507 then o else a) W T (by decide) hi hr hn (fun g hg => by
    rw [hA, if_neg (nA g (fx_al5 g hg) (fun z => fx_gr5 g hg (Or.inr (Or.inr (Or.inr z))))), if_neg (nO g (fx_al5 g hg) (fun z => fx_gr5 g hg (Or.inr (Or.inr (Or.inl z)))))]) (fun g hg j => by
    rcases hg with rfl | rfl | rfl | rfl
    · rw [hA, if_neg (nA 1015 (by decide) (by decide)), if_neg (nO 1015 (by decide) (by decide)), d1]
      exact ⟨fun hj => ⟨hj, rfl⟩, fun a b => absurd b a⟩
    · rw [hA, if_neg (nA 506 (by decide) (by decide)), if_neg (nO 506 (by decide) (by decide)), d6]
      exact ⟨fun hj => ⟨hj, rfl⟩, fun a b => absurd b a⟩
    · have hq : zR τ 507 (ow5 τ p 507) = zR τ coOps c := by rw [hc]; rfl
      rw [hA, if_neg (nA 507 (by decide) (by decide)), hq, if_pos rfl, b7, d7, upd_5, if_pos rfl]
      exact ⟨fun hj => ⟨by omega, if_neg (by omega)⟩, fun a b => if_pos (by omega)⟩
    · have hq : zR τ 508 (ow5 τ p 508) = zR τ coArgs c := by rw [hc]; rfl
      rw [hA, hq, if_pos rfl, b8, d8, upd_5, if_neg (show ¬ (508 : Nat) = 507 by decide)]
      exact ⟨fun hj => ⟨by omega, if_neg (by omega)⟩, fun a b => if_pos (by omega)⟩)
  rw [e]
  unfold f5_Co_emit
  rw [eL]
  refine congrArg Sum.inl (congrArg (fun z => (z, ())) (congrArg (Prod.mk _) (congrArg (fun z => (z, (ab5 τ p).2.2)) ?_)))
  funext g j
  show (if g = 507 ∧ j = L.toNatClampNeg then o else if g = 508 ∧ j = L.toNatClampNeg then a else (ab5 τ p).2.1 g j) = if _ ∧ _ ∧ _ then (if g = 507 then o else a) else (ab5 τ p).2.1 g j
  by_cases z : g = 507
  · subst z
    rw [d7, b7]
    by_cases y : j = L.toNatClampNeg
    · rw [if_pos ⟨rfl, y⟩, if_pos ⟨Or.inr (Or.inr (Or.inl rfl)), by omega, by omega⟩, if_pos rfl]
    · rw [if_neg (fun q => y q.2), if_neg (fun q => absurd q.1 (by decide)), if_neg (fun q => by have := q.2; omega)]
  · rw [if_neg (fun q => z q.1)]
    by_cases w : g = 508
    · subst w
      rw [d8, b8]
      by_cases y : j = L.toNatClampNeg
      · rw [if_pos ⟨rfl, y⟩, if_pos ⟨Or.inr (Or.inr (Or.inr rfl)), by omega, by omega⟩, if_neg (show ¬ (508 : Nat) = 507 by decide)]
      · rw [if_neg (fun q => y q.2), if_neg (fun q => by have := q.2; omega)]
    · rw [if_neg (fun q => w q.1), if_neg (fun q => by
        rcases q with ⟨y | y | y | y, q1, q2⟩
        · subst y; rw [d1] at q2; exact q1 q2
        · subst y; rw [d6] at q2; exact q1 q2
        · exact z y
        · exact w y)]
theorem ff_5 {r : Nat → Int32} {lo hi j : Nat} {x : Int32} : (fun k => if lo ≤ k ∧ k < hi then x else r k) j = if lo ≤ j ∧ j < hi then x else r j := rfl
/-- one statement more -/
theorem sm_5 {C : zC} {n0 p i1 i3 i4 : Nat} {τ κ2 κ6 κ8 κ10 κ12 : zS} (W : zW C n0 τ) (T : zT τ p = 10) (h2 : κ2 = uff τ (zR τ coRows (zR τ paCode p)) (11 * (zI τ coStatements (zR τ paCode p)).toNatClampNeg) (11 * (zI τ coStatements (zR τ paCode p)).toNatClampNeg + 11) (-1)) (h6 : κ6 = ua κ2 (zR κ2 coRows (zR τ paCode p)) i1 0) (h8 : κ8 = ua κ6 (zR κ6 coRows (zR τ paCode p)) i3 (zI κ6 coLength (zR τ paCode p))) (h10 : κ10 = ua κ8 (zR κ8 coRows (zR τ paCode p)) i4 0) (h12 : κ12 = ui κ10 coStatements (zR τ paCode p) (zI κ10 coStatements (zR τ paCode p) + 1)) (e1 : i1 = 11 * (zI τ coStatements (zR τ paCode p)).toNatClampNeg + 1) (e3 : i3 = 11 * (zI τ coStatements (zR τ paCode p)).toNatClampNeg + 3) (e4 : i4 = 11 * (zI τ coStatements (zR τ paCode p)).toNatClampNeg + 4) (l0 : 0 ≤ (zI τ coStatements (zR τ paCode p)).toInt) (l1 : (zI τ coStatements (zR τ paCode p)).toInt < (150 : Nat)) : f5_Co_addStatement (ab5 τ p) = .inl (ab5 κ12 p, zI τ coStatements (zR τ paCode p)) := by
  have nR : ∀ g, g ∈ al5 → g ≠ 506 → zR τ g (ow5 τ p g) ≠ zR τ coRows (zR τ paCode p) := fun g hg z => al_n5 W T (f := g) (g := 506) hg (by decide) z
  have eS : (ab5 τ p).1 513 = zI τ coStatements (zR τ paCode p) := rfl
  have eN : (ab5 τ p).1 515 = zI τ coLength (zR τ paCode p) := rfl
  have o13 : ow5 τ p 513 = zR τ paCode p := rfl
  have o06 : zR τ 506 (ow5 τ p 506) = zR τ coRows (zR τ paCode p) := rfl
  obtain ⟨c, hc⟩ : ∃ c, c = zR τ paCode p := ⟨_, rfl⟩
  rw [← hc] at h2 h6 h8 h10 h12 e1 e3 e4 l0 l1 nR eS eN o13 o06 ⊢
  obtain ⟨S, hS⟩ : ∃ S, S = zI τ coStatements c := ⟨_, rfl⟩
  have hL := inc_n5 l0 l1 (by decide)
  have r2 : zR κ2 = zR τ := by rw [h2]; rfl
  rw [r2] at h6
  have r6 : zR κ6 = zR τ := by rw [h6]; exact r2
  have j6 : zI κ6 coLength c = zI τ coLength c := by rw [h6, h2]; rfl
  rw [r6, j6] at h8
  have r8 : zR κ8 = zR τ := by rw [h8]; exact r6
  rw [r8] at h10
  have j10 : zI κ10 coStatements c = zI τ coStatements c := by rw [h10, h8, h6, h2]; rfl
  rw [j10] at h12
  rw [← hS] at h2 h12 e1 e3 e4 l0 l1 hL eS ⊢
  have hA : ∀ b, zA κ12 b = if b = zR τ coRows c then (fun j => if j = i4 then 0 else if j = i3 then zI τ coLength c else if j = i1 then 0 else if 11 * S.toNatClampNeg ≤ j ∧ j < 11 * S.toNatClampNeg + 11 then -1 else zA τ (zR τ coRows c) j) else zA τ b := fun b => by
    rw [h12, h10, h8, h6, h2]
    by_cases z : b = zR τ coRows c
    · subst z
      rw [if_pos rfl]
      funext j
      show (if zR τ coRows c = zR τ coRows c then upd (if zR τ coRows c = zR τ coRows c then upd (if zR τ coRows c = zR τ coRows c then upd (if zR τ coRows c = zR τ coRows c then _ else _) i1 0 else _) i3 _ else _) i4 0 else _) j = _
      rw [if_pos rfl, if_pos rfl, if_pos rfl, if_pos rfl]
      rfl
    · rw [if_neg z]
      exact (if_neg z).trans ((if_neg z).trans ((if_neg z).trans (if_neg z)))
  have hr : zR κ12 = zR τ := by rw [h12, h10, h8, h6, h2]; rfl
  have hn : zN κ12 = zN τ := by rw [h12, h10, h8, h6, h2]; rfl
  have hi : zI κ12 = fun g b => if g = 513 ∧ b = ow5 τ p 513 then S + 1 else zI τ g b := by rw [h12, h10, h8, h6, h2, o13]; rfl
  have b6 : bd5 (ai5 τ p) 506 = 11 * S.toNatClampNeg := by rw [bdr_5]; exact congrArg (fun z => 11 * Int32.toNatClampNeg z) eS
  have d6 : bd5 (fun g => if g = 513 then S + 1 else (ab5 τ p).1 g) 506 = 11 * (S.toNatClampNeg + 1) := by rw [bdr_5, if_pos rfl, hL]
  have d7 : bd5 (fun g => if g = 513 then S + 1 else (ab5 τ p).1 g) 507 = bd5 (ai5 τ p) 507 := bu_o5 (by decide)
  have d8 : bd5 (fun g => if g = 513 then S + 1 else (ab5 τ p).1 g) 508 = bd5 (ai5 τ p) 508 := bu_a5 (by decide)
  have d1 : bd5 (fun g => if g = 513 then S + 1 else (ab5 τ p).1 g) 1015 = bd5 (ai5 τ p) 1015 := bu_w5 (by decide)
  have e := pu_5 (cf := 513) (κ5 := κ12) (x := S + 1) (V := fun g j => nr5 (zI τ coLength c) (j - 11 * S.toNatClampNeg)) W T (by decide) hi hr hn (fun g hg => by
    rw [hA, if_neg (nR g (fx_al5 g hg) (fun z => fx_gr5 g hg (Or.inr (Or.inl z))))]) (fun g hg j => by
    rcases hg with rfl | rfl | rfl | rfl
    · rw [hA, if_neg (nR 1015 (by decide) (by decide)), d1]
      exact ⟨fun hj => ⟨hj, rfl⟩, fun a b => absurd b a⟩
    · rw [hA, o06, if_pos rfl, b6, d6]
      refine ⟨fun hj => ⟨by omega, ?_⟩, fun a b => ?_⟩
      · show (if j = i4 then _ else if j = i3 then _ else if j = i1 then _ else if _ then _ else _) = _
        rw [if_neg (by omega), if_neg (by omega), if_neg (by omega), if_neg (by omega)]
      · show (if j = i4 then _ else if j = i3 then _ else if j = i1 then _ else if _ then _ else _) = nr5 _ _
        unfold nr5
        by_cases y4 : j = i4
        · rw [if_pos y4, if_neg (by omega), if_neg (by omega), if_pos (by omega)]
        · rw [if_neg y4]
          by_cases y3 : j = i3
          · rw [if_pos y3, if_neg (by omega), if_pos (by omega)]
          · rw [if_neg y3]
            by_cases y1 : j = i1
            · rw [if_pos y1, if_pos (by omega)]
            · rw [if_neg y1, if_pos (by omega), if_neg (by omega), if_neg (by omega), if_neg (by omega)]
    · rw [hA, if_neg (nR 507 (by decide) (by decide)), d7]
      exact ⟨fun hj => ⟨hj, rfl⟩, fun a b => absurd b a⟩
    · rw [hA, if_neg (nR 508 (by decide) (by decide)), d8]
      exact ⟨fun hj => ⟨hj, rfl⟩, fun a b => absurd b a⟩)
  rw [e]
  unfold f5_Co_addStatement
  rw [eS, eN]
  refine congrArg Sum.inl (congrArg (fun z => (z, S)) (congrArg (Prod.mk _) (congrArg (fun z => (z, (ab5 τ p).2.2)) ?_)))
  funext g j
  show (if g = 506 ∧ 11 * S.toNatClampNeg ≤ j ∧ j < 11 * S.toNatClampNeg + 11 then nr5 (zI τ coLength c) (j - 11 * S.toNatClampNeg) else (ab5 τ p).2.1 g j) = if _ ∧ _ ∧ _ then nr5 (zI τ coLength c) (j - 11 * S.toNatClampNeg) else (ab5 τ p).2.1 g j
  by_cases z : g = 506
  · subst z
    rw [d6, b6]
    by_cases y : 11 * S.toNatClampNeg ≤ j ∧ j < 11 * S.toNatClampNeg + 11
    · rw [if_pos ⟨rfl, y⟩, if_pos ⟨Or.inr (Or.inl rfl), by omega, by omega⟩]
    · rw [if_neg (fun q => y q.2), if_neg (fun q => by have := q.2; omega)]
  · rw [if_neg (fun q => z q.1), if_neg (fun q => by
      rcases q with ⟨y | y | y | y, q1, q2⟩
      · subst y; rw [d1] at q2; exact q1 q2
      · exact z y
      · subst y; rw [d7] at q2; exact q1 q2
      · subst y; rw [d8] at q2; exact q1 q2)]
/-- one more waits -/
theorem ho_5 {C : zC} {n0 p : Nat} {τ κ1 κ3 : zS} {o : Int32} (W : zW C n0 τ) (T : zT τ p = 10) (h1 : κ1 = ua τ (zR τ paWaiting p) (zI τ paWaits p).toNatClampNeg o) (h3 : κ3 = ui κ1 paWaits p (zI κ1 paWaits p + 1)) (l0 : 0 ≤ (zI τ paWaits p).toInt) (l1 : (zI τ paWaits p).toInt < (20500 : Nat)) : f5_Pa_hold o (ab5 τ p) = .inl (ab5 κ3 p, ()) := by
  have nW : ∀ g, g ∈ al5 → g ≠ 1015 → zR τ g (ow5 τ p g) ≠ zR τ paWaiting p := fun g hg z => al_n5 W T (f := g) (g := 1015) hg (by decide) z
  have eL : (ab5 τ p).1 1016 = zI τ paWaits p := rfl
  have o15 : zR τ 1015 (ow5 τ p 1015) = zR τ paWaiting p := rfl
  have o16 : ow5 τ p 1016 = p := rfl
  have j1 : zI κ1 paWaits p = zI τ paWaits p := by rw [h1]; rfl
  rw [j1] at h3
  obtain ⟨L, hLL⟩ : ∃ L, L = zI τ paWaits p := ⟨_, rfl⟩
  have hL := inc_n5 l0 l1 (by decide)
  rw [← hLL] at h1 h3 l0 l1 hL eL
  have hA : ∀ b, zA κ3 b = if b = zR τ paWaiting p then upd (zA τ (zR τ paWaiting p)) L.toNatClampNeg o else zA τ b := fun b => by
    rw [h3, h1]
    rfl
  have hr : zR κ3 = zR τ := by rw [h3, h1]; rfl
  have hn : zN κ3 = zN τ := by rw [h3, h1]; rfl
  have hi : zI κ3 = fun g b => if g = 1016 ∧ b = ow5 τ p 1016 then L + 1 else zI τ g b := by rw [h3, h1, o16]; rfl
  have b5 : bd5 (ai5 τ p) 1015 = L.toNatClampNeg := by rw [bdw5]; exact congrArg Int32.toNatClampNeg eL
  have d5 : bd5 (fun g => if g = 1016 then L + 1 else (ab5 τ p).1 g) 1015 = L.toNatClampNeg + 1 := by rw [bdw5, if_pos rfl, hL]
  have d6 : bd5 (fun g => if g = 1016 then L + 1 else (ab5 τ p).1 g) 506 = bd5 (ai5 τ p) 506 := bu_r5 (by decide)
  have d7 : bd5 (fun g => if g = 1016 then L + 1 else (ab5 τ p).1 g) 507 = bd5 (ai5 τ p) 507 := bu_o5 (by decide)
  have d8 : bd5 (fun g => if g = 1016 then L + 1 else (ab5 τ p).1 g) 508 = bd5 (ai5 τ p) 508 := bu_a5 (by decide)
  have e := pu_5 (cf := 1016) (κ5 := κ3) (x := L + 1) (V := fun g _ => o) W T (by decide) hi hr hn (fun g hg => by
    rw [hA, if_neg (nW g (fx_al5 g hg) (fun z => fx_gr5 g hg (Or.inl z)))]) (fun g hg j => by
    rcases hg with rfl | rfl | rfl | rfl
    · rw [hA, o15, if_pos rfl, b5, d5, upd_5]
      exact ⟨fun hj => ⟨by omega, if_neg (by omega)⟩, fun a b => if_pos (by omega)⟩
    · rw [hA, if_neg (nW 506 (by decide) (by decide)), d6]
      exact ⟨fun hj => ⟨hj, rfl⟩, fun a b => absurd b a⟩
    · rw [hA, if_neg (nW 507 (by decide) (by decide)), d7]
      exact ⟨fun hj => ⟨hj, rfl⟩, fun a b => absurd b a⟩
    · rw [hA, if_neg (nW 508 (by decide) (by decide)), d8]
      exact ⟨fun hj => ⟨hj, rfl⟩, fun a b => absurd b a⟩)
  rw [e]
  unfold f5_Pa_hold
  rw [eL]
  refine congrArg Sum.inl (congrArg (fun z => (z, ())) (congrArg (Prod.mk _) (congrArg (fun z => (z, (ab5 τ p).2.2)) ?_)))
  funext g j
  show (if g = 1015 ∧ j = L.toNatClampNeg then o else (ab5 τ p).2.1 g j) = if _ ∧ _ ∧ _ then o else (ab5 τ p).2.1 g j
  by_cases z : g = 1015
  · subst z
    rw [d5, b5]
    by_cases y : j = L.toNatClampNeg
    · rw [if_pos ⟨rfl, y⟩, if_pos ⟨Or.inl rfl, by omega, by omega⟩]
    · rw [if_neg (fun q => y q.2), if_neg (fun q => by have := q.2; omega)]
  · rw [if_neg (fun q => z q.1), if_neg (fun q => by
      rcases q with ⟨y | y | y | y, q1, q2⟩
      · exact z y
      · subst y; rw [d6] at q2; exact q1 q2
      · subst y; rw [d7] at q2; exact q1 q2
      · subst y; rw [d8] at q2; exact q1 q2)]
