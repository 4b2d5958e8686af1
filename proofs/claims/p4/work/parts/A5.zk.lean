/-! calls and ends -/
theorem gg_up {E : dE} {X : dX} (hX : xApart E X) {b d d' : Nat} {r : dM} {pc : Nat} {lo : dL0} {st : List Value} {h : dH} {cs ss : Nat} {z : dW} (hle : d ≤ d') (hh : dGG E X b d r pc lo st h cs ss z) : dGG E X b d' r pc lo st h cs ss z := by
  cases z with
  | inl z => exact go_up hle hh
  | inr z => exact gox_up hX hle hh
section SK
variable {C : zC} {n0 d : Nat} {r : dM} {pc : Nat} {L : List (Option Value)} {st : List Value} {κ : zS} {Q : zU → zS → Prop}
theorem yap (C : zC) : xApart (yEn C) dXX := dXX_apart _ _
/-- a call, however it is made -/
theorem y_any {i : Instr} {d0 : Nat} {y : dV} {P : zU → zS → Prop} (W : zW C n0 κ) (hd : decode r.2.1 pc = .ok (i, 3)) (hi : iNew i = false) (hp : ∀ lo, dpure i 3 pc r.2.2.1 lo st = none) (hh : ∀ cs ss, dheap (yEn C) (yb C) (d + 1) r i 3 st (zH C κ) cs ss = none) (hy : dinv (yEn C) r.2.2.2.2.2.1 i 3 st (zH C κ) = some y) (h0 : d0 ≤ d) (hR : zRun C d0 y.1 y.2.1 κ P) (K : ∀ v κ', zW C n0 κ' → zM (zn κ) κ κ' → P (.inl v) κ' → zG C n0 (d + 1) r (pc + 3) L (v.toList ++ y.2.2) κ' Q) (KX : ∀ cls κ', P (.inr cls) κ' → (∃ idx, i = .invokevirtual idx) ∧ Q (.inr cls) κ') : zG C n0 (d + 1) r pc L st κ Q := by
  intro lo cs ss hl
  obtain ⟨o, κ', x, y9, h1, h2, h3, h4, h5, h6⟩ := hR
  have hb : zn κ ≤ zn κ' := h5.2.2
  have W' : zW C n0 κ' := h4.lo W.1.2.1 (Nat.le_trans W.1.2.2 hb)
  have M' : zM n0 κ κ' := ⟨fun a c hc e => h5.1 a c (Or.inl (W.2.1 a (by omega)).2) e, h5.2⟩
  have h1 := gg_up (yap C) h0 h1
  cases o with
  | inl v =>
    obtain ⟨o2, κ2, x2, y2, g1, g2, g3, g4, g5, g6⟩ := K v κ' W' h5 h6 lo (cs + x) (ss + y9) hl
    refine ⟨o2, κ2, x + x2, y9 + y2, ?_, by omega, by omega, g4, M'.tr g5, g6⟩
    rw [show cs + (x + x2) = cs + x + x2 from by omega, show ss + (y9 + y2) = ss + y9 + y2 from by omega]
    exact gg_call (yap C) (w := (v, zH C κ', x, y9)) (dx_no hd hi) hd (hp lo) (hh cs ss) hy h1 g1
  | inr cls =>
    obtain ⟨⟨idx, e⟩, hq⟩ := KX cls κ' h6
    subst e
    exact ⟨.inr cls, κ', x, y9, gg_callx (yap C) (w := (cls, (none, (zH C κ').2), x, y9)) (dx_no hd hi) hd (hh cs ss) hy h1, h2, h3, W', M', hq⟩
theorem y_call {o idx j d0 b : Nat} {r' : dM} {As rest : List Value} {P : zU → zS → Prop} (W : zW C n0 κ) (hd : decode r.2.1 pc = .ok (.invokevirtual idx, 3)) (ho : r.2.2.2.2.2.1 = o) (hm : (tML o ++ tMX o).lookup idx = some j) (hj : MTs[j]? = some r') (hq : r'.2.2.2.2.1 = false ∧ r'.1.name ≠ "<init>" ∧ 0 < r'.2.2.2.2.2.1 ∧ r'.2.2.2.2.2.1 < 20) (hn : As.length = r'.2.2.2.2.2.2) (hl : (lg_sl (.ref b :: As)).length ≤ r'.2.2.1) (h0 : d0 ≤ d) (hc : (rest.map fun v => v.category).sum ≤ 8) (hB : zBo κ b r'.2.2.2.2.2.1) (hR : zRun C d0 r' (.ref b :: As) κ P) (K : ∀ v κ', zW C n0 κ' → zM (zn κ) κ κ' → P (.inl v) κ' → zG C n0 (d + 1) r (pc + 3) L (v.toList ++ rest) κ' Q) (KX : ∀ cls κ', P (.inr cls) κ' → Q (.inr cls) κ') : zG C n0 (d + 1) r pc L (As.reverse ++ .ref b :: rest) κ Q := by
  have hdr : (As.reverse ++ Value.ref b :: rest).drop r'.2.2.2.2.2.2 = .ref b :: rest := by rw [← hn, ← List.length_reverse]; simp
  have htk : (As.reverse ++ Value.ref b :: rest).take r'.2.2.2.2.2.2 = As.reverse := by rw [← hn, ← List.length_reverse]; simp
  have hy : dinv (yEn C) r.2.2.2.2.2.1 (.invokevirtual idx) 3 (As.reverse ++ .ref b :: rest) (zH C κ) = some (r', .ref b :: As, rest) := by
    show dinvV (yEn C) r.2.2.2.2.2.1 3 idx _ _ = _
    have hm' : eML (yEn C) o idx = some j := hm
    have hj' : eMT (yEn C) j = some r' := hj
    unfold dinvV
    simp only [ho, hm', hj', hdr, htk, List.reverse_reverse]
    rw [if_pos ⟨trivial, hq.1, hq.2.1, by unfold drec; rw [zH_ob hB hq.2.2.1 hq.2.2.2]; simp, hc, hl⟩]
  exact y_any W hd rfl (fun _ => rfl) (fun _ _ => rfl) hy h0 hR K (fun cls κ' h => ⟨⟨idx, rfl⟩, KX cls κ' h⟩)
theorem y_cals {o idx j d0 : Nat} {r' : dM} {As rest : List Value} {P : zU → zS → Prop} (W : zW C n0 κ) (hd : decode r.2.1 pc = .ok (.invokestatic idx, 3)) (ho : r.2.2.2.2.2.1 = o) (hm : (tML o ++ tMX o).lookup idx = some j) (hbi : (tBI o).lookup idx = none) (hj : MTs[j]? = some r') (hq : r'.2.2.2.2.1 = true) (hn : As.length = r'.2.2.2.2.2.2) (hl : (lg_sl As).length ≤ r'.2.2.1) (h0 : d0 ≤ d) (hc : (rest.map fun v => v.category).sum ≤ 8) (hR : zRun C d0 r' As κ P) (K : ∀ v κ', zW C n0 κ' → zM (zn κ) κ κ' → P (.inl v) κ' → zG C n0 (d + 1) r (pc + 3) L (v.toList ++ rest) κ' Q) (KX : ∀ cls κ', ¬ P (.inr cls) κ') : zG C n0 (d + 1) r pc L (As.reverse ++ rest) κ Q := by
  have hdr : (As.reverse ++ rest).drop r'.2.2.2.2.2.2 = rest := by rw [← hn, ← List.length_reverse]; simp
  have htk : (As.reverse ++ rest).take r'.2.2.2.2.2.2 = As.reverse := by rw [← hn, ← List.length_reverse]; simp
  have hle : r'.2.2.2.2.2.2 ≤ (As.reverse ++ rest).length := by rw [← hn]; simp
  have hy : dinv (yEn C) r.2.2.2.2.2.1 (.invokestatic idx) 3 (As.reverse ++ rest) (zH C κ) = some (r', As, rest) := by
    show dinvS (yEn C) r.2.2.2.2.2.1 3 idx _ = _
    have hm' : eML (yEn C) o idx = some j := hm
    have hj' : eMT (yEn C) j = some r' := hj
    unfold dinvS
    simp only [ho, hm', hj', hdr, htk, List.reverse_reverse]
    rw [if_pos ⟨trivial, hq, hle, hc, hl⟩]
  refine y_any W hd rfl (fun _ => rfl) (fun cs ss => ?_) hy h0 hR K (fun cls κ' h => absurd h (KX cls κ'))
  show dbi (yEn C) (yb C) (d + 1) r.2.2.2.2.2.1 3 idx (As.reverse ++ rest) (zH C κ) cs ss = none
  have hb' : eBI (yEn C) o idx = none := hbi
  unfold dbi
  rw [ho, hb']
theorem y_calc {o idx j d0 b : Nat} {r' : dM} {As rest : List Value} {P : zU → zS → Prop} (W : zW C n0 κ) (hd : decode r.2.1 pc = .ok (.invokespecial idx, 3)) (ho : r.2.2.2.2.2.1 = o) (hm : (tML o ++ tMX o).lookup idx = some j) (hbi : (tBI o).lookup idx = none) (hj : MTs[j]? = some r') (hq : r'.2.2.2.2.1 = false ∧ r'.1.name = "<init>" ∧ r'.2.2.2.1.isNone = true) (hn : As.length = r'.2.2.2.2.2.2) (hl : (lg_sl (.ref b :: As)).length ≤ r'.2.2.1) (h0 : d0 ≤ d) (hc : (rest.map fun v => v.category).sum ≤ 8) (hR : zRun C d0 r' (.ref b :: As) κ P) (K : ∀ v κ', zW C n0 κ' → zM (zn κ) κ κ' → P (.inl v) κ' → zG C n0 (d + 1) r (pc + 3) L (v.toList ++ rest) κ' Q) (KX : ∀ cls κ', ¬ P (.inr cls) κ') : zG C n0 (d + 1) r pc L (As.reverse ++ .ref b :: rest) κ Q := by
  have hdr : (As.reverse ++ Value.ref b :: rest).drop r'.2.2.2.2.2.2 = .ref b :: rest := by rw [← hn, ← List.length_reverse]; simp
  have htk : (As.reverse ++ Value.ref b :: rest).take r'.2.2.2.2.2.2 = As.reverse := by rw [← hn, ← List.length_reverse]; simp
  have hy : dinv (yEn C) r.2.2.2.2.2.1 (.invokespecial idx) 3 (As.reverse ++ .ref b :: rest) (zH C κ) = some (r', .ref b :: As, rest) := by
    show dinvI (yEn C) r.2.2.2.2.2.1 3 idx _ = _
    have hm' : eML (yEn C) o idx = some j := hm
    have hj' : eMT (yEn C) j = some r' := hj
    unfold dinvI
    simp only [ho, hm', hj', hdr, htk, List.reverse_reverse]
    rw [if_pos ⟨trivial, hq.1, hq.2.1, hq.2.2, hc, hl⟩]
  refine y_any W hd rfl (fun _ => rfl) (fun cs ss => ?_) hy h0 hR K (fun cls κ' h => absurd h (KX cls κ'))
  show doi (yEn C) (d + 1) r.2.2.2.2.2.1 3 idx (As.reverse ++ .ref b :: rest) (zH C κ) cs ss = none
  have hb' : eBI (yEn C) o idx = none := hbi
  unfold doi
  rw [ho, hb']
  rfl
/-- a text -/
theorem y_calt {o idx j d0 b : Nat} {r' : dM} {As rest : List Value} {P : zU → zS → Prop} (W : zW C n0 κ) (hd : decode r.2.1 pc = .ok (.invokevirtual idx, 3)) (ho : r.2.2.2.2.2.1 = o) (hm : (tML o ++ tMX o).lookup idx = some j) (hj : MTs[j]? = some r') (hq : r'.2.2.2.2.1 = false ∧ r'.1.name ≠ "<init>" ∧ r'.2.2.2.2.2.1 = 0) (hn : As.length = r'.2.2.2.2.2.2) (hl : (lg_sl (.ref b :: As)).length ≤ r'.2.2.1) (h0 : d0 ≤ d) (hc : (rest.map fun v => v.category).sum ≤ 8) (hB : isTx C b) (hR : zRun C d0 r' (.ref b :: As) κ P) (K : ∀ v κ', zW C n0 κ' → zM (zn κ) κ κ' → P (.inl v) κ' → zG C n0 (d + 1) r (pc + 3) L (v.toList ++ rest) κ' Q) (KX : ∀ cls κ', P (.inr cls) κ' → Q (.inr cls) κ') : zG C n0 (d + 1) r pc L (As.reverse ++ .ref b :: rest) κ Q := by
  have hdr : (As.reverse ++ Value.ref b :: rest).drop r'.2.2.2.2.2.2 = .ref b :: rest := by rw [← hn, ← List.length_reverse]; simp
  have htk : (As.reverse ++ Value.ref b :: rest).take r'.2.2.2.2.2.2 = As.reverse := by rw [← hn, ← List.length_reverse]; simp
  have hz : (zH C κ).2 b = none := by
    show (if zT κ b = 0 then _ else _) = _
    by_cases e : zT κ b = 0
    · rw [if_pos e]; exact hB.2.2
    · have := (W.2.1 b e).1.1; have := hB.2.1.1; omega
  have hy : dinv (yEn C) r.2.2.2.2.2.1 (.invokevirtual idx) 3 (As.reverse ++ .ref b :: rest) (zH C κ) = some (r', .ref b :: As, rest) := by
    show dinvV (yEn C) r.2.2.2.2.2.1 3 idx _ _ = _
    have hm' : eML (yEn C) o idx = some j := hm
    have hj' : eMT (yEn C) j = some r' := hj
    have htx : ((eTL (yEn C)).find? (fun x => x.1 == b)).isSome = true := hB.1
    unfold dinvV
    simp only [ho, hm', hj', hdr, htk, List.reverse_reverse]
    rw [if_pos ⟨trivial, hq.1, hq.2.1, by unfold drec; rw [hz, hq.2.2]; simp [htx], hc, hl⟩]
  exact y_any W hd rfl (fun _ => rfl) (fun _ _ => rfl) hy h0 hR K (fun cls κ' h => ⟨⟨idx, rfl⟩, KX cls κ' h⟩)
/-- what is built in -/
theorem y_oinit {o idx a : Nat} (hd : decode r.2.1 pc = .ok (.invokespecial idx, 3)) (ho : r.2.2.2.2.2.1 = o) (hf : (tBI o).lookup idx = some 0) (hd1 : 1 ≤ d) (hc : (st.map fun v => v.category).sum ≤ 8) (K : zG C n0 d r (pc + 3) L st κ Q) : zG C n0 d r pc L (.ref a :: st) κ Q := by
  refine y_h0 hd rfl (fun _ => rfl) (fun cs ss => ?_) ⟨rfl, rfl⟩ zM.rf K
  show doi (yEn C) d r.2.2.2.2.2.1 3 idx (.ref a :: st) (zH C κ) cs ss = _
  have hb' : eBI (yEn C) o idx = some 0 := hf
  unfold doi
  rw [ho, if_pos hb']
  unfold doi0
  simp [hd1, hc]
theorem y_bi {o idx q : Nat} {st0 st' : List Value} {κ1 : zS} (hd : decode r.2.1 pc = .ok (.invokestatic idx, 3)) (ho : r.2.2.2.2.2.1 = o) (hf : (tBI o).lookup idx = some q) (hg : ∀ cs ss, dbi (yEn C) (yb C) d o 3 idx st0 (zH C κ) cs ss = some (st', zH C κ1, cs, ss)) (hc : zc κ1 = zc κ ∧ zs κ1 = zs κ) (hM : zM n0 κ κ1) (K : zG C n0 d r (pc + 3) L st' κ1 Q) : zG C n0 d r pc L st0 κ Q := by
  refine y_h0 hd rfl (fun _ => rfl) (fun cs ss => ?_) hc hM K
  show dbi (yEn C) (yb C) d r.2.2.2.2.2.1 3 idx st0 (zH C κ) cs ss = _
  rw [ho]; exact hg cs ss
theorem y_min {o idx : Nat} {x y : Int32} (hd : decode r.2.1 pc = .ok (.invokestatic idx, 3)) (ho : r.2.2.2.2.2.1 = o) (hf : (tBI o).lookup idx = some 1) (hd1 : 1 ≤ d) (hc : (st.map fun v => v.category).sum ≤ 8) (K : zG C n0 d r (pc + 3) L (.int (if y < x then y else x) :: st) κ Q) : zG C n0 d r pc L (.int y :: .int x :: st) κ Q := by
  refine y_bi hd ho hf (fun cs ss => ?_) ⟨rfl, rfl⟩ zM.rf K
  have hb' : eBI (yEn C) o idx = some 1 := hf
  unfold dbi
  rw [hb']
  show dmin 3 d (.int y :: .int x :: st) (zH C κ) cs ss = _
  unfold dmin
  simp [hd1, hc]
theorem y_max {o idx : Nat} {x y : Int32} (hd : decode r.2.1 pc = .ok (.invokestatic idx, 3)) (ho : r.2.2.2.2.2.1 = o) (hf : (tBI o).lookup idx = some 2) (hd1 : 1 ≤ d) (hc : (st.map fun v => v.category).sum ≤ 8) (K : zG C n0 d r (pc + 3) L (.int (if x < y then y else x) :: st) κ Q) : zG C n0 d r pc L (.int y :: .int x :: st) κ Q := by
  refine y_bi hd ho hf (fun cs ss => ?_) ⟨rfl, rfl⟩ zM.rf K
  have hb' : eBI (yEn C) o idx = some 2 := hf
  unfold dbi
  rw [hb']
  show dmax 3 d (.int y :: .int x :: st) (zH C κ) cs ss = _
  unfold dmax
  simp [hd1, hc]
theorem y_minL {o idx : Nat} {x y : Int64} (hd : decode r.2.1 pc = .ok (.invokestatic idx, 3)) (ho : r.2.2.2.2.2.1 = o) (hf : (tBI o).lookup idx = some 3) (hd1 : 1 ≤ d) (hc : (st.map fun v => v.category).sum ≤ 8) (K : zG C n0 d r (pc + 3) L (.long (if y < x then y else x) :: st) κ Q) : zG C n0 d r pc L (.long y :: .long x :: st) κ Q := by
  refine y_bi hd ho hf (fun cs ss => ?_) ⟨rfl, rfl⟩ zM.rf K
  have hb' : eBI (yEn C) o idx = some 3 := hf
  unfold dbi
  rw [hb']
  show dminL 3 d (.long y :: .long x :: st) (zH C κ) cs ss = _
  unfold dminL
  simp [hd1, hc]
theorem y_absL {o idx : Nat} {x : Int64} (hd : decode r.2.1 pc = .ok (.invokestatic idx, 3)) (ho : r.2.2.2.2.2.1 = o) (hf : (tBI o).lookup idx = some 4) (hd1 : 1 ≤ d) (hc : (st.map fun v => v.category).sum ≤ 8) (K : zG C n0 d r (pc + 3) L (.long (if 0 < x then x else -x) :: st) κ Q) : zG C n0 d r pc L (.long x :: st) κ Q := by
  refine y_bi hd ho hf (fun cs ss => ?_) ⟨rfl, rfl⟩ zM.rf K
  have hb' : eBI (yEn C) o idx = some 4 := hf
  unfold dbi
  rw [hb']
  show dabsL 3 d (.long x :: st) (zH C κ) cs ss = _
  unfold dabsL
  simp [hd1, hc]
/-- so many of one row from a place on into another from a place on -/
def cpo (κ : zS) (s a : Nat) (sp dp n : Int32) : Prop := 0 ≤ sp ∧ 0 ≤ dp ∧ 0 ≤ n ∧ sp.toNatClampNeg + n.toNatClampNeg ≤ zN κ s ∧ dp.toNatClampNeg + n.toNatClampNeg ≤ zN κ a
theorem y_cpy {o idx s a t : Nat} {sp dp n : Int32} (W : zW C n0 κ) (hd : decode r.2.1 pc = .ok (.invokestatic idx, 3)) (ho : r.2.2.2.2.2.1 = o) (hf : (tBI o).lookup idx = some 5) (hs : zT κ s = 20 + t) (ha : zT κ a = 20 + t) (ht : t = 0 ∨ t = 1) (hd1 : 1 ≤ d) (hc : (st.map fun v => v.category).sum ≤ 8) (hp : cpo κ s a sp dp n) (K : ∀ κ1, κ1 = uc κ s a sp.toNatClampNeg dp.toNatClampNeg n.toNatClampNeg → zG C n0 d r (pc + 3) L st κ1 Q) : zG C n0 d r pc L (.int n :: .int dp :: .ref a :: .int sp :: .ref s :: st) κ Q := by
  refine y_bi (κ1 := uc κ s a sp.toNatClampNeg dp.toNatClampNeg n.toNatClampNeg) hd ho hf (fun cs ss => ?_) ⟨rfl, rfl⟩ (zM.of rfl rfl rfl) (K _ rfl)
  have hb' : eBI (yEn C) o idx = some 5 := hf
  have t3 : t = 0 ∨ t = 1 ∨ t = 3 := by omega
  obtain ⟨p1, p2, p3, p4, p5⟩ := hp
  have q1 : ¬ sp < 0 := by grind
  have q2 : ¬ dp < 0 := by grind
  have q3 : ¬ n < 0 := by grind
  have hb := (zW_b W (a := a) (by omega)).1
  have he : dupd (zH C κ) a (.inl (t, zN κ a, .inl (va_cpy (zA κ s) (zA κ a) sp.toNatClampNeg dp.toNatClampNeg n.toNatClampNeg))) = zH C (uc κ s a sp.toNatClampNeg dp.toNatClampNeg n.toNatClampNeg) := by
    refine zH_ast rfl rfl rfl rfl rfl (by omega) ?_ (fun b hb => ⟨if_neg hb, rfl, rfl⟩)
    rw [zCell_i (C := C) (κ := uc κ s a sp.toNatClampNeg dp.toNatClampNeg n.toNatClampNeg) ha t3]
    show (Sum.inl (t, zN κ a, .inl (if a = a then _ else _)) : dC) = _
    rw [if_pos rfl]
  have hfit : dfit t (zA κ s) sp.toNatClampNeg n.toNatClampNeg = true := by
    unfold dfit
    rcases ht with rfl | rfl
    · rfl
    · show ((List.range n.toNatClampNeg).all fun i => fits .byte (.int (zA κ s (sp.toNatClampNeg + i)))) = true
      rw [List.all_eq_true]
      exact fun i _ => W.2.2.2.2.2.2.2.1 s _ hs
  unfold dbi
  rw [hb']
  show dcpy (yb C) 3 d (.int n :: .int dp :: .ref a :: .int sp :: .ref s :: st) (zH C κ) cs ss = _
  unfold dcpy
  simp only [zH_i hs t3, zH_i ha t3]
  simp [hd1, hb, hfit, q1, q2, q3, p4, p5, he]
  exact hc
theorem zW_uc {s a sp dp n : Nat} {κ1 : zS} (W : zW C n0 κ) (e : κ1 = uc κ s a sp dp n) (hs : zT κ s = zT κ a) : zW C n0 κ1 := by
  subst e
  obtain ⟨w1, w2, w3, w4, w5, w6, w7, w8, w9⟩ := W
  refine ⟨w1, w2, w3, w4, w5, w6, fun b j hb => ?_, fun b j hb => ?_, w9⟩
  · show nb ((if b = a then va_cpy (zA κ s) (zA κ a) sp dp n else zA κ b) j)
    by_cases e : b = a
    · rw [if_pos e]
      have hb : zT κ b = 23 := hb
      unfold va_cpy
      split
      · exact w7 s _ (by rw [hs, ← e]; exact hb)
      · exact w7 a _ (by rw [← e]; exact hb)
    · rw [if_neg e]; exact w7 b j hb
  · show fits .byte (.int ((if b = a then va_cpy (zA κ s) (zA κ a) sp dp n else zA κ b) j)) = true
    by_cases e : b = a
    · rw [if_pos e]
      have hb : zT κ b = 21 := hb
      unfold va_cpy
      split
      · exact w8 s _ (by rw [hs, ← e]; exact hb)
      · exact w8 a _ (by rw [← e]; exact hb)
    · rw [if_neg e]; exact w8 b j hb
/-- ends -/
theorem y_end {v : Option Value} (W : zW C n0 κ) {i : Instr} {len : Nat} (hd : decode r.2.1 pc = .ok (i, len)) (hp : ∀ lo, dpure i len pc r.2.2.1 lo st = none) (hh : ∀ cs ss, dheap (yEn C) (yb C) d r i len st (zH C κ) cs ss = none) (hv : dret r i len st = some v) (K : Q (.inl v) κ) : zG C n0 d r pc L st κ Q := fun lo cs ss hl => ⟨.inl v, κ, 0, 0, go_ret hd (hp lo) (hh cs ss) hv, rfl, rfl, W, zM.rf, K⟩
theorem y_ri {Q : Int32 → zS → Prop} {X : zXp} {x : Int32} {ty : FieldType} (W : zW C n0 κ) (hd : decode r.2.1 pc = .ok (.ireturn, 1)) (ht : r.2.2.2.1 = some ty) (hn : narrow ty (.int x) = .int x ∧ fits ty (.int x) = true) (K : Q x κ) : zG C n0 d r pc L [.int x] κ (oI Q X) := y_end W hd (fun _ => rfl) (fun _ _ => rfl) (v := some (.int x)) (by unfold dret; simp [ht, hn.1]) (Or.inl ⟨x, rfl, K⟩)
theorem y_rl {Q : Int64 → zS → Prop} {X : zXp} {x : Int64} (W : zW C n0 κ) (hd : decode r.2.1 pc = .ok (.lreturn, 1)) (ht : r.2.2.2.1 = some .long) (K : Q x κ) : zG C n0 d r pc L [.long x] κ (oJ Q X) := y_end W hd (fun _ => rfl) (fun _ _ => rfl) (v := some (.long x)) (by unfold dret; simp [ht]) (Or.inl ⟨x, rfl, K⟩)
theorem y_rv {Q : zS → Prop} {X : zXp} (W : zW C n0 κ) (hd : decode r.2.1 pc = .ok (.return_, 1)) (ht : r.2.2.2.1 = none) (K : Q κ) : zG C n0 d r pc L [] κ (oV Q X) := y_end W hd (fun _ => rfl) (fun _ _ => rfl) (v := none) (by unfold dret; simp [ht]) (Or.inl ⟨rfl, K⟩)
theorem y_ro {Q : Nat → zS → Prop} {X : zXp} {x t : Nat} {s : String} (W : zW C n0 κ) (hd : decode r.2.1 pc = .ok (.areturn, 1)) (ht : r.2.2.2.1 = some (.object s)) (hT : zT κ x = t) (K : Q x κ) : zG C n0 d r pc L [.ref x] κ (oR t Q X) := y_end W hd (fun _ => rfl) (fun _ _ => rfl) (v := some (.ref x)) (by unfold dret; simp [ht]) (Or.inl ⟨x, rfl, hT, K⟩)
theorem y_ra {Q : Nat → zS → Prop} {X : zXp} {x t : Nat} {ty : FieldType} (W : zW C n0 κ) (hd : decode r.2.1 pc = .ok (.areturn, 1)) (ht : r.2.2.2.1 = some (.array ty)) (hT : zT κ x = t) (K : Q x κ) : zG C n0 d r pc L [.ref x] κ (oR t Q X) := y_end W hd (fun _ => rfl) (fun _ _ => rfl) (v := some (.ref x)) (by unfold dret; simp [ht]) (Or.inl ⟨x, rfl, hT, K⟩)
theorem y_rq {Q : Option Nat → zS → Prop} {X : zXp} {x : Option Nat} {t : Nat} {s : String} (W : zW C n0 κ) (hd : decode r.2.1 pc = .ok (.areturn, 1)) (ht : r.2.2.2.1 = some (.object s)) (hT : ∀ v, x = some v → zT κ v = t) (K : Q x κ) : zG C n0 d r pc L [va_rf x] κ (oQ t Q X) := y_end W hd (fun _ => rfl) (fun _ _ => rfl) (v := some (va_rf x)) (by cases x <;> (unfold dret; simp [ht, va_rf])) (Or.inl ⟨x, rfl, hT, K⟩)
theorem y_thr {cls : String} (W : zW C n0 κ) (hx : dxat (yEn C) dXX r pc = some cls) (h8 : 8 ≤ d) (hc : (st.map fun v => v.category).sum ≤ 8) (K : ∀ κ1, κ1 = ut κ → Q (.inr cls) κ1) : zG C n0 d r pc L st κ Q := fun lo cs ss hl => ⟨.inr cls, ut κ, 1, 6, gg_thr hx h8 hc, rfl, rfl, W, zM.of rfl rfl rfl, K _ rfl⟩
end SK
theorem z_run {C : zC} {d : Nat} {m : dM} {as : List Value} {κ : zS} {Q : zU → zS → Prop} {L : List (Option Value)} (hL : lA (dent as) L) (h : zG C (zn κ) d m 0 L [] κ Q) : zRun C d m as κ Q := by
  obtain ⟨o, κ', x, y, h1, h2⟩ := h _ 0 0 hL
  rw [Nat.zero_add, Nat.zero_add] at h1
  exact ⟨o, κ', x, y, h1, h2⟩
theorem zRun.up {C : zC} {d d' : Nat} {m : dM} {as : List Value} {κ : zS} {Q : zU → zS → Prop} (hle : d ≤ d') (h : zRun C d m as κ Q) : zRun C d' m as κ Q := by
  obtain ⟨o, κ', x, y, h1, h2⟩ := h
  exact ⟨o, κ', x, y, gg_up (yap C) hle h1, h2⟩
theorem zRun.mono {C : zC} {d : Nat} {m : dM} {as : List Value} {κ : zS} {Q Q' : zU → zS → Prop} (h : zRun C d m as κ Q) (hq : ∀ o κ', Q o κ' → Q' o κ') : zRun C d m as κ Q' := by
  obtain ⟨o, κ', x, y, h1, h2, h3, h4, h5, h6⟩ := h
  exact ⟨o, κ', x, y, h1, h2, h3, h4, h5, hq o κ' h6⟩
/-! small rows that the methods' proofs use -/
theorem ztm {C : zC} {n0 : Nat} {κ κ' : zS} {a c : Nat} (W : zW C n0 κ) (M : zM (zn κ) κ κ') (h : zT κ a = c + 1) : zT κ' a = c + 1 := M.1 a c (Or.inl (W.2.1 a (by omega)).2) h
theorem ztf {κ κ' : zS} {a c w q : Nat} (e : κ' = nff κ w) (R : zT κ w = q) (hq : 40 ≤ q) (h : zT κ a = c + 1) (hc : c + 1 < 40) : zT κ' a = c + 1 := by
  subst e
  exact (if_neg (fun z => by rw [z, R] at h; omega)).trans h
theorem ztg {κ κ' : zS} {a c w : Nat} (e : κ' = nff κ w) (hne : a ≠ w) (h : zT κ a = c) : zT κ' a = c := by
  subst e
  exact (if_neg hne).trans h
theorem cat_q {x : Option Nat} : (va_rf x).category = 1 := by cases x <;> rfl
section UQ
variable {C : zC} {n0 d : Nat} {r : dM} {pc : Nat} {L : List (Option Value)} {st : List Value} {κ : zS} {Q : zU → zS → Prop} {e : Option Nat} {u : Nat} {v0 v1 v2 : Value}
theorem y_uq0 (E : e = some u) (K : zG C n0 d r pc L (.ref u :: st) κ Q) : zG C n0 d r pc L (va_rf e :: st) κ Q := by subst E; exact K
theorem y_uq1 (E : e = some u) (K : zG C n0 d r pc L (v0 :: .ref u :: st) κ Q) : zG C n0 d r pc L (v0 :: va_rf e :: st) κ Q := by subst E; exact K
theorem y_uq2 (E : e = some u) (K : zG C n0 d r pc L (v0 :: v1 :: .ref u :: st) κ Q) : zG C n0 d r pc L (v0 :: v1 :: va_rf e :: st) κ Q := by subst E; exact K
theorem y_uq3 (E : e = some u) (K : zG C n0 d r pc L (v0 :: v1 :: v2 :: .ref u :: st) κ Q) : zG C n0 d r pc L (v0 :: v1 :: v2 :: va_rf e :: st) κ Q := by subst E; exact K
end UQ
section ENDS
variable {C : zC} {n0 d : Nat} {r : dM} {pc : Nat} {L : List (Option Value)} {st : List Value} {κ κ' : zS} {Q : zU → zS → Prop} {X : zXp} {v : Option Value} {cls : String} {t : Nat} {M : zS → Prop}
theorem ezI {F : Int32 → zS → Prop} (K : ∀ (x : Int32) κ', zW C n0 κ' → M κ' → F x κ' → zG C n0 d r pc L (.int x :: st) κ' Q) (w : zW C n0 κ') (m : M κ') (p : oI F X (.inl v) κ') : zG C n0 d r pc L (v.toList ++ st) κ' Q := by
  rcases p with ⟨x, e, h⟩ | ⟨c, e, -⟩
  · cases e; exact K x κ' w m h
  · cases e
theorem ezJ {F : Int64 → zS → Prop} (K : ∀ (x : Int64) κ', zW C n0 κ' → M κ' → F x κ' → zG C n0 d r pc L (.long x :: st) κ' Q) (w : zW C n0 κ') (m : M κ') (p : oJ F X (.inl v) κ') : zG C n0 d r pc L (v.toList ++ st) κ' Q := by
  rcases p with ⟨x, e, h⟩ | ⟨c, e, -⟩
  · cases e; exact K x κ' w m h
  · cases e
theorem ezV {F : zS → Prop} (K : ∀ κ', zW C n0 κ' → M κ' → F κ' → zG C n0 d r pc L st κ' Q) (w : zW C n0 κ') (m : M κ') (p : oV F X (.inl v) κ') : zG C n0 d r pc L (v.toList ++ st) κ' Q := by
  rcases p with ⟨e, h⟩ | ⟨c, e, -⟩
  · cases e; exact K κ' w m h
  · cases e
theorem ezR {F : Nat → zS → Prop} (K : ∀ (x : Nat) κ', zW C n0 κ' → M κ' → zT κ' x = t → F x κ' → zG C n0 d r pc L (.ref x :: st) κ' Q) (w : zW C n0 κ') (m : M κ') (p : oR t F X (.inl v) κ') : zG C n0 d r pc L (v.toList ++ st) κ' Q := by
  rcases p with ⟨x, e, h1, h⟩ | ⟨c, e, -⟩
  · cases e; exact K x κ' w m h1 h
  · cases e
theorem ezQ {F : Option Nat → zS → Prop} (K : ∀ (x : Option Nat) κ', zW C n0 κ' → M κ' → (∀ v, x = some v → zT κ' v = t) → F x κ' → zG C n0 d r pc L (va_rf x :: st) κ' Q) (w : zW C n0 κ') (m : M κ') (p : oQ t F X (.inl v) κ') : zG C n0 d r pc L (v.toList ++ st) κ' Q := by
  rcases p with ⟨x, e, h1, h⟩ | ⟨c, e, -⟩
  · cases e; exact K x κ' w m h1 h
  · cases e
theorem thrI {F : Int32 → zS → Prop} (p : oI F X (.inr cls) κ') : X cls κ' := by
  rcases p with ⟨x, e, -⟩ | ⟨c, e, h⟩
  · cases e
  · cases e; exact h
theorem thrJ {F : Int64 → zS → Prop} (p : oJ F X (.inr cls) κ') : X cls κ' := by
  rcases p with ⟨x, e, -⟩ | ⟨c, e, h⟩
  · cases e
  · cases e; exact h
theorem thrV {F : zS → Prop} (p : oV F X (.inr cls) κ') : X cls κ' := by
  rcases p with ⟨e, -⟩ | ⟨c, e, h⟩
  · cases e
  · cases e; exact h
theorem thrR {F : Nat → zS → Prop} (p : oR t F X (.inr cls) κ') : X cls κ' := by
  rcases p with ⟨x, e, -, -⟩ | ⟨c, e, h⟩
  · cases e
  · cases e; exact h
theorem thrQ {F : Option Nat → zS → Prop} (p : oQ t F X (.inr cls) κ') : X cls κ' := by
  rcases p with ⟨x, e, -, -⟩ | ⟨c, e, h⟩
  · cases e
  · cases e; exact h
end ENDS
theorem dxat_yes {E : dE} {X : dX} {r : dM} {pc ik is ic : Nat} {cls : String} (h1 : decode r.2.1 pc = .ok (.new ik, 3)) (h2 : decode r.2.1 (pc + 3) = .ok (.dup, 1)) (h3 : decode r.2.1 (pc + 4) = .ok (.ldc is, 2)) (h4 : decode r.2.1 (pc + 6) = .ok (.invokespecial ic, 3)) (h5 : decode r.2.1 (pc + 9) = .ok (.athrow, 1)) (hx : X.1 r.2.2.2.2.2.1 ik = some cls) (hy : X.2 r.2.2.2.2.2.1 ic = some cls) (hs : (eSR E r.2.2.2.2.2.1 is).isSome = true) : dxat E X r pc = some cls := by
  unfold dxat
  simp only [h1, hx, h2, h3, h4, h5, hy, hs, and_self, if_true]
theorem dxat_yesw {E : dE} {X : dX} {r : dM} {pc ik is ic : Nat} {cls : String} (h1 : decode r.2.1 pc = .ok (.new ik, 3)) (h2 : decode r.2.1 (pc + 3) = .ok (.dup, 1)) (h3 : decode r.2.1 (pc + 4) = .ok (.ldc_w is, 3)) (h4 : decode r.2.1 (pc + 7) = .ok (.invokespecial ic, 3)) (h5 : decode r.2.1 (pc + 10) = .ok (.athrow, 1)) (hx : X.1 r.2.2.2.2.2.1 ik = some cls) (hy : X.2 r.2.2.2.2.2.1 ic = some cls) (hs : (eSR E r.2.2.2.2.2.1 is).isSome = true) : dxat E X r pc = some cls := by
  unfold dxat
  simp only [h1, hx, h2, h3, h4, h5, hy, hs, and_self, if_true]
theorem lk_at {pc t : Nat} {lo : dL0} {st : List Value} {dflt v off : Int} {ps : Array (Int × Int)} {x : Int32} {len nL : Nat} (hs : ((ps.toList.zip (ps.toList.drop 1)).all (fun (a, next) => a.1 < next.1)) = true) (hx : x.toInt = v) (hk : Op.lookupswitch.offset ps.toList dflt v = off) (ht : dto pc off = some t) : dpure (.lookupswitch dflt ps) len pc nL lo (.int x :: st) = some (t, lo, st) := by
  show dlk pc lo st dflt ps x = _
  unfold dlk
  rw [if_pos hs, hx, hk, ht]; rfl
theorem lk_no {pc t : Nat} {lo : dL0} {st : List Value} {dflt : Int} {ps : Array (Int × Int)} {x : Int32} {len nL : Nat} (hs : ((ps.toList.zip (ps.toList.drop 1)).all (fun (a, next) => a.1 < next.1)) = true) (hk : Op.lookupswitch.offset ps.toList dflt x.toInt = dflt) (ht : dto pc dflt = some t) : dpure (.lookupswitch dflt ps) len pc nL lo (.int x :: st) = some (t, lo, st) := by
  show dlk pc lo st dflt ps x = _
  unfold dlk
  rw [if_pos hs, hk, ht]; rfl
