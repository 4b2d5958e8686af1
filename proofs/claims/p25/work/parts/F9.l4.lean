set_option maxHeartbeats 1600000
/-! the law's cases -/
def rcI9 (RJ : rS → Prop) (m : dM) (as : List Value) : Prop := ∀ (C : rCx) (σ : rS), cOK C → RJ σ → cI C 15 m (.ref (co C) :: as) σ (fun _ σ' => RJ σ' ∧ pR8 σ σ')
def rcJ9 (RJ : rS → Prop) (m : dM) (as : List Value) : Prop := ∀ (C : rCx) (σ : rS), cOK C → RJ σ → cJ C 15 m (.ref (co C) :: as) σ (fun _ σ' => RJ σ' ∧ pR8 σ σ')
def rcV9 (RJ : rS → Prop) (m : dM) (as : List Value) : Prop := ∀ (C : rCx) (σ : rS), cOK C → RJ σ → cV C 15 m (.ref (co C) :: as) σ (fun σ' => RJ σ' ∧ pR8 σ σ')
def rcT9 (RJ : rS → Prop) (m : dM) (y0 : Int32) : Prop := ∀ (C : rCx) (σ : rS), cOK C → RJ σ → cI C 15 m (.ref (co C) :: [.int y0]) σ (fun _ σ' => RJ σ' ∧ pL21 y0 σ σ' ∧ kP23 σ σ' ∧ kN16 σ σ')
/-- what the reference threw -/
def rcW9 (m : dM) : Prop := ∀ (C : rCx) (σ : rS), cOK C → cI C 15 m (.ref (co C) :: []) σ (fun v σ' => σ' = σ ∧ v = σ.1 0)
def rcY9 (RJ : rS → Prop) (m : dM) (y0 y1 y2 : Int32) : Prop := ∀ (C : rCx) (σ : rS), cOK C → RJ σ → cI C 15 m (.ref (co C) :: [.int y0, .int y1, .int y2]) σ (fun v σ' => RJ σ' ∧ pR8 σ σ' ∧ XGA24 y0 y1 y2 σ σ' v)
def rcF9 (RJ : rS → Prop) (m : dM) (as : List Value) : Prop := ∀ (C : rCx) (σ : rS), cOK C → RJ σ → cI C 15 m (.ref (co C) :: as) σ (fun _ σ' => RJ σ' ∧ pO21 σ σ' ∧ kP23 σ σ' ∧ kN16 σ σ')
def rcD9 (RJ : rS → Prop) (m : dM) (y0 y1 y2 y3 y4 : Int32) : Prop := ∀ (C : rCx) (σ : rS), cOK C → RJ σ → σ.1 2 ≤ 60000 → cI C 15 m (.ref (co C) :: [.int y0, .int y1, .int y2, .int y3, .int y4]) σ (fun _ σ' => RJ σ' ∧ ((oR9 σ' = fdO9 (oR9 σ) (by9 y0 y1 y2 y3 y4) ∧ kR7 σ σ') ∧ kS8 σ σ'))
def rcE9 (RJ : rS → Prop) (m : dM) (y0 : Int32) : Prop := ∀ (C : rCx) (σ : rS), cOK C → RJ σ → cV C 15 m (.ref (co C) :: [.int y0]) σ (fun σ' => RJ σ' ∧ ((oR9 σ' = trO9 (oR9 σ) y0 ∧ kR7 σ σ') ∧ kS8 σ σ'))
def rcP9 (RJ : rS → Prop) (m : dM) : Prop := ∀ (C : rCx) (σ : rS), cOK C → RJ σ → cI C 15 m (.ref (co C) :: []) σ (fun v σ' => RJ σ' ∧ oR9 σ' = ((fun _ => 0, 0, σ'.1 53) : Ob9) ∧ (pQ9 σ v σ' ∧ kD20 σ σ' ∧ σ'.2.1 110 = σ.2.1 110 ∧ kE16 σ σ'))
def rcG9 (RJ : rS → Prop) (m : dM) : Prop := ∀ (C : rCx) (σ : rS), cOK C → RJ σ → cI C 15 m (.ref (co C) :: []) σ (fun v σ' => RJ σ' ∧ v = σ.1 53 ∧ pR8 σ σ')
def rcX9 (RJ : rS → Prop) (m : dM) (y0 : Int32) : Prop := ∀ (C : rCx) (σ : rS), cOK C → RJ σ → cI C 15 m (.ref (co C) :: [.int y0]) σ (fun v σ' => RJ σ' ∧ pR7 σ σ' ∧ XS22 y0 σ σ' v)
def rcQ9 (RJ : rS → Prop) (m : dM) (y0 : Int64) (y1 : Int32) : Prop := ∀ (C : rCx) (σ : rS), cOK C → RJ σ → cI C 15 m (.ref (co C) :: [.long y0, .int y1]) σ (fun v σ' => RJ σ' ∧ pY23 y1 σ (siU (slU σ 112 y0) 113 1) σ' v)
def rcR9 (RJ : rS → Prop) (m : dM) (y0 : Int32) : Prop := ∀ (C : rCx) (σ : rS), cOK C → RJ σ → cI C 15 m (.ref (co C) :: [.int y0]) σ (fun v σ' => RJ σ' ∧ pY23 y0 σ (siU σ 113 0) σ' v)
def rcS9 (RJ : rS → Prop) (m : dM) : Prop := ∀ (C : rCx) (σ : rS), cOK C → RJ σ → cI C 15 m (.ref (co C) :: []) σ (fun v σ' => RJ σ' ∧ pV16 σ σ' v)
def rcH9 (RJ : rS → Prop) (m : dM) (y0 y1 : Int32) : Prop := ∀ (C : rCx) (σ : rS), cOK C → RJ σ → cI C 15 m (.ref (co C) :: [.int y0, .int y1]) σ (fun v σ' => RJ σ' ∧ pH16 y0 y1 σ σ' v)
def rcB9 (RJ : rS → Prop) (m : dM) : Prop := ∀ (C : rCx) (σ : rS), cOK C → RJ σ → cI C 15 m (.ref (co C) :: []) σ (fun v σ' => RJ σ' ∧ pT8 σ σ' ∧ XB8 σ σ' v)
def rcU9 (RJ : rS → Prop) (m : dM) (y0 y1 : Int32) : Prop := ∀ (C : rCx) (σ : rS), cOK C → RJ σ → cI C 15 m (.ref (co C) :: [.int y0, .int y1]) σ (fun v σ' => RJ σ' ∧ pD8 y0 y1 σ σ' ∧ XD8 y0 y1 σ σ' v)
/-- the reference's object takes a call -/
theorem inv_r9 {C : zC} {idx j oo : Nat} {r' : dM} {As rest : List Value} {h : dH} {fs : List Value} (hm : (tML 100 ++ tMX 100).lookup idx = some j) (hj : MTs[j]? = some r') (hq : r'.2.2.2.2.1 = false ∧ r'.1.name ≠ "<init>" ∧ r'.2.2.2.2.2.1 = 16) (hn : As.length = r'.2.2.2.2.2.2) (hl : (lg_sl (.ref oo :: As)).length ≤ r'.2.2.1) (hc : (rest.map fun v => v.category).sum ≤ 8) (ho : h.2 oo = some (.inr (16, fs))) : dinv (yEn C) 100 (.invokevirtual idx) 3 (As.reverse ++ .ref oo :: rest) h = some (r', .ref oo :: As, rest) := by
  have hdr : (As.reverse ++ Value.ref oo :: rest).drop r'.2.2.2.2.2.2 = .ref oo :: rest := by rw [← hn, ← List.length_reverse]; simp
  have htk : (As.reverse ++ Value.ref oo :: rest).take r'.2.2.2.2.2.2 = As.reverse := by rw [← hn, ← List.length_reverse]; simp
  show dinvV (yEn C) 100 3 idx (As.reverse ++ .ref oo :: rest) h = _
  have hm' : eML (yEn C) 100 idx = some j := hm
  have hj' : eMT (yEn C) j = some r' := hj
  unfold dinvV
  simp only [hm', hj', hdr, htk, List.reverse_reverse]
  rw [if_pos ⟨trivial, hq.1, hq.2.1, by unfold drec; rw [ho, hq.2.2]; simp, hc, hl⟩]
section LC
variable {sa : Nat → Nat} {TL : List (Nat × Nat × List Int32)} {b a o u t cs ss scr L n : Nat} {xs : Nat → Int32} {Lx : Int} {κ : zS} {σ : rS} {J : Nat → Int64} {RJ : rS → Prop} {lo : dL0} {i : Int32}
theorem rcH_9 (S : lS9 sa TL b a o u Lx t κ σ J cs ss) : ∃ fs, (zH (lB9 sa TL b o u σ J) κ).2 o = some (.inr (16, fs)) := by
  obtain ⟨_, _, _, _, _, ⟨⟨p1, p2, p3⟩, pz⟩, _⟩ := S
  have z := (pz o (Or.inr ⟨Nat.le_refl _, by omega⟩)).1
  refine ⟨rF (ad9 o) σ, ?_⟩
  show (if zT κ o = 0 then (if o = u then some (outC9 J) else (rH (none, fun _ => none) o (ad9 o) σ).2 o) else some (zCell κ o)) = _
  rw [if_pos z, if_neg (by omega)]
  exact if_pos rfl
theorem rI_9 {m : dM} {as : List Value} {Q : Int32 → rS → Prop} (S : lS9 sa TL b a o u Lx t κ σ J cs ss) (h : cI (rD9 sa TL b o u κ σ J) 15 m (.ref o :: as) σ Q) : ∃ (k9 : Nat) (v : Int32) (σ' : rS), drun (dEE sa TL) b k9 15 m 0 (dent (.ref o :: as)) [] (zH (lB9 sa TL b o u σ J) κ) 0 0 = some (some (.int v), zH (lB9 sa TL b o u σ' J) κ, 0, 0) ∧ Q v σ' := by
  obtain ⟨v, σ', ⟨k9, r1⟩, q⟩ := h
  refine ⟨k9, v, σ', ?_, q⟩
  rw [← rD_h9 S σ, ← rD_h9 S σ']
  exact r1
theorem rJ_9 {m : dM} {as : List Value} {Q : Int64 → rS → Prop} (S : lS9 sa TL b a o u Lx t κ σ J cs ss) (h : cJ (rD9 sa TL b o u κ σ J) 15 m (.ref o :: as) σ Q) : ∃ (k9 : Nat) (v : Int64) (σ' : rS), drun (dEE sa TL) b k9 15 m 0 (dent (.ref o :: as)) [] (zH (lB9 sa TL b o u σ J) κ) 0 0 = some (some (.long v), zH (lB9 sa TL b o u σ' J) κ, 0, 0) ∧ Q v σ' := by
  obtain ⟨v, σ', ⟨k9, r1⟩, q⟩ := h
  refine ⟨k9, v, σ', ?_, q⟩
  rw [← rD_h9 S σ, ← rD_h9 S σ']
  exact r1
theorem rV_9 {m : dM} {as : List Value} {Q : rS → Prop} (S : lS9 sa TL b a o u Lx t κ σ J cs ss) (h : cV (rD9 sa TL b o u κ σ J) 15 m (.ref o :: as) σ Q) : ∃ (k9 : Nat) (σ' : rS), drun (dEE sa TL) b k9 15 m 0 (dent (.ref o :: as)) [] (zH (lB9 sa TL b o u σ J) κ) 0 0 = some (none, zH (lB9 sa TL b o u σ' J) κ, 0, 0) ∧ Q σ' := by
  obtain ⟨σ', ⟨k9, r1⟩, q⟩ := h
  refine ⟨k9, σ', ?_, q⟩
  rw [← rD_h9 S σ, ← rD_h9 S σ']
  exact r1
/-- what comes behind a case -/
def nx9 (sa : Nat → Nat) (TL : List (Nat × Nat × List Int32)) (b a o u scr L : Nat) (xs : Nat → Int32) (RJ : rS → Prop) (Lx : Int) (t n : Nat) (i : Int32) : Prop := ∀ (lo : dL0) (κ : zS) (σ : rS) (J : Nat → Int64) (cs ss : Nat), lO9 scr a o u i lo → lS9 sa TL b a o u (Lx + 20) (t + 1) κ σ J cs ss → RJ σ → RC8 κ a σ → dV9 (dEE sa TL) dXX dKK b scr L xs lawP9 n 16 rLaw 1023 lo [] (zH (lB9 sa TL b o u σ J) κ) cs ss
theorem oU_9 (S : lS9 sa TL b a o u Lx t κ σ J cs ss) : b ≤ u ∧ zT κ u = 0 ∧ u < zn κ ∧ (yh (lB9 sa TL b o u σ J)).2 u = some (outC9 J) := by
  obtain ⟨_, _, _, _, _, ⟨⟨p1, p2, p3⟩, pz⟩, _⟩ := S
  exact ⟨p2, (pz u (Or.inl rfl)).1, (pz u (Or.inl rfl)).2, if_pos rfl⟩
theorem li_9 {m : dM} {as st : List Value} {idx j pc pc' : Nat} {Q : rS → Int32 → rS → Prop} (S : lS9 sa TL b a o u Lx t κ σ J cs ss) (hR : RJ σ) (hd : decode code pc = .ok (.invokevirtual idx, 3)) (hm : (tML 100 ++ tMX 100).lookup idx = some j) (hj : MTs[j]? = some m) (hq : m.2.2.2.2.1 = false ∧ m.1.name ≠ "<init>" ∧ m.2.2.2.2.2.1 = 16) (hn : as.length = m.2.2.2.2.2.2) (RA : ∀ (C : rCx) (σ : rS), cOK C → RJ σ → cI C 15 m (.ref (co C) :: as) σ (Q σ)) (hst : as.reverse ++ [.ref o] = st) (hl : (lg_sl (.ref o :: as)).length ≤ m.2.2.1) (hpc : pc + 3 = pc') (K : ∀ v σ', Q σ v σ' → dV9 (dEE sa TL) dXX dKK b scr L xs lawP9 n 16 rLaw pc' lo [.int v] (zH (lB9 sa TL b o u σ' J) κ) (cs + 0) (ss + 0)) : dV9 (dEE sa TL) dXX dKK b scr L xs lawP9 (n + 1) 16 rLaw pc lo st (zH (lB9 sa TL b o u σ J) κ) cs ss := by
  subst hst
  obtain ⟨k9, v2, σ2, r2, q⟩ := rI_9 S (RA _ σ (rD_c9 S) hR)
  obtain ⟨fs, ho⟩ := rcH_9 S
  exact lw_c9 (d := 15) hd rfl rfl rfl rfl (inv_r9 (C := lB9 sa TL b o u σ J) (As := as) (rest := []) (j := j) hm hj hq hn hl (by decide) ho) r2 hpc rfl (K v2 σ2 q)
theorem lj_9 {m : dM} {as st : List Value} {idx j pc pc' : Nat} {Q : rS → Int64 → rS → Prop} (S : lS9 sa TL b a o u Lx t κ σ J cs ss) (hR : RJ σ) (hd : decode code pc = .ok (.invokevirtual idx, 3)) (hm : (tML 100 ++ tMX 100).lookup idx = some j) (hj : MTs[j]? = some m) (hq : m.2.2.2.2.1 = false ∧ m.1.name ≠ "<init>" ∧ m.2.2.2.2.2.1 = 16) (hn : as.length = m.2.2.2.2.2.2) (RA : ∀ (C : rCx) (σ : rS), cOK C → RJ σ → cJ C 15 m (.ref (co C) :: as) σ (Q σ)) (hst : as.reverse ++ [.ref o] = st) (hl : (lg_sl (.ref o :: as)).length ≤ m.2.2.1) (hpc : pc + 3 = pc') (K : ∀ v σ', Q σ v σ' → dV9 (dEE sa TL) dXX dKK b scr L xs lawP9 n 16 rLaw pc' lo [.long v] (zH (lB9 sa TL b o u σ' J) κ) (cs + 0) (ss + 0)) : dV9 (dEE sa TL) dXX dKK b scr L xs lawP9 (n + 1) 16 rLaw pc lo st (zH (lB9 sa TL b o u σ J) κ) cs ss := by
  subst hst
  obtain ⟨k9, v2, σ2, r2, q⟩ := rJ_9 S (RA _ σ (rD_c9 S) hR)
  obtain ⟨fs, ho⟩ := rcH_9 S
  exact lw_c9 (d := 15) hd rfl rfl rfl rfl (inv_r9 (C := lB9 sa TL b o u σ J) (As := as) (rest := []) (j := j) hm hj hq hn hl (by decide) ho) r2 hpc rfl (K v2 σ2 q)
theorem lv_9 {m : dM} {as st : List Value} {idx j pc pc' : Nat} {Q : rS → rS → Prop} (S : lS9 sa TL b a o u Lx t κ σ J cs ss) (hR : RJ σ) (hd : decode code pc = .ok (.invokevirtual idx, 3)) (hm : (tML 100 ++ tMX 100).lookup idx = some j) (hj : MTs[j]? = some m) (hq : m.2.2.2.2.1 = false ∧ m.1.name ≠ "<init>" ∧ m.2.2.2.2.2.1 = 16) (hn : as.length = m.2.2.2.2.2.2) (RA : ∀ (C : rCx) (σ : rS), cOK C → RJ σ → cV C 15 m (.ref (co C) :: as) σ (Q σ)) (hst : as.reverse ++ [.ref o] = st) (hl : (lg_sl (.ref o :: as)).length ≤ m.2.2.1) (hpc : pc + 3 = pc') (K : ∀ σ', Q σ σ' → dV9 (dEE sa TL) dXX dKK b scr L xs lawP9 n 16 rLaw pc' lo [] (zH (lB9 sa TL b o u σ' J) κ) (cs + 0) (ss + 0)) : dV9 (dEE sa TL) dXX dKK b scr L xs lawP9 (n + 1) 16 rLaw pc lo st (zH (lB9 sa TL b o u σ J) κ) cs ss := by
  subst hst
  obtain ⟨k9, σ2, r2, q⟩ := rV_9 S (RA _ σ (rD_c9 S) hR)
  obtain ⟨fs, ho⟩ := rcH_9 S
  exact lw_c9 (d := 15) hd rfl rfl rfl rfl (inv_r9 (C := lB9 sa TL b o u σ J) (As := as) (rest := []) (j := j) hm hj hq hn hl (by decide) ho) r2 hpc rfl (K σ2 q)
theorem ls_feed9 (RA : ∀ (y0 : Int32) (y1 : Int32) (y2 : Int32) (y3 : Int32) (y4 : Int32), rcD9 RJ (yX13_feed, cX13_feed, 8, (some .int), false, 16, 5) y0 y1 y2 y3 y4) (hl : lO9 scr a o u i lo) (hi : 0 ≤ i.toInt ∧ i.toInt + 6 ≤ L ∧ L ≤ 3072) (hf : Lx ≤ 10220) (S : lS9 sa TL b a o u Lx t κ σ J cs ss) (hR : RJ σ) (ht : RC8 κ a σ) (N : nx9 sa TL b a o u scr L xs RJ Lx t n i) : dV9 (dEE sa TL) dXX dKK b scr L xs lawP9 (n + 58) 16 rLaw 152 lo [] (zH (lB9 sa TL b o u σ J) κ) cs ss := by
  obtain ⟨W, T, ⟨ρ, I⟩, _⟩ := id S
  have oU := oU_9 S
  have h60 : σ.1 2 ≤ 60000 := by
    have t60 : (60000 : Int32).toInt = 60000 := rfl
    have z : σ.1 2 = zI κ taLength (zR κ chTape a) := (mk_e9 ht.1.1).1
    have y := I.2.2.2.2.2.2.1
    rw [lei, t60, z]
    omega
  refine lwP_9 (pc' := 153) dlw_152 rfl (lda_9 (k := 1) hl.2.1) ?_
  refine la_9 (jj := 1) (j := 1) (pc6 := 159) dlw_153 dlw_154 dlw_156 dlw_157 dlw_158 ⟨rfl, rfl, rfl, rfl, rfl⟩ zi_1 hl ⟨by decide, hi.1, hi.2.1, hi.2.2⟩ ?_
  refine la_9 (jj := 2) (j := 2) (pc6 := 165) dlw_159 dlw_160 dlw_162 dlw_163 dlw_164 ⟨rfl, rfl, rfl, rfl, rfl⟩ zi_2 hl ⟨by decide, hi.1, hi.2.1, hi.2.2⟩ ?_
  refine la_9 (jj := 3) (j := 3) (pc6 := 171) dlw_165 dlw_166 dlw_168 dlw_169 dlw_170 ⟨rfl, rfl, rfl, rfl, rfl⟩ zi_3 hl ⟨by decide, hi.1, hi.2.1, hi.2.2⟩ ?_
  refine la_9 (jj := 4) (j := 4) (pc6 := 177) dlw_171 dlw_172 dlw_174 dlw_175 dlw_176 ⟨rfl, rfl, rfl, rfl, rfl⟩ zi_4 hl ⟨by decide, hi.1, hi.2.1, hi.2.2⟩ ?_
  refine la_9 (jj := 5) (j := 5) (pc6 := 183) dlw_177 dlw_178 dlw_180 dlw_181 dlw_182 ⟨rfl, rfl, rfl, rfl, rfl⟩ zi_5 hl ⟨by decide, hi.1, hi.2.1, hi.2.2⟩ ?_
  refine lwP_9 (pc' := 184) dlw_183 rfl (lda_9 (k := 3) hl.2.2.2.1) ?_
  obtain ⟨n8, z8, v9, r8, rv, w8, k8⟩ := lc_9 (Lx' := Lx + 20) S (wL_feed9 (L := Lx) W T I hf oU.1 oU.2.1 oU.2.2.1 oU.2.2.2) (fun κ' h => ⟨h.1, h.2.1⟩)
  refine lw_k9 (d := 15) (y := (kL_feed, _, [])) dlw_184 rfl rfl rfl rfl rfl r8 w8 (show 184 + 3 = 187 from rfl) (st' := [.int v9]) (by rw [rv]; rfl) (fun w hw => ?_)
  obtain ⟨κ1, J2, P2, e8, S2⟩ := k8 w hw
  obtain ⟨κ2, hκ2⟩ : ∃ κ2, κ2 = stn9 κ1 w := ⟨_, rfl⟩
  have P2 : (∃ ρ', chI9 ρ' κ1 a (Lx + 20)) ∧ (∃ F, zF F κ κ1) ∧ ((oC9 κ2 a = fdO9 (oC9 κ a) (by9 (xs (i + 1).toNatClampNeg) (xs (i + 2).toNatClampNeg) (xs (i + 3).toNatClampNeg) (xs (i + 4).toNatClampNeg) (xs (i + 5).toNatClampNeg)) ∧ kC7 κ κ2 a) ∧ kA8 κ κ2 a) := by rw [hκ2]; exact P2
  rw [e8, ← hκ2]
  rw [← hκ2] at S2
  refine lwP_9 (pc' := 189) (lo' := dset1 lo 5 (.int v9)) (st' := []) dlw_187 rfl rfl ?_
  have hl1 : lO9 scr a o u i (dset1 lo 5 (.int v9)) := lO_19 (by decide) hl (fun w9 z9 => by rw [hl.2.2.2.2] at z9; cases z9; rfl)
  refine lwP_9 (pc' := 190) dlw_189 rfl (lda_9 (k := 2) hl1.2.2.1) ?_
  refine la_9 (jj := 1) (j := 1) (pc6 := 196) dlw_190 dlw_191 dlw_193 dlw_194 dlw_195 ⟨rfl, rfl, rfl, rfl, rfl⟩ zi_1 hl1 ⟨by decide, hi.1, hi.2.1, hi.2.2⟩ ?_
  refine la_9 (jj := 2) (j := 2) (pc6 := 202) dlw_196 dlw_197 dlw_199 dlw_200 dlw_201 ⟨rfl, rfl, rfl, rfl, rfl⟩ zi_2 hl1 ⟨by decide, hi.1, hi.2.1, hi.2.2⟩ ?_
  refine la_9 (jj := 3) (j := 3) (pc6 := 208) dlw_202 dlw_203 dlw_205 dlw_206 dlw_207 ⟨rfl, rfl, rfl, rfl, rfl⟩ zi_3 hl1 ⟨by decide, hi.1, hi.2.1, hi.2.2⟩ ?_
  refine la_9 (jj := 4) (j := 4) (pc6 := 214) dlw_208 dlw_209 dlw_211 dlw_212 dlw_213 ⟨rfl, rfl, rfl, rfl, rfl⟩ zi_4 hl1 ⟨by decide, hi.1, hi.2.1, hi.2.2⟩ ?_
  refine la_9 (jj := 5) (j := 5) (pc6 := 220) dlw_214 dlw_215 dlw_217 dlw_218 dlw_219 ⟨rfl, rfl, rfl, rfl, rfl⟩ zi_5 hl1 ⟨by decide, hi.1, hi.2.1, hi.2.2⟩ ?_
  refine li_9 (RJ := fun σ => RJ σ ∧ σ.1 2 ≤ 60000) (m := (yX13_feed, cX13_feed, 8, (some .int), false, 16, 5)) (as := [.int (xs (i + 1).toNatClampNeg), .int (xs (i + 2).toNatClampNeg), .int (xs (i + 3).toNatClampNeg), .int (xs (i + 4).toNatClampNeg), .int (xs (i + 5).toNatClampNeg)]) (Q := fun σ _ σ' => RJ σ' ∧ ((oR9 σ' = fdO9 (oR9 σ) (by9 (xs (i + 1).toNatClampNeg) (xs (i + 2).toNatClampNeg) (xs (i + 3).toNatClampNeg) (xs (i + 4).toNatClampNeg) (xs (i + 5).toNatClampNeg)) ∧ kR7 σ σ') ∧ kS8 σ σ')) (j := 235) (pc' := 223) S2 ⟨hR, h60⟩ dlw_220 (by decide +kernel) rfl ⟨rfl, by decide, rfl⟩ rfl (fun C σ hC hJ => RA _ _ _ _ _ C σ hC hJ.1 hJ.2) rfl (Nat.le_of_ble_eq_true rfl) rfl (fun v2 σ2 q9 => ?_)
  have q1 := q9.1
  have q2 := q9.2
  refine lwP_9 (pc' := 225) (lo' := dset1 (dset1 lo 5 (.int v9)) 6 (.int v2)) (st' := []) dlw_223 rfl rfl ?_
  refine lwP_9 (pc' := 1023) (lo' := dset1 (dset1 lo 5 (.int v9)) 6 (.int v2)) (st' := []) dlw_225 rfl rfl ?_
  exact N _ _ _ _ _ _ (lO_19 (by decide) hl1 (fun w9 z9 => by rw [hl1.2.2.2.2] at z9; cases z9; rfl)) (lS_m9 (Int.le_refl _) (Nat.le_refl _) (lr_9 (σ' := σ2) S2)) q1 ⟨rk_7 q2.1.2 ht.1 P2.2.2.1.2 (q2.1.1.trans ((congrArg (fun w9 => fdO9 w9 _) ht.1.1).trans P2.2.2.1.1.symm)), ra_8 q2.1.2 q2.2 ht.2 P2.2.2.1.2 P2.2.2.2⟩
theorem ls_end9 (RA : ∀ (y0 : Int32), rcE9 RJ (yX13_end, cX13_end, 2, none, false, 16, 1) y0) (hl : lO9 scr a o u i lo) (hi : 0 ≤ i.toInt ∧ i.toInt + 6 ≤ L ∧ L ≤ 3072) (S : lS9 sa TL b a o u Lx t κ σ J cs ss) (hR : RJ σ) (ht : RC8 κ a σ) (N : nx9 sa TL b a o u scr L xs RJ Lx t n i) : dV9 (dEE sa TL) dXX dKK b scr L xs lawP9 (n + 16) 16 rLaw 228 lo [] (zH (lB9 sa TL b o u σ J) κ) cs ss := by
  obtain ⟨W, T, ⟨ρ, I⟩, _⟩ := id S
  refine lwP_9 (pc' := 229) dlw_228 rfl (lda_9 (k := 1) hl.2.1) ?_
  refine la_9 (jj := 1) (j := 1) (pc6 := 235) dlw_229 dlw_230 dlw_232 dlw_233 dlw_234 ⟨rfl, rfl, rfl, rfl, rfl⟩ zi_1 hl ⟨by decide, hi.1, hi.2.1, hi.2.2⟩ ?_
  obtain ⟨n8, z8, v9, r8, rv, w8, k8⟩ := lc_9 (Lx' := Lx) S (wL_end9 (L := Lx) W T I) (fun κ' h => ⟨h.1, h.2.1⟩)
  refine lw_k9 (d := 15) (y := (kL_end, _, [])) dlw_235 rfl rfl rfl rfl rfl r8 w8 (show 235 + 3 = 238 from rfl) (st' := [.int v9]) (by rw [rv]; rfl) (fun w hw => ?_)
  obtain ⟨κ1, J2, P2, e8, S2⟩ := k8 w hw
  obtain ⟨κ2, hκ2⟩ : ∃ κ2, κ2 = stn9 κ1 w := ⟨_, rfl⟩
  have P2 : (∃ ρ', chI9 ρ' κ1 a Lx) ∧ (∃ F, zF F κ κ1) ∧ ((oC9 κ2 a = trO9 (oC9 κ a) (xs (i + 1).toNatClampNeg) ∧ kC7 κ κ2 a) ∧ kA8 κ κ2 a) := by rw [hκ2]; exact P2
  rw [e8, ← hκ2]
  rw [← hκ2] at S2
  refine lwP_9 (pc' := 240) (lo' := dset1 lo 5 (.int v9)) (st' := []) dlw_238 rfl rfl ?_
  have hl1 : lO9 scr a o u i (dset1 lo 5 (.int v9)) := lO_19 (by decide) hl (fun w9 z9 => by rw [hl.2.2.2.2] at z9; cases z9; rfl)
  refine lwP_9 (pc' := 241) dlw_240 rfl (lda_9 (k := 2) hl1.2.2.1) ?_
  refine la_9 (jj := 1) (j := 1) (pc6 := 247) dlw_241 dlw_242 dlw_244 dlw_245 dlw_246 ⟨rfl, rfl, rfl, rfl, rfl⟩ zi_1 hl1 ⟨by decide, hi.1, hi.2.1, hi.2.2⟩ ?_
  refine lv_9 (m := (yX13_end, cX13_end, 2, none, false, 16, 1)) (as := [.int (xs (i + 1).toNatClampNeg)]) (Q := fun σ σ' => RJ σ' ∧ ((oR9 σ' = trO9 (oR9 σ) (xs (i + 1).toNatClampNeg) ∧ kR7 σ σ') ∧ kS8 σ σ')) (j := 236) (pc' := 250) S2 hR dlw_247 (by decide +kernel) rfl ⟨rfl, by decide, rfl⟩ rfl (RA _) rfl (Nat.le_of_ble_eq_true rfl) rfl (fun σ2 q9 => ?_)
  have q1 := q9.1
  have q2 := q9.2
  refine lwP_9 (pc' := 1023) (lo' := dset1 lo 5 (.int v9)) (st' := []) dlw_250 rfl rfl ?_
  exact N _ _ _ _ _ _ (hl1) (lS_m9 (by omega) (Nat.le_refl _) (lr_9 (σ' := σ2) S2)) q1 ⟨rk_7 q2.1.2 ht.1 P2.2.2.1.2 (q2.1.1.trans ((congrArg (fun w9 => trO9 w9 _) ht.1.1).trans P2.2.2.1.1.symm)), ra_8 q2.1.2 q2.2 ht.2 P2.2.2.1.2 P2.2.2.2⟩
theorem ls_count9 (RA : ∀ (y0 : Int32), rcI9 RJ (yX13_count, cX13_count, 5, (some .int), false, 16, 1) [.int y0]) (hl : lO9 scr a o u i lo) (hi : 0 ≤ i.toInt ∧ i.toInt + 6 ≤ L ∧ L ≤ 3072) (S : lS9 sa TL b a o u Lx t κ σ J cs ss) (hR : RJ σ) (ht : RC8 κ a σ) (N : nx9 sa TL b a o u scr L xs RJ Lx t n i) : dV9 (dEE sa TL) dXX dKK b scr L xs lawP9 (n + 18) 16 rLaw 279 lo [] (zH (lB9 sa TL b o u σ J) κ) cs ss := by
  obtain ⟨W, T, ⟨ρ, I⟩, _⟩ := id S
  have oU := oU_9 S
  refine lwP_9 (pc' := 280) dlw_279 rfl (lda_9 (k := 1) hl.2.1) ?_
  refine la_9 (jj := 1) (j := 1) (pc6 := 286) dlw_280 dlw_281 dlw_283 dlw_284 dlw_285 ⟨rfl, rfl, rfl, rfl, rfl⟩ zi_1 hl ⟨by decide, hi.1, hi.2.1, hi.2.2⟩ ?_
  refine lwP_9 (pc' := 287) dlw_286 rfl (lda_9 (k := 3) hl.2.2.2.1) ?_
  obtain ⟨n8, z8, v9, r8, rv, w8, k8⟩ := lc_9 (Lx' := Lx) S (wL_count9 (L := Lx) W T I oU.1 oU.2.1 oU.2.2.1 oU.2.2.2) (fun κ' h => ⟨h.1, h.2.1⟩)
  refine lw_k9 (d := 15) (y := (kL_count, _, [])) dlw_287 rfl rfl rfl rfl rfl r8 w8 (show 287 + 3 = 290 from rfl) (st' := [.int v9]) (by rw [rv]; rfl) (fun w hw => ?_)
  obtain ⟨κ1, J2, P2, e8, S2⟩ := k8 w hw
  obtain ⟨κ2, hκ2⟩ : ∃ κ2, κ2 = stn9 κ1 w := ⟨_, rfl⟩
  have P2 : (∃ ρ', chI9 ρ' κ1 a Lx) ∧ (∃ F, zF F κ κ1) ∧ pC8 κ κ2 a := by rw [hκ2]; exact P2
  rw [e8, ← hκ2]
  rw [← hκ2] at S2
  refine lwP_9 (pc' := 292) (lo' := dset1 lo 5 (.int v9)) (st' := []) dlw_290 rfl rfl ?_
  have hl1 : lO9 scr a o u i (dset1 lo 5 (.int v9)) := lO_19 (by decide) hl (fun w9 z9 => by rw [hl.2.2.2.2] at z9; cases z9; rfl)
  refine lwP_9 (pc' := 293) dlw_292 rfl (lda_9 (k := 2) hl1.2.2.1) ?_
  refine la_9 (jj := 1) (j := 1) (pc6 := 299) dlw_293 dlw_294 dlw_296 dlw_297 dlw_298 ⟨rfl, rfl, rfl, rfl, rfl⟩ zi_1 hl1 ⟨by decide, hi.1, hi.2.1, hi.2.2⟩ ?_
  refine li_9 (m := (yX13_count, cX13_count, 5, (some .int), false, 16, 1)) (as := [.int _]) (Q := fun σ _ σ' => RJ σ' ∧ pR8 σ σ') (j := 333) (pc' := 302) S2 hR dlw_299 (by decide +kernel) rfl ⟨rfl, by decide, rfl⟩ rfl (RA _) rfl (Nat.le_of_ble_eq_true rfl) rfl (fun v2 σ2 q9 => ?_)
  have q1 := q9.1
  have q2 := q9.2
  refine lwP_9 (pc' := 304) (lo' := dset1 (dset1 lo 5 (.int v9)) 6 (.int v2)) (st' := []) dlw_302 rfl rfl ?_
  refine lwP_9 (pc' := 1023) (lo' := dset1 (dset1 lo 5 (.int v9)) 6 (.int v2)) (st' := []) dlw_304 rfl rfl ?_
  exact N _ _ _ _ _ _ (lO_19 (by decide) hl1 (fun w9 z9 => by rw [hl1.2.2.2.2] at z9; cases z9; rfl)) (lS_m9 (by omega) (Nat.le_refl _) (lr_9 (σ' := σ2) S2)) q1 (re_8 q2 ht P2.2.2)
theorem ls_explore9 (RA : ∀ (y0 : Int32), rcX9 RJ (yX13_explore, cX13_explore, 4, (some .int), false, 16, 1) y0) (hl : lO9 scr a o u i lo) (hi : 0 ≤ i.toInt ∧ i.toInt + 6 ≤ L ∧ L ≤ 3072) (S : lS9 sa TL b a o u Lx t κ σ J cs ss) (hR : RJ σ) (ht : RC8 κ a σ) (N : nx9 sa TL b a o u scr L xs RJ Lx t n i) : dV9 (dEE sa TL) dXX dKK b scr L xs lawP9 (n + 18) 16 rLaw 307 lo [] (zH (lB9 sa TL b o u σ J) κ) cs ss := by
  obtain ⟨W, T, ⟨ρ, I⟩, _⟩ := id S
  have oU := oU_9 S
  refine lwP_9 (pc' := 308) dlw_307 rfl (lda_9 (k := 1) hl.2.1) ?_
  refine la_9 (jj := 1) (j := 1) (pc6 := 314) dlw_308 dlw_309 dlw_311 dlw_312 dlw_313 ⟨rfl, rfl, rfl, rfl, rfl⟩ zi_1 hl ⟨by decide, hi.1, hi.2.1, hi.2.2⟩ ?_
  refine lwP_9 (pc' := 315) dlw_314 rfl (lda_9 (k := 3) hl.2.2.2.1) ?_
  obtain ⟨n8, z8, v9, r8, rv, w8, k8⟩ := lc_9 (Lx' := Lx) S (wL_explore9 (L := Lx) W T I σ ht oU.1 oU.2.1 oU.2.2.1 oU.2.2.2) (fun κ' h => ⟨h.1, h.2.1⟩)
  refine lw_k9 (d := 15) (y := (kL_explore, _, [])) dlw_315 rfl rfl rfl rfl rfl r8 w8 (show 315 + 3 = 318 from rfl) (st' := [.int v9]) (by rw [rv]; rfl) (fun w hw => ?_)
  obtain ⟨κ1, J2, P2, e8, S2⟩ := k8 w hw
  obtain ⟨κ2, hκ2⟩ : ∃ κ2, κ2 = stn9 κ1 w := ⟨_, rfl⟩
  have P2 : (∃ ρ', chI9 ρ' κ1 a Lx) ∧ (∃ F, zF F κ κ1) ∧ XC8 κ a σ (xs (i + 1).toNatClampNeg) κ2 := by rw [hκ2]; exact P2
  rw [e8, ← hκ2]
  rw [← hκ2] at S2
  refine lwP_9 (pc' := 320) (lo' := dset1 lo 5 (.int v9)) (st' := []) dlw_318 rfl rfl ?_
  have hl1 : lO9 scr a o u i (dset1 lo 5 (.int v9)) := lO_19 (by decide) hl (fun w9 z9 => by rw [hl.2.2.2.2] at z9; cases z9; rfl)
  refine lwP_9 (pc' := 321) dlw_320 rfl (lda_9 (k := 2) hl1.2.2.1) ?_
  refine la_9 (jj := 1) (j := 1) (pc6 := 327) dlw_321 dlw_322 dlw_324 dlw_325 dlw_326 ⟨rfl, rfl, rfl, rfl, rfl⟩ zi_1 hl1 ⟨by decide, hi.1, hi.2.1, hi.2.2⟩ ?_
  refine li_9 (m := (yX13_explore, cX13_explore, 4, (some .int), false, 16, 1)) (as := [.int (xs (i + 1).toNatClampNeg)]) (Q := fun σ v σ' => RJ σ' ∧ pR7 σ σ' ∧ XS22 (xs (i + 1).toNatClampNeg) σ σ' v) (j := 332) (pc' := 330) S2 hR dlw_327 (by decide +kernel) rfl ⟨rfl, by decide, rfl⟩ rfl (RA _) rfl (Nat.le_of_ble_eq_true rfl) rfl (fun v2 σ2 q9 => ?_)
  have q1 := q9.1
  have q2 := q9.2
  refine lwP_9 (pc' := 332) (lo' := dset1 (dset1 lo 5 (.int v9)) 6 (.int v2)) (st' := []) dlw_330 rfl rfl ?_
  refine lwP_9 (pc' := 1023) (lo' := dset1 (dset1 lo 5 (.int v9)) 6 (.int v2)) (st' := []) dlw_332 rfl rfl ?_
  exact N _ _ _ _ _ _ (lO_19 (by decide) hl1 (fun w9 z9 => by rw [hl1.2.2.2.2] at z9; cases z9; rfl)) (lS_m9 (by omega) (Nat.le_refl _) (lr_9 (σ' := σ2) S2)) q1 (rx_8 ht q2.1 q2.2 P2.2.2)
theorem ls_state9 (RA : ∀ (y0 : Int32) (y1 : Int32), rcI9 RJ (yX13_state, cX13_state, 3, (some .int), false, 16, 2) [.int y0, .int y1]) (hl : lO9 scr a o u i lo) (hi : 0 ≤ i.toInt ∧ i.toInt + 6 ≤ L ∧ L ≤ 3072) (S : lS9 sa TL b a o u Lx t κ σ J cs ss) (hR : RJ σ) (ht : RC8 κ a σ) (N : nx9 sa TL b a o u scr L xs RJ Lx t n i) : dV9 (dEE sa TL) dXX dKK b scr L xs lawP9 (n + 28) 16 rLaw 335 lo [] (zH (lB9 sa TL b o u σ J) κ) cs ss := by
  obtain ⟨W, T, ⟨ρ, I⟩, _⟩ := id S
  have oU := oU_9 S
  refine lwP_9 (pc' := 336) dlw_335 rfl (lda_9 (k := 1) hl.2.1) ?_
  refine la_9 (jj := 1) (j := 1) (pc6 := 342) dlw_336 dlw_337 dlw_339 dlw_340 dlw_341 ⟨rfl, rfl, rfl, rfl, rfl⟩ zi_1 hl ⟨by decide, hi.1, hi.2.1, hi.2.2⟩ ?_
  refine la_9 (jj := 2) (j := 2) (pc6 := 348) dlw_342 dlw_343 dlw_345 dlw_346 dlw_347 ⟨rfl, rfl, rfl, rfl, rfl⟩ zi_2 hl ⟨by decide, hi.1, hi.2.1, hi.2.2⟩ ?_
  refine lwP_9 (pc' := 349) dlw_348 rfl (lda_9 (k := 3) hl.2.2.2.1) ?_
  obtain ⟨n8, z8, v9, r8, rv, w8, k8⟩ := lc_9 (Lx' := Lx) S (wL_state9 (L := Lx) W T I oU.1 oU.2.1 oU.2.2.1 oU.2.2.2) (fun κ' h => ⟨h.1, h.2.1⟩)
  refine lw_k9 (d := 15) (y := (kL_state, _, [])) dlw_349 rfl rfl rfl rfl rfl r8 w8 (show 349 + 3 = 352 from rfl) (st' := [.int v9]) (by rw [rv]; rfl) (fun w hw => ?_)
  obtain ⟨κ1, J2, P2, e8, S2⟩ := k8 w hw
  obtain ⟨κ2, hκ2⟩ : ∃ κ2, κ2 = stn9 κ1 w := ⟨_, rfl⟩
  have P2 : (∃ ρ', chI9 ρ' κ1 a Lx) ∧ (∃ F, zF F κ κ1) ∧ pC8 κ κ2 a := by rw [hκ2]; exact P2
  rw [e8, ← hκ2]
  rw [← hκ2] at S2
  refine lwP_9 (pc' := 354) (lo' := dset1 lo 5 (.int v9)) (st' := []) dlw_352 rfl rfl ?_
  have hl1 : lO9 scr a o u i (dset1 lo 5 (.int v9)) := lO_19 (by decide) hl (fun w9 z9 => by rw [hl.2.2.2.2] at z9; cases z9; rfl)
  refine lwP_9 (pc' := 355) dlw_354 rfl (lda_9 (k := 2) hl1.2.2.1) ?_
  refine la_9 (jj := 1) (j := 1) (pc6 := 361) dlw_355 dlw_356 dlw_358 dlw_359 dlw_360 ⟨rfl, rfl, rfl, rfl, rfl⟩ zi_1 hl1 ⟨by decide, hi.1, hi.2.1, hi.2.2⟩ ?_
  refine la_9 (jj := 2) (j := 2) (pc6 := 367) dlw_361 dlw_362 dlw_364 dlw_365 dlw_366 ⟨rfl, rfl, rfl, rfl, rfl⟩ zi_2 hl1 ⟨by decide, hi.1, hi.2.1, hi.2.2⟩ ?_
  refine li_9 (m := (yX13_state, cX13_state, 3, (some .int), false, 16, 2)) (as := [.int _, .int _]) (Q := fun σ _ σ' => RJ σ' ∧ pR8 σ σ') (j := 336) (pc' := 370) S2 hR dlw_367 (by decide +kernel) rfl ⟨rfl, by decide, rfl⟩ rfl (RA _ _) rfl (Nat.le_of_ble_eq_true rfl) rfl (fun v2 σ2 q9 => ?_)
  have q1 := q9.1
  have q2 := q9.2
  refine lwP_9 (pc' := 372) (lo' := dset1 (dset1 lo 5 (.int v9)) 6 (.int v2)) (st' := []) dlw_370 rfl rfl ?_
  refine lwP_9 (pc' := 1023) (lo' := dset1 (dset1 lo 5 (.int v9)) 6 (.int v2)) (st' := []) dlw_372 rfl rfl ?_
  exact N _ _ _ _ _ _ (lO_19 (by decide) hl1 (fun w9 z9 => by rw [hl1.2.2.2.2] at z9; cases z9; rfl)) (lS_m9 (by omega) (Nat.le_refl _) (lr_9 (σ' := σ2) S2)) q1 (re_8 q2 ht P2.2.2)
theorem ls_value9 (RA : ∀ (y0 : Int32) (y1 : Int32) (y2 : Int32), rcI9 RJ (yX13_value, cX13_value, 5, (some .int), false, 16, 3) [.int y0, .int y1, .int y2]) (hl : lO9 scr a o u i lo) (hi : 0 ≤ i.toInt ∧ i.toInt + 6 ≤ L ∧ L ≤ 3072) (S : lS9 sa TL b a o u Lx t κ σ J cs ss) (hR : RJ σ) (ht : RC8 κ a σ) (N : nx9 sa TL b a o u scr L xs RJ Lx t n i) : dV9 (dEE sa TL) dXX dKK b scr L xs lawP9 (n + 38) 16 rLaw 375 lo [] (zH (lB9 sa TL b o u σ J) κ) cs ss := by
  obtain ⟨W, T, ⟨ρ, I⟩, _⟩ := id S
  have oU := oU_9 S
  refine lwP_9 (pc' := 376) dlw_375 rfl (lda_9 (k := 1) hl.2.1) ?_
  refine la_9 (jj := 1) (j := 1) (pc6 := 382) dlw_376 dlw_377 dlw_379 dlw_380 dlw_381 ⟨rfl, rfl, rfl, rfl, rfl⟩ zi_1 hl ⟨by decide, hi.1, hi.2.1, hi.2.2⟩ ?_
  refine la_9 (jj := 2) (j := 2) (pc6 := 388) dlw_382 dlw_383 dlw_385 dlw_386 dlw_387 ⟨rfl, rfl, rfl, rfl, rfl⟩ zi_2 hl ⟨by decide, hi.1, hi.2.1, hi.2.2⟩ ?_
  refine la_9 (jj := 3) (j := 3) (pc6 := 394) dlw_388 dlw_389 dlw_391 dlw_392 dlw_393 ⟨rfl, rfl, rfl, rfl, rfl⟩ zi_3 hl ⟨by decide, hi.1, hi.2.1, hi.2.2⟩ ?_
  refine lwP_9 (pc' := 395) dlw_394 rfl (lda_9 (k := 3) hl.2.2.2.1) ?_
  obtain ⟨n8, z8, v9, r8, rv, w8, k8⟩ := lc_9 (Lx' := Lx) S (wL_value9 (L := Lx) W T I oU.1 oU.2.1 oU.2.2.1 oU.2.2.2) (fun κ' h => ⟨h.1, h.2.1⟩)
  refine lw_k9 (d := 15) (y := (kL_value, _, [])) dlw_395 rfl rfl rfl rfl rfl r8 w8 (show 395 + 3 = 398 from rfl) (st' := [.int v9]) (by rw [rv]; rfl) (fun w hw => ?_)
  obtain ⟨κ1, J2, P2, e8, S2⟩ := k8 w hw
  obtain ⟨κ2, hκ2⟩ : ∃ κ2, κ2 = stn9 κ1 w := ⟨_, rfl⟩
  have P2 : (∃ ρ', chI9 ρ' κ1 a Lx) ∧ (∃ F, zF F κ κ1) ∧ pC8 κ κ2 a := by rw [hκ2]; exact P2
  rw [e8, ← hκ2]
  rw [← hκ2] at S2
  refine lwP_9 (pc' := 400) (lo' := dset1 lo 5 (.int v9)) (st' := []) dlw_398 rfl rfl ?_
  have hl1 : lO9 scr a o u i (dset1 lo 5 (.int v9)) := lO_19 (by decide) hl (fun w9 z9 => by rw [hl.2.2.2.2] at z9; cases z9; rfl)
  refine lwP_9 (pc' := 401) dlw_400 rfl (lda_9 (k := 2) hl1.2.2.1) ?_
  refine la_9 (jj := 1) (j := 1) (pc6 := 407) dlw_401 dlw_402 dlw_404 dlw_405 dlw_406 ⟨rfl, rfl, rfl, rfl, rfl⟩ zi_1 hl1 ⟨by decide, hi.1, hi.2.1, hi.2.2⟩ ?_
  refine la_9 (jj := 2) (j := 2) (pc6 := 413) dlw_407 dlw_408 dlw_410 dlw_411 dlw_412 ⟨rfl, rfl, rfl, rfl, rfl⟩ zi_2 hl1 ⟨by decide, hi.1, hi.2.1, hi.2.2⟩ ?_
  refine la_9 (jj := 3) (j := 3) (pc6 := 419) dlw_413 dlw_414 dlw_416 dlw_417 dlw_418 ⟨rfl, rfl, rfl, rfl, rfl⟩ zi_3 hl1 ⟨by decide, hi.1, hi.2.1, hi.2.2⟩ ?_
  refine li_9 (m := (yX13_value, cX13_value, 5, (some .int), false, 16, 3)) (as := [.int _, .int _, .int _]) (Q := fun σ _ σ' => RJ σ' ∧ pR8 σ σ') (j := 337) (pc' := 422) S2 hR dlw_419 (by decide +kernel) rfl ⟨rfl, by decide, rfl⟩ rfl (RA _ _ _) rfl (Nat.le_of_ble_eq_true rfl) rfl (fun v2 σ2 q9 => ?_)
  have q1 := q9.1
  have q2 := q9.2
  refine lwP_9 (pc' := 424) (lo' := dset1 (dset1 lo 5 (.int v9)) 6 (.int v2)) (st' := []) dlw_422 rfl rfl ?_
  refine lwP_9 (pc' := 1023) (lo' := dset1 (dset1 lo 5 (.int v9)) 6 (.int v2)) (st' := []) dlw_424 rfl rfl ?_
  exact N _ _ _ _ _ _ (lO_19 (by decide) hl1 (fun w9 z9 => by rw [hl1.2.2.2.2] at z9; cases z9; rfl)) (lS_m9 (by omega) (Nat.le_refl _) (lr_9 (σ' := σ2) S2)) q1 (re_8 q2 ht P2.2.2)
theorem ls_next9 (RA : ∀ (y0 : Int32) (y1 : Int32) (y2 : Int32), rcI9 RJ (yX13_next, cX13_next, 5, (some .int), false, 16, 3) [.int y0, .int y1, .int y2]) (hl : lO9 scr a o u i lo) (hi : 0 ≤ i.toInt ∧ i.toInt + 6 ≤ L ∧ L ≤ 3072) (S : lS9 sa TL b a o u Lx t κ σ J cs ss) (hR : RJ σ) (ht : RC8 κ a σ) (N : nx9 sa TL b a o u scr L xs RJ Lx t n i) : dV9 (dEE sa TL) dXX dKK b scr L xs lawP9 (n + 38) 16 rLaw 427 lo [] (zH (lB9 sa TL b o u σ J) κ) cs ss := by
  obtain ⟨W, T, ⟨ρ, I⟩, _⟩ := id S
  have oU := oU_9 S
  refine lwP_9 (pc' := 428) dlw_427 rfl (lda_9 (k := 1) hl.2.1) ?_
  refine la_9 (jj := 1) (j := 1) (pc6 := 434) dlw_428 dlw_429 dlw_431 dlw_432 dlw_433 ⟨rfl, rfl, rfl, rfl, rfl⟩ zi_1 hl ⟨by decide, hi.1, hi.2.1, hi.2.2⟩ ?_
  refine la_9 (jj := 2) (j := 2) (pc6 := 440) dlw_434 dlw_435 dlw_437 dlw_438 dlw_439 ⟨rfl, rfl, rfl, rfl, rfl⟩ zi_2 hl ⟨by decide, hi.1, hi.2.1, hi.2.2⟩ ?_
  refine la_9 (jj := 3) (j := 3) (pc6 := 446) dlw_440 dlw_441 dlw_443 dlw_444 dlw_445 ⟨rfl, rfl, rfl, rfl, rfl⟩ zi_3 hl ⟨by decide, hi.1, hi.2.1, hi.2.2⟩ ?_
  refine lwP_9 (pc' := 447) dlw_446 rfl (lda_9 (k := 3) hl.2.2.2.1) ?_
  obtain ⟨n8, z8, v9, r8, rv, w8, k8⟩ := lc_9 (Lx' := Lx) S (wL_next9 (L := Lx) W T I oU.1 oU.2.1 oU.2.2.1 oU.2.2.2) (fun κ' h => ⟨h.1, h.2.1⟩)
  refine lw_k9 (d := 15) (y := (kL_next, _, [])) dlw_447 rfl rfl rfl rfl rfl r8 w8 (show 447 + 3 = 450 from rfl) (st' := [.int v9]) (by rw [rv]; rfl) (fun w hw => ?_)
  obtain ⟨κ1, J2, P2, e8, S2⟩ := k8 w hw
  obtain ⟨κ2, hκ2⟩ : ∃ κ2, κ2 = stn9 κ1 w := ⟨_, rfl⟩
  have P2 : (∃ ρ', chI9 ρ' κ1 a Lx) ∧ (∃ F, zF F κ κ1) ∧ pC8 κ κ2 a := by rw [hκ2]; exact P2
  rw [e8, ← hκ2]
  rw [← hκ2] at S2
  refine lwP_9 (pc' := 452) (lo' := dset1 lo 5 (.int v9)) (st' := []) dlw_450 rfl rfl ?_
  have hl1 : lO9 scr a o u i (dset1 lo 5 (.int v9)) := lO_19 (by decide) hl (fun w9 z9 => by rw [hl.2.2.2.2] at z9; cases z9; rfl)
  refine lwP_9 (pc' := 453) dlw_452 rfl (lda_9 (k := 2) hl1.2.2.1) ?_
  refine la_9 (jj := 1) (j := 1) (pc6 := 459) dlw_453 dlw_454 dlw_456 dlw_457 dlw_458 ⟨rfl, rfl, rfl, rfl, rfl⟩ zi_1 hl1 ⟨by decide, hi.1, hi.2.1, hi.2.2⟩ ?_
  refine la_9 (jj := 2) (j := 2) (pc6 := 465) dlw_459 dlw_460 dlw_462 dlw_463 dlw_464 ⟨rfl, rfl, rfl, rfl, rfl⟩ zi_2 hl1 ⟨by decide, hi.1, hi.2.1, hi.2.2⟩ ?_
  refine la_9 (jj := 3) (j := 3) (pc6 := 471) dlw_465 dlw_466 dlw_468 dlw_469 dlw_470 ⟨rfl, rfl, rfl, rfl, rfl⟩ zi_3 hl1 ⟨by decide, hi.1, hi.2.1, hi.2.2⟩ ?_
  refine li_9 (m := (yX13_next, cX13_next, 5, (some .int), false, 16, 3)) (as := [.int _, .int _, .int _]) (Q := fun σ _ σ' => RJ σ' ∧ pR8 σ σ') (j := 338) (pc' := 474) S2 hR dlw_471 (by decide +kernel) rfl ⟨rfl, by decide, rfl⟩ rfl (RA _ _ _) rfl (Nat.le_of_ble_eq_true rfl) rfl (fun v2 σ2 q9 => ?_)
  have q1 := q9.1
  have q2 := q9.2
  refine lwP_9 (pc' := 476) (lo' := dset1 (dset1 lo 5 (.int v9)) 6 (.int v2)) (st' := []) dlw_474 rfl rfl ?_
  refine lwP_9 (pc' := 1023) (lo' := dset1 (dset1 lo 5 (.int v9)) 6 (.int v2)) (st' := []) dlw_476 rfl rfl ?_
  exact N _ _ _ _ _ _ (lO_19 (by decide) hl1 (fun w9 z9 => by rw [hl1.2.2.2.2] at z9; cases z9; rfl)) (lS_m9 (by omega) (Nat.le_refl _) (lr_9 (σ' := σ2) S2)) q1 (re_8 q2 ht P2.2.2)
theorem ls_ending9 (RA : ∀ (y0 : Int32) (y1 : Int32), rcI9 RJ (yX13_ending, cX13_ending, 3, (some .int), false, 16, 2) [.int y0, .int y1]) (hl : lO9 scr a o u i lo) (hi : 0 ≤ i.toInt ∧ i.toInt + 6 ≤ L ∧ L ≤ 3072) (S : lS9 sa TL b a o u Lx t κ σ J cs ss) (hR : RJ σ) (ht : RC8 κ a σ) (N : nx9 sa TL b a o u scr L xs RJ Lx t n i) : dV9 (dEE sa TL) dXX dKK b scr L xs lawP9 (n + 28) 16 rLaw 479 lo [] (zH (lB9 sa TL b o u σ J) κ) cs ss := by
  obtain ⟨W, T, ⟨ρ, I⟩, _⟩ := id S
  have oU := oU_9 S
  refine lwP_9 (pc' := 480) dlw_479 rfl (lda_9 (k := 1) hl.2.1) ?_
  refine la_9 (jj := 1) (j := 1) (pc6 := 486) dlw_480 dlw_481 dlw_483 dlw_484 dlw_485 ⟨rfl, rfl, rfl, rfl, rfl⟩ zi_1 hl ⟨by decide, hi.1, hi.2.1, hi.2.2⟩ ?_
  refine la_9 (jj := 2) (j := 2) (pc6 := 492) dlw_486 dlw_487 dlw_489 dlw_490 dlw_491 ⟨rfl, rfl, rfl, rfl, rfl⟩ zi_2 hl ⟨by decide, hi.1, hi.2.1, hi.2.2⟩ ?_
  refine lwP_9 (pc' := 493) dlw_492 rfl (lda_9 (k := 3) hl.2.2.2.1) ?_
  obtain ⟨n8, z8, v9, r8, rv, w8, k8⟩ := lc_9 (Lx' := Lx) S (wL_ending9 (L := Lx) W T I oU.1 oU.2.1 oU.2.2.1 oU.2.2.2) (fun κ' h => ⟨h.1, h.2.1⟩)
  refine lw_k9 (d := 15) (y := (kL_ending, _, [])) dlw_493 rfl rfl rfl rfl rfl r8 w8 (show 493 + 3 = 496 from rfl) (st' := [.int v9]) (by rw [rv]; rfl) (fun w hw => ?_)
  obtain ⟨κ1, J2, P2, e8, S2⟩ := k8 w hw
  obtain ⟨κ2, hκ2⟩ : ∃ κ2, κ2 = stn9 κ1 w := ⟨_, rfl⟩
  have P2 : (∃ ρ', chI9 ρ' κ1 a Lx) ∧ (∃ F, zF F κ κ1) ∧ pC8 κ κ2 a := by rw [hκ2]; exact P2
  rw [e8, ← hκ2]
  rw [← hκ2] at S2
  refine lwP_9 (pc' := 498) (lo' := dset1 lo 5 (.int v9)) (st' := []) dlw_496 rfl rfl ?_
  have hl1 : lO9 scr a o u i (dset1 lo 5 (.int v9)) := lO_19 (by decide) hl (fun w9 z9 => by rw [hl.2.2.2.2] at z9; cases z9; rfl)
  refine lwP_9 (pc' := 499) dlw_498 rfl (lda_9 (k := 2) hl1.2.2.1) ?_
  refine la_9 (jj := 1) (j := 1) (pc6 := 505) dlw_499 dlw_500 dlw_502 dlw_503 dlw_504 ⟨rfl, rfl, rfl, rfl, rfl⟩ zi_1 hl1 ⟨by decide, hi.1, hi.2.1, hi.2.2⟩ ?_
  refine la_9 (jj := 2) (j := 2) (pc6 := 511) dlw_505 dlw_506 dlw_508 dlw_509 dlw_510 ⟨rfl, rfl, rfl, rfl, rfl⟩ zi_2 hl1 ⟨by decide, hi.1, hi.2.1, hi.2.2⟩ ?_
  refine li_9 (m := (yX13_ending, cX13_ending, 3, (some .int), false, 16, 2)) (as := [.int _, .int _]) (Q := fun σ _ σ' => RJ σ' ∧ pR8 σ σ') (j := 339) (pc' := 514) S2 hR dlw_511 (by decide +kernel) rfl ⟨rfl, by decide, rfl⟩ rfl (RA _ _) rfl (Nat.le_of_ble_eq_true rfl) rfl (fun v2 σ2 q9 => ?_)
  have q1 := q9.1
  have q2 := q9.2
  refine lwP_9 (pc' := 516) (lo' := dset1 (dset1 lo 5 (.int v9)) 6 (.int v2)) (st' := []) dlw_514 rfl rfl ?_
  refine lwP_9 (pc' := 1023) (lo' := dset1 (dset1 lo 5 (.int v9)) 6 (.int v2)) (st' := []) dlw_516 rfl rfl ?_
  exact N _ _ _ _ _ _ (lO_19 (by decide) hl1 (fun w9 z9 => by rw [hl1.2.2.2.2] at z9; cases z9; rfl)) (lS_m9 (by omega) (Nat.le_refl _) (lr_9 (σ' := σ2) S2)) q1 (re_8 q2 ht P2.2.2)
theorem ls_decide9 (RA : ∀ (y0 : Int32) (y1 : Int32), rcU9 RJ (yX13_decide, cX13_decide, 4, (some .int), false, 16, 2) y0 y1) (hl : lO9 scr a o u i lo) (hi : 0 ≤ i.toInt ∧ i.toInt + 6 ≤ L ∧ L ≤ 3072) (S : lS9 sa TL b a o u Lx t κ σ J cs ss) (hR : RJ σ) (ht : RC8 κ a σ) (N : nx9 sa TL b a o u scr L xs RJ Lx t n i) : dV9 (dEE sa TL) dXX dKK b scr L xs lawP9 (n + 28) 16 rLaw 519 lo [] (zH (lB9 sa TL b o u σ J) κ) cs ss := by
  obtain ⟨W, T, ⟨ρ, I⟩, _⟩ := id S
  have oU := oU_9 S
  refine lwP_9 (pc' := 520) dlw_519 rfl (lda_9 (k := 1) hl.2.1) ?_
  refine la_9 (jj := 1) (j := 1) (pc6 := 526) dlw_520 dlw_521 dlw_523 dlw_524 dlw_525 ⟨rfl, rfl, rfl, rfl, rfl⟩ zi_1 hl ⟨by decide, hi.1, hi.2.1, hi.2.2⟩ ?_
  refine la_9 (jj := 2) (j := 2) (pc6 := 532) dlw_526 dlw_527 dlw_529 dlw_530 dlw_531 ⟨rfl, rfl, rfl, rfl, rfl⟩ zi_2 hl ⟨by decide, hi.1, hi.2.1, hi.2.2⟩ ?_
  refine lwP_9 (pc' := 533) dlw_532 rfl (lda_9 (k := 3) hl.2.2.2.1) ?_
  obtain ⟨n8, z8, v9, r8, rv, w8, k8⟩ := lc_9 (Lx' := Lx) S (wL_decide9 (L := Lx) W T I σ ht oU.1 oU.2.1 oU.2.2.1 oU.2.2.2) (fun κ' h => ⟨h.1, h.2.1⟩)
  refine lw_k9 (d := 15) (y := (kL_decide, _, [])) dlw_533 rfl rfl rfl rfl rfl r8 w8 (show 533 + 3 = 536 from rfl) (st' := [.int v9]) (by rw [rv]; rfl) (fun w hw => ?_)
  obtain ⟨κ1, J2, P2, e8, S2⟩ := k8 w hw
  obtain ⟨κ2, hκ2⟩ : ∃ κ2, κ2 = stn9 κ1 w := ⟨_, rfl⟩
  have P2 : (∃ ρ', chI9 ρ' κ1 a Lx) ∧ (∃ F, zF F κ κ1) ∧ pDc8 κ κ2 a σ (xs (i + 1).toNatClampNeg) (xs (i + 2).toNatClampNeg) := by rw [hκ2]; exact P2
  rw [e8, ← hκ2]
  rw [← hκ2] at S2
  refine lwP_9 (pc' := 538) (lo' := dset1 lo 5 (.int v9)) (st' := []) dlw_536 rfl rfl ?_
  have hl1 : lO9 scr a o u i (dset1 lo 5 (.int v9)) := lO_19 (by decide) hl (fun w9 z9 => by rw [hl.2.2.2.2] at z9; cases z9; rfl)
  refine lwP_9 (pc' := 539) dlw_538 rfl (lda_9 (k := 2) hl1.2.2.1) ?_
  refine la_9 (jj := 1) (j := 1) (pc6 := 545) dlw_539 dlw_540 dlw_542 dlw_543 dlw_544 ⟨rfl, rfl, rfl, rfl, rfl⟩ zi_1 hl1 ⟨by decide, hi.1, hi.2.1, hi.2.2⟩ ?_
  refine la_9 (jj := 2) (j := 2) (pc6 := 551) dlw_545 dlw_546 dlw_548 dlw_549 dlw_550 ⟨rfl, rfl, rfl, rfl, rfl⟩ zi_2 hl1 ⟨by decide, hi.1, hi.2.1, hi.2.2⟩ ?_
  refine li_9 (m := (yX13_decide, cX13_decide, 4, (some .int), false, 16, 2)) (as := [.int (xs (i + 1).toNatClampNeg), .int (xs (i + 2).toNatClampNeg)]) (Q := fun σ v σ' => RJ σ' ∧ pD8 (xs (i + 1).toNatClampNeg) (xs (i + 2).toNatClampNeg) σ σ' ∧ XD8 (xs (i + 1).toNatClampNeg) (xs (i + 2).toNatClampNeg) σ σ' v) (j := 340) (pc' := 554) S2 hR dlw_551 (by decide +kernel) rfl ⟨rfl, by decide, rfl⟩ rfl (RA _ _) rfl (Nat.le_of_ble_eq_true rfl) rfl (fun v2 σ2 q9 => ?_)
  have q1 := q9.1
  have q2 := q9.2
  refine lwP_9 (pc' := 556) (lo' := dset1 (dset1 lo 5 (.int v9)) 6 (.int v2)) (st' := []) dlw_554 rfl rfl ?_
  refine lwP_9 (pc' := 1023) (lo' := dset1 (dset1 lo 5 (.int v9)) 6 (.int v2)) (st' := []) dlw_556 rfl rfl ?_
  exact N _ _ _ _ _ _ (lO_19 (by decide) hl1 (fun w9 z9 => by rw [hl1.2.2.2.2] at z9; cases z9; rfl)) (lS_m9 (by omega) (Nat.le_refl _) (lr_9 (σ' := σ2) S2)) q1 (rd_8 q2.1 ht P2.2.2)
theorem ls_decided9 (RA : ∀ (y0 : Int32), rcI9 RJ (yX13_decided, cX13_decided, 2, (some .int), false, 16, 1) [.int y0]) (hl : lO9 scr a o u i lo) (hi : 0 ≤ i.toInt ∧ i.toInt + 6 ≤ L ∧ L ≤ 3072) (S : lS9 sa TL b a o u Lx t κ σ J cs ss) (hR : RJ σ) (ht : RC8 κ a σ) (N : nx9 sa TL b a o u scr L xs RJ Lx t n i) : dV9 (dEE sa TL) dXX dKK b scr L xs lawP9 (n + 18) 16 rLaw 559 lo [] (zH (lB9 sa TL b o u σ J) κ) cs ss := by
  obtain ⟨W, T, ⟨ρ, I⟩, _⟩ := id S
  have oU := oU_9 S
  refine lwP_9 (pc' := 560) dlw_559 rfl (lda_9 (k := 1) hl.2.1) ?_
  refine la_9 (jj := 1) (j := 1) (pc6 := 566) dlw_560 dlw_561 dlw_563 dlw_564 dlw_565 ⟨rfl, rfl, rfl, rfl, rfl⟩ zi_1 hl ⟨by decide, hi.1, hi.2.1, hi.2.2⟩ ?_
  refine lwP_9 (pc' := 567) dlw_566 rfl (lda_9 (k := 3) hl.2.2.2.1) ?_
  obtain ⟨n8, z8, v9, r8, rv, w8, k8⟩ := lc_9 (Lx' := Lx) S (wL_decided9 (L := Lx) W T I oU.1 oU.2.1 oU.2.2.1 oU.2.2.2) (fun κ' h => ⟨h.1, h.2.1⟩)
  refine lw_k9 (d := 15) (y := (kL_decided, _, [])) dlw_567 rfl rfl rfl rfl rfl r8 w8 (show 567 + 3 = 570 from rfl) (st' := [.int v9]) (by rw [rv]; rfl) (fun w hw => ?_)
  obtain ⟨κ1, J2, P2, e8, S2⟩ := k8 w hw
  obtain ⟨κ2, hκ2⟩ : ∃ κ2, κ2 = stn9 κ1 w := ⟨_, rfl⟩
  have P2 : (∃ ρ', chI9 ρ' κ1 a Lx) ∧ (∃ F, zF F κ κ1) ∧ pC8 κ κ2 a := by rw [hκ2]; exact P2
  rw [e8, ← hκ2]
  rw [← hκ2] at S2
  refine lwP_9 (pc' := 572) (lo' := dset1 lo 5 (.int v9)) (st' := []) dlw_570 rfl rfl ?_
  have hl1 : lO9 scr a o u i (dset1 lo 5 (.int v9)) := lO_19 (by decide) hl (fun w9 z9 => by rw [hl.2.2.2.2] at z9; cases z9; rfl)
  refine lwP_9 (pc' := 573) dlw_572 rfl (lda_9 (k := 2) hl1.2.2.1) ?_
  refine la_9 (jj := 1) (j := 1) (pc6 := 579) dlw_573 dlw_574 dlw_576 dlw_577 dlw_578 ⟨rfl, rfl, rfl, rfl, rfl⟩ zi_1 hl1 ⟨by decide, hi.1, hi.2.1, hi.2.2⟩ ?_
  refine li_9 (m := (yX13_decided, cX13_decided, 2, (some .int), false, 16, 1)) (as := [.int _]) (Q := fun σ _ σ' => RJ σ' ∧ pR8 σ σ') (j := 341) (pc' := 582) S2 hR dlw_579 (by decide +kernel) rfl ⟨rfl, by decide, rfl⟩ rfl (RA _) rfl (Nat.le_of_ble_eq_true rfl) rfl (fun v2 σ2 q9 => ?_)
  have q1 := q9.1
  have q2 := q9.2
  refine lwP_9 (pc' := 584) (lo' := dset1 (dset1 lo 5 (.int v9)) 6 (.int v2)) (st' := []) dlw_582 rfl rfl ?_
  refine lwP_9 (pc' := 1023) (lo' := dset1 (dset1 lo 5 (.int v9)) 6 (.int v2)) (st' := []) dlw_584 rfl rfl ?_
  exact N _ _ _ _ _ _ (lO_19 (by decide) hl1 (fun w9 z9 => by rw [hl1.2.2.2.2] at z9; cases z9; rfl)) (lS_m9 (by omega) (Nat.le_refl _) (lr_9 (σ' := σ2) S2)) q1 (re_8 q2 ht P2.2.2)
theorem ls_best9 (RA : rcB9 RJ (yX13_best, cX13_best, 4, (some .int), false, 16, 0)) (hl : lO9 scr a o u i lo) (hi : 0 ≤ i.toInt ∧ i.toInt + 6 ≤ L ∧ L ≤ 3072) (S : lS9 sa TL b a o u Lx t κ σ J cs ss) (hR : RJ σ) (ht : RC8 κ a σ) (N : nx9 sa TL b a o u scr L xs RJ Lx t n i) : dV9 (dEE sa TL) dXX dKK b scr L xs lawP9 (n + 8) 16 rLaw 587 lo [] (zH (lB9 sa TL b o u σ J) κ) cs ss := by
  obtain ⟨W, T, ⟨ρ, I⟩, _⟩ := id S
  have oU := oU_9 S
  refine lwP_9 (pc' := 588) dlw_587 rfl (lda_9 (k := 1) hl.2.1) ?_
  refine lwP_9 (pc' := 589) dlw_588 rfl (lda_9 (k := 3) hl.2.2.2.1) ?_
  obtain ⟨n8, z8, v9, r8, rv, w8, k8⟩ := lc_9 (Lx' := Lx) S (wL_best9 (L := Lx) W T I σ ht oU.1 oU.2.1 oU.2.2.1 oU.2.2.2) (fun κ' h => ⟨h.1, h.2.1⟩)
  refine lw_k9 (d := 15) (y := (kL_best, _, [])) dlw_589 rfl rfl rfl rfl rfl r8 w8 (show 589 + 3 = 592 from rfl) (st' := [.int v9]) (by rw [rv]; rfl) (fun w hw => ?_)
  obtain ⟨κ1, J2, P2, e8, S2⟩ := k8 w hw
  obtain ⟨κ2, hκ2⟩ : ∃ κ2, κ2 = stn9 κ1 w := ⟨_, rfl⟩
  have P2 : (∃ ρ', chI9 ρ' κ1 a Lx) ∧ (∃ F, zF F κ κ1) ∧ BB9 κ κ2 a σ := by rw [hκ2]; exact P2
  rw [e8, ← hκ2]
  rw [← hκ2] at S2
  refine lwP_9 (pc' := 594) (lo' := dset1 lo 5 (.int v9)) (st' := []) dlw_592 rfl rfl ?_
  have hl1 : lO9 scr a o u i (dset1 lo 5 (.int v9)) := lO_19 (by decide) hl (fun w9 z9 => by rw [hl.2.2.2.2] at z9; cases z9; rfl)
  refine lwP_9 (pc' := 595) dlw_594 rfl (lda_9 (k := 2) hl1.2.2.1) ?_
  refine li_9 (m := (yX13_best, cX13_best, 4, (some .int), false, 16, 0)) (as := []) (Q := fun σ v σ' => RJ σ' ∧ pT8 σ σ' ∧ XB8 σ σ' v) (j := 402) (pc' := 598) S2 hR dlw_595 (by decide +kernel) rfl ⟨rfl, by decide, rfl⟩ rfl (RA) rfl (Nat.le_of_ble_eq_true rfl) rfl (fun v2 σ2 q9 => ?_)
  have q1 := q9.1
  have q2 := q9.2
  refine lwP_9 (pc' := 600) (lo' := dset1 (dset1 lo 5 (.int v9)) 6 (.int v2)) (st' := []) dlw_598 rfl rfl ?_
  refine lwP_9 (pc' := 1023) (lo' := dset1 (dset1 lo 5 (.int v9)) 6 (.int v2)) (st' := []) dlw_600 rfl rfl ?_
  exact N _ _ _ _ _ _ (lO_19 (by decide) hl1 (fun w9 z9 => by rw [hl1.2.2.2.2] at z9; cases z9; rfl)) (lS_m9 (by omega) (Nat.le_refl _) (lr_9 (σ' := σ2) S2)) q1 (rb_8 ht q2.1 q2.2 P2.2.2)
theorem ls_solve9 (RJ3 : ∀ σ, RJ σ → pb16 σ) (RA : rcS9 RJ (yX13_solve, cX13_solve, 4, (some .int), false, 16, 0)) (hl : lO9 scr a o u i lo) (hi : 0 ≤ i.toInt ∧ i.toInt + 6 ≤ L ∧ L ≤ 3072) (S : lS9 sa TL b a o u Lx t κ σ J cs ss) (hR : RJ σ) (ht : RC8 κ a σ) (N : nx9 sa TL b a o u scr L xs RJ Lx t n i) : dV9 (dEE sa TL) dXX dKK b scr L xs lawP9 (n + 8) 16 rLaw 603 lo [] (zH (lB9 sa TL b o u σ J) κ) cs ss := by
  obtain ⟨W, T, ⟨ρ, I⟩, _⟩ := id S
  have oU := oU_9 S
  refine lwP_9 (pc' := 604) dlw_603 rfl (lda_9 (k := 1) hl.2.1) ?_
  refine lwP_9 (pc' := 605) dlw_604 rfl (lda_9 (k := 3) hl.2.2.2.1) ?_
  obtain ⟨n8, z8, v9, r8, rv, w8, k8⟩ := lc_9 (Lx' := Lx) S (wL_solve9 (L := Lx) W T I σ ht (RJ3 σ hR).1 oU.1 oU.2.1 oU.2.2.1 oU.2.2.2) (fun κ' h => ⟨h.1, h.2.1⟩)
  refine lw_k9 (d := 15) (y := (kL_solve, _, [])) dlw_605 rfl rfl rfl rfl rfl r8 w8 (show 605 + 3 = 608 from rfl) (st' := [.int v9]) (by rw [rv]; rfl) (fun w hw => ?_)
  obtain ⟨κ1, J2, P2, e8, S2⟩ := k8 w hw
  obtain ⟨κ2, hκ2⟩ : ∃ κ2, κ2 = stn9 κ1 w := ⟨_, rfl⟩
  have P2 : (∃ ρ', chI9 ρ' κ1 a Lx) ∧ (∃ F, zF F κ κ1) ∧ pA8 κ κ2 a ∧ CV16 κ κ2 a σ := by rw [hκ2]; exact P2
  rw [e8, ← hκ2]
  rw [← hκ2] at S2
  refine lwP_9 (pc' := 610) (lo' := dset1 lo 5 (.int v9)) (st' := []) dlw_608 rfl rfl ?_
  have hl1 : lO9 scr a o u i (dset1 lo 5 (.int v9)) := lO_19 (by decide) hl (fun w9 z9 => by rw [hl.2.2.2.2] at z9; cases z9; rfl)
  refine lwP_9 (pc' := 611) dlw_610 rfl (lda_9 (k := 2) hl1.2.2.1) ?_
  refine li_9 (m := (yX13_solve, cX13_solve, 4, (some .int), false, 16, 0)) (as := []) (Q := fun σ v σ' => RJ σ' ∧ pV16 σ σ' v) (j := 374) (pc' := 614) S2 hR dlw_611 (by decide +kernel) rfl ⟨rfl, by decide, rfl⟩ rfl (RA) rfl (Nat.le_of_ble_eq_true rfl) rfl (fun v2 σ2 q9 => ?_)
  have q1 := q9.1
  have q2 := q9.2
  refine lwP_9 (pc' := 616) (lo' := dset1 (dset1 lo 5 (.int v9)) 6 (.int v2)) (st' := []) dlw_614 rfl rfl ?_
  refine lwP_9 (pc' := 1023) (lo' := dset1 (dset1 lo 5 (.int v9)) 6 (.int v2)) (st' := []) dlw_616 rfl rfl ?_
  exact N _ _ _ _ _ _ (lO_19 (by decide) hl1 (fun w9 z9 => by rw [hl1.2.2.2.2] at z9; cases z9; rfl)) (lS_m9 (by omega) (Nat.le_refl _) (lr_9 (σ' := σ2) S2)) q1 (rv_16 ht (RJ3 σ hR).1 q2 P2.2.2)
theorem ls_show9 (RJ3 : ∀ σ, RJ σ → pb16 σ) (RA : ∀ (y0 : Int32) (y1 : Int32), rcH9 RJ (yX13_show, cX13_show, 3, (some .int), false, 16, 2) y0 y1) (hl : lO9 scr a o u i lo) (hi : 0 ≤ i.toInt ∧ i.toInt + 6 ≤ L ∧ L ≤ 3072) (S : lS9 sa TL b a o u Lx t κ σ J cs ss) (hR : RJ σ) (ht : RC8 κ a σ) (N : nx9 sa TL b a o u scr L xs RJ Lx t n i) : dV9 (dEE sa TL) dXX dKK b scr L xs lawP9 (n + 28) 16 rLaw 619 lo [] (zH (lB9 sa TL b o u σ J) κ) cs ss := by
  obtain ⟨W, T, ⟨ρ, I⟩, _⟩ := id S
  have oU := oU_9 S
  refine lwP_9 (pc' := 620) dlw_619 rfl (lda_9 (k := 1) hl.2.1) ?_
  refine la_9 (jj := 1) (j := 1) (pc6 := 626) dlw_620 dlw_621 dlw_623 dlw_624 dlw_625 ⟨rfl, rfl, rfl, rfl, rfl⟩ zi_1 hl ⟨by decide, hi.1, hi.2.1, hi.2.2⟩ ?_
  refine la_9 (jj := 2) (j := 2) (pc6 := 632) dlw_626 dlw_627 dlw_629 dlw_630 dlw_631 ⟨rfl, rfl, rfl, rfl, rfl⟩ zi_2 hl ⟨by decide, hi.1, hi.2.1, hi.2.2⟩ ?_
  refine lwP_9 (pc' := 633) dlw_632 rfl (lda_9 (k := 3) hl.2.2.2.1) ?_
  obtain ⟨n8, z8, v9, r8, rv, w8, k8⟩ := lc_9 (Lx' := Lx) S (wL_show9 (L := Lx) W T I σ ht (RJ3 σ hR).1 oU.1 oU.2.1 oU.2.2.1 oU.2.2.2) (fun κ' h => ⟨h.1, h.2.1⟩)
  refine lw_k9 (d := 15) (y := (kL_show, _, [])) dlw_633 rfl rfl rfl rfl rfl r8 w8 (show 633 + 3 = 636 from rfl) (st' := [.int v9]) (by rw [rv]; rfl) (fun w hw => ?_)
  obtain ⟨κ1, J2, P2, e8, S2⟩ := k8 w hw
  obtain ⟨κ2, hκ2⟩ : ∃ κ2, κ2 = stn9 κ1 w := ⟨_, rfl⟩
  have P2 : (∃ ρ', chI9 ρ' κ1 a Lx) ∧ (∃ F, zF F κ κ1) ∧ pA8 κ κ2 a ∧ HS16 κ κ2 a σ (xs (i + 1).toNatClampNeg) (xs (i + 2).toNatClampNeg) := by rw [hκ2]; exact P2
  rw [e8, ← hκ2]
  rw [← hκ2] at S2
  refine lwP_9 (pc' := 638) (lo' := dset1 lo 5 (.int v9)) (st' := []) dlw_636 rfl rfl ?_
  have hl1 : lO9 scr a o u i (dset1 lo 5 (.int v9)) := lO_19 (by decide) hl (fun w9 z9 => by rw [hl.2.2.2.2] at z9; cases z9; rfl)
  refine lwP_9 (pc' := 639) dlw_638 rfl (lda_9 (k := 2) hl1.2.2.1) ?_
  refine la_9 (jj := 1) (j := 1) (pc6 := 645) dlw_639 dlw_640 dlw_642 dlw_643 dlw_644 ⟨rfl, rfl, rfl, rfl, rfl⟩ zi_1 hl1 ⟨by decide, hi.1, hi.2.1, hi.2.2⟩ ?_
  refine la_9 (jj := 2) (j := 2) (pc6 := 651) dlw_645 dlw_646 dlw_648 dlw_649 dlw_650 ⟨rfl, rfl, rfl, rfl, rfl⟩ zi_2 hl1 ⟨by decide, hi.1, hi.2.1, hi.2.2⟩ ?_
  refine li_9 (m := (yX13_show, cX13_show, 3, (some .int), false, 16, 2)) (as := [.int (xs (i + 1).toNatClampNeg), .int (xs (i + 2).toNatClampNeg)]) (Q := fun σ v σ' => RJ σ' ∧ pH16 (xs (i + 1).toNatClampNeg) (xs (i + 2).toNatClampNeg) σ σ' v) (j := 383) (pc' := 654) S2 hR dlw_651 (by decide +kernel) rfl ⟨rfl, by decide, rfl⟩ rfl (RA _ _) rfl (Nat.le_of_ble_eq_true rfl) rfl (fun v2 σ2 q9 => ?_)
  have q1 := q9.1
  have q2 := q9.2
  refine lwP_9 (pc' := 656) (lo' := dset1 (dset1 lo 5 (.int v9)) 6 (.int v2)) (st' := []) dlw_654 rfl rfl ?_
  refine lwP_9 (pc' := 1023) (lo' := dset1 (dset1 lo 5 (.int v9)) 6 (.int v2)) (st' := []) dlw_656 rfl rfl ?_
  exact N _ _ _ _ _ _ (lO_19 (by decide) hl1 (fun w9 z9 => by rw [hl1.2.2.2.2] at z9; cases z9; rfl)) (lS_m9 (by omega) (Nat.le_refl _) (lr_9 (σ' := σ2) S2)) q1 (rh_16 ht q2 P2.2.2)
theorem ls_size9 (RA : ∀ (y0 : Int32), rcI9 RJ (yX13_size, cX13_size, 2, (some .int), false, 16, 1) [.int y0]) (hl : lO9 scr a o u i lo) (hi : 0 ≤ i.toInt ∧ i.toInt + 6 ≤ L ∧ L ≤ 3072) (S : lS9 sa TL b a o u Lx t κ σ J cs ss) (hR : RJ σ) (ht : RC8 κ a σ) (N : nx9 sa TL b a o u scr L xs RJ Lx t n i) : dV9 (dEE sa TL) dXX dKK b scr L xs lawP9 (n + 18) 16 rLaw 659 lo [] (zH (lB9 sa TL b o u σ J) κ) cs ss := by
  obtain ⟨W, T, ⟨ρ, I⟩, _⟩ := id S
  have oU := oU_9 S
  refine lwP_9 (pc' := 660) dlw_659 rfl (lda_9 (k := 1) hl.2.1) ?_
  refine la_9 (jj := 1) (j := 1) (pc6 := 666) dlw_660 dlw_661 dlw_663 dlw_664 dlw_665 ⟨rfl, rfl, rfl, rfl, rfl⟩ zi_1 hl ⟨by decide, hi.1, hi.2.1, hi.2.2⟩ ?_
  refine lwP_9 (pc' := 667) dlw_666 rfl (lda_9 (k := 3) hl.2.2.2.1) ?_
  obtain ⟨n8, z8, v9, r8, rv, w8, k8⟩ := lc_9 (Lx' := Lx) S (wL_size9 (L := Lx) W T I oU.1 oU.2.1 oU.2.2.1 oU.2.2.2) (fun κ' h => ⟨h.1, h.2.1⟩)
  refine lw_k9 (d := 15) (y := (kL_size, _, [])) dlw_667 rfl rfl rfl rfl rfl r8 w8 (show 667 + 3 = 670 from rfl) (st' := [.int v9]) (by rw [rv]; rfl) (fun w hw => ?_)
  obtain ⟨κ1, J2, P2, e8, S2⟩ := k8 w hw
  obtain ⟨κ2, hκ2⟩ : ∃ κ2, κ2 = stn9 κ1 w := ⟨_, rfl⟩
  have P2 : (∃ ρ', chI9 ρ' κ1 a Lx) ∧ (∃ F, zF F κ κ1) ∧ pC8 κ κ2 a := by rw [hκ2]; exact P2
  rw [e8, ← hκ2]
  rw [← hκ2] at S2
  refine lwP_9 (pc' := 672) (lo' := dset1 lo 5 (.int v9)) (st' := []) dlw_670 rfl rfl ?_
  have hl1 : lO9 scr a o u i (dset1 lo 5 (.int v9)) := lO_19 (by decide) hl (fun w9 z9 => by rw [hl.2.2.2.2] at z9; cases z9; rfl)
  refine lwP_9 (pc' := 673) dlw_672 rfl (lda_9 (k := 2) hl1.2.2.1) ?_
  refine la_9 (jj := 1) (j := 1) (pc6 := 679) dlw_673 dlw_674 dlw_676 dlw_677 dlw_678 ⟨rfl, rfl, rfl, rfl, rfl⟩ zi_1 hl1 ⟨by decide, hi.1, hi.2.1, hi.2.2⟩ ?_
  refine li_9 (m := (yX13_size, cX13_size, 2, (some .int), false, 16, 1)) (as := [.int _]) (Q := fun σ _ σ' => RJ σ' ∧ pR8 σ σ') (j := 385) (pc' := 682) S2 hR dlw_679 (by decide +kernel) rfl ⟨rfl, by decide, rfl⟩ rfl (RA _) rfl (Nat.le_of_ble_eq_true rfl) rfl (fun v2 σ2 q9 => ?_)
  have q1 := q9.1
  have q2 := q9.2
  refine lwP_9 (pc' := 684) (lo' := dset1 (dset1 lo 5 (.int v9)) 6 (.int v2)) (st' := []) dlw_682 rfl rfl ?_
  refine lwP_9 (pc' := 1023) (lo' := dset1 (dset1 lo 5 (.int v9)) 6 (.int v2)) (st' := []) dlw_684 rfl rfl ?_
  exact N _ _ _ _ _ _ (lO_19 (by decide) hl1 (fun w9 z9 => by rw [hl1.2.2.2.2] at z9; cases z9; rfl)) (lS_m9 (by omega) (Nat.le_refl _) (lr_9 (σ' := σ2) S2)) q1 (re_8 q2 ht P2.2.2)
theorem ls_limb9 (RA : ∀ (y0 : Int32) (y1 : Int32), rcI9 RJ (yX13_limb, cX13_limb, 5, (some .int), false, 16, 2) [.int y0, .int y1]) (hl : lO9 scr a o u i lo) (hi : 0 ≤ i.toInt ∧ i.toInt + 6 ≤ L ∧ L ≤ 3072) (S : lS9 sa TL b a o u Lx t κ σ J cs ss) (hR : RJ σ) (ht : RC8 κ a σ) (N : nx9 sa TL b a o u scr L xs RJ Lx t n i) : dV9 (dEE sa TL) dXX dKK b scr L xs lawP9 (n + 28) 16 rLaw 687 lo [] (zH (lB9 sa TL b o u σ J) κ) cs ss := by
  obtain ⟨W, T, ⟨ρ, I⟩, _⟩ := id S
  have oU := oU_9 S
  refine lwP_9 (pc' := 688) dlw_687 rfl (lda_9 (k := 1) hl.2.1) ?_
  refine la_9 (jj := 1) (j := 1) (pc6 := 694) dlw_688 dlw_689 dlw_691 dlw_692 dlw_693 ⟨rfl, rfl, rfl, rfl, rfl⟩ zi_1 hl ⟨by decide, hi.1, hi.2.1, hi.2.2⟩ ?_
  refine la_9 (jj := 2) (j := 2) (pc6 := 700) dlw_694 dlw_695 dlw_697 dlw_698 dlw_699 ⟨rfl, rfl, rfl, rfl, rfl⟩ zi_2 hl ⟨by decide, hi.1, hi.2.1, hi.2.2⟩ ?_
  refine lwP_9 (pc' := 701) dlw_700 rfl (lda_9 (k := 3) hl.2.2.2.1) ?_
  obtain ⟨n8, z8, v9, r8, rv, w8, k8⟩ := lc_9 (Lx' := Lx) S (wL_limb9 (L := Lx) W T I oU.1 oU.2.1 oU.2.2.1 oU.2.2.2) (fun κ' h => ⟨h.1, h.2.1⟩)
  refine lw_k9 (d := 15) (y := (kL_limb, _, [])) dlw_701 rfl rfl rfl rfl rfl r8 w8 (show 701 + 3 = 704 from rfl) (st' := [.int v9]) (by rw [rv]; rfl) (fun w hw => ?_)
  obtain ⟨κ1, J2, P2, e8, S2⟩ := k8 w hw
  obtain ⟨κ2, hκ2⟩ : ∃ κ2, κ2 = stn9 κ1 w := ⟨_, rfl⟩
  have P2 : (∃ ρ', chI9 ρ' κ1 a Lx) ∧ (∃ F, zF F κ κ1) ∧ pC8 κ κ2 a := by rw [hκ2]; exact P2
  rw [e8, ← hκ2]
  rw [← hκ2] at S2
  refine lwP_9 (pc' := 706) (lo' := dset1 lo 5 (.int v9)) (st' := []) dlw_704 rfl rfl ?_
  have hl1 : lO9 scr a o u i (dset1 lo 5 (.int v9)) := lO_19 (by decide) hl (fun w9 z9 => by rw [hl.2.2.2.2] at z9; cases z9; rfl)
  refine lwP_9 (pc' := 707) dlw_706 rfl (lda_9 (k := 2) hl1.2.2.1) ?_
  refine la_9 (jj := 1) (j := 1) (pc6 := 713) dlw_707 dlw_708 dlw_710 dlw_711 dlw_712 ⟨rfl, rfl, rfl, rfl, rfl⟩ zi_1 hl1 ⟨by decide, hi.1, hi.2.1, hi.2.2⟩ ?_
  refine la_9 (jj := 2) (j := 2) (pc6 := 719) dlw_713 dlw_714 dlw_716 dlw_717 dlw_718 ⟨rfl, rfl, rfl, rfl, rfl⟩ zi_2 hl1 ⟨by decide, hi.1, hi.2.1, hi.2.2⟩ ?_
  refine li_9 (m := (yX13_limb, cX13_limb, 5, (some .int), false, 16, 2)) (as := [.int _, .int _]) (Q := fun σ _ σ' => RJ σ' ∧ pR8 σ σ') (j := 386) (pc' := 722) S2 hR dlw_719 (by decide +kernel) rfl ⟨rfl, by decide, rfl⟩ rfl (RA _ _) rfl (Nat.le_of_ble_eq_true rfl) rfl (fun v2 σ2 q9 => ?_)
  have q1 := q9.1
  have q2 := q9.2
  refine lwP_9 (pc' := 724) (lo' := dset1 (dset1 lo 5 (.int v9)) 6 (.int v2)) (st' := []) dlw_722 rfl rfl ?_
  refine lwP_9 (pc' := 1023) (lo' := dset1 (dset1 lo 5 (.int v9)) 6 (.int v2)) (st' := []) dlw_724 rfl rfl ?_
  exact N _ _ _ _ _ _ (lO_19 (by decide) hl1 (fun w9 z9 => by rw [hl1.2.2.2.2] at z9; cases z9; rfl)) (lS_m9 (by omega) (Nat.le_refl _) (lr_9 (σ' := σ2) S2)) q1 (re_8 q2 ht P2.2.2)
theorem ls_tell9 (RA : ∀ (y0 : Int32), rcT9 RJ (yX13_tell, cX13_tell, 2, (some .int), false, 16, 1) y0) (hl : lO9 scr a o u i lo) (hi : 0 ≤ i.toInt ∧ i.toInt + 6 ≤ L ∧ L ≤ 3072) (S : lS9 sa TL b a o u Lx t κ σ J cs ss) (hR : RJ σ) (ht : RC8 κ a σ) (N : nx9 sa TL b a o u scr L xs RJ Lx t n i) : dV9 (dEE sa TL) dXX dKK b scr L xs lawP9 (n + 18) 16 rLaw 727 lo [] (zH (lB9 sa TL b o u σ J) κ) cs ss := by
  obtain ⟨W, T, ⟨ρ, I⟩, _⟩ := id S
  have oU := oU_9 S
  refine lwP_9 (pc' := 728) dlw_727 rfl (lda_9 (k := 1) hl.2.1) ?_
  refine la_9 (jj := 1) (j := 1) (pc6 := 734) dlw_728 dlw_729 dlw_731 dlw_732 dlw_733 ⟨rfl, rfl, rfl, rfl, rfl⟩ zi_1 hl ⟨by decide, hi.1, hi.2.1, hi.2.2⟩ ?_
  refine lwP_9 (pc' := 735) dlw_734 rfl (lda_9 (k := 3) hl.2.2.2.1) ?_
  obtain ⟨n8, z8, v9, r8, rv, w8, k8⟩ := lc_9 (Lx' := Lx) S (wL_tell9 (L := Lx) W T I oU.1 oU.2.1 oU.2.2.1 oU.2.2.2) (fun κ' h => ⟨h.1, h.2.1⟩)
  refine lw_k9 (d := 15) (y := (kL_tell, _, [])) dlw_735 rfl rfl rfl rfl rfl r8 w8 (show 735 + 3 = 738 from rfl) (st' := [.int v9]) (by rw [rv]; rfl) (fun w hw => ?_)
  obtain ⟨κ1, J2, P2, e8, S2⟩ := k8 w hw
  obtain ⟨κ2, hκ2⟩ : ∃ κ2, κ2 = stn9 κ1 w := ⟨_, rfl⟩
  have P2 : (∃ ρ', chI9 ρ' κ1 a Lx) ∧ (∃ F, zF F κ κ1) ∧ TL21 κ κ2 a (xs (i + 1).toNatClampNeg) := by rw [hκ2]; exact P2
  rw [e8, ← hκ2]
  rw [← hκ2] at S2
  refine lwP_9 (pc' := 740) (lo' := dset1 lo 5 (.int v9)) (st' := []) dlw_738 rfl rfl ?_
  have hl1 : lO9 scr a o u i (dset1 lo 5 (.int v9)) := lO_19 (by decide) hl (fun w9 z9 => by rw [hl.2.2.2.2] at z9; cases z9; rfl)
  refine lwP_9 (pc' := 741) dlw_740 rfl (lda_9 (k := 2) hl1.2.2.1) ?_
  refine la_9 (jj := 1) (j := 1) (pc6 := 747) dlw_741 dlw_742 dlw_744 dlw_745 dlw_746 ⟨rfl, rfl, rfl, rfl, rfl⟩ zi_1 hl1 ⟨by decide, hi.1, hi.2.1, hi.2.2⟩ ?_
  refine li_9 (m := (yX13_tell, cX13_tell, 2, (some .int), false, 16, 1)) (as := [.int (xs (i + 1).toNatClampNeg)]) (Q := fun σ _ σ' => RJ σ' ∧ pL21 (xs (i + 1).toNatClampNeg) σ σ' ∧ kP23 σ σ' ∧ kN16 σ σ') (j := 387) (pc' := 750) S2 hR dlw_747 (by decide +kernel) rfl ⟨rfl, by decide, rfl⟩ rfl (RA _) rfl (Nat.le_of_ble_eq_true rfl) rfl (fun v2 σ2 q9 => ?_)
  have q1 := q9.1
  have q2 := q9.2
  refine lwP_9 (pc' := 752) (lo' := dset1 (dset1 lo 5 (.int v9)) 6 (.int v2)) (st' := []) dlw_750 rfl rfl ?_
  refine lwP_9 (pc' := 1023) (lo' := dset1 (dset1 lo 5 (.int v9)) 6 (.int v2)) (st' := []) dlw_752 rfl rfl ?_
  exact N _ _ _ _ _ _ (lO_19 (by decide) hl1 (fun w9 z9 => by rw [hl1.2.2.2.2] at z9; cases z9; rfl)) (lS_m9 (by omega) (Nat.le_refl _) (lr_9 (σ' := σ2) S2)) q1 (tlk_21 ht I.2.2.2.2.2.1.1.2 q2 P2.2.2)
theorem ls_play9 (RJ3 : ∀ σ, RJ σ → pb16 σ) (RA : ∀ (y0 : Int64) (y1 : Int32), rcQ9 RJ (yX13_play, cX13_play, 4, (some .int), false, 16, 2) y0 y1) (hl : lO9 scr a o u i lo) (hi : 0 ≤ i.toInt ∧ i.toInt + 6 ≤ L ∧ L ≤ 3072) (S : lS9 sa TL b a o u Lx t κ σ J cs ss) (hR : RJ σ) (ht : RC8 κ a σ) (N : nx9 sa TL b a o u scr L xs RJ Lx t n i) : dV9 (dEE sa TL) dXX dKK b scr L xs lawP9 (n + 52) 16 rLaw 768 lo [] (zH (lB9 sa TL b o u σ J) κ) cs ss := by
  obtain ⟨W, T, ⟨ρ, I⟩, _⟩ := id S
  have oU := oU_9 S
  refine lwP_9 (pc' := 769) dlw_768 rfl (lda_9 (k := 1) hl.2.1) ?_
  refine la_9 (jj := 1) (j := 1) (pc6 := 775) dlw_769 dlw_770 dlw_772 dlw_773 dlw_774 ⟨rfl, rfl, rfl, rfl, rfl⟩ zi_1 hl ⟨by decide, hi.1, hi.2.1, hi.2.2⟩ ?_
  refine lwP_9 (pc' := 776) dlw_775 rfl rfl ?_
  refine lwP_9 (pc' := 778) dlw_776 rfl rfl ?_
  refine lwP_9 (pc' := 779) dlw_778 rfl rfl ?_
  refine la_9 (jj := 2) (j := 2) (pc6 := 785) dlw_779 dlw_780 dlw_782 dlw_783 dlw_784 ⟨rfl, rfl, rfl, rfl, rfl⟩ zi_2 hl ⟨by decide, hi.1, hi.2.1, hi.2.2⟩ ?_
  refine lwP_9 (pc' := 786) dlw_785 rfl rfl ?_
  refine lw_h9 (pc' := 789) dlw_786 rfl rfl rfl rfl ?_
  refine lwP_9 (pc' := 790) dlw_789 rfl rfl ?_
  refine lwP_9 (pc' := 791) dlw_790 rfl rfl ?_
  refine la_9 (jj := 3) (j := 3) (pc6 := 797) dlw_791 dlw_792 dlw_794 dlw_795 dlw_796 ⟨rfl, rfl, rfl, rfl, rfl⟩ zi_3 hl ⟨by decide, hi.1, hi.2.1, hi.2.2⟩ ?_
  refine lwP_9 (pc' := 798) dlw_797 rfl (lda_9 (k := 3) hl.2.2.2.1) ?_
  obtain ⟨n8, z8, v9, r8, rv, w8, k8⟩ := lc_9 (Lx' := Lx) S (wL_play9 (L := Lx) W T I σ ht (RJ3 σ hR).2.1 oU.1 oU.2.1 oU.2.2.1 oU.2.2.2) (fun κ' h => ⟨h.1, h.2.1⟩)
  refine lw_k9 (d := 15) (y := (kL_play, _, [])) dlw_798 rfl rfl rfl rfl rfl r8 w8 (show 798 + 3 = 801 from rfl) (st' := [.int v9]) (by rw [rv]; rfl) (fun w hw => ?_)
  obtain ⟨κ1, J2, P2, e8, S2⟩ := k8 w hw
  obtain ⟨κ2, hκ2⟩ : ∃ κ2, κ2 = stn9 κ1 w := ⟨_, rfl⟩
  rw [e8, ← hκ2]
  rw [← hκ2] at S2
  refine lwP_9 (pc' := 803) (lo' := dset1 lo 5 (.int v9)) (st' := []) dlw_801 rfl rfl ?_
  have hl1 : lO9 scr a o u i (dset1 lo 5 (.int v9)) := lO_19 (by decide) hl (fun w9 z9 => by rw [hl.2.2.2.2] at z9; cases z9; rfl)
  refine lwP_9 (pc' := 804) dlw_803 rfl (lda_9 (k := 2) hl1.2.2.1) ?_
  refine la_9 (jj := 1) (j := 1) (pc6 := 810) dlw_804 dlw_805 dlw_807 dlw_808 dlw_809 ⟨rfl, rfl, rfl, rfl, rfl⟩ zi_1 hl1 ⟨by decide, hi.1, hi.2.1, hi.2.2⟩ ?_
  refine lwP_9 (pc' := 811) dlw_810 rfl rfl ?_
  refine lwP_9 (pc' := 813) dlw_811 rfl rfl ?_
  refine lwP_9 (pc' := 814) dlw_813 rfl rfl ?_
  refine la_9 (jj := 2) (j := 2) (pc6 := 820) dlw_814 dlw_815 dlw_817 dlw_818 dlw_819 ⟨rfl, rfl, rfl, rfl, rfl⟩ zi_2 hl1 ⟨by decide, hi.1, hi.2.1, hi.2.2⟩ ?_
  refine lwP_9 (pc' := 821) dlw_820 rfl rfl ?_
  refine lw_h9 (pc' := 824) dlw_821 rfl rfl rfl rfl ?_
  refine lwP_9 (pc' := 825) dlw_824 rfl rfl ?_
  refine lwP_9 (pc' := 826) dlw_825 rfl rfl ?_
  refine la_9 (jj := 3) (j := 3) (pc6 := 832) dlw_826 dlw_827 dlw_829 dlw_830 dlw_831 ⟨rfl, rfl, rfl, rfl, rfl⟩ zi_3 hl1 ⟨by decide, hi.1, hi.2.1, hi.2.2⟩ ?_
  refine li_9 (m := (yX13_play, cX13_play, 4, (some .int), false, 16, 2)) (as := [.long _, .int (xs (i + 3).toNatClampNeg)]) (Q := fun σ v σ' => RJ σ' ∧ pY23 (xs (i + 3).toNatClampNeg) σ (siU (slU σ 112 _) 113 1) σ' v) (j := 393) (pc' := 835) S2 hR dlw_832 (by decide +kernel) rfl ⟨rfl, by decide, rfl⟩ rfl (RA _ _) rfl (Nat.le_of_ble_eq_true rfl) rfl (fun v2 σ2 q9 => ?_)
  have q1 := q9.1
  have q2 := q9.2
  refine lwP_9 (pc' := 837) (lo' := dset1 (dset1 lo 5 (.int v9)) 6 (.int v2)) (st' := []) dlw_835 rfl rfl ?_
  refine lwP_9 (pc' := 1023) (lo' := dset1 (dset1 lo 5 (.int v9)) 6 (.int v2)) (st' := []) dlw_837 rfl rfl ?_
  exact N _ _ _ _ _ _ (lO_19 (by decide) hl1 (fun w9 z9 => by rw [hl1.2.2.2.2] at z9; cases z9; rfl)) (lS_m9 (by omega) (Nat.le_refl _) (lr_9 (σ' := σ2) S2)) q1 (by rw [hκ2]; exact py_23 ht q2 P2.2.2)
theorem ls_walk9 (RJ3 : ∀ σ, RJ σ → pb16 σ) (RA : ∀ (y0 : Int32), rcR9 RJ (yX13_walk, cX13_walk, 2, (some .int), false, 16, 1) y0) (hl : lO9 scr a o u i lo) (hi : 0 ≤ i.toInt ∧ i.toInt + 6 ≤ L ∧ L ≤ 3072) (S : lS9 sa TL b a o u Lx t κ σ J cs ss) (hR : RJ σ) (ht : RC8 κ a σ) (N : nx9 sa TL b a o u scr L xs RJ Lx t n i) : dV9 (dEE sa TL) dXX dKK b scr L xs lawP9 (n + 18) 16 rLaw 840 lo [] (zH (lB9 sa TL b o u σ J) κ) cs ss := by
  obtain ⟨W, T, ⟨ρ, I⟩, _⟩ := id S
  have oU := oU_9 S
  refine lwP_9 (pc' := 841) dlw_840 rfl (lda_9 (k := 1) hl.2.1) ?_
  refine la_9 (jj := 1) (j := 1) (pc6 := 847) dlw_841 dlw_842 dlw_844 dlw_845 dlw_846 ⟨rfl, rfl, rfl, rfl, rfl⟩ zi_1 hl ⟨by decide, hi.1, hi.2.1, hi.2.2⟩ ?_
  refine lwP_9 (pc' := 848) dlw_847 rfl (lda_9 (k := 3) hl.2.2.2.1) ?_
  obtain ⟨n8, z8, v9, r8, rv, w8, k8⟩ := lc_9 (Lx' := Lx) S (wL_walk9 (L := Lx) W T I σ ht (RJ3 σ hR).2.1 oU.1 oU.2.1 oU.2.2.1 oU.2.2.2) (fun κ' h => ⟨h.1, h.2.1⟩)
  refine lw_k9 (d := 15) (y := (kL_walk, _, [])) dlw_848 rfl rfl rfl rfl rfl r8 w8 (show 848 + 3 = 851 from rfl) (st' := [.int v9]) (by rw [rv]; rfl) (fun w hw => ?_)
  obtain ⟨κ1, J2, P2, e8, S2⟩ := k8 w hw
  obtain ⟨κ2, hκ2⟩ : ∃ κ2, κ2 = stn9 κ1 w := ⟨_, rfl⟩
  rw [e8, ← hκ2]
  rw [← hκ2] at S2
  refine lwP_9 (pc' := 853) (lo' := dset1 lo 5 (.int v9)) (st' := []) dlw_851 rfl rfl ?_
  have hl1 : lO9 scr a o u i (dset1 lo 5 (.int v9)) := lO_19 (by decide) hl (fun w9 z9 => by rw [hl.2.2.2.2] at z9; cases z9; rfl)
  refine lwP_9 (pc' := 854) dlw_853 rfl (lda_9 (k := 2) hl1.2.2.1) ?_
  refine la_9 (jj := 1) (j := 1) (pc6 := 860) dlw_854 dlw_855 dlw_857 dlw_858 dlw_859 ⟨rfl, rfl, rfl, rfl, rfl⟩ zi_1 hl1 ⟨by decide, hi.1, hi.2.1, hi.2.2⟩ ?_
  refine li_9 (m := (yX13_walk, cX13_walk, 2, (some .int), false, 16, 1)) (as := [.int (xs (i + 1).toNatClampNeg)]) (Q := fun σ v σ' => RJ σ' ∧ pY23 (xs (i + 1).toNatClampNeg) σ (siU σ 113 0) σ' v) (j := 394) (pc' := 863) S2 hR dlw_860 (by decide +kernel) rfl ⟨rfl, by decide, rfl⟩ rfl (RA _) rfl (Nat.le_of_ble_eq_true rfl) rfl (fun v2 σ2 q9 => ?_)
  have q1 := q9.1
  have q2 := q9.2
  refine lwP_9 (pc' := 865) (lo' := dset1 (dset1 lo 5 (.int v9)) 6 (.int v2)) (st' := []) dlw_863 rfl rfl ?_
  refine lwP_9 (pc' := 1023) (lo' := dset1 (dset1 lo 5 (.int v9)) 6 (.int v2)) (st' := []) dlw_865 rfl rfl ?_
  exact N _ _ _ _ _ _ (lO_19 (by decide) hl1 (fun w9 z9 => by rw [hl1.2.2.2.2] at z9; cases z9; rfl)) (lS_m9 (by omega) (Nat.le_refl _) (lr_9 (σ' := σ2) S2)) q1 (by rw [hκ2]; exact py_23 ht q2 P2.2.2)
theorem ls_played9 (RA : ∀ (y0 : Int32), rcJ9 RJ (yX13_played, cX13_played, 2, (some .long), false, 16, 1) [.int y0]) (hl : lO9 scr a o u i lo) (hi : 0 ≤ i.toInt ∧ i.toInt + 6 ≤ L ∧ L ≤ 3072) (S : lS9 sa TL b a o u Lx t κ σ J cs ss) (hR : RJ σ) (ht : RC8 κ a σ) (N : nx9 sa TL b a o u scr L xs RJ Lx t n i) : dV9 (dEE sa TL) dXX dKK b scr L xs lawP9 (n + 18) 16 rLaw 868 lo [] (zH (lB9 sa TL b o u σ J) κ) cs ss := by
  obtain ⟨W, T, ⟨ρ, I⟩, _⟩ := id S
  have oU := oU_9 S
  refine lwP_9 (pc' := 869) dlw_868 rfl (lda_9 (k := 1) hl.2.1) ?_
  refine la_9 (jj := 1) (j := 1) (pc6 := 875) dlw_869 dlw_870 dlw_872 dlw_873 dlw_874 ⟨rfl, rfl, rfl, rfl, rfl⟩ zi_1 hl ⟨by decide, hi.1, hi.2.1, hi.2.2⟩ ?_
  refine lwP_9 (pc' := 876) dlw_875 rfl (lda_9 (k := 3) hl.2.2.2.1) ?_
  obtain ⟨n8, z8, v9, r8, rv, w8, k8⟩ := lc_9 (Lx' := Lx) S (wL_played9 (L := Lx) W T I oU.1 oU.2.1 oU.2.2.1 oU.2.2.2) (fun κ' h => ⟨h.1, h.2.1⟩)
  refine lw_k9 (d := 15) (y := (kL_played, _, [])) dlw_876 rfl rfl rfl rfl rfl r8 w8 (show 876 + 3 = 879 from rfl) (st' := [.int v9]) (by rw [rv]; rfl) (fun w hw => ?_)
  obtain ⟨κ1, J2, P2, e8, S2⟩ := k8 w hw
  obtain ⟨κ2, hκ2⟩ : ∃ κ2, κ2 = stn9 κ1 w := ⟨_, rfl⟩
  have P2 : (∃ ρ', chI9 ρ' κ1 a Lx) ∧ (∃ F, zF F κ κ1) ∧ pC8 κ κ2 a := by rw [hκ2]; exact P2
  rw [e8, ← hκ2]
  rw [← hκ2] at S2
  refine lwP_9 (pc' := 881) (lo' := dset1 lo 5 (.int v9)) (st' := []) dlw_879 rfl rfl ?_
  have hl1 : lO9 scr a o u i (dset1 lo 5 (.int v9)) := lO_19 (by decide) hl (fun w9 z9 => by rw [hl.2.2.2.2] at z9; cases z9; rfl)
  refine lwP_9 (pc' := 882) dlw_881 rfl (lda_9 (k := 2) hl1.2.2.1) ?_
  refine la_9 (jj := 1) (j := 1) (pc6 := 888) dlw_882 dlw_883 dlw_885 dlw_886 dlw_887 ⟨rfl, rfl, rfl, rfl, rfl⟩ zi_1 hl1 ⟨by decide, hi.1, hi.2.1, hi.2.2⟩ ?_
  refine lj_9 (m := (yX13_played, cX13_played, 2, (some .long), false, 16, 1)) (as := [.int _]) (Q := fun σ _ σ' => RJ σ' ∧ pR8 σ σ') (j := 395) (pc' := 891) S2 hR dlw_888 (by decide +kernel) rfl ⟨rfl, by decide, rfl⟩ rfl (RA _) rfl (Nat.le_of_ble_eq_true rfl) rfl (fun v2 σ2 q9 => ?_)
  have q1 := q9.1
  have q2 := q9.2
  refine lwP_9 (pc' := 893) (lo' := dset2 (dset1 lo 5 (.int v9)) 6 (.long v2)) (st' := []) dlw_891 rfl rfl ?_
  refine lwP_9 (pc' := 1023) (lo' := dset2 (dset1 lo 5 (.int v9)) 6 (.long v2)) (st' := []) dlw_893 rfl rfl ?_
  exact N _ _ _ _ _ _ (lO_29 (by decide) hl1) (lS_m9 (by omega) (Nat.le_refl _) (lr_9 (σ' := σ2) S2)) q1 (re_8 q2 ht P2.2.2)
theorem ls_independent9 (RA : ∀ (y0 : Int32) (y1 : Int32), rcI9 RJ (yX13_independent, cX13_independent, 3, (some .boolean), false, 16, 2) [.int y0, .int y1]) (hl : lO9 scr a o u i lo) (hi : 0 ≤ i.toInt ∧ i.toInt + 6 ≤ L ∧ L ≤ 3072) (S : lS9 sa TL b a o u Lx t κ σ J cs ss) (hR : RJ σ) (ht : RC8 κ a σ) (N : nx9 sa TL b a o u scr L xs RJ Lx t n i) : dV9 (dEE sa TL) dXX dKK b scr L xs lawP9 (n + 28) 16 rLaw 896 lo [] (zH (lB9 sa TL b o u σ J) κ) cs ss := by
  obtain ⟨W, T, ⟨ρ, I⟩, _⟩ := id S
  have oU := oU_9 S
  refine lwP_9 (pc' := 897) dlw_896 rfl (lda_9 (k := 1) hl.2.1) ?_
  refine la_9 (jj := 1) (j := 1) (pc6 := 903) dlw_897 dlw_898 dlw_900 dlw_901 dlw_902 ⟨rfl, rfl, rfl, rfl, rfl⟩ zi_1 hl ⟨by decide, hi.1, hi.2.1, hi.2.2⟩ ?_
  refine la_9 (jj := 2) (j := 2) (pc6 := 909) dlw_903 dlw_904 dlw_906 dlw_907 dlw_908 ⟨rfl, rfl, rfl, rfl, rfl⟩ zi_2 hl ⟨by decide, hi.1, hi.2.1, hi.2.2⟩ ?_
  refine lwP_9 (pc' := 910) dlw_909 rfl (lda_9 (k := 3) hl.2.2.2.1) ?_
  obtain ⟨n8, z8, v9, r8, rv, w8, k8⟩ := lc_9 (Lx' := Lx) S (wL_independent9 (L := Lx) W T I oU.1 oU.2.1 oU.2.2.1 oU.2.2.2) (fun κ' h => ⟨h.1, h.2.1⟩)
  refine lw_k9 (d := 15) (y := (kL_independent, _, [])) dlw_910 rfl rfl rfl rfl rfl r8 w8 (show 910 + 3 = 913 from rfl) (st' := [.int v9]) (by rw [rv]; rfl) (fun w hw => ?_)
  obtain ⟨κ1, J2, P2, e8, S2⟩ := k8 w hw
  obtain ⟨κ2, hκ2⟩ : ∃ κ2, κ2 = stn9 κ1 w := ⟨_, rfl⟩
  have P2 : (∃ ρ', chI9 ρ' κ1 a Lx) ∧ (∃ F, zF F κ κ1) ∧ pC8 κ κ2 a := by rw [hκ2]; exact P2
  rw [e8, ← hκ2]
  rw [← hκ2] at S2
  refine lwP_9 (pc' := 915) (lo' := dset1 lo 5 (.int v9)) (st' := []) dlw_913 rfl rfl ?_
  have hl1 : lO9 scr a o u i (dset1 lo 5 (.int v9)) := lO_19 (by decide) hl (fun w9 z9 => by rw [hl.2.2.2.2] at z9; cases z9; rfl)
  refine lwP_9 (pc' := 916) dlw_915 rfl (lda_9 (k := 2) hl1.2.2.1) ?_
  refine la_9 (jj := 1) (j := 1) (pc6 := 922) dlw_916 dlw_917 dlw_919 dlw_920 dlw_921 ⟨rfl, rfl, rfl, rfl, rfl⟩ zi_1 hl1 ⟨by decide, hi.1, hi.2.1, hi.2.2⟩ ?_
  refine la_9 (jj := 2) (j := 2) (pc6 := 928) dlw_922 dlw_923 dlw_925 dlw_926 dlw_927 ⟨rfl, rfl, rfl, rfl, rfl⟩ zi_2 hl1 ⟨by decide, hi.1, hi.2.1, hi.2.2⟩ ?_
  refine li_9 (m := (yX13_independent, cX13_independent, 3, (some .boolean), false, 16, 2)) (as := [.int _, .int _]) (Q := fun σ _ σ' => RJ σ' ∧ pR8 σ σ') (j := 411) (pc' := 931) S2 hR dlw_928 (by decide +kernel) rfl ⟨rfl, by decide, rfl⟩ rfl (RA _ _) rfl (Nat.le_of_ble_eq_true rfl) rfl (fun v2 σ2 q9 => ?_)
  have q1 := q9.1
  have q2 := q9.2
  refine lwP_9 (pc' := 933) (lo' := dset1 (dset1 lo 5 (.int v9)) 6 (.int v2)) (st' := []) dlw_931 rfl rfl ?_
  refine lwP_9 (pc' := 1023) (lo' := dset1 (dset1 lo 5 (.int v9)) 6 (.int v2)) (st' := []) dlw_933 rfl rfl ?_
  exact N _ _ _ _ _ _ (lO_19 (by decide) hl1 (fun w9 z9 => by rw [hl1.2.2.2.2] at z9; cases z9; rfl)) (lS_m9 (by omega) (Nat.le_refl _) (lr_9 (σ' := σ2) S2)) q1 (re_8 q2 ht P2.2.2)
theorem ls_given9 (RJ3 : ∀ σ, RJ σ → pb16 σ) (RA : ∀ (y0 y1 y2 : Int32), rcY9 RJ (yX13_given, cX13_given, 7, (some .boolean), false, 16, 3) y0 y1 y2) (RT : rcW9 (yX13_thrown, cX13_thrown, 1, (some .int), false, 16, 0)) (hl : lO9 scr a o u i lo) (hi : 0 ≤ i.toInt ∧ i.toInt + 6 ≤ L ∧ L ≤ 3072) (S : lS9 sa TL b a o u Lx t κ σ J cs ss) (hR : RJ σ) (ht : RC8 κ a σ) (N : nx9 sa TL b a o u scr L xs RJ Lx t n i) : dV9 (dEE sa TL) dXX dKK b scr L xs lawP9 (n + 53) 16 rLaw 936 lo [] (zH (lB9 sa TL b o u σ J) κ) cs ss := by
  obtain ⟨W, T, ⟨ρ, I⟩, _⟩ := id S
  have oU := oU_9 S
  refine lwP_9 (pc' := 937) dlw_936 rfl (lda_9 (k := 1) hl.2.1) ?_
  refine la_9 (jj := 1) (j := 1) (pc6 := 943) dlw_937 dlw_938 dlw_940 dlw_941 dlw_942 ⟨rfl, rfl, rfl, rfl, rfl⟩ zi_1 hl ⟨by decide, hi.1, hi.2.1, hi.2.2⟩ ?_
  refine la_9 (jj := 2) (j := 2) (pc6 := 949) dlw_943 dlw_944 dlw_946 dlw_947 dlw_948 ⟨rfl, rfl, rfl, rfl, rfl⟩ zi_2 hl ⟨by decide, hi.1, hi.2.1, hi.2.2⟩ ?_
  refine la_9 (jj := 3) (j := 3) (pc6 := 955) dlw_949 dlw_950 dlw_952 dlw_953 dlw_954 ⟨rfl, rfl, rfl, rfl, rfl⟩ zi_3 hl ⟨by decide, hi.1, hi.2.1, hi.2.2⟩ ?_
  refine lwP_9 (pc' := 956) dlw_955 rfl (lda_9 (k := 3) hl.2.2.2.1) ?_
  obtain ⟨n8, z8, v9, r8, rv, w8, k8⟩ := lcp_9 (Lx' := Lx) S (wM_given9 (L := Lx) W T I σ ht ⟨(RJ3 σ hR).1, (RJ3 σ hR).2.2⟩ oU.1 oU.2.1 oU.2.2.1 oU.2.2.2) (fun v C' κ' h => ⟨h.1.1, h.1.2.1⟩)
  refine lw_k9 (d := 15) (y := (kL_given, _, [])) dlw_956 rfl rfl rfl rfl rfl r8 w8 (show 956 + 3 = 959 from rfl) (st' := [.int v9]) (by rw [rv]; rfl) (fun w hw => ?_)
  obtain ⟨κ1, J2, ⟨P2, PR⟩, e8, S2⟩ := k8 w hw
  obtain ⟨κ2, hκ2⟩ : ∃ κ2, κ2 = stn9 κ1 w := ⟨_, rfl⟩
  have P2 : (∃ ρ', chI9 ρ' κ1 a Lx) ∧ (∃ F, zF F κ κ1) ∧ pC8 κ κ2 a := by rw [hκ2]; exact P2
  rw [e8, ← hκ2]
  rw [← hκ2] at S2
  refine lwP_9 (pc' := 961) (lo' := dset1 lo 5 (.int v9)) (st' := []) dlw_959 rfl rfl ?_
  have hl1 : lO9 scr a o u i (dset1 lo 5 (.int v9)) := lO_19 (by decide) hl (fun w9 z9 => by rw [hl.2.2.2.2] at z9; cases z9; rfl)
  refine lwP_9 (pc' := 962) dlw_961 rfl (lda_9 (k := 2) hl1.2.2.1) ?_
  refine la_9 (jj := 1) (j := 1) (pc6 := 968) dlw_962 dlw_963 dlw_965 dlw_966 dlw_967 ⟨rfl, rfl, rfl, rfl, rfl⟩ zi_1 hl1 ⟨by decide, hi.1, hi.2.1, hi.2.2⟩ ?_
  refine la_9 (jj := 2) (j := 2) (pc6 := 974) dlw_968 dlw_969 dlw_971 dlw_972 dlw_973 ⟨rfl, rfl, rfl, rfl, rfl⟩ zi_2 hl1 ⟨by decide, hi.1, hi.2.1, hi.2.2⟩ ?_
  refine la_9 (jj := 3) (j := 3) (pc6 := 980) dlw_974 dlw_975 dlw_977 dlw_978 dlw_979 ⟨rfl, rfl, rfl, rfl, rfl⟩ zi_3 hl1 ⟨by decide, hi.1, hi.2.1, hi.2.2⟩ ?_
  refine li_9 (m := (yX13_given, cX13_given, 7, (some .boolean), false, 16, 3)) (as := [.int (xs (i + 1).toNatClampNeg), .int (xs (i + 2).toNatClampNeg), .int (xs (i + 3).toNatClampNeg)]) (Q := fun σ v σ' => RJ σ' ∧ pR8 σ σ' ∧ XGA24 (xs (i + 1).toNatClampNeg) (xs (i + 2).toNatClampNeg) (xs (i + 3).toNatClampNeg) σ σ' v) (j := 412) (pc' := 983) S2 hR dlw_980 (by decide +kernel) rfl ⟨rfl, by decide, rfl⟩ rfl (RA _ _ _) rfl (Nat.le_of_ble_eq_true rfl) rfl (fun v2 σ2 q9 => ?_)
  have q1 := q9.1
  have q2 := q9.2
  refine lwP_9 (pc' := 985) (lo' := dset1 (dset1 lo 5 (.int v9)) 6 (.int v2)) (st' := []) dlw_983 rfl rfl ?_
  have hl2 : lO9 scr a o u i (dset1 (dset1 lo 5 (.int v9)) 6 (.int v2)) := lO_19 (by decide) hl1 (fun w9 z9 => by rw [hl1.2.2.2.2] at z9; cases z9; rfl)
  have l5 : (dset1 (dset1 lo 5 (.int v9)) 6 (.int v2)) 5 = some (.int v9) := ds_9 (by decide) (if_pos rfl) rfl
  have l6 : (dset1 (dset1 lo 5 (.int v9)) 6 (.int v2)) 6 = some (.int v2) := if_pos rfl
  have S3 := lr_9 (σ' := σ2) S2
  have oU2 := oU_9 S3
  obtain ⟨lo2, hlo2⟩ : ∃ lo2, lo2 = dset1 (dset1 lo 5 (.int v9)) 6 (.int v2) := ⟨_, rfl⟩
  rw [← hlo2] at hl2 l5 l6 ⊢
  refine lwP_9 (pc' := 986) dlw_985 rfl (lda_9 (k := 2) hl2.2.2.1) ?_
  refine li_9 (m := (yX13_thrown, cX13_thrown, 1, (some .int), false, 16, 0)) (as := []) (Q := fun σ v σ' => σ' = σ ∧ v = σ.1 0) (j := 430) (pc' := 989) S3 q1 dlw_986 (by decide +kernel) rfl ⟨rfl, by decide, rfl⟩ rfl (fun C σ hC _ => RT C σ hC) rfl (Nat.le_of_ble_eq_true rfl) rfl (fun v3 σ3 q3 => ?_)
  obtain ⟨e3, ev3⟩ := q3
  rw [e3]
  refine lwP_9 (pc' := 991) dlw_989 rfl (ldi_9 l5) ?_
  rcases PR with ⟨h2, h1, J1, x9, hJ1, hx9, hg⟩ | ⟨h2, h1⟩ | ⟨h2, h1⟩
  · obtain ⟨z0, zv⟩ := an_a8 q2.2 h1
    have eJ : J1 = J2 := oC_9 (hJ1.symm.trans (if_pos rfl))
    have ev : v3 = v9 := by rw [ev3, z0, h2]
    rw [ev]
    refine lwP_9 (pc' := 996) (lo' := lo2) (st' := []) dlw_991 rfl (ic_e9 rfl) ?_
    refine lwP_9 (pc' := 998) dlw_996 rfl (ldi_9 l5) ?_
    refine lwP_9 (pc' := 1001) (lo' := lo2) (st' := []) dlw_998 rfl (by rw [h2]; exact in_09 (t := 1020) rfl) ?_
    refine lwP_9 (pc' := 1002) dlw_1001 rfl (lda_9 (k := 3) hl2.2.2.2.1) ?_
    refine lwP_9 (pc' := 1003) (lo' := lo2) (st' := [.int 0, .ref u]) dlw_1002 rfl (by rw [← zi_0]; rfl) ?_
    refine lw_h9 (pc' := 1004) (st' := [.long (J2 0)]) dlw_1003 rfl rfl rfl (lal_9 (zH_u9 oU2.2.1 oU2.2.2.2)) ?_
    refine lwP_9 (pc' := 1006) dlw_1004 rfl (ldi_9 l6) ?_
    by_cases z6 : v2 = 0
    · refine dV_l9 (n := n + 5) (by omega) ?_
      refine lwP_9 (pc' := 1013) (lo' := lo2) (st' := [.long (J2 0)]) dlw_1006 rfl (by rw [z6]; exact ie_09 rfl) ?_
      refine lwP_9 (pc' := 1014) (lo' := lo2) (st' := [.long 0, .long (J2 0)]) dlw_1013 rfl rfl ?_
      refine lwP_9 (pc' := 1015) (lo' := lo2) (st' := [.int 0]) dlw_1014 rfl (lc_e9 (by rw [← eJ, hx9, hg, zv, z6]; decide)) ?_
      refine lwP_9 (pc' := 1020) (lo' := lo2) (st' := []) dlw_1015 rfl (ie_09 rfl) ?_
      refine lwP_9 (pc' := 1023) (lo' := lo2) (st' := []) dlw_1020 rfl rfl ?_
      exact N _ _ _ _ _ _ hl2 (lS_m9 (by omega) (Nat.le_refl _) (lr_9 (σ' := σ2) S3)) q1 (re_8 q2.1 ht P2.2.2)
    · have v1 : v2 = 1 := by
        have y : nb v2 := by rw [← zv]; exact nb_i24
        exact y.resolve_left z6
      refine lwP_9 (pc' := 1009) (lo' := lo2) (st' := [.long (J2 0)]) dlw_1006 rfl (ifeq_n9 (t := 1013) z6 rfl) ?_
      refine lwP_9 (pc' := 1010) (lo' := lo2) (st' := [.long 1, .long (J2 0)]) dlw_1009 rfl rfl ?_
      refine lwP_9 (pc' := 1014) (lo' := lo2) (st' := [.long 1, .long (J2 0)]) dlw_1010 rfl rfl ?_
      refine lwP_9 (pc' := 1015) (lo' := lo2) (st' := [.int 0]) dlw_1014 rfl (lc_e9 (by rw [← eJ, hx9, hg, zv, v1]; decide)) ?_
      refine lwP_9 (pc' := 1020) (lo' := lo2) (st' := []) dlw_1015 rfl (ie_09 rfl) ?_
      refine lwP_9 (pc' := 1023) (lo' := lo2) (st' := []) dlw_1020 rfl rfl ?_
      exact N _ _ _ _ _ _ hl2 (lS_m9 (by omega) (Nat.le_refl _) (lr_9 (σ' := σ2) S3)) q1 (re_8 q2.1 ht P2.2.2)
  · have z0 := an_b8 q2.2 h1 (by decide)
    have ev : v3 = v9 := by rw [ev3, z0, h2]
    rw [ev]
    refine dV_l9 (n := n + 4) (by omega) ?_
    refine lwP_9 (pc' := 996) (lo' := lo2) (st' := []) dlw_991 rfl (ic_e9 rfl) ?_
    refine lwP_9 (pc' := 998) dlw_996 rfl (ldi_9 l5) ?_
    refine lwP_9 (pc' := 1020) (lo' := lo2) (st' := []) dlw_998 rfl (by rw [h2]; exact in_19 rfl) ?_
    refine lwP_9 (pc' := 1023) (lo' := lo2) (st' := []) dlw_1020 rfl rfl ?_
    exact N _ _ _ _ _ _ hl2 (lS_m9 (by omega) (Nat.le_refl _) (lr_9 (σ' := σ2) S3)) q1 (re_8 q2.1 ht P2.2.2)
  · have z0 := an_b8 q2.2 h1 (by decide)
    have ev : v3 = v9 := by rw [ev3, z0, h2]
    rw [ev]
    refine dV_l9 (n := n + 4) (by omega) ?_
    refine lwP_9 (pc' := 996) (lo' := lo2) (st' := []) dlw_991 rfl (ic_e9 rfl) ?_
    refine lwP_9 (pc' := 998) dlw_996 rfl (ldi_9 l5) ?_
    refine lwP_9 (pc' := 1020) (lo' := lo2) (st' := []) dlw_998 rfl (by rw [h2]; exact in_29 rfl) ?_
    refine lwP_9 (pc' := 1023) (lo' := lo2) (st' := []) dlw_1020 rfl rfl ?_
    exact N _ _ _ _ _ _ hl2 (lS_m9 (by omega) (Nat.le_refl _) (lr_9 (σ' := σ2) S3)) q1 (re_8 q2.1 ht P2.2.2)
end LC
