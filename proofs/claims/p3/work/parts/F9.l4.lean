set_option maxHeartbeats 1600000
/-! the law's cases -/
def rcI9 (RJ : rS → Prop) (m : dM) (as : List Value) : Prop := ∀ (C : rCx) (σ : rS), cOK C → RJ σ → cI C 15 m (.ref (co C) :: as) σ (fun _ σ' => RJ σ' ∧ σ'.1 104 = σ.1 104 ∧ σ'.1 2 = σ.1 2)
def rcJ9 (RJ : rS → Prop) (m : dM) (as : List Value) : Prop := ∀ (C : rCx) (σ : rS), cOK C → RJ σ → cJ C 15 m (.ref (co C) :: as) σ (fun _ σ' => RJ σ' ∧ σ'.1 104 = σ.1 104 ∧ σ'.1 2 = σ.1 2)
def rcV9 (RJ : rS → Prop) (m : dM) (as : List Value) : Prop := ∀ (C : rCx) (σ : rS), cOK C → RJ σ → cV C 15 m (.ref (co C) :: as) σ (fun σ' => RJ σ' ∧ σ'.1 104 = σ.1 104 ∧ σ'.1 2 = σ.1 2)
def rcT9 (RJ : rS → Prop) (m : dM) (as : List Value) : Prop := ∀ (C : rCx) (σ : rS), cOK C → RJ σ → cI C 15 m (.ref (co C) :: as) σ (fun v σ' => RJ σ' ∧ ((σ.1 104 = 200 → σ'.1 104 = 200) ∧ (σ.1 104 ≠ 200 → σ'.1 104 = σ.1 104 + 1)) ∧ σ'.1 2 = σ.1 2)
def rcF9 (RJ : rS → Prop) (m : dM) (as : List Value) : Prop := ∀ (C : rCx) (σ : rS), cOK C → RJ σ → cI C 15 m (.ref (co C) :: as) σ (fun v σ' => RJ σ' ∧ v = σ.1 104 ∧ σ'.1 104 = 0 ∧ σ'.1 2 = σ.1 2)
/-- program, feed, end of the reference -/
def rcP9 (RJ : rS → Prop) (m : dM) (as : List Value) : Prop := ∀ (C : rCx) (σ : rS), cOK C → RJ σ → cI C 15 m (.ref (co C) :: as) σ (fun _ σ' => RJ σ' ∧ σ'.1 104 = σ.1 104 ∧ σ'.1 2 = 0)
def rcD9 (RJ : rS → Prop) (m : dM) (as : List Value) : Prop := ∀ (C : rCx) (σ : rS), cOK C → RJ σ → σ.1 2 ≤ 60000 → cI C 15 m (.ref (co C) :: as) σ (fun v σ' => RJ σ' ∧ σ'.1 104 = σ.1 104 ∧ v = σ.1 2 + 20 ∧ σ'.1 2 = σ.1 2 + 20 ∧ σ'.1 0 = 0)
def rcE9 (RJ : rS → Prop) (m : dM) (y : Int32) : Prop := ∀ (C : rCx) (σ : rS), cOK C → RJ σ → cV C 15 m (.ref (co C) :: [.int y]) σ (fun σ' => RJ σ' ∧ σ'.1 104 = σ.1 104 ∧ ((0 ≤ y ∧ y ≤ σ.1 2) → σ'.1 0 = 0 ∧ σ'.1 2 = y) ∧ (¬ (0 ≤ y ∧ y ≤ σ.1 2) → σ'.1 0 = 1 ∧ σ'.1 2 = σ.1 2))
/-- what the reference threw -/
def rcW9 (m : dM) : Prop := ∀ (C : rCx) (σ : rS), cOK C → cI C 15 m (.ref (co C) :: []) σ (fun v σ' => σ' = σ ∧ v = σ.1 0)
/-- the reference's object takes a call -/
theorem inv_r9 {C : zC} {idx j oo : Nat} {r' : dM} {As rest : List Value} {h : dH} {fs : List Value} (hm : (tML 100 ++ tMX 100).lookup idx = some j) (hj : MTs[j]? = some r') (hq : r'.2.2.2.2.1 = false ∧ r'.1.name ≠ "<init>" ∧ r'.2.2.2.2.2.1 = 16) (hn : As.length = r'.2.2.2.2.2.2) (hl : (lg_sl (.ref oo :: As)).length ≤ r'.2.2.1) (hc : (rest.map fun v => v.category).sum ≤ 8) (ho : h.2 oo = some (.inr (16, fs))) : dinv (yEn C) 100 (.invokevirtual idx) 3 (As.reverse ++ .ref oo :: rest) h = some (r', .ref oo :: As, rest) := by
  have hdr : (As.reverse ++ Value.ref oo :: rest).drop r'.2.2.2.2.2.2 = .ref oo :: rest := by rw [← hn, ← List.length_reverse]; simp
  have htk : (As.reverse ++ Value.ref oo :: rest).take r'.2.2.2.2.2.2 = As.reverse := by rw [← hn, ← List.length_reverse]; simp
  show dinvV (yEn C) 100 3 idx (As.reverse ++ .ref oo :: rest) h = _
  have hm' : eML (yEn C) 100 idx = some j := hm
  have hj' : eMT (yEn C) j = some r' := hj
  unfold dinvV
  simp only [hm', hj', hdr, htk, List.reverse_reverse]
  rw [if_pos ⟨trivial, hq.1, hq.2.1, by unfold drec; rw [ho, hq.2.2]; simp, hc, hl⟩]
section LC
variable {sa : Nat → Nat} {TL : List (Nat × Nat × List Int32)} {b a o u t cs ss scr L n : Nat} {xs : Nat → Int32} {Lx : Int} {κ : zS} {σ : rS} {J : Nat → Int64} {RJ : rS → Prop} {lo : dL0} {i : Int32}
theorem rcH_9 (S : lS9 sa TL b a o u Lx t κ σ J cs ss) : ∃ fs, (zH (lB9 sa TL b o u σ J) κ).2 o = some (.inr (16, fs)) := by
  obtain ⟨_, _, _, _, _, ⟨⟨p1, p2, p3⟩, pz⟩, _⟩ := S
  have z := (pz o (Or.inr ⟨Nat.le_refl _, by omega⟩)).1
  refine ⟨rF (ad9 o) σ, ?_⟩
  show (if zT κ o = 0 then (if o = u then some (outC9 J) else (rH (none, fun _ => none) o (ad9 o) σ).2 o) else some (zCell κ o)) = _
  rw [if_pos z, if_neg (by omega)]
  exact if_pos rfl
theorem rI_9 {m : dM} {as : List Value} {Q : Int32 → rS → Prop} (S : lS9 sa TL b a o u Lx t κ σ J cs ss) (h : cI (rD9 sa TL b o u κ σ J) 15 m (.ref o :: as) σ Q) : ∃ (k9 : Nat) (v : Int32) (σ' : rS), drun (dEE sa TL) b k9 15 m 0 (dent (.ref o :: as)) [] (zH (lB9 sa TL b o u σ J) κ) 0 0 = some (some (.int v), zH (lB9 sa TL b o u σ' J) κ, 0, 0) ∧ Q v σ' := by
  obtain ⟨v, σ', ⟨k9, r1⟩, q⟩ := h
  refine ⟨k9, v, σ', ?_, q⟩
  rw [← rD_h9 S σ, ← rD_h9 S σ']
  exact r1
theorem rJ_9 {m : dM} {as : List Value} {Q : Int64 → rS → Prop} (S : lS9 sa TL b a o u Lx t κ σ J cs ss) (h : cJ (rD9 sa TL b o u κ σ J) 15 m (.ref o :: as) σ Q) : ∃ (k9 : Nat) (v : Int64) (σ' : rS), drun (dEE sa TL) b k9 15 m 0 (dent (.ref o :: as)) [] (zH (lB9 sa TL b o u σ J) κ) 0 0 = some (some (.long v), zH (lB9 sa TL b o u σ' J) κ, 0, 0) ∧ Q v σ' := by
  obtain ⟨v, σ', ⟨k9, r1⟩, q⟩ := h
  refine ⟨k9, v, σ', ?_, q⟩
  rw [← rD_h9 S σ, ← rD_h9 S σ']
  exact r1
theorem rV_9 {m : dM} {as : List Value} {Q : rS → Prop} (S : lS9 sa TL b a o u Lx t κ σ J cs ss) (h : cV (rD9 sa TL b o u κ σ J) 15 m (.ref o :: as) σ Q) : ∃ (k9 : Nat) (σ' : rS), drun (dEE sa TL) b k9 15 m 0 (dent (.ref o :: as)) [] (zH (lB9 sa TL b o u σ J) κ) 0 0 = some (none, zH (lB9 sa TL b o u σ' J) κ, 0, 0) ∧ Q σ' := by
  obtain ⟨σ', ⟨k9, r1⟩, q⟩ := h
  refine ⟨k9, σ', ?_, q⟩
  rw [← rD_h9 S σ, ← rD_h9 S σ']
  exact r1
/-- what comes behind a case -/
def nx9 (sa : Nat → Nat) (TL : List (Nat × Nat × List Int32)) (b a o u scr L : Nat) (xs : Nat → Int32) (RJ : rS → Prop) (Lx : Int) (t n : Nat) (i : Int32) : Prop := ∀ (Lx' : Int) (lo : dL0) (κ : zS) (σ : rS) (J : Nat → Int64) (cs ss : Nat), 0 ≤ Lx' ∧ Lx' ≤ Lx + 20 → lO9 scr a o u i lo → lS9 sa TL b a o u Lx' (t + 1) κ σ J cs ss → RJ σ → σ.1 104 = zI κ chTolds a → (σ.1 2).toInt = Lx' → dV9 (dEE sa TL) dXX dKK b scr L xs lawP9 n 16 rLaw 999 lo [] (zH (lB9 sa TL b o u σ J) κ) cs ss
theorem oU_9 (S : lS9 sa TL b a o u Lx t κ σ J cs ss) : b ≤ u ∧ zT κ u = 0 ∧ u < zn κ ∧ (yh (lB9 sa TL b o u σ J)).2 u = some (outC9 J) := by
  obtain ⟨_, _, _, _, _, ⟨⟨p1, p2, p3⟩, pz⟩, _⟩ := S
  exact ⟨p2, (pz u (Or.inl rfl)).1, (pz u (Or.inl rfl)).2, if_pos rfl⟩
theorem li_9 {m : dM} {as st : List Value} {idx j pc pc' : Nat} {Q : rS → Int32 → rS → Prop} (S : lS9 sa TL b a o u Lx t κ σ J cs ss) (hR : RJ σ) (hd : decode code pc = .ok (.invokevirtual idx, 3)) (hm : (tML 100 ++ tMX 100).lookup idx = some j) (hj : MTs[j]? = some m) (hq : m.2.2.2.2.1 = false ∧ m.1.name ≠ "<init>" ∧ m.2.2.2.2.2.1 = 16) (hn : as.length = m.2.2.2.2.2.2) (RA : ∀ (C : rCx) (σ : rS), cOK C → RJ σ → cI C 15 m (.ref (co C) :: as) σ (Q σ)) (hst : as.reverse ++ [.ref o] = st) (hl : (lg_sl (.ref o :: as)).length ≤ m.2.2.1) (hpc : pc + 3 = pc') (K : ∀ v σ', Q σ v σ' → dV9 (dEE sa TL) dXX dKK b scr L xs lawP9 n 16 rLaw pc' lo [.int v] (zH (lB9 sa TL b o u σ' J) κ) (cs + 0) (ss + 0)) : dV9 (dEE sa TL) dXX dKK b scr L xs lawP9 (n + 1) 16 rLaw pc lo st (zH (lB9 sa TL b o u σ J) κ) cs ss := by
  subst hst
  obtain ⟨k9, v2, σ2, r2, q⟩ := rI_9 S (RA _ σ (rD_c9 S) hR)
  obtain ⟨fs, ho⟩ := rcH_9 S
  exact lw_c9 (d := 15) hd rfl rfl rfl rfl (inv_r9 (C := lB9 sa TL b o u σ J) (As := as) (rest := []) (j := j) hm hj hq hn hl (by decide) ho) r2 hpc rfl (K v2 σ2 q)
theorem lj_9 {m : dM} {as st : List Value} {idx j pc pc' : Nat} {Q : rS → Int64 → rS → Prop} (S : lS9 sa TL b a o u Lx t κ σ J cs ss) (hR : RJ σ) (hd : decode code pc = .ok (.invokevirtual idx, 3)) (hm : (tML 100 ++ tMX 100).lookup idx = some j) (hj : MTs[j]? = some m) (hq : m.2.2.2.2.1 = false ∧ m.1.name ≠ "<init>" ∧ m.2.2.2.2.2.1 = 16) (hn : as.length = m.2.2.2.2.2.2) (RA : ∀ (C : rCx) (σ : rS), cOK C → RJ σ → cJ C 15 m (.ref (co C) :: as) σ (Q σ)) (hst : as.reverse ++ [.ref o] = st) (hl : (lg_sl (.ref o :: as)).length ≤ m.2.2.1) (hpc : pc + 3 = pc') (K : ∀ v σ', Q σ v σ' → dV9 (dEE sa TL) dXX dKK b scr L xs lawP9 n 16 rLaw pc' lo [.long v] (zH (lB9 sa TL b o u σ' J) κ) (cs + 0) (ss + 0)) : dV9 (dEE sa TL) dXX dKK b scr L xs lawP9 (n + 1) 16 rLaw pc lo st (zH (lB9 sa TL b o u σ J) κ) cs ss := by
  subst hst
  obtain ⟨k9, v2, σ2, r2, q⟩ := rJ_9 S (RA _ σ (rD_c9 S) hR)
  obtain ⟨fs, ho⟩ := rcH_9 S
  exact lw_c9 (d := 15) hd rfl rfl rfl rfl (inv_r9 (C := lB9 sa TL b o u σ J) (As := as) (rest := []) (j := j) hm hj hq hn hl (by decide) ho) r2 hpc rfl (K v2 σ2 q)
theorem lv_9 {m : dM} {as st : List Value} {idx j pc pc' : Nat} {Q : rS → rS → Prop} (S : lS9 sa TL b a o u Lx t κ σ J cs ss) (hR : RJ σ) (hd : decode code pc = .ok (.invokevirtual idx, 3)) (hm : (tML 100 ++ tMX 100).lookup idx = some j) (hj : MTs[j]? = some m) (hq : m.2.2.2.2.1 = false ∧ m.1.name ≠ "<init>" ∧ m.2.2.2.2.2.1 = 16) (hn : as.length = m.2.2.2.2.2.2) (RA : ∀ (C : rCx) (σ : rS), cOK C → RJ σ → cV C 15 m (.ref (co C) :: as) σ (Q σ)) (hst : as.reverse ++ [.ref o] = st) (hl : (lg_sl (.ref o :: as)).length ≤ m.2.2.1) (hpc : pc + 3 = pc') (K : ∀ σ', Q σ σ' → dV9 (dEE sa TL) dXX dKK b scr L xs lawP9 n 16 rLaw pc' lo [] (zH (lB9 sa TL b o u σ' J) κ) (cs + 0) (ss + 0)) : dV9 (dEE sa TL) dXX dKK b scr L xs lawP9 (n + 1) 16 rLaw pc lo st (zH (lB9 sa TL b o u σ J) κ) cs ss := by
  subst hst
  obtain ⟨k9, σ2, r2, q⟩ := rV_9 S (RA _ σ (rD_c9 S) hR)
  obtain ⟨fs, ho⟩ := rcH_9 S
  exact lw_c9 (d := 15) hd rfl rfl rfl rfl (inv_r9 (C := lB9 sa TL b o u σ J) (As := as) (rest := []) (j := j) hm hj hq hn hl (by decide) ho) r2 hpc rfl (K σ2 q)
theorem ls_feed9 (RA : ∀ (y0 y1 y2 y3 y4 : Int32), rcD9 RJ (yX13_feed, cX13_feed, 8, (some .int), false, 16, 5) [.int y0, .int y1, .int y2, .int y3, .int y4]) (hl : lO9 scr a o u i lo) (hi : 0 ≤ i.toInt ∧ i.toInt + 6 ≤ L ∧ L ≤ 3072) (hf : Lx ≤ 10220) (S : lS9 sa TL b a o u Lx t κ σ J cs ss) (hR : RJ σ) (ht : σ.1 104 = zI κ chTolds a) (h0 : 0 ≤ Lx) (hs : (σ.1 2).toInt = Lx) (N : nx9 sa TL b a o u scr L xs RJ Lx t n i) : dV9 (dEE sa TL) dXX dKK b scr L xs lawP9 (n + 58) 16 rLaw 152 lo [] (zH (lB9 sa TL b o u σ J) κ) cs ss := by
  obtain ⟨W, T, ⟨ρ, I⟩, _⟩ := id S
  have oU := oU_9 S
  have h60 : σ.1 2 ≤ 60000 := by
    have t60 : (60000 : Int32).toInt = 60000 := rfl
    rw [lei]
    omega
  refine lwP_9 (pc' := 153) dlw_152 rfl (lda_9 (k := 1) hl.2.1) ?_
  refine la_9 (jj := 1) (j := 1) (pc6 := 159) dlw_153 dlw_154 dlw_156 dlw_157 dlw_158 ⟨rfl, rfl, rfl, rfl, rfl⟩ zi_1 hl ⟨by decide, hi.1, hi.2.1, hi.2.2⟩ ?_
  refine la_9 (jj := 2) (j := 2) (pc6 := 165) dlw_159 dlw_160 dlw_162 dlw_163 dlw_164 ⟨rfl, rfl, rfl, rfl, rfl⟩ zi_2 hl ⟨by decide, hi.1, hi.2.1, hi.2.2⟩ ?_
  refine la_9 (jj := 3) (j := 3) (pc6 := 171) dlw_165 dlw_166 dlw_168 dlw_169 dlw_170 ⟨rfl, rfl, rfl, rfl, rfl⟩ zi_3 hl ⟨by decide, hi.1, hi.2.1, hi.2.2⟩ ?_
  refine la_9 (jj := 4) (j := 4) (pc6 := 177) dlw_171 dlw_172 dlw_174 dlw_175 dlw_176 ⟨rfl, rfl, rfl, rfl, rfl⟩ zi_4 hl ⟨by decide, hi.1, hi.2.1, hi.2.2⟩ ?_
  refine la_9 (jj := 5) (j := 5) (pc6 := 183) dlw_177 dlw_178 dlw_180 dlw_181 dlw_182 ⟨rfl, rfl, rfl, rfl, rfl⟩ zi_5 hl ⟨by decide, hi.1, hi.2.1, hi.2.2⟩ ?_
  refine lwP_9 (pc' := 184) dlw_183 rfl (lda_9 (k := 3) hl.2.2.2.1) ?_
  obtain ⟨n8, z8, v9, r8, rv, w8, k8⟩ := lcp_9 (Lx' := Lx + 20) S (wM_feed9 (L := Lx) W T I hf oU.1 oU.2.1 oU.2.2.1 oU.2.2.2) (fun v C' κ' h => ⟨h.1.1, h.1.2.1⟩)
  refine lw_k9 (d := 15) (y := (kL_feed, _, [])) dlw_184 rfl rfl rfl rfl rfl r8 w8 (show 184 + 3 = 187 from rfl) (st' := [.int v9]) (by rw [rv]; rfl) (fun w hw => ?_)
  obtain ⟨κ1, J2, ⟨P2, ev9, J1, x9, hJ1, hx9, hx8⟩, e8, S2⟩ := k8 w hw
  obtain ⟨κ2, hκ2⟩ : ∃ κ2, κ2 = stn9 κ1 w := ⟨_, rfl⟩
  have P2 : (∃ ρ', chI9 ρ' κ1 a (Lx + 20)) ∧ (∃ F, zF F κ κ1) ∧ zI κ2 chTolds a = zI κ chTolds a := by rw [hκ2]; exact P2
  rw [e8, ← hκ2]
  rw [← hκ2] at S2
  refine lwP_9 (pc' := 189) (lo' := dset1 lo 5 (.int v9)) (st' := []) dlw_187 rfl rfl ?_
  have hl1 : lO9 scr a o u i (dset1 lo 5 (.int v9)) := lO_19 (by decide) hl (fun w9 z9 => by rw [hl.2.2.2.2] at z9; cases z9; rfl)
  refine lwP_9 (pc' := 190) dlw_189 rfl (lda_9 (k := 2) hl1.2.2.1) ?_
  refine la_9 (jj := 1) (j := 1) (pc6 := 196) dlw_190 dlw_191 dlw_193 dlw_194 dlw_195 ⟨rfl, rfl, rfl, rfl, rfl⟩ zi_1 hl1 ⟨by decide, hi.1, hi.2.1, hi.2.2⟩ ?_
  refine la_9 (jj := 2) (j := 2) (pc6 := 202) dlw_196 dlw_197 dlw_199 dlw_200 dlw_201 ⟨rfl, rfl, rfl, rfl, rfl⟩ zi_2 hl1 ⟨by decide, hi.1, hi.2.1, hi.2.2⟩ ?_
  refine la_9 (jj := 3) (j := 3) (pc6 := 208) dlw_202 dlw_203 dlw_205 dlw_206 dlw_207 ⟨rfl, rfl, rfl, rfl, rfl⟩ zi_3 hl1 ⟨by decide, hi.1, hi.2.1, hi.2.2⟩ ?_
  refine la_9 (jj := 4) (j := 4) (pc6 := 214) dlw_208 dlw_209 dlw_211 dlw_212 dlw_213 ⟨rfl, rfl, rfl, rfl, rfl⟩ zi_4 hl1 ⟨by decide, hi.1, hi.2.1, hi.2.2⟩ ?_
  refine la_9 (jj := 5) (j := 5) (pc6 := 220) dlw_214 dlw_215 dlw_217 dlw_218 dlw_219 ⟨rfl, rfl, rfl, rfl, rfl⟩ zi_5 hl1 ⟨by decide, hi.1, hi.2.1, hi.2.2⟩ ?_
  refine li_9 (RJ := fun σ => RJ σ ∧ σ.1 2 ≤ 60000) (m := (yX13_feed, cX13_feed, 8, (some .int), false, 16, 5)) (as := [.int _, .int _, .int _, .int _, .int _]) (Q := fun σ v σ' => RJ σ' ∧ σ'.1 104 = σ.1 104 ∧ v = σ.1 2 + 20 ∧ σ'.1 2 = σ.1 2 + 20 ∧ σ'.1 0 = 0) (j := 235) (pc' := 223) S2 ⟨hR, h60⟩ dlw_220 (by decide +kernel) rfl ⟨rfl, by decide, rfl⟩ rfl (fun C σ hC hJ => RA _ _ _ _ _ C σ hC hJ.1 hJ.2) rfl (Nat.le_of_ble_eq_true rfl) rfl (fun v2 σ2 q9 => ?_)
  have q1 := q9.1
  have q2 := q9.2
  refine lwP_9 (pc' := 225) (lo' := dset1 (dset1 lo 5 (.int v9)) 6 (.int v2)) (st' := []) dlw_223 rfl rfl ?_
  have hl2 : lO9 scr a o u i (dset1 (dset1 lo 5 (.int v9)) 6 (.int v2)) := lO_19 (by decide) hl1 (fun w9 z9 => by rw [hl1.2.2.2.2] at z9; cases z9; rfl)
  have e20 : (σ.1 2 + 20).toInt = Lx + 20 := by
    have t20 : (20 : Int32).toInt = 20 := rfl
    rw [add_i (by rw [t20]; omega) (by rw [t20]; omega), t20]
    omega
  refine lwP_9 (pc' := 999) (lo' := dset1 (dset1 lo 5 (.int v9)) 6 (.int v2)) (st' := []) dlw_225 rfl rfl ?_
  exact N _ _ _ _ _ _ _ (by omega) hl2 (lS_t9 (Nat.le_refl _) (lr_9 (σ' := σ2) S2)) q1 (q2.1.trans (ht.trans P2.2.2.symm)) (by rw [q2.2.2.1]; exact e20)
theorem ls_end9 (RA : ∀ (y0 : Int32), rcE9 RJ (yX13_end, cX13_end, 2, none, false, 16, 1) y0) (RT : rcW9 (yX13_thrown, cX13_thrown, 1, (some .int), false, 16, 0)) (hl : lO9 scr a o u i lo) (hi : 0 ≤ i.toInt ∧ i.toInt + 6 ≤ L ∧ L ≤ 3072) (S : lS9 sa TL b a o u Lx t κ σ J cs ss) (hR : RJ σ) (ht : σ.1 104 = zI κ chTolds a) (h0 : 0 ≤ Lx) (hs : (σ.1 2).toInt = Lx) (N : nx9 sa TL b a o u scr L xs RJ Lx t n i) : dV9 (dEE sa TL) dXX dKK b scr L xs lawP9 (n + 20) 16 rLaw 228 lo [] (zH (lB9 sa TL b o u σ J) κ) cs ss := by
  obtain ⟨W, T, ⟨ρ, I⟩, _⟩ := id S
  refine lwP_9 (pc' := 229) dlw_228 rfl (lda_9 (k := 1) hl.2.1) ?_
  refine la_9 (jj := 1) (j := 1) (pc6 := 235) dlw_229 dlw_230 dlw_232 dlw_233 dlw_234 ⟨rfl, rfl, rfl, rfl, rfl⟩ zi_1 hl ⟨by decide, hi.1, hi.2.1, hi.2.2⟩ ?_
  obtain ⟨n8, z8, v9, r8, rv, w8, k8⟩ := lcp_9 (Lx' := eL9 (xs (i + 1).toNatClampNeg) Lx) S (wM_end9 (L := Lx) (p0 := xs (i + 1).toNatClampNeg) W T I) (fun v C' κ' h => ⟨h.1.1, h.1.2.1⟩)
  refine lw_k9 (d := 15) (y := (kL_end, _, [])) dlw_235 rfl rfl rfl rfl rfl r8 w8 (show 235 + 3 = 238 from rfl) (st' := [.int v9]) (by rw [rv]; rfl) (fun w hw => ?_)
  obtain ⟨κ1, J2, ⟨P2, PR⟩, e8, S2⟩ := k8 w hw
  obtain ⟨κ2, hκ2⟩ : ∃ κ2, κ2 = stn9 κ1 w := ⟨_, rfl⟩
  have P2 : (∃ ρ', chI9 ρ' κ1 a (eL9 (xs (i + 1).toNatClampNeg) Lx)) ∧ (∃ F, zF F κ κ1) ∧ zI κ2 chTolds a = zI κ chTolds a := by rw [hκ2]; exact P2
  rw [e8, ← hκ2]
  rw [← hκ2] at S2
  refine lwP_9 (pc' := 240) (lo' := dset1 lo 5 (.int v9)) (st' := []) dlw_238 rfl rfl ?_
  have hl1 : lO9 scr a o u i (dset1 lo 5 (.int v9)) := lO_19 (by decide) hl (fun w9 z9 => by rw [hl.2.2.2.2] at z9; cases z9; rfl)
  refine lwP_9 (pc' := 241) dlw_240 rfl (lda_9 (k := 2) hl1.2.2.1) ?_
  refine la_9 (jj := 1) (j := 1) (pc6 := 247) dlw_241 dlw_242 dlw_244 dlw_245 dlw_246 ⟨rfl, rfl, rfl, rfl, rfl⟩ zi_1 hl1 ⟨by decide, hi.1, hi.2.1, hi.2.2⟩ ?_
  refine lv_9 (m := (yX13_end, cX13_end, 2, none, false, 16, 1)) (as := [.int (xs (i + 1).toNatClampNeg)]) (Q := fun σ σ' => RJ σ' ∧ σ'.1 104 = σ.1 104 ∧ ((0 ≤ xs (i + 1).toNatClampNeg ∧ xs (i + 1).toNatClampNeg ≤ σ.1 2) → σ'.1 0 = 0 ∧ σ'.1 2 = xs (i + 1).toNatClampNeg) ∧ (¬ (0 ≤ xs (i + 1).toNatClampNeg ∧ xs (i + 1).toNatClampNeg ≤ σ.1 2) → σ'.1 0 = 1 ∧ σ'.1 2 = σ.1 2)) (j := 236) (pc' := 250) S2 hR dlw_247 (by decide +kernel) rfl ⟨rfl, by decide, rfl⟩ rfl (RA _) rfl (Nat.le_of_ble_eq_true rfl) rfl (fun σ2 q9 => ?_)
  have q1 := q9.1
  have q2 := q9.2
  have hl2 := hl1
  have cq : (0 ≤ xs (i + 1).toNatClampNeg ∧ xs (i + 1).toNatClampNeg ≤ σ.1 2) ↔ (0 ≤ (xs (i + 1).toNatClampNeg).toInt ∧ (xs (i + 1).toNatClampNeg).toInt ≤ Lx) := by rw [lei, lei, t0i, hs]
  have eE : (σ2.1 2).toInt = eL9 (xs (i + 1).toNatClampNeg) Lx := by
    unfold eL9
    by_cases c : 0 ≤ (xs (i + 1).toNatClampNeg).toInt ∧ (xs (i + 1).toNatClampNeg).toInt ≤ Lx
    · rw [if_pos c, (q2.2.1 (cq.mpr c)).2]
    · rw [if_neg c, (q2.2.2 (fun z => c (cq.mp z))).2]
      exact hs
  have eB : 0 ≤ eL9 (xs (i + 1).toNatClampNeg) Lx ∧ eL9 (xs (i + 1).toNatClampNeg) Lx ≤ Lx + 20 := by
    unfold eL9
    by_cases c : 0 ≤ (xs (i + 1).toNatClampNeg).toInt ∧ (xs (i + 1).toNatClampNeg).toInt ≤ Lx
    · rw [if_pos c]; omega
    · rw [if_neg c]; omega
  have l5 : (dset1 lo 5 (.int v9)) 5 = some (.int v9) := if_pos rfl
  have S3 := lr_9 (σ' := σ2) S2
  have oU2 := oU_9 S3
  obtain ⟨lo2, hlo2⟩ : ∃ lo2, lo2 = dset1 lo 5 (.int v9) := ⟨_, rfl⟩
  rw [← hlo2] at hl2 l5 ⊢
  refine lwP_9 (pc' := 251) dlw_250 rfl (lda_9 (k := 2) hl2.2.2.1) ?_
  refine li_9 (m := (yX13_thrown, cX13_thrown, 1, (some .int), false, 16, 0)) (as := []) (Q := fun σ v σ' => σ' = σ ∧ v = σ.1 0) (j := 430) (pc' := 254) S3 q1 dlw_251 (by decide +kernel) rfl ⟨rfl, by decide, rfl⟩ rfl (fun C σ hC _ => RT C σ hC) rfl (Nat.le_of_ble_eq_true rfl) rfl (fun v3 σ3 q3 => ?_)
  obtain ⟨e3, ev3⟩ := q3
  rw [e3]
  refine lwP_9 (pc' := 256) dlw_254 rfl (ldi_9 l5) ?_
  have ev : v3 = v9 := by
    rcases PR with ⟨c, e9⟩ | ⟨c, e9⟩
    · rw [ev3, (q2.2.1 (cq.mpr c)).1, e9]
    · rw [ev3, (q2.2.2 (fun z => c (cq.mp z))).1, e9]
  rw [ev]
  refine lwP_9 (pc' := 261) (lo' := lo2) (st' := []) dlw_256 rfl (ic_e9 rfl) ?_
  refine lwP_9 (pc' := 999) (lo' := lo2) (st' := []) dlw_261 rfl rfl ?_
  exact N _ _ _ _ _ _ _ eB hl2 (lS_t9 (Nat.le_refl _) (lr_9 (σ' := σ2) S3)) q1 (q2.1.trans (ht.trans P2.2.2.symm)) eE
theorem ls_count9 (RA : ∀ (y0 : Int32), rcI9 RJ (yX13_count, cX13_count, 5, (some .int), false, 16, 1) [.int y0]) (hl : lO9 scr a o u i lo) (hi : 0 ≤ i.toInt ∧ i.toInt + 6 ≤ L ∧ L ≤ 3072) (S : lS9 sa TL b a o u Lx t κ σ J cs ss) (hR : RJ σ) (ht : σ.1 104 = zI κ chTolds a) (h0 : 0 ≤ Lx) (hs : (σ.1 2).toInt = Lx) (N : nx9 sa TL b a o u scr L xs RJ Lx t n i) : dV9 (dEE sa TL) dXX dKK b scr L xs lawP9 (n + 18) 16 rLaw 290 lo [] (zH (lB9 sa TL b o u σ J) κ) cs ss := by
  obtain ⟨W, T, ⟨ρ, I⟩, _⟩ := id S
  have oU := oU_9 S
  refine lwP_9 (pc' := 291) dlw_290 rfl (lda_9 (k := 1) hl.2.1) ?_
  refine la_9 (jj := 1) (j := 1) (pc6 := 297) dlw_291 dlw_292 dlw_294 dlw_295 dlw_296 ⟨rfl, rfl, rfl, rfl, rfl⟩ zi_1 hl ⟨by decide, hi.1, hi.2.1, hi.2.2⟩ ?_
  refine lwP_9 (pc' := 298) dlw_297 rfl (lda_9 (k := 3) hl.2.2.2.1) ?_
  obtain ⟨n8, z8, v9, r8, rv, w8, k8⟩ := lc_9 (Lx' := Lx) S (wL_count9 (L := Lx) W T I oU.1 oU.2.1 oU.2.2.1 oU.2.2.2) (fun κ' h => ⟨h.1, h.2.1⟩)
  refine lw_k9 (d := 15) (y := (kL_count, _, [])) dlw_298 rfl rfl rfl rfl rfl r8 w8 (show 298 + 3 = 301 from rfl) (st' := [.int v9]) (by rw [rv]; rfl) (fun w hw => ?_)
  obtain ⟨κ1, J2, P2, e8, S2⟩ := k8 w hw
  obtain ⟨κ2, hκ2⟩ : ∃ κ2, κ2 = stn9 κ1 w := ⟨_, rfl⟩
  have P2 : (∃ ρ', chI9 ρ' κ1 a Lx) ∧ (∃ F, zF F κ κ1) ∧ zI κ2 chTolds a = zI κ chTolds a := by rw [hκ2]; exact P2
  rw [e8, ← hκ2]
  rw [← hκ2] at S2
  refine lwP_9 (pc' := 303) (lo' := dset1 lo 5 (.int v9)) (st' := []) dlw_301 rfl rfl ?_
  have hl1 : lO9 scr a o u i (dset1 lo 5 (.int v9)) := lO_19 (by decide) hl (fun w9 z9 => by rw [hl.2.2.2.2] at z9; cases z9; rfl)
  refine lwP_9 (pc' := 304) dlw_303 rfl (lda_9 (k := 2) hl1.2.2.1) ?_
  refine la_9 (jj := 1) (j := 1) (pc6 := 310) dlw_304 dlw_305 dlw_307 dlw_308 dlw_309 ⟨rfl, rfl, rfl, rfl, rfl⟩ zi_1 hl1 ⟨by decide, hi.1, hi.2.1, hi.2.2⟩ ?_
  refine li_9 (m := (yX13_count, cX13_count, 5, (some .int), false, 16, 1)) (as := [.int _]) (Q := fun σ _ σ' => RJ σ' ∧ σ'.1 104 = σ.1 104 ∧ σ'.1 2 = σ.1 2) (j := 333) (pc' := 313) S2 hR dlw_310 (by decide +kernel) rfl ⟨rfl, by decide, rfl⟩ rfl (RA _) rfl (Nat.le_of_ble_eq_true rfl) rfl (fun v2 σ2 q9 => ?_)
  have q1 := q9.1
  have q2 := q9.2
  refine lwP_9 (pc' := 315) (lo' := dset1 (dset1 lo 5 (.int v9)) 6 (.int v2)) (st' := []) dlw_313 rfl rfl ?_
  refine lwP_9 (pc' := 999) (lo' := dset1 (dset1 lo 5 (.int v9)) 6 (.int v2)) (st' := []) dlw_315 rfl rfl ?_
  exact N _ _ _ _ _ _ _ (by omega) (lO_19 (by decide) hl1 (fun w9 z9 => by rw [hl1.2.2.2.2] at z9; cases z9; rfl)) (lS_t9 (Nat.le_refl _) (lr_9 (σ' := σ2) S2)) q1 (q2.1.trans (ht.trans P2.2.2.symm)) (by rw [q2.2]; exact hs)
theorem ls_explore9 (RA : ∀ (y0 : Int32), rcI9 RJ (yX13_explore, cX13_explore, 4, (some .int), false, 16, 1) [.int y0]) (hl : lO9 scr a o u i lo) (hi : 0 ≤ i.toInt ∧ i.toInt + 6 ≤ L ∧ L ≤ 3072) (S : lS9 sa TL b a o u Lx t κ σ J cs ss) (hR : RJ σ) (ht : σ.1 104 = zI κ chTolds a) (h0 : 0 ≤ Lx) (hs : (σ.1 2).toInt = Lx) (N : nx9 sa TL b a o u scr L xs RJ Lx t n i) : dV9 (dEE sa TL) dXX dKK b scr L xs lawP9 (n + 18) 16 rLaw 318 lo [] (zH (lB9 sa TL b o u σ J) κ) cs ss := by
  obtain ⟨W, T, ⟨ρ, I⟩, _⟩ := id S
  have oU := oU_9 S
  refine lwP_9 (pc' := 319) dlw_318 rfl (lda_9 (k := 1) hl.2.1) ?_
  refine la_9 (jj := 1) (j := 1) (pc6 := 325) dlw_319 dlw_320 dlw_322 dlw_323 dlw_324 ⟨rfl, rfl, rfl, rfl, rfl⟩ zi_1 hl ⟨by decide, hi.1, hi.2.1, hi.2.2⟩ ?_
  refine lwP_9 (pc' := 326) dlw_325 rfl (lda_9 (k := 3) hl.2.2.2.1) ?_
  obtain ⟨n8, z8, v9, r8, rv, w8, k8⟩ := lc_9 (Lx' := Lx) S (wL_explore9 (L := Lx) W T I oU.1 oU.2.1 oU.2.2.1 oU.2.2.2) (fun κ' h => ⟨h.1, h.2.1⟩)
  refine lw_k9 (d := 15) (y := (kL_explore, _, [])) dlw_326 rfl rfl rfl rfl rfl r8 w8 (show 326 + 3 = 329 from rfl) (st' := [.int v9]) (by rw [rv]; rfl) (fun w hw => ?_)
  obtain ⟨κ1, J2, P2, e8, S2⟩ := k8 w hw
  obtain ⟨κ2, hκ2⟩ : ∃ κ2, κ2 = stn9 κ1 w := ⟨_, rfl⟩
  have P2 : (∃ ρ', chI9 ρ' κ1 a Lx) ∧ (∃ F, zF F κ κ1) ∧ zI κ2 chTolds a = zI κ chTolds a := by rw [hκ2]; exact P2
  rw [e8, ← hκ2]
  rw [← hκ2] at S2
  refine lwP_9 (pc' := 331) (lo' := dset1 lo 5 (.int v9)) (st' := []) dlw_329 rfl rfl ?_
  have hl1 : lO9 scr a o u i (dset1 lo 5 (.int v9)) := lO_19 (by decide) hl (fun w9 z9 => by rw [hl.2.2.2.2] at z9; cases z9; rfl)
  refine lwP_9 (pc' := 332) dlw_331 rfl (lda_9 (k := 2) hl1.2.2.1) ?_
  refine la_9 (jj := 1) (j := 1) (pc6 := 338) dlw_332 dlw_333 dlw_335 dlw_336 dlw_337 ⟨rfl, rfl, rfl, rfl, rfl⟩ zi_1 hl1 ⟨by decide, hi.1, hi.2.1, hi.2.2⟩ ?_
  refine li_9 (m := (yX13_explore, cX13_explore, 4, (some .int), false, 16, 1)) (as := [.int _]) (Q := fun σ _ σ' => RJ σ' ∧ σ'.1 104 = σ.1 104 ∧ σ'.1 2 = σ.1 2) (j := 332) (pc' := 341) S2 hR dlw_338 (by decide +kernel) rfl ⟨rfl, by decide, rfl⟩ rfl (RA _) rfl (Nat.le_of_ble_eq_true rfl) rfl (fun v2 σ2 q9 => ?_)
  have q1 := q9.1
  have q2 := q9.2
  refine lwP_9 (pc' := 343) (lo' := dset1 (dset1 lo 5 (.int v9)) 6 (.int v2)) (st' := []) dlw_341 rfl rfl ?_
  refine lwP_9 (pc' := 999) (lo' := dset1 (dset1 lo 5 (.int v9)) 6 (.int v2)) (st' := []) dlw_343 rfl rfl ?_
  exact N _ _ _ _ _ _ _ (by omega) (lO_19 (by decide) hl1 (fun w9 z9 => by rw [hl1.2.2.2.2] at z9; cases z9; rfl)) (lS_t9 (Nat.le_refl _) (lr_9 (σ' := σ2) S2)) q1 (q2.1.trans (ht.trans P2.2.2.symm)) (by rw [q2.2]; exact hs)
theorem ls_state9 (RA : ∀ (y0 : Int32) (y1 : Int32), rcI9 RJ (yX13_state, cX13_state, 3, (some .int), false, 16, 2) [.int y0, .int y1]) (hl : lO9 scr a o u i lo) (hi : 0 ≤ i.toInt ∧ i.toInt + 6 ≤ L ∧ L ≤ 3072) (S : lS9 sa TL b a o u Lx t κ σ J cs ss) (hR : RJ σ) (ht : σ.1 104 = zI κ chTolds a) (h0 : 0 ≤ Lx) (hs : (σ.1 2).toInt = Lx) (N : nx9 sa TL b a o u scr L xs RJ Lx t n i) : dV9 (dEE sa TL) dXX dKK b scr L xs lawP9 (n + 28) 16 rLaw 346 lo [] (zH (lB9 sa TL b o u σ J) κ) cs ss := by
  obtain ⟨W, T, ⟨ρ, I⟩, _⟩ := id S
  have oU := oU_9 S
  refine lwP_9 (pc' := 347) dlw_346 rfl (lda_9 (k := 1) hl.2.1) ?_
  refine la_9 (jj := 1) (j := 1) (pc6 := 353) dlw_347 dlw_348 dlw_350 dlw_351 dlw_352 ⟨rfl, rfl, rfl, rfl, rfl⟩ zi_1 hl ⟨by decide, hi.1, hi.2.1, hi.2.2⟩ ?_
  refine la_9 (jj := 2) (j := 2) (pc6 := 359) dlw_353 dlw_354 dlw_356 dlw_357 dlw_358 ⟨rfl, rfl, rfl, rfl, rfl⟩ zi_2 hl ⟨by decide, hi.1, hi.2.1, hi.2.2⟩ ?_
  refine lwP_9 (pc' := 360) dlw_359 rfl (lda_9 (k := 3) hl.2.2.2.1) ?_
  obtain ⟨n8, z8, v9, r8, rv, w8, k8⟩ := lc_9 (Lx' := Lx) S (wL_state9 (L := Lx) W T I oU.1 oU.2.1 oU.2.2.1 oU.2.2.2) (fun κ' h => ⟨h.1, h.2.1⟩)
  refine lw_k9 (d := 15) (y := (kL_state, _, [])) dlw_360 rfl rfl rfl rfl rfl r8 w8 (show 360 + 3 = 363 from rfl) (st' := [.int v9]) (by rw [rv]; rfl) (fun w hw => ?_)
  obtain ⟨κ1, J2, P2, e8, S2⟩ := k8 w hw
  obtain ⟨κ2, hκ2⟩ : ∃ κ2, κ2 = stn9 κ1 w := ⟨_, rfl⟩
  have P2 : (∃ ρ', chI9 ρ' κ1 a Lx) ∧ (∃ F, zF F κ κ1) ∧ zI κ2 chTolds a = zI κ chTolds a := by rw [hκ2]; exact P2
  rw [e8, ← hκ2]
  rw [← hκ2] at S2
  refine lwP_9 (pc' := 365) (lo' := dset1 lo 5 (.int v9)) (st' := []) dlw_363 rfl rfl ?_
  have hl1 : lO9 scr a o u i (dset1 lo 5 (.int v9)) := lO_19 (by decide) hl (fun w9 z9 => by rw [hl.2.2.2.2] at z9; cases z9; rfl)
  refine lwP_9 (pc' := 366) dlw_365 rfl (lda_9 (k := 2) hl1.2.2.1) ?_
  refine la_9 (jj := 1) (j := 1) (pc6 := 372) dlw_366 dlw_367 dlw_369 dlw_370 dlw_371 ⟨rfl, rfl, rfl, rfl, rfl⟩ zi_1 hl1 ⟨by decide, hi.1, hi.2.1, hi.2.2⟩ ?_
  refine la_9 (jj := 2) (j := 2) (pc6 := 378) dlw_372 dlw_373 dlw_375 dlw_376 dlw_377 ⟨rfl, rfl, rfl, rfl, rfl⟩ zi_2 hl1 ⟨by decide, hi.1, hi.2.1, hi.2.2⟩ ?_
  refine li_9 (m := (yX13_state, cX13_state, 3, (some .int), false, 16, 2)) (as := [.int _, .int _]) (Q := fun σ _ σ' => RJ σ' ∧ σ'.1 104 = σ.1 104 ∧ σ'.1 2 = σ.1 2) (j := 336) (pc' := 381) S2 hR dlw_378 (by decide +kernel) rfl ⟨rfl, by decide, rfl⟩ rfl (RA _ _) rfl (Nat.le_of_ble_eq_true rfl) rfl (fun v2 σ2 q9 => ?_)
  have q1 := q9.1
  have q2 := q9.2
  refine lwP_9 (pc' := 383) (lo' := dset1 (dset1 lo 5 (.int v9)) 6 (.int v2)) (st' := []) dlw_381 rfl rfl ?_
  refine lwP_9 (pc' := 999) (lo' := dset1 (dset1 lo 5 (.int v9)) 6 (.int v2)) (st' := []) dlw_383 rfl rfl ?_
  exact N _ _ _ _ _ _ _ (by omega) (lO_19 (by decide) hl1 (fun w9 z9 => by rw [hl1.2.2.2.2] at z9; cases z9; rfl)) (lS_t9 (Nat.le_refl _) (lr_9 (σ' := σ2) S2)) q1 (q2.1.trans (ht.trans P2.2.2.symm)) (by rw [q2.2]; exact hs)
theorem ls_value9 (RA : ∀ (y0 : Int32) (y1 : Int32) (y2 : Int32), rcI9 RJ (yX13_value, cX13_value, 5, (some .int), false, 16, 3) [.int y0, .int y1, .int y2]) (hl : lO9 scr a o u i lo) (hi : 0 ≤ i.toInt ∧ i.toInt + 6 ≤ L ∧ L ≤ 3072) (S : lS9 sa TL b a o u Lx t κ σ J cs ss) (hR : RJ σ) (ht : σ.1 104 = zI κ chTolds a) (h0 : 0 ≤ Lx) (hs : (σ.1 2).toInt = Lx) (N : nx9 sa TL b a o u scr L xs RJ Lx t n i) : dV9 (dEE sa TL) dXX dKK b scr L xs lawP9 (n + 38) 16 rLaw 386 lo [] (zH (lB9 sa TL b o u σ J) κ) cs ss := by
  obtain ⟨W, T, ⟨ρ, I⟩, _⟩ := id S
  have oU := oU_9 S
  refine lwP_9 (pc' := 387) dlw_386 rfl (lda_9 (k := 1) hl.2.1) ?_
  refine la_9 (jj := 1) (j := 1) (pc6 := 393) dlw_387 dlw_388 dlw_390 dlw_391 dlw_392 ⟨rfl, rfl, rfl, rfl, rfl⟩ zi_1 hl ⟨by decide, hi.1, hi.2.1, hi.2.2⟩ ?_
  refine la_9 (jj := 2) (j := 2) (pc6 := 399) dlw_393 dlw_394 dlw_396 dlw_397 dlw_398 ⟨rfl, rfl, rfl, rfl, rfl⟩ zi_2 hl ⟨by decide, hi.1, hi.2.1, hi.2.2⟩ ?_
  refine la_9 (jj := 3) (j := 3) (pc6 := 405) dlw_399 dlw_400 dlw_402 dlw_403 dlw_404 ⟨rfl, rfl, rfl, rfl, rfl⟩ zi_3 hl ⟨by decide, hi.1, hi.2.1, hi.2.2⟩ ?_
  refine lwP_9 (pc' := 406) dlw_405 rfl (lda_9 (k := 3) hl.2.2.2.1) ?_
  obtain ⟨n8, z8, v9, r8, rv, w8, k8⟩ := lc_9 (Lx' := Lx) S (wL_value9 (L := Lx) W T I oU.1 oU.2.1 oU.2.2.1 oU.2.2.2) (fun κ' h => ⟨h.1, h.2.1⟩)
  refine lw_k9 (d := 15) (y := (kL_value, _, [])) dlw_406 rfl rfl rfl rfl rfl r8 w8 (show 406 + 3 = 409 from rfl) (st' := [.int v9]) (by rw [rv]; rfl) (fun w hw => ?_)
  obtain ⟨κ1, J2, P2, e8, S2⟩ := k8 w hw
  obtain ⟨κ2, hκ2⟩ : ∃ κ2, κ2 = stn9 κ1 w := ⟨_, rfl⟩
  have P2 : (∃ ρ', chI9 ρ' κ1 a Lx) ∧ (∃ F, zF F κ κ1) ∧ zI κ2 chTolds a = zI κ chTolds a := by rw [hκ2]; exact P2
  rw [e8, ← hκ2]
  rw [← hκ2] at S2
  refine lwP_9 (pc' := 411) (lo' := dset1 lo 5 (.int v9)) (st' := []) dlw_409 rfl rfl ?_
  have hl1 : lO9 scr a o u i (dset1 lo 5 (.int v9)) := lO_19 (by decide) hl (fun w9 z9 => by rw [hl.2.2.2.2] at z9; cases z9; rfl)
  refine lwP_9 (pc' := 412) dlw_411 rfl (lda_9 (k := 2) hl1.2.2.1) ?_
  refine la_9 (jj := 1) (j := 1) (pc6 := 418) dlw_412 dlw_413 dlw_415 dlw_416 dlw_417 ⟨rfl, rfl, rfl, rfl, rfl⟩ zi_1 hl1 ⟨by decide, hi.1, hi.2.1, hi.2.2⟩ ?_
  refine la_9 (jj := 2) (j := 2) (pc6 := 424) dlw_418 dlw_419 dlw_421 dlw_422 dlw_423 ⟨rfl, rfl, rfl, rfl, rfl⟩ zi_2 hl1 ⟨by decide, hi.1, hi.2.1, hi.2.2⟩ ?_
  refine la_9 (jj := 3) (j := 3) (pc6 := 430) dlw_424 dlw_425 dlw_427 dlw_428 dlw_429 ⟨rfl, rfl, rfl, rfl, rfl⟩ zi_3 hl1 ⟨by decide, hi.1, hi.2.1, hi.2.2⟩ ?_
  refine li_9 (m := (yX13_value, cX13_value, 5, (some .int), false, 16, 3)) (as := [.int _, .int _, .int _]) (Q := fun σ _ σ' => RJ σ' ∧ σ'.1 104 = σ.1 104 ∧ σ'.1 2 = σ.1 2) (j := 337) (pc' := 433) S2 hR dlw_430 (by decide +kernel) rfl ⟨rfl, by decide, rfl⟩ rfl (RA _ _ _) rfl (Nat.le_of_ble_eq_true rfl) rfl (fun v2 σ2 q9 => ?_)
  have q1 := q9.1
  have q2 := q9.2
  refine lwP_9 (pc' := 435) (lo' := dset1 (dset1 lo 5 (.int v9)) 6 (.int v2)) (st' := []) dlw_433 rfl rfl ?_
  refine lwP_9 (pc' := 999) (lo' := dset1 (dset1 lo 5 (.int v9)) 6 (.int v2)) (st' := []) dlw_435 rfl rfl ?_
  exact N _ _ _ _ _ _ _ (by omega) (lO_19 (by decide) hl1 (fun w9 z9 => by rw [hl1.2.2.2.2] at z9; cases z9; rfl)) (lS_t9 (Nat.le_refl _) (lr_9 (σ' := σ2) S2)) q1 (q2.1.trans (ht.trans P2.2.2.symm)) (by rw [q2.2]; exact hs)
theorem ls_next9 (RA : ∀ (y0 : Int32) (y1 : Int32) (y2 : Int32), rcI9 RJ (yX13_next, cX13_next, 5, (some .int), false, 16, 3) [.int y0, .int y1, .int y2]) (hl : lO9 scr a o u i lo) (hi : 0 ≤ i.toInt ∧ i.toInt + 6 ≤ L ∧ L ≤ 3072) (S : lS9 sa TL b a o u Lx t κ σ J cs ss) (hR : RJ σ) (ht : σ.1 104 = zI κ chTolds a) (h0 : 0 ≤ Lx) (hs : (σ.1 2).toInt = Lx) (N : nx9 sa TL b a o u scr L xs RJ Lx t n i) : dV9 (dEE sa TL) dXX dKK b scr L xs lawP9 (n + 38) 16 rLaw 438 lo [] (zH (lB9 sa TL b o u σ J) κ) cs ss := by
  obtain ⟨W, T, ⟨ρ, I⟩, _⟩ := id S
  have oU := oU_9 S
  refine lwP_9 (pc' := 439) dlw_438 rfl (lda_9 (k := 1) hl.2.1) ?_
  refine la_9 (jj := 1) (j := 1) (pc6 := 445) dlw_439 dlw_440 dlw_442 dlw_443 dlw_444 ⟨rfl, rfl, rfl, rfl, rfl⟩ zi_1 hl ⟨by decide, hi.1, hi.2.1, hi.2.2⟩ ?_
  refine la_9 (jj := 2) (j := 2) (pc6 := 451) dlw_445 dlw_446 dlw_448 dlw_449 dlw_450 ⟨rfl, rfl, rfl, rfl, rfl⟩ zi_2 hl ⟨by decide, hi.1, hi.2.1, hi.2.2⟩ ?_
  refine la_9 (jj := 3) (j := 3) (pc6 := 457) dlw_451 dlw_452 dlw_454 dlw_455 dlw_456 ⟨rfl, rfl, rfl, rfl, rfl⟩ zi_3 hl ⟨by decide, hi.1, hi.2.1, hi.2.2⟩ ?_
  refine lwP_9 (pc' := 458) dlw_457 rfl (lda_9 (k := 3) hl.2.2.2.1) ?_
  obtain ⟨n8, z8, v9, r8, rv, w8, k8⟩ := lc_9 (Lx' := Lx) S (wL_next9 (L := Lx) W T I oU.1 oU.2.1 oU.2.2.1 oU.2.2.2) (fun κ' h => ⟨h.1, h.2.1⟩)
  refine lw_k9 (d := 15) (y := (kL_next, _, [])) dlw_458 rfl rfl rfl rfl rfl r8 w8 (show 458 + 3 = 461 from rfl) (st' := [.int v9]) (by rw [rv]; rfl) (fun w hw => ?_)
  obtain ⟨κ1, J2, P2, e8, S2⟩ := k8 w hw
  obtain ⟨κ2, hκ2⟩ : ∃ κ2, κ2 = stn9 κ1 w := ⟨_, rfl⟩
  have P2 : (∃ ρ', chI9 ρ' κ1 a Lx) ∧ (∃ F, zF F κ κ1) ∧ zI κ2 chTolds a = zI κ chTolds a := by rw [hκ2]; exact P2
  rw [e8, ← hκ2]
  rw [← hκ2] at S2
  refine lwP_9 (pc' := 463) (lo' := dset1 lo 5 (.int v9)) (st' := []) dlw_461 rfl rfl ?_
  have hl1 : lO9 scr a o u i (dset1 lo 5 (.int v9)) := lO_19 (by decide) hl (fun w9 z9 => by rw [hl.2.2.2.2] at z9; cases z9; rfl)
  refine lwP_9 (pc' := 464) dlw_463 rfl (lda_9 (k := 2) hl1.2.2.1) ?_
  refine la_9 (jj := 1) (j := 1) (pc6 := 470) dlw_464 dlw_465 dlw_467 dlw_468 dlw_469 ⟨rfl, rfl, rfl, rfl, rfl⟩ zi_1 hl1 ⟨by decide, hi.1, hi.2.1, hi.2.2⟩ ?_
  refine la_9 (jj := 2) (j := 2) (pc6 := 476) dlw_470 dlw_471 dlw_473 dlw_474 dlw_475 ⟨rfl, rfl, rfl, rfl, rfl⟩ zi_2 hl1 ⟨by decide, hi.1, hi.2.1, hi.2.2⟩ ?_
  refine la_9 (jj := 3) (j := 3) (pc6 := 482) dlw_476 dlw_477 dlw_479 dlw_480 dlw_481 ⟨rfl, rfl, rfl, rfl, rfl⟩ zi_3 hl1 ⟨by decide, hi.1, hi.2.1, hi.2.2⟩ ?_
  refine li_9 (m := (yX13_next, cX13_next, 5, (some .int), false, 16, 3)) (as := [.int _, .int _, .int _]) (Q := fun σ _ σ' => RJ σ' ∧ σ'.1 104 = σ.1 104 ∧ σ'.1 2 = σ.1 2) (j := 338) (pc' := 485) S2 hR dlw_482 (by decide +kernel) rfl ⟨rfl, by decide, rfl⟩ rfl (RA _ _ _) rfl (Nat.le_of_ble_eq_true rfl) rfl (fun v2 σ2 q9 => ?_)
  have q1 := q9.1
  have q2 := q9.2
  refine lwP_9 (pc' := 487) (lo' := dset1 (dset1 lo 5 (.int v9)) 6 (.int v2)) (st' := []) dlw_485 rfl rfl ?_
  refine lwP_9 (pc' := 999) (lo' := dset1 (dset1 lo 5 (.int v9)) 6 (.int v2)) (st' := []) dlw_487 rfl rfl ?_
  exact N _ _ _ _ _ _ _ (by omega) (lO_19 (by decide) hl1 (fun w9 z9 => by rw [hl1.2.2.2.2] at z9; cases z9; rfl)) (lS_t9 (Nat.le_refl _) (lr_9 (σ' := σ2) S2)) q1 (q2.1.trans (ht.trans P2.2.2.symm)) (by rw [q2.2]; exact hs)
theorem ls_ending9 (RA : ∀ (y0 : Int32) (y1 : Int32), rcI9 RJ (yX13_ending, cX13_ending, 3, (some .int), false, 16, 2) [.int y0, .int y1]) (hl : lO9 scr a o u i lo) (hi : 0 ≤ i.toInt ∧ i.toInt + 6 ≤ L ∧ L ≤ 3072) (S : lS9 sa TL b a o u Lx t κ σ J cs ss) (hR : RJ σ) (ht : σ.1 104 = zI κ chTolds a) (h0 : 0 ≤ Lx) (hs : (σ.1 2).toInt = Lx) (N : nx9 sa TL b a o u scr L xs RJ Lx t n i) : dV9 (dEE sa TL) dXX dKK b scr L xs lawP9 (n + 28) 16 rLaw 490 lo [] (zH (lB9 sa TL b o u σ J) κ) cs ss := by
  obtain ⟨W, T, ⟨ρ, I⟩, _⟩ := id S
  have oU := oU_9 S
  refine lwP_9 (pc' := 491) dlw_490 rfl (lda_9 (k := 1) hl.2.1) ?_
  refine la_9 (jj := 1) (j := 1) (pc6 := 497) dlw_491 dlw_492 dlw_494 dlw_495 dlw_496 ⟨rfl, rfl, rfl, rfl, rfl⟩ zi_1 hl ⟨by decide, hi.1, hi.2.1, hi.2.2⟩ ?_
  refine la_9 (jj := 2) (j := 2) (pc6 := 503) dlw_497 dlw_498 dlw_500 dlw_501 dlw_502 ⟨rfl, rfl, rfl, rfl, rfl⟩ zi_2 hl ⟨by decide, hi.1, hi.2.1, hi.2.2⟩ ?_
  refine lwP_9 (pc' := 504) dlw_503 rfl (lda_9 (k := 3) hl.2.2.2.1) ?_
  obtain ⟨n8, z8, v9, r8, rv, w8, k8⟩ := lc_9 (Lx' := Lx) S (wL_ending9 (L := Lx) W T I oU.1 oU.2.1 oU.2.2.1 oU.2.2.2) (fun κ' h => ⟨h.1, h.2.1⟩)
  refine lw_k9 (d := 15) (y := (kL_ending, _, [])) dlw_504 rfl rfl rfl rfl rfl r8 w8 (show 504 + 3 = 507 from rfl) (st' := [.int v9]) (by rw [rv]; rfl) (fun w hw => ?_)
  obtain ⟨κ1, J2, P2, e8, S2⟩ := k8 w hw
  obtain ⟨κ2, hκ2⟩ : ∃ κ2, κ2 = stn9 κ1 w := ⟨_, rfl⟩
  have P2 : (∃ ρ', chI9 ρ' κ1 a Lx) ∧ (∃ F, zF F κ κ1) ∧ zI κ2 chTolds a = zI κ chTolds a := by rw [hκ2]; exact P2
  rw [e8, ← hκ2]
  rw [← hκ2] at S2
  refine lwP_9 (pc' := 509) (lo' := dset1 lo 5 (.int v9)) (st' := []) dlw_507 rfl rfl ?_
  have hl1 : lO9 scr a o u i (dset1 lo 5 (.int v9)) := lO_19 (by decide) hl (fun w9 z9 => by rw [hl.2.2.2.2] at z9; cases z9; rfl)
  refine lwP_9 (pc' := 510) dlw_509 rfl (lda_9 (k := 2) hl1.2.2.1) ?_
  refine la_9 (jj := 1) (j := 1) (pc6 := 516) dlw_510 dlw_511 dlw_513 dlw_514 dlw_515 ⟨rfl, rfl, rfl, rfl, rfl⟩ zi_1 hl1 ⟨by decide, hi.1, hi.2.1, hi.2.2⟩ ?_
  refine la_9 (jj := 2) (j := 2) (pc6 := 522) dlw_516 dlw_517 dlw_519 dlw_520 dlw_521 ⟨rfl, rfl, rfl, rfl, rfl⟩ zi_2 hl1 ⟨by decide, hi.1, hi.2.1, hi.2.2⟩ ?_
  refine li_9 (m := (yX13_ending, cX13_ending, 3, (some .int), false, 16, 2)) (as := [.int _, .int _]) (Q := fun σ _ σ' => RJ σ' ∧ σ'.1 104 = σ.1 104 ∧ σ'.1 2 = σ.1 2) (j := 339) (pc' := 525) S2 hR dlw_522 (by decide +kernel) rfl ⟨rfl, by decide, rfl⟩ rfl (RA _ _) rfl (Nat.le_of_ble_eq_true rfl) rfl (fun v2 σ2 q9 => ?_)
  have q1 := q9.1
  have q2 := q9.2
  refine lwP_9 (pc' := 527) (lo' := dset1 (dset1 lo 5 (.int v9)) 6 (.int v2)) (st' := []) dlw_525 rfl rfl ?_
  refine lwP_9 (pc' := 999) (lo' := dset1 (dset1 lo 5 (.int v9)) 6 (.int v2)) (st' := []) dlw_527 rfl rfl ?_
  exact N _ _ _ _ _ _ _ (by omega) (lO_19 (by decide) hl1 (fun w9 z9 => by rw [hl1.2.2.2.2] at z9; cases z9; rfl)) (lS_t9 (Nat.le_refl _) (lr_9 (σ' := σ2) S2)) q1 (q2.1.trans (ht.trans P2.2.2.symm)) (by rw [q2.2]; exact hs)
theorem ls_decide9 (RA : ∀ (y0 : Int32) (y1 : Int32), rcI9 RJ (yX13_decide, cX13_decide, 4, (some .int), false, 16, 2) [.int y0, .int y1]) (hl : lO9 scr a o u i lo) (hi : 0 ≤ i.toInt ∧ i.toInt + 6 ≤ L ∧ L ≤ 3072) (S : lS9 sa TL b a o u Lx t κ σ J cs ss) (hR : RJ σ) (ht : σ.1 104 = zI κ chTolds a) (h0 : 0 ≤ Lx) (hs : (σ.1 2).toInt = Lx) (N : nx9 sa TL b a o u scr L xs RJ Lx t n i) : dV9 (dEE sa TL) dXX dKK b scr L xs lawP9 (n + 28) 16 rLaw 530 lo [] (zH (lB9 sa TL b o u σ J) κ) cs ss := by
  obtain ⟨W, T, ⟨ρ, I⟩, _⟩ := id S
  have oU := oU_9 S
  refine lwP_9 (pc' := 531) dlw_530 rfl (lda_9 (k := 1) hl.2.1) ?_
  refine la_9 (jj := 1) (j := 1) (pc6 := 537) dlw_531 dlw_532 dlw_534 dlw_535 dlw_536 ⟨rfl, rfl, rfl, rfl, rfl⟩ zi_1 hl ⟨by decide, hi.1, hi.2.1, hi.2.2⟩ ?_
  refine la_9 (jj := 2) (j := 2) (pc6 := 543) dlw_537 dlw_538 dlw_540 dlw_541 dlw_542 ⟨rfl, rfl, rfl, rfl, rfl⟩ zi_2 hl ⟨by decide, hi.1, hi.2.1, hi.2.2⟩ ?_
  refine lwP_9 (pc' := 544) dlw_543 rfl (lda_9 (k := 3) hl.2.2.2.1) ?_
  obtain ⟨n8, z8, v9, r8, rv, w8, k8⟩ := lc_9 (Lx' := Lx) S (wL_decide9 (L := Lx) W T I oU.1 oU.2.1 oU.2.2.1 oU.2.2.2) (fun κ' h => ⟨h.1, h.2.1⟩)
  refine lw_k9 (d := 15) (y := (kL_decide, _, [])) dlw_544 rfl rfl rfl rfl rfl r8 w8 (show 544 + 3 = 547 from rfl) (st' := [.int v9]) (by rw [rv]; rfl) (fun w hw => ?_)
  obtain ⟨κ1, J2, P2, e8, S2⟩ := k8 w hw
  obtain ⟨κ2, hκ2⟩ : ∃ κ2, κ2 = stn9 κ1 w := ⟨_, rfl⟩
  have P2 : (∃ ρ', chI9 ρ' κ1 a Lx) ∧ (∃ F, zF F κ κ1) ∧ zI κ2 chTolds a = zI κ chTolds a := by rw [hκ2]; exact P2
  rw [e8, ← hκ2]
  rw [← hκ2] at S2
  refine lwP_9 (pc' := 549) (lo' := dset1 lo 5 (.int v9)) (st' := []) dlw_547 rfl rfl ?_
  have hl1 : lO9 scr a o u i (dset1 lo 5 (.int v9)) := lO_19 (by decide) hl (fun w9 z9 => by rw [hl.2.2.2.2] at z9; cases z9; rfl)
  refine lwP_9 (pc' := 550) dlw_549 rfl (lda_9 (k := 2) hl1.2.2.1) ?_
  refine la_9 (jj := 1) (j := 1) (pc6 := 556) dlw_550 dlw_551 dlw_553 dlw_554 dlw_555 ⟨rfl, rfl, rfl, rfl, rfl⟩ zi_1 hl1 ⟨by decide, hi.1, hi.2.1, hi.2.2⟩ ?_
  refine la_9 (jj := 2) (j := 2) (pc6 := 562) dlw_556 dlw_557 dlw_559 dlw_560 dlw_561 ⟨rfl, rfl, rfl, rfl, rfl⟩ zi_2 hl1 ⟨by decide, hi.1, hi.2.1, hi.2.2⟩ ?_
  refine li_9 (m := (yX13_decide, cX13_decide, 4, (some .int), false, 16, 2)) (as := [.int _, .int _]) (Q := fun σ _ σ' => RJ σ' ∧ σ'.1 104 = σ.1 104 ∧ σ'.1 2 = σ.1 2) (j := 340) (pc' := 565) S2 hR dlw_562 (by decide +kernel) rfl ⟨rfl, by decide, rfl⟩ rfl (RA _ _) rfl (Nat.le_of_ble_eq_true rfl) rfl (fun v2 σ2 q9 => ?_)
  have q1 := q9.1
  have q2 := q9.2
  refine lwP_9 (pc' := 567) (lo' := dset1 (dset1 lo 5 (.int v9)) 6 (.int v2)) (st' := []) dlw_565 rfl rfl ?_
  refine lwP_9 (pc' := 999) (lo' := dset1 (dset1 lo 5 (.int v9)) 6 (.int v2)) (st' := []) dlw_567 rfl rfl ?_
  exact N _ _ _ _ _ _ _ (by omega) (lO_19 (by decide) hl1 (fun w9 z9 => by rw [hl1.2.2.2.2] at z9; cases z9; rfl)) (lS_t9 (Nat.le_refl _) (lr_9 (σ' := σ2) S2)) q1 (q2.1.trans (ht.trans P2.2.2.symm)) (by rw [q2.2]; exact hs)
theorem ls_decided9 (RA : ∀ (y0 : Int32), rcI9 RJ (yX13_decided, cX13_decided, 2, (some .int), false, 16, 1) [.int y0]) (hl : lO9 scr a o u i lo) (hi : 0 ≤ i.toInt ∧ i.toInt + 6 ≤ L ∧ L ≤ 3072) (S : lS9 sa TL b a o u Lx t κ σ J cs ss) (hR : RJ σ) (ht : σ.1 104 = zI κ chTolds a) (h0 : 0 ≤ Lx) (hs : (σ.1 2).toInt = Lx) (N : nx9 sa TL b a o u scr L xs RJ Lx t n i) : dV9 (dEE sa TL) dXX dKK b scr L xs lawP9 (n + 18) 16 rLaw 570 lo [] (zH (lB9 sa TL b o u σ J) κ) cs ss := by
  obtain ⟨W, T, ⟨ρ, I⟩, _⟩ := id S
  have oU := oU_9 S
  refine lwP_9 (pc' := 571) dlw_570 rfl (lda_9 (k := 1) hl.2.1) ?_
  refine la_9 (jj := 1) (j := 1) (pc6 := 577) dlw_571 dlw_572 dlw_574 dlw_575 dlw_576 ⟨rfl, rfl, rfl, rfl, rfl⟩ zi_1 hl ⟨by decide, hi.1, hi.2.1, hi.2.2⟩ ?_
  refine lwP_9 (pc' := 578) dlw_577 rfl (lda_9 (k := 3) hl.2.2.2.1) ?_
  obtain ⟨n8, z8, v9, r8, rv, w8, k8⟩ := lc_9 (Lx' := Lx) S (wL_decided9 (L := Lx) W T I oU.1 oU.2.1 oU.2.2.1 oU.2.2.2) (fun κ' h => ⟨h.1, h.2.1⟩)
  refine lw_k9 (d := 15) (y := (kL_decided, _, [])) dlw_578 rfl rfl rfl rfl rfl r8 w8 (show 578 + 3 = 581 from rfl) (st' := [.int v9]) (by rw [rv]; rfl) (fun w hw => ?_)
  obtain ⟨κ1, J2, P2, e8, S2⟩ := k8 w hw
  obtain ⟨κ2, hκ2⟩ : ∃ κ2, κ2 = stn9 κ1 w := ⟨_, rfl⟩
  have P2 : (∃ ρ', chI9 ρ' κ1 a Lx) ∧ (∃ F, zF F κ κ1) ∧ zI κ2 chTolds a = zI κ chTolds a := by rw [hκ2]; exact P2
  rw [e8, ← hκ2]
  rw [← hκ2] at S2
  refine lwP_9 (pc' := 583) (lo' := dset1 lo 5 (.int v9)) (st' := []) dlw_581 rfl rfl ?_
  have hl1 : lO9 scr a o u i (dset1 lo 5 (.int v9)) := lO_19 (by decide) hl (fun w9 z9 => by rw [hl.2.2.2.2] at z9; cases z9; rfl)
  refine lwP_9 (pc' := 584) dlw_583 rfl (lda_9 (k := 2) hl1.2.2.1) ?_
  refine la_9 (jj := 1) (j := 1) (pc6 := 590) dlw_584 dlw_585 dlw_587 dlw_588 dlw_589 ⟨rfl, rfl, rfl, rfl, rfl⟩ zi_1 hl1 ⟨by decide, hi.1, hi.2.1, hi.2.2⟩ ?_
  refine li_9 (m := (yX13_decided, cX13_decided, 2, (some .int), false, 16, 1)) (as := [.int _]) (Q := fun σ _ σ' => RJ σ' ∧ σ'.1 104 = σ.1 104 ∧ σ'.1 2 = σ.1 2) (j := 341) (pc' := 593) S2 hR dlw_590 (by decide +kernel) rfl ⟨rfl, by decide, rfl⟩ rfl (RA _) rfl (Nat.le_of_ble_eq_true rfl) rfl (fun v2 σ2 q9 => ?_)
  have q1 := q9.1
  have q2 := q9.2
  refine lwP_9 (pc' := 595) (lo' := dset1 (dset1 lo 5 (.int v9)) 6 (.int v2)) (st' := []) dlw_593 rfl rfl ?_
  refine lwP_9 (pc' := 999) (lo' := dset1 (dset1 lo 5 (.int v9)) 6 (.int v2)) (st' := []) dlw_595 rfl rfl ?_
  exact N _ _ _ _ _ _ _ (by omega) (lO_19 (by decide) hl1 (fun w9 z9 => by rw [hl1.2.2.2.2] at z9; cases z9; rfl)) (lS_t9 (Nat.le_refl _) (lr_9 (σ' := σ2) S2)) q1 (q2.1.trans (ht.trans P2.2.2.symm)) (by rw [q2.2]; exact hs)
theorem ls_best9 (RA : rcI9 RJ (yX13_best, cX13_best, 4, (some .int), false, 16, 0) []) (hl : lO9 scr a o u i lo) (hi : 0 ≤ i.toInt ∧ i.toInt + 6 ≤ L ∧ L ≤ 3072) (S : lS9 sa TL b a o u Lx t κ σ J cs ss) (hR : RJ σ) (ht : σ.1 104 = zI κ chTolds a) (h0 : 0 ≤ Lx) (hs : (σ.1 2).toInt = Lx) (N : nx9 sa TL b a o u scr L xs RJ Lx t n i) : dV9 (dEE sa TL) dXX dKK b scr L xs lawP9 (n + 8) 16 rLaw 598 lo [] (zH (lB9 sa TL b o u σ J) κ) cs ss := by
  obtain ⟨W, T, ⟨ρ, I⟩, _⟩ := id S
  have oU := oU_9 S
  refine lwP_9 (pc' := 599) dlw_598 rfl (lda_9 (k := 1) hl.2.1) ?_
  refine lwP_9 (pc' := 600) dlw_599 rfl (lda_9 (k := 3) hl.2.2.2.1) ?_
  obtain ⟨n8, z8, v9, r8, rv, w8, k8⟩ := lc_9 (Lx' := Lx) S (wL_best9 (L := Lx) W T I oU.1 oU.2.1 oU.2.2.1 oU.2.2.2) (fun κ' h => ⟨h.1, h.2.1⟩)
  refine lw_k9 (d := 15) (y := (kL_best, _, [])) dlw_600 rfl rfl rfl rfl rfl r8 w8 (show 600 + 3 = 603 from rfl) (st' := [.int v9]) (by rw [rv]; rfl) (fun w hw => ?_)
  obtain ⟨κ1, J2, P2, e8, S2⟩ := k8 w hw
  obtain ⟨κ2, hκ2⟩ : ∃ κ2, κ2 = stn9 κ1 w := ⟨_, rfl⟩
  have P2 : (∃ ρ', chI9 ρ' κ1 a Lx) ∧ (∃ F, zF F κ κ1) ∧ zI κ2 chTolds a = zI κ chTolds a := by rw [hκ2]; exact P2
  rw [e8, ← hκ2]
  rw [← hκ2] at S2
  refine lwP_9 (pc' := 605) (lo' := dset1 lo 5 (.int v9)) (st' := []) dlw_603 rfl rfl ?_
  have hl1 : lO9 scr a o u i (dset1 lo 5 (.int v9)) := lO_19 (by decide) hl (fun w9 z9 => by rw [hl.2.2.2.2] at z9; cases z9; rfl)
  refine lwP_9 (pc' := 606) dlw_605 rfl (lda_9 (k := 2) hl1.2.2.1) ?_
  refine li_9 (m := (yX13_best, cX13_best, 4, (some .int), false, 16, 0)) (as := []) (Q := fun σ _ σ' => RJ σ' ∧ σ'.1 104 = σ.1 104 ∧ σ'.1 2 = σ.1 2) (j := 402) (pc' := 609) S2 hR dlw_606 (by decide +kernel) rfl ⟨rfl, by decide, rfl⟩ rfl (RA) rfl (Nat.le_of_ble_eq_true rfl) rfl (fun v2 σ2 q9 => ?_)
  have q1 := q9.1
  have q2 := q9.2
  refine lwP_9 (pc' := 611) (lo' := dset1 (dset1 lo 5 (.int v9)) 6 (.int v2)) (st' := []) dlw_609 rfl rfl ?_
  refine lwP_9 (pc' := 999) (lo' := dset1 (dset1 lo 5 (.int v9)) 6 (.int v2)) (st' := []) dlw_611 rfl rfl ?_
  exact N _ _ _ _ _ _ _ (by omega) (lO_19 (by decide) hl1 (fun w9 z9 => by rw [hl1.2.2.2.2] at z9; cases z9; rfl)) (lS_t9 (Nat.le_refl _) (lr_9 (σ' := σ2) S2)) q1 (q2.1.trans (ht.trans P2.2.2.symm)) (by rw [q2.2]; exact hs)
theorem ls_solve9 (RA : rcI9 RJ (yX13_solve, cX13_solve, 4, (some .int), false, 16, 0) []) (hl : lO9 scr a o u i lo) (hi : 0 ≤ i.toInt ∧ i.toInt + 6 ≤ L ∧ L ≤ 3072) (S : lS9 sa TL b a o u Lx t κ σ J cs ss) (hR : RJ σ) (ht : σ.1 104 = zI κ chTolds a) (h0 : 0 ≤ Lx) (hs : (σ.1 2).toInt = Lx) (N : nx9 sa TL b a o u scr L xs RJ Lx t n i) : dV9 (dEE sa TL) dXX dKK b scr L xs lawP9 (n + 8) 16 rLaw 614 lo [] (zH (lB9 sa TL b o u σ J) κ) cs ss := by
  obtain ⟨W, T, ⟨ρ, I⟩, _⟩ := id S
  have oU := oU_9 S
  refine lwP_9 (pc' := 615) dlw_614 rfl (lda_9 (k := 1) hl.2.1) ?_
  refine lwP_9 (pc' := 616) dlw_615 rfl (lda_9 (k := 3) hl.2.2.2.1) ?_
  obtain ⟨n8, z8, v9, r8, rv, w8, k8⟩ := lc_9 (Lx' := Lx) S (wL_solve9 (L := Lx) W T I oU.1 oU.2.1 oU.2.2.1 oU.2.2.2) (fun κ' h => ⟨h.1, h.2.1⟩)
  refine lw_k9 (d := 15) (y := (kL_solve, _, [])) dlw_616 rfl rfl rfl rfl rfl r8 w8 (show 616 + 3 = 619 from rfl) (st' := [.int v9]) (by rw [rv]; rfl) (fun w hw => ?_)
  obtain ⟨κ1, J2, P2, e8, S2⟩ := k8 w hw
  obtain ⟨κ2, hκ2⟩ : ∃ κ2, κ2 = stn9 κ1 w := ⟨_, rfl⟩
  have P2 : (∃ ρ', chI9 ρ' κ1 a Lx) ∧ (∃ F, zF F κ κ1) ∧ zI κ2 chTolds a = zI κ chTolds a := by rw [hκ2]; exact P2
  rw [e8, ← hκ2]
  rw [← hκ2] at S2
  refine lwP_9 (pc' := 621) (lo' := dset1 lo 5 (.int v9)) (st' := []) dlw_619 rfl rfl ?_
  have hl1 : lO9 scr a o u i (dset1 lo 5 (.int v9)) := lO_19 (by decide) hl (fun w9 z9 => by rw [hl.2.2.2.2] at z9; cases z9; rfl)
  refine lwP_9 (pc' := 622) dlw_621 rfl (lda_9 (k := 2) hl1.2.2.1) ?_
  refine li_9 (m := (yX13_solve, cX13_solve, 4, (some .int), false, 16, 0)) (as := []) (Q := fun σ _ σ' => RJ σ' ∧ σ'.1 104 = σ.1 104 ∧ σ'.1 2 = σ.1 2) (j := 374) (pc' := 625) S2 hR dlw_622 (by decide +kernel) rfl ⟨rfl, by decide, rfl⟩ rfl (RA) rfl (Nat.le_of_ble_eq_true rfl) rfl (fun v2 σ2 q9 => ?_)
  have q1 := q9.1
  have q2 := q9.2
  refine lwP_9 (pc' := 627) (lo' := dset1 (dset1 lo 5 (.int v9)) 6 (.int v2)) (st' := []) dlw_625 rfl rfl ?_
  refine lwP_9 (pc' := 999) (lo' := dset1 (dset1 lo 5 (.int v9)) 6 (.int v2)) (st' := []) dlw_627 rfl rfl ?_
  exact N _ _ _ _ _ _ _ (by omega) (lO_19 (by decide) hl1 (fun w9 z9 => by rw [hl1.2.2.2.2] at z9; cases z9; rfl)) (lS_t9 (Nat.le_refl _) (lr_9 (σ' := σ2) S2)) q1 (q2.1.trans (ht.trans P2.2.2.symm)) (by rw [q2.2]; exact hs)
theorem ls_show9 (RA : ∀ (y0 : Int32) (y1 : Int32), rcI9 RJ (yX13_show, cX13_show, 3, (some .int), false, 16, 2) [.int y0, .int y1]) (hl : lO9 scr a o u i lo) (hi : 0 ≤ i.toInt ∧ i.toInt + 6 ≤ L ∧ L ≤ 3072) (S : lS9 sa TL b a o u Lx t κ σ J cs ss) (hR : RJ σ) (ht : σ.1 104 = zI κ chTolds a) (h0 : 0 ≤ Lx) (hs : (σ.1 2).toInt = Lx) (N : nx9 sa TL b a o u scr L xs RJ Lx t n i) : dV9 (dEE sa TL) dXX dKK b scr L xs lawP9 (n + 28) 16 rLaw 630 lo [] (zH (lB9 sa TL b o u σ J) κ) cs ss := by
  obtain ⟨W, T, ⟨ρ, I⟩, _⟩ := id S
  have oU := oU_9 S
  refine lwP_9 (pc' := 631) dlw_630 rfl (lda_9 (k := 1) hl.2.1) ?_
  refine la_9 (jj := 1) (j := 1) (pc6 := 637) dlw_631 dlw_632 dlw_634 dlw_635 dlw_636 ⟨rfl, rfl, rfl, rfl, rfl⟩ zi_1 hl ⟨by decide, hi.1, hi.2.1, hi.2.2⟩ ?_
  refine la_9 (jj := 2) (j := 2) (pc6 := 643) dlw_637 dlw_638 dlw_640 dlw_641 dlw_642 ⟨rfl, rfl, rfl, rfl, rfl⟩ zi_2 hl ⟨by decide, hi.1, hi.2.1, hi.2.2⟩ ?_
  refine lwP_9 (pc' := 644) dlw_643 rfl (lda_9 (k := 3) hl.2.2.2.1) ?_
  obtain ⟨n8, z8, v9, r8, rv, w8, k8⟩ := lc_9 (Lx' := Lx) S (wL_show9 (L := Lx) W T I oU.1 oU.2.1 oU.2.2.1 oU.2.2.2) (fun κ' h => ⟨h.1, h.2.1⟩)
  refine lw_k9 (d := 15) (y := (kL_show, _, [])) dlw_644 rfl rfl rfl rfl rfl r8 w8 (show 644 + 3 = 647 from rfl) (st' := [.int v9]) (by rw [rv]; rfl) (fun w hw => ?_)
  obtain ⟨κ1, J2, P2, e8, S2⟩ := k8 w hw
  obtain ⟨κ2, hκ2⟩ : ∃ κ2, κ2 = stn9 κ1 w := ⟨_, rfl⟩
  have P2 : (∃ ρ', chI9 ρ' κ1 a Lx) ∧ (∃ F, zF F κ κ1) ∧ zI κ2 chTolds a = zI κ chTolds a := by rw [hκ2]; exact P2
  rw [e8, ← hκ2]
  rw [← hκ2] at S2
  refine lwP_9 (pc' := 649) (lo' := dset1 lo 5 (.int v9)) (st' := []) dlw_647 rfl rfl ?_
  have hl1 : lO9 scr a o u i (dset1 lo 5 (.int v9)) := lO_19 (by decide) hl (fun w9 z9 => by rw [hl.2.2.2.2] at z9; cases z9; rfl)
  refine lwP_9 (pc' := 650) dlw_649 rfl (lda_9 (k := 2) hl1.2.2.1) ?_
  refine la_9 (jj := 1) (j := 1) (pc6 := 656) dlw_650 dlw_651 dlw_653 dlw_654 dlw_655 ⟨rfl, rfl, rfl, rfl, rfl⟩ zi_1 hl1 ⟨by decide, hi.1, hi.2.1, hi.2.2⟩ ?_
  refine la_9 (jj := 2) (j := 2) (pc6 := 662) dlw_656 dlw_657 dlw_659 dlw_660 dlw_661 ⟨rfl, rfl, rfl, rfl, rfl⟩ zi_2 hl1 ⟨by decide, hi.1, hi.2.1, hi.2.2⟩ ?_
  refine li_9 (m := (yX13_show, cX13_show, 3, (some .int), false, 16, 2)) (as := [.int _, .int _]) (Q := fun σ _ σ' => RJ σ' ∧ σ'.1 104 = σ.1 104 ∧ σ'.1 2 = σ.1 2) (j := 383) (pc' := 665) S2 hR dlw_662 (by decide +kernel) rfl ⟨rfl, by decide, rfl⟩ rfl (RA _ _) rfl (Nat.le_of_ble_eq_true rfl) rfl (fun v2 σ2 q9 => ?_)
  have q1 := q9.1
  have q2 := q9.2
  refine lwP_9 (pc' := 667) (lo' := dset1 (dset1 lo 5 (.int v9)) 6 (.int v2)) (st' := []) dlw_665 rfl rfl ?_
  refine lwP_9 (pc' := 999) (lo' := dset1 (dset1 lo 5 (.int v9)) 6 (.int v2)) (st' := []) dlw_667 rfl rfl ?_
  exact N _ _ _ _ _ _ _ (by omega) (lO_19 (by decide) hl1 (fun w9 z9 => by rw [hl1.2.2.2.2] at z9; cases z9; rfl)) (lS_t9 (Nat.le_refl _) (lr_9 (σ' := σ2) S2)) q1 (q2.1.trans (ht.trans P2.2.2.symm)) (by rw [q2.2]; exact hs)
theorem ls_size9 (RA : ∀ (y0 : Int32), rcI9 RJ (yX13_size, cX13_size, 2, (some .int), false, 16, 1) [.int y0]) (hl : lO9 scr a o u i lo) (hi : 0 ≤ i.toInt ∧ i.toInt + 6 ≤ L ∧ L ≤ 3072) (S : lS9 sa TL b a o u Lx t κ σ J cs ss) (hR : RJ σ) (ht : σ.1 104 = zI κ chTolds a) (h0 : 0 ≤ Lx) (hs : (σ.1 2).toInt = Lx) (N : nx9 sa TL b a o u scr L xs RJ Lx t n i) : dV9 (dEE sa TL) dXX dKK b scr L xs lawP9 (n + 18) 16 rLaw 670 lo [] (zH (lB9 sa TL b o u σ J) κ) cs ss := by
  obtain ⟨W, T, ⟨ρ, I⟩, _⟩ := id S
  have oU := oU_9 S
  refine lwP_9 (pc' := 671) dlw_670 rfl (lda_9 (k := 1) hl.2.1) ?_
  refine la_9 (jj := 1) (j := 1) (pc6 := 677) dlw_671 dlw_672 dlw_674 dlw_675 dlw_676 ⟨rfl, rfl, rfl, rfl, rfl⟩ zi_1 hl ⟨by decide, hi.1, hi.2.1, hi.2.2⟩ ?_
  refine lwP_9 (pc' := 678) dlw_677 rfl (lda_9 (k := 3) hl.2.2.2.1) ?_
  obtain ⟨n8, z8, v9, r8, rv, w8, k8⟩ := lc_9 (Lx' := Lx) S (wL_size9 (L := Lx) W T I oU.1 oU.2.1 oU.2.2.1 oU.2.2.2) (fun κ' h => ⟨h.1, h.2.1⟩)
  refine lw_k9 (d := 15) (y := (kL_size, _, [])) dlw_678 rfl rfl rfl rfl rfl r8 w8 (show 678 + 3 = 681 from rfl) (st' := [.int v9]) (by rw [rv]; rfl) (fun w hw => ?_)
  obtain ⟨κ1, J2, P2, e8, S2⟩ := k8 w hw
  obtain ⟨κ2, hκ2⟩ : ∃ κ2, κ2 = stn9 κ1 w := ⟨_, rfl⟩
  have P2 : (∃ ρ', chI9 ρ' κ1 a Lx) ∧ (∃ F, zF F κ κ1) ∧ zI κ2 chTolds a = zI κ chTolds a := by rw [hκ2]; exact P2
  rw [e8, ← hκ2]
  rw [← hκ2] at S2
  refine lwP_9 (pc' := 683) (lo' := dset1 lo 5 (.int v9)) (st' := []) dlw_681 rfl rfl ?_
  have hl1 : lO9 scr a o u i (dset1 lo 5 (.int v9)) := lO_19 (by decide) hl (fun w9 z9 => by rw [hl.2.2.2.2] at z9; cases z9; rfl)
  refine lwP_9 (pc' := 684) dlw_683 rfl (lda_9 (k := 2) hl1.2.2.1) ?_
  refine la_9 (jj := 1) (j := 1) (pc6 := 690) dlw_684 dlw_685 dlw_687 dlw_688 dlw_689 ⟨rfl, rfl, rfl, rfl, rfl⟩ zi_1 hl1 ⟨by decide, hi.1, hi.2.1, hi.2.2⟩ ?_
  refine li_9 (m := (yX13_size, cX13_size, 2, (some .int), false, 16, 1)) (as := [.int _]) (Q := fun σ _ σ' => RJ σ' ∧ σ'.1 104 = σ.1 104 ∧ σ'.1 2 = σ.1 2) (j := 385) (pc' := 693) S2 hR dlw_690 (by decide +kernel) rfl ⟨rfl, by decide, rfl⟩ rfl (RA _) rfl (Nat.le_of_ble_eq_true rfl) rfl (fun v2 σ2 q9 => ?_)
  have q1 := q9.1
  have q2 := q9.2
  refine lwP_9 (pc' := 695) (lo' := dset1 (dset1 lo 5 (.int v9)) 6 (.int v2)) (st' := []) dlw_693 rfl rfl ?_
  refine lwP_9 (pc' := 999) (lo' := dset1 (dset1 lo 5 (.int v9)) 6 (.int v2)) (st' := []) dlw_695 rfl rfl ?_
  exact N _ _ _ _ _ _ _ (by omega) (lO_19 (by decide) hl1 (fun w9 z9 => by rw [hl1.2.2.2.2] at z9; cases z9; rfl)) (lS_t9 (Nat.le_refl _) (lr_9 (σ' := σ2) S2)) q1 (q2.1.trans (ht.trans P2.2.2.symm)) (by rw [q2.2]; exact hs)
theorem ls_limb9 (RA : ∀ (y0 : Int32) (y1 : Int32), rcI9 RJ (yX13_limb, cX13_limb, 5, (some .int), false, 16, 2) [.int y0, .int y1]) (hl : lO9 scr a o u i lo) (hi : 0 ≤ i.toInt ∧ i.toInt + 6 ≤ L ∧ L ≤ 3072) (S : lS9 sa TL b a o u Lx t κ σ J cs ss) (hR : RJ σ) (ht : σ.1 104 = zI κ chTolds a) (h0 : 0 ≤ Lx) (hs : (σ.1 2).toInt = Lx) (N : nx9 sa TL b a o u scr L xs RJ Lx t n i) : dV9 (dEE sa TL) dXX dKK b scr L xs lawP9 (n + 28) 16 rLaw 698 lo [] (zH (lB9 sa TL b o u σ J) κ) cs ss := by
  obtain ⟨W, T, ⟨ρ, I⟩, _⟩ := id S
  have oU := oU_9 S
  refine lwP_9 (pc' := 699) dlw_698 rfl (lda_9 (k := 1) hl.2.1) ?_
  refine la_9 (jj := 1) (j := 1) (pc6 := 705) dlw_699 dlw_700 dlw_702 dlw_703 dlw_704 ⟨rfl, rfl, rfl, rfl, rfl⟩ zi_1 hl ⟨by decide, hi.1, hi.2.1, hi.2.2⟩ ?_
  refine la_9 (jj := 2) (j := 2) (pc6 := 711) dlw_705 dlw_706 dlw_708 dlw_709 dlw_710 ⟨rfl, rfl, rfl, rfl, rfl⟩ zi_2 hl ⟨by decide, hi.1, hi.2.1, hi.2.2⟩ ?_
  refine lwP_9 (pc' := 712) dlw_711 rfl (lda_9 (k := 3) hl.2.2.2.1) ?_
  obtain ⟨n8, z8, v9, r8, rv, w8, k8⟩ := lc_9 (Lx' := Lx) S (wL_limb9 (L := Lx) W T I oU.1 oU.2.1 oU.2.2.1 oU.2.2.2) (fun κ' h => ⟨h.1, h.2.1⟩)
  refine lw_k9 (d := 15) (y := (kL_limb, _, [])) dlw_712 rfl rfl rfl rfl rfl r8 w8 (show 712 + 3 = 715 from rfl) (st' := [.int v9]) (by rw [rv]; rfl) (fun w hw => ?_)
  obtain ⟨κ1, J2, P2, e8, S2⟩ := k8 w hw
  obtain ⟨κ2, hκ2⟩ : ∃ κ2, κ2 = stn9 κ1 w := ⟨_, rfl⟩
  have P2 : (∃ ρ', chI9 ρ' κ1 a Lx) ∧ (∃ F, zF F κ κ1) ∧ zI κ2 chTolds a = zI κ chTolds a := by rw [hκ2]; exact P2
  rw [e8, ← hκ2]
  rw [← hκ2] at S2
  refine lwP_9 (pc' := 717) (lo' := dset1 lo 5 (.int v9)) (st' := []) dlw_715 rfl rfl ?_
  have hl1 : lO9 scr a o u i (dset1 lo 5 (.int v9)) := lO_19 (by decide) hl (fun w9 z9 => by rw [hl.2.2.2.2] at z9; cases z9; rfl)
  refine lwP_9 (pc' := 718) dlw_717 rfl (lda_9 (k := 2) hl1.2.2.1) ?_
  refine la_9 (jj := 1) (j := 1) (pc6 := 724) dlw_718 dlw_719 dlw_721 dlw_722 dlw_723 ⟨rfl, rfl, rfl, rfl, rfl⟩ zi_1 hl1 ⟨by decide, hi.1, hi.2.1, hi.2.2⟩ ?_
  refine la_9 (jj := 2) (j := 2) (pc6 := 730) dlw_724 dlw_725 dlw_727 dlw_728 dlw_729 ⟨rfl, rfl, rfl, rfl, rfl⟩ zi_2 hl1 ⟨by decide, hi.1, hi.2.1, hi.2.2⟩ ?_
  refine li_9 (m := (yX13_limb, cX13_limb, 5, (some .int), false, 16, 2)) (as := [.int _, .int _]) (Q := fun σ _ σ' => RJ σ' ∧ σ'.1 104 = σ.1 104 ∧ σ'.1 2 = σ.1 2) (j := 386) (pc' := 733) S2 hR dlw_730 (by decide +kernel) rfl ⟨rfl, by decide, rfl⟩ rfl (RA _ _) rfl (Nat.le_of_ble_eq_true rfl) rfl (fun v2 σ2 q9 => ?_)
  have q1 := q9.1
  have q2 := q9.2
  refine lwP_9 (pc' := 735) (lo' := dset1 (dset1 lo 5 (.int v9)) 6 (.int v2)) (st' := []) dlw_733 rfl rfl ?_
  refine lwP_9 (pc' := 999) (lo' := dset1 (dset1 lo 5 (.int v9)) 6 (.int v2)) (st' := []) dlw_735 rfl rfl ?_
  exact N _ _ _ _ _ _ _ (by omega) (lO_19 (by decide) hl1 (fun w9 z9 => by rw [hl1.2.2.2.2] at z9; cases z9; rfl)) (lS_t9 (Nat.le_refl _) (lr_9 (σ' := σ2) S2)) q1 (q2.1.trans (ht.trans P2.2.2.symm)) (by rw [q2.2]; exact hs)
theorem ls_tell9 (RA : ∀ (y0 : Int32), rcT9 RJ (yX13_tell, cX13_tell, 2, (some .int), false, 16, 1) [.int y0]) (hl : lO9 scr a o u i lo) (hi : 0 ≤ i.toInt ∧ i.toInt + 6 ≤ L ∧ L ≤ 3072) (S : lS9 sa TL b a o u Lx t κ σ J cs ss) (hR : RJ σ) (ht : σ.1 104 = zI κ chTolds a) (h0 : 0 ≤ Lx) (hs : (σ.1 2).toInt = Lx) (N : nx9 sa TL b a o u scr L xs RJ Lx t n i) : dV9 (dEE sa TL) dXX dKK b scr L xs lawP9 (n + 18) 16 rLaw 738 lo [] (zH (lB9 sa TL b o u σ J) κ) cs ss := by
  obtain ⟨W, T, ⟨ρ, I⟩, _⟩ := id S
  have oU := oU_9 S
  have hT : (zI κ chTolds a).toInt ≤ 200 := I.2.2.2.2.2.1.1.2.2
  refine lwP_9 (pc' := 739) dlw_738 rfl (lda_9 (k := 1) hl.2.1) ?_
  refine la_9 (jj := 1) (j := 1) (pc6 := 745) dlw_739 dlw_740 dlw_742 dlw_743 dlw_744 ⟨rfl, rfl, rfl, rfl, rfl⟩ zi_1 hl ⟨by decide, hi.1, hi.2.1, hi.2.2⟩ ?_
  refine lwP_9 (pc' := 746) dlw_745 rfl (lda_9 (k := 3) hl.2.2.2.1) ?_
  obtain ⟨n8, z8, v9, r8, rv, w8, k8⟩ := lc_9 (Lx' := Lx) S (wL_tell9 (L := Lx) W T I oU.1 oU.2.1 oU.2.2.1 oU.2.2.2) (fun κ' h => ⟨h.1, h.2.1⟩)
  refine lw_k9 (d := 15) (y := (kL_tell, _, [])) dlw_746 rfl rfl rfl rfl rfl r8 w8 (show 746 + 3 = 749 from rfl) (st' := [.int v9]) (by rw [rv]; rfl) (fun w hw => ?_)
  obtain ⟨κ1, J2, P2, e8, S2⟩ := k8 w hw
  obtain ⟨κ2, hκ2⟩ : ∃ κ2, κ2 = stn9 κ1 w := ⟨_, rfl⟩
  have P2 : (∃ ρ', chI9 ρ' κ1 a Lx) ∧ (∃ F, zF F κ κ1) ∧ ((zI κ chTolds a < 200 ∧ zI κ2 chTolds a = zI κ chTolds a + 1) ∨ (¬ zI κ chTolds a < 200 ∧ zI κ2 chTolds a = zI κ chTolds a)) := by rw [hκ2]; exact P2
  rw [e8, ← hκ2]
  rw [← hκ2] at S2
  refine lwP_9 (pc' := 751) (lo' := dset1 lo 5 (.int v9)) (st' := []) dlw_749 rfl rfl ?_
  have hl1 : lO9 scr a o u i (dset1 lo 5 (.int v9)) := lO_19 (by decide) hl (fun w9 z9 => by rw [hl.2.2.2.2] at z9; cases z9; rfl)
  refine lwP_9 (pc' := 752) dlw_751 rfl (lda_9 (k := 2) hl1.2.2.1) ?_
  refine la_9 (jj := 1) (j := 1) (pc6 := 758) dlw_752 dlw_753 dlw_755 dlw_756 dlw_757 ⟨rfl, rfl, rfl, rfl, rfl⟩ zi_1 hl1 ⟨by decide, hi.1, hi.2.1, hi.2.2⟩ ?_
  refine li_9 (m := (yX13_tell, cX13_tell, 2, (some .int), false, 16, 1)) (as := [.int _]) (Q := fun σ v σ' => RJ σ' ∧ ((σ.1 104 = 200 → σ'.1 104 = 200) ∧ (σ.1 104 ≠ 200 → σ'.1 104 = σ.1 104 + 1)) ∧ σ'.1 2 = σ.1 2) (j := 387) (pc' := 761) S2 hR dlw_758 (by decide +kernel) rfl ⟨rfl, by decide, rfl⟩ rfl (RA _) rfl (Nat.le_of_ble_eq_true rfl) rfl (fun v2 σ2 q9 => ?_)
  have q1 := q9.1
  have q2 := q9.2
  refine lwP_9 (pc' := 763) (lo' := dset1 (dset1 lo 5 (.int v9)) 6 (.int v2)) (st' := []) dlw_761 rfl rfl ?_
  refine lwP_9 (pc' := 999) (lo' := dset1 (dset1 lo 5 (.int v9)) 6 (.int v2)) (st' := []) dlw_763 rfl rfl ?_
  exact N _ _ _ _ _ _ _ (by omega) (lO_19 (by decide) hl1 (fun w9 z9 => by rw [hl1.2.2.2.2] at z9; cases z9; rfl)) (lS_t9 (Nat.le_refl _) (lr_9 (σ' := σ2) S2)) q1 (by
    rcases P2.2.2 with ⟨z1, z2⟩ | ⟨z1, z2⟩
    · show σ2.1 104 = zI κ2 chTolds a
      rw [z2, ← ht, q2.1.2 (fun e => by rw [← ht, e] at z1; exact absurd z1 (by decide))]
    · show σ2.1 104 = zI κ2 chTolds a
      have e : σ.1 104 = 200 := by
        have y := (hT)
        rw [← ht] at y z1
        rw [lti] at z1
        have z3 : (200 : Int32).toInt = 200 := rfl
        exact Int32.toInt.inj (by omega)
      rw [z2, ← ht, q2.1.1 e, e]) (by rw [q2.2]; exact hs)
theorem ls_play9 (RA : ∀ (y0 : Int64) (y1 : Int32), rcI9 RJ (yX13_play, cX13_play, 4, (some .int), false, 16, 2) [.long y0, .int y1]) (hl : lO9 scr a o u i lo) (hi : 0 ≤ i.toInt ∧ i.toInt + 6 ≤ L ∧ L ≤ 3072) (S : lS9 sa TL b a o u Lx t κ σ J cs ss) (hR : RJ σ) (ht : σ.1 104 = zI κ chTolds a) (h0 : 0 ≤ Lx) (hs : (σ.1 2).toInt = Lx) (N : nx9 sa TL b a o u scr L xs RJ Lx t n i) : dV9 (dEE sa TL) dXX dKK b scr L xs lawP9 (n + 52) 16 rLaw 779 lo [] (zH (lB9 sa TL b o u σ J) κ) cs ss := by
  obtain ⟨W, T, ⟨ρ, I⟩, _⟩ := id S
  have oU := oU_9 S
  refine lwP_9 (pc' := 780) dlw_779 rfl (lda_9 (k := 1) hl.2.1) ?_
  refine la_9 (jj := 1) (j := 1) (pc6 := 786) dlw_780 dlw_781 dlw_783 dlw_784 dlw_785 ⟨rfl, rfl, rfl, rfl, rfl⟩ zi_1 hl ⟨by decide, hi.1, hi.2.1, hi.2.2⟩ ?_
  refine lwP_9 (pc' := 787) dlw_786 rfl rfl ?_
  refine lwP_9 (pc' := 789) dlw_787 rfl rfl ?_
  refine lwP_9 (pc' := 790) dlw_789 rfl rfl ?_
  refine la_9 (jj := 2) (j := 2) (pc6 := 796) dlw_790 dlw_791 dlw_793 dlw_794 dlw_795 ⟨rfl, rfl, rfl, rfl, rfl⟩ zi_2 hl ⟨by decide, hi.1, hi.2.1, hi.2.2⟩ ?_
  refine lwP_9 (pc' := 797) dlw_796 rfl rfl ?_
  refine lw_h9 (pc' := 800) dlw_797 rfl rfl rfl rfl ?_
  refine lwP_9 (pc' := 801) dlw_800 rfl rfl ?_
  refine lwP_9 (pc' := 802) dlw_801 rfl rfl ?_
  refine la_9 (jj := 3) (j := 3) (pc6 := 808) dlw_802 dlw_803 dlw_805 dlw_806 dlw_807 ⟨rfl, rfl, rfl, rfl, rfl⟩ zi_3 hl ⟨by decide, hi.1, hi.2.1, hi.2.2⟩ ?_
  refine lwP_9 (pc' := 809) dlw_808 rfl (lda_9 (k := 3) hl.2.2.2.1) ?_
  obtain ⟨n8, z8, v9, r8, rv, w8, k8⟩ := lc_9 (Lx' := Lx) S (wL_play9 (L := Lx) W T I oU.1 oU.2.1 oU.2.2.1 oU.2.2.2) (fun κ' h => ⟨h.1, h.2.1⟩)
  refine lw_k9 (d := 15) (y := (kL_play, _, [])) dlw_809 rfl rfl rfl rfl rfl r8 w8 (show 809 + 3 = 812 from rfl) (st' := [.int v9]) (by rw [rv]; rfl) (fun w hw => ?_)
  obtain ⟨κ1, J2, P2, e8, S2⟩ := k8 w hw
  obtain ⟨κ2, hκ2⟩ : ∃ κ2, κ2 = stn9 κ1 w := ⟨_, rfl⟩
  have P2 : (∃ ρ', chI9 ρ' κ1 a Lx) ∧ (∃ F, zF F κ κ1) ∧ zI κ2 chTolds a = zI κ chTolds a := by rw [hκ2]; exact P2
  rw [e8, ← hκ2]
  rw [← hκ2] at S2
  refine lwP_9 (pc' := 814) (lo' := dset1 lo 5 (.int v9)) (st' := []) dlw_812 rfl rfl ?_
  have hl1 : lO9 scr a o u i (dset1 lo 5 (.int v9)) := lO_19 (by decide) hl (fun w9 z9 => by rw [hl.2.2.2.2] at z9; cases z9; rfl)
  refine lwP_9 (pc' := 815) dlw_814 rfl (lda_9 (k := 2) hl1.2.2.1) ?_
  refine la_9 (jj := 1) (j := 1) (pc6 := 821) dlw_815 dlw_816 dlw_818 dlw_819 dlw_820 ⟨rfl, rfl, rfl, rfl, rfl⟩ zi_1 hl1 ⟨by decide, hi.1, hi.2.1, hi.2.2⟩ ?_
  refine lwP_9 (pc' := 822) dlw_821 rfl rfl ?_
  refine lwP_9 (pc' := 824) dlw_822 rfl rfl ?_
  refine lwP_9 (pc' := 825) dlw_824 rfl rfl ?_
  refine la_9 (jj := 2) (j := 2) (pc6 := 831) dlw_825 dlw_826 dlw_828 dlw_829 dlw_830 ⟨rfl, rfl, rfl, rfl, rfl⟩ zi_2 hl1 ⟨by decide, hi.1, hi.2.1, hi.2.2⟩ ?_
  refine lwP_9 (pc' := 832) dlw_831 rfl rfl ?_
  refine lw_h9 (pc' := 835) dlw_832 rfl rfl rfl rfl ?_
  refine lwP_9 (pc' := 836) dlw_835 rfl rfl ?_
  refine lwP_9 (pc' := 837) dlw_836 rfl rfl ?_
  refine la_9 (jj := 3) (j := 3) (pc6 := 843) dlw_837 dlw_838 dlw_840 dlw_841 dlw_842 ⟨rfl, rfl, rfl, rfl, rfl⟩ zi_3 hl1 ⟨by decide, hi.1, hi.2.1, hi.2.2⟩ ?_
  refine li_9 (m := (yX13_play, cX13_play, 4, (some .int), false, 16, 2)) (as := [.long _, .int _]) (Q := fun σ _ σ' => RJ σ' ∧ σ'.1 104 = σ.1 104 ∧ σ'.1 2 = σ.1 2) (j := 393) (pc' := 846) S2 hR dlw_843 (by decide +kernel) rfl ⟨rfl, by decide, rfl⟩ rfl (RA _ _) rfl (Nat.le_of_ble_eq_true rfl) rfl (fun v2 σ2 q9 => ?_)
  have q1 := q9.1
  have q2 := q9.2
  refine lwP_9 (pc' := 848) (lo' := dset1 (dset1 lo 5 (.int v9)) 6 (.int v2)) (st' := []) dlw_846 rfl rfl ?_
  refine lwP_9 (pc' := 999) (lo' := dset1 (dset1 lo 5 (.int v9)) 6 (.int v2)) (st' := []) dlw_848 rfl rfl ?_
  exact N _ _ _ _ _ _ _ (by omega) (lO_19 (by decide) hl1 (fun w9 z9 => by rw [hl1.2.2.2.2] at z9; cases z9; rfl)) (lS_t9 (Nat.le_refl _) (lr_9 (σ' := σ2) S2)) q1 (q2.1.trans (ht.trans P2.2.2.symm)) (by rw [q2.2]; exact hs)
theorem ls_walk9 (RA : ∀ (y0 : Int32), rcI9 RJ (yX13_walk, cX13_walk, 2, (some .int), false, 16, 1) [.int y0]) (hl : lO9 scr a o u i lo) (hi : 0 ≤ i.toInt ∧ i.toInt + 6 ≤ L ∧ L ≤ 3072) (S : lS9 sa TL b a o u Lx t κ σ J cs ss) (hR : RJ σ) (ht : σ.1 104 = zI κ chTolds a) (h0 : 0 ≤ Lx) (hs : (σ.1 2).toInt = Lx) (N : nx9 sa TL b a o u scr L xs RJ Lx t n i) : dV9 (dEE sa TL) dXX dKK b scr L xs lawP9 (n + 18) 16 rLaw 851 lo [] (zH (lB9 sa TL b o u σ J) κ) cs ss := by
  obtain ⟨W, T, ⟨ρ, I⟩, _⟩ := id S
  have oU := oU_9 S
  refine lwP_9 (pc' := 852) dlw_851 rfl (lda_9 (k := 1) hl.2.1) ?_
  refine la_9 (jj := 1) (j := 1) (pc6 := 858) dlw_852 dlw_853 dlw_855 dlw_856 dlw_857 ⟨rfl, rfl, rfl, rfl, rfl⟩ zi_1 hl ⟨by decide, hi.1, hi.2.1, hi.2.2⟩ ?_
  refine lwP_9 (pc' := 859) dlw_858 rfl (lda_9 (k := 3) hl.2.2.2.1) ?_
  obtain ⟨n8, z8, v9, r8, rv, w8, k8⟩ := lc_9 (Lx' := Lx) S (wL_walk9 (L := Lx) W T I oU.1 oU.2.1 oU.2.2.1 oU.2.2.2) (fun κ' h => ⟨h.1, h.2.1⟩)
  refine lw_k9 (d := 15) (y := (kL_walk, _, [])) dlw_859 rfl rfl rfl rfl rfl r8 w8 (show 859 + 3 = 862 from rfl) (st' := [.int v9]) (by rw [rv]; rfl) (fun w hw => ?_)
  obtain ⟨κ1, J2, P2, e8, S2⟩ := k8 w hw
  obtain ⟨κ2, hκ2⟩ : ∃ κ2, κ2 = stn9 κ1 w := ⟨_, rfl⟩
  have P2 : (∃ ρ', chI9 ρ' κ1 a Lx) ∧ (∃ F, zF F κ κ1) ∧ zI κ2 chTolds a = zI κ chTolds a := by rw [hκ2]; exact P2
  rw [e8, ← hκ2]
  rw [← hκ2] at S2
  refine lwP_9 (pc' := 864) (lo' := dset1 lo 5 (.int v9)) (st' := []) dlw_862 rfl rfl ?_
  have hl1 : lO9 scr a o u i (dset1 lo 5 (.int v9)) := lO_19 (by decide) hl (fun w9 z9 => by rw [hl.2.2.2.2] at z9; cases z9; rfl)
  refine lwP_9 (pc' := 865) dlw_864 rfl (lda_9 (k := 2) hl1.2.2.1) ?_
  refine la_9 (jj := 1) (j := 1) (pc6 := 871) dlw_865 dlw_866 dlw_868 dlw_869 dlw_870 ⟨rfl, rfl, rfl, rfl, rfl⟩ zi_1 hl1 ⟨by decide, hi.1, hi.2.1, hi.2.2⟩ ?_
  refine li_9 (m := (yX13_walk, cX13_walk, 2, (some .int), false, 16, 1)) (as := [.int _]) (Q := fun σ _ σ' => RJ σ' ∧ σ'.1 104 = σ.1 104 ∧ σ'.1 2 = σ.1 2) (j := 394) (pc' := 874) S2 hR dlw_871 (by decide +kernel) rfl ⟨rfl, by decide, rfl⟩ rfl (RA _) rfl (Nat.le_of_ble_eq_true rfl) rfl (fun v2 σ2 q9 => ?_)
  have q1 := q9.1
  have q2 := q9.2
  refine lwP_9 (pc' := 876) (lo' := dset1 (dset1 lo 5 (.int v9)) 6 (.int v2)) (st' := []) dlw_874 rfl rfl ?_
  refine lwP_9 (pc' := 999) (lo' := dset1 (dset1 lo 5 (.int v9)) 6 (.int v2)) (st' := []) dlw_876 rfl rfl ?_
  exact N _ _ _ _ _ _ _ (by omega) (lO_19 (by decide) hl1 (fun w9 z9 => by rw [hl1.2.2.2.2] at z9; cases z9; rfl)) (lS_t9 (Nat.le_refl _) (lr_9 (σ' := σ2) S2)) q1 (q2.1.trans (ht.trans P2.2.2.symm)) (by rw [q2.2]; exact hs)
theorem ls_played9 (RA : ∀ (y0 : Int32), rcJ9 RJ (yX13_played, cX13_played, 2, (some .long), false, 16, 1) [.int y0]) (hl : lO9 scr a o u i lo) (hi : 0 ≤ i.toInt ∧ i.toInt + 6 ≤ L ∧ L ≤ 3072) (S : lS9 sa TL b a o u Lx t κ σ J cs ss) (hR : RJ σ) (ht : σ.1 104 = zI κ chTolds a) (h0 : 0 ≤ Lx) (hs : (σ.1 2).toInt = Lx) (N : nx9 sa TL b a o u scr L xs RJ Lx t n i) : dV9 (dEE sa TL) dXX dKK b scr L xs lawP9 (n + 18) 16 rLaw 879 lo [] (zH (lB9 sa TL b o u σ J) κ) cs ss := by
  obtain ⟨W, T, ⟨ρ, I⟩, _⟩ := id S
  have oU := oU_9 S
  refine lwP_9 (pc' := 880) dlw_879 rfl (lda_9 (k := 1) hl.2.1) ?_
  refine la_9 (jj := 1) (j := 1) (pc6 := 886) dlw_880 dlw_881 dlw_883 dlw_884 dlw_885 ⟨rfl, rfl, rfl, rfl, rfl⟩ zi_1 hl ⟨by decide, hi.1, hi.2.1, hi.2.2⟩ ?_
  refine lwP_9 (pc' := 887) dlw_886 rfl (lda_9 (k := 3) hl.2.2.2.1) ?_
  obtain ⟨n8, z8, v9, r8, rv, w8, k8⟩ := lc_9 (Lx' := Lx) S (wL_played9 (L := Lx) W T I oU.1 oU.2.1 oU.2.2.1 oU.2.2.2) (fun κ' h => ⟨h.1, h.2.1⟩)
  refine lw_k9 (d := 15) (y := (kL_played, _, [])) dlw_887 rfl rfl rfl rfl rfl r8 w8 (show 887 + 3 = 890 from rfl) (st' := [.int v9]) (by rw [rv]; rfl) (fun w hw => ?_)
  obtain ⟨κ1, J2, P2, e8, S2⟩ := k8 w hw
  obtain ⟨κ2, hκ2⟩ : ∃ κ2, κ2 = stn9 κ1 w := ⟨_, rfl⟩
  have P2 : (∃ ρ', chI9 ρ' κ1 a Lx) ∧ (∃ F, zF F κ κ1) ∧ zI κ2 chTolds a = zI κ chTolds a := by rw [hκ2]; exact P2
  rw [e8, ← hκ2]
  rw [← hκ2] at S2
  refine lwP_9 (pc' := 892) (lo' := dset1 lo 5 (.int v9)) (st' := []) dlw_890 rfl rfl ?_
  have hl1 : lO9 scr a o u i (dset1 lo 5 (.int v9)) := lO_19 (by decide) hl (fun w9 z9 => by rw [hl.2.2.2.2] at z9; cases z9; rfl)
  refine lwP_9 (pc' := 893) dlw_892 rfl (lda_9 (k := 2) hl1.2.2.1) ?_
  refine la_9 (jj := 1) (j := 1) (pc6 := 899) dlw_893 dlw_894 dlw_896 dlw_897 dlw_898 ⟨rfl, rfl, rfl, rfl, rfl⟩ zi_1 hl1 ⟨by decide, hi.1, hi.2.1, hi.2.2⟩ ?_
  refine lj_9 (m := (yX13_played, cX13_played, 2, (some .long), false, 16, 1)) (as := [.int _]) (Q := fun σ _ σ' => RJ σ' ∧ σ'.1 104 = σ.1 104 ∧ σ'.1 2 = σ.1 2) (j := 395) (pc' := 902) S2 hR dlw_899 (by decide +kernel) rfl ⟨rfl, by decide, rfl⟩ rfl (RA _) rfl (Nat.le_of_ble_eq_true rfl) rfl (fun v2 σ2 q9 => ?_)
  have q1 := q9.1
  have q2 := q9.2
  refine lwP_9 (pc' := 904) (lo' := dset2 (dset1 lo 5 (.int v9)) 6 (.long v2)) (st' := []) dlw_902 rfl rfl ?_
  refine lwP_9 (pc' := 999) (lo' := dset2 (dset1 lo 5 (.int v9)) 6 (.long v2)) (st' := []) dlw_904 rfl rfl ?_
  exact N _ _ _ _ _ _ _ (by omega) (lO_29 (by decide) hl1) (lS_t9 (Nat.le_refl _) (lr_9 (σ' := σ2) S2)) q1 (q2.1.trans (ht.trans P2.2.2.symm)) (by rw [q2.2]; exact hs)
theorem ls_independent9 (RA : ∀ (y0 : Int32) (y1 : Int32), rcI9 RJ (yX13_independent, cX13_independent, 3, (some .boolean), false, 16, 2) [.int y0, .int y1]) (hl : lO9 scr a o u i lo) (hi : 0 ≤ i.toInt ∧ i.toInt + 6 ≤ L ∧ L ≤ 3072) (S : lS9 sa TL b a o u Lx t κ σ J cs ss) (hR : RJ σ) (ht : σ.1 104 = zI κ chTolds a) (h0 : 0 ≤ Lx) (hs : (σ.1 2).toInt = Lx) (N : nx9 sa TL b a o u scr L xs RJ Lx t n i) : dV9 (dEE sa TL) dXX dKK b scr L xs lawP9 (n + 28) 16 rLaw 907 lo [] (zH (lB9 sa TL b o u σ J) κ) cs ss := by
  obtain ⟨W, T, ⟨ρ, I⟩, _⟩ := id S
  have oU := oU_9 S
  refine lwP_9 (pc' := 908) dlw_907 rfl (lda_9 (k := 1) hl.2.1) ?_
  refine la_9 (jj := 1) (j := 1) (pc6 := 914) dlw_908 dlw_909 dlw_911 dlw_912 dlw_913 ⟨rfl, rfl, rfl, rfl, rfl⟩ zi_1 hl ⟨by decide, hi.1, hi.2.1, hi.2.2⟩ ?_
  refine la_9 (jj := 2) (j := 2) (pc6 := 920) dlw_914 dlw_915 dlw_917 dlw_918 dlw_919 ⟨rfl, rfl, rfl, rfl, rfl⟩ zi_2 hl ⟨by decide, hi.1, hi.2.1, hi.2.2⟩ ?_
  refine lwP_9 (pc' := 921) dlw_920 rfl (lda_9 (k := 3) hl.2.2.2.1) ?_
  obtain ⟨n8, z8, v9, r8, rv, w8, k8⟩ := lc_9 (Lx' := Lx) S (wL_independent9 (L := Lx) W T I oU.1 oU.2.1 oU.2.2.1 oU.2.2.2) (fun κ' h => ⟨h.1, h.2.1⟩)
  refine lw_k9 (d := 15) (y := (kL_independent, _, [])) dlw_921 rfl rfl rfl rfl rfl r8 w8 (show 921 + 3 = 924 from rfl) (st' := [.int v9]) (by rw [rv]; rfl) (fun w hw => ?_)
  obtain ⟨κ1, J2, P2, e8, S2⟩ := k8 w hw
  obtain ⟨κ2, hκ2⟩ : ∃ κ2, κ2 = stn9 κ1 w := ⟨_, rfl⟩
  have P2 : (∃ ρ', chI9 ρ' κ1 a Lx) ∧ (∃ F, zF F κ κ1) ∧ zI κ2 chTolds a = zI κ chTolds a := by rw [hκ2]; exact P2
  rw [e8, ← hκ2]
  rw [← hκ2] at S2
  refine lwP_9 (pc' := 926) (lo' := dset1 lo 5 (.int v9)) (st' := []) dlw_924 rfl rfl ?_
  have hl1 : lO9 scr a o u i (dset1 lo 5 (.int v9)) := lO_19 (by decide) hl (fun w9 z9 => by rw [hl.2.2.2.2] at z9; cases z9; rfl)
  refine lwP_9 (pc' := 927) dlw_926 rfl (lda_9 (k := 2) hl1.2.2.1) ?_
  refine la_9 (jj := 1) (j := 1) (pc6 := 933) dlw_927 dlw_928 dlw_930 dlw_931 dlw_932 ⟨rfl, rfl, rfl, rfl, rfl⟩ zi_1 hl1 ⟨by decide, hi.1, hi.2.1, hi.2.2⟩ ?_
  refine la_9 (jj := 2) (j := 2) (pc6 := 939) dlw_933 dlw_934 dlw_936 dlw_937 dlw_938 ⟨rfl, rfl, rfl, rfl, rfl⟩ zi_2 hl1 ⟨by decide, hi.1, hi.2.1, hi.2.2⟩ ?_
  refine li_9 (m := (yX13_independent, cX13_independent, 3, (some .boolean), false, 16, 2)) (as := [.int _, .int _]) (Q := fun σ _ σ' => RJ σ' ∧ σ'.1 104 = σ.1 104 ∧ σ'.1 2 = σ.1 2) (j := 411) (pc' := 942) S2 hR dlw_939 (by decide +kernel) rfl ⟨rfl, by decide, rfl⟩ rfl (RA _ _) rfl (Nat.le_of_ble_eq_true rfl) rfl (fun v2 σ2 q9 => ?_)
  have q1 := q9.1
  have q2 := q9.2
  refine lwP_9 (pc' := 944) (lo' := dset1 (dset1 lo 5 (.int v9)) 6 (.int v2)) (st' := []) dlw_942 rfl rfl ?_
  refine lwP_9 (pc' := 999) (lo' := dset1 (dset1 lo 5 (.int v9)) 6 (.int v2)) (st' := []) dlw_944 rfl rfl ?_
  exact N _ _ _ _ _ _ _ (by omega) (lO_19 (by decide) hl1 (fun w9 z9 => by rw [hl1.2.2.2.2] at z9; cases z9; rfl)) (lS_t9 (Nat.le_refl _) (lr_9 (σ' := σ2) S2)) q1 (q2.1.trans (ht.trans P2.2.2.symm)) (by rw [q2.2]; exact hs)
theorem ls_given9 (RA : ∀ (y0 : Int32) (y1 : Int32) (y2 : Int32), rcI9 RJ (yX13_given, cX13_given, 7, (some .boolean), false, 16, 3) [.int y0, .int y1, .int y2]) (hl : lO9 scr a o u i lo) (hi : 0 ≤ i.toInt ∧ i.toInt + 6 ≤ L ∧ L ≤ 3072) (S : lS9 sa TL b a o u Lx t κ σ J cs ss) (hR : RJ σ) (ht : σ.1 104 = zI κ chTolds a) (h0 : 0 ≤ Lx) (hs : (σ.1 2).toInt = Lx) (N : nx9 sa TL b a o u scr L xs RJ Lx t n i) : dV9 (dEE sa TL) dXX dKK b scr L xs lawP9 (n + 38) 16 rLaw 947 lo [] (zH (lB9 sa TL b o u σ J) κ) cs ss := by
  obtain ⟨W, T, ⟨ρ, I⟩, _⟩ := id S
  have oU := oU_9 S
  refine lwP_9 (pc' := 948) dlw_947 rfl (lda_9 (k := 1) hl.2.1) ?_
  refine la_9 (jj := 1) (j := 1) (pc6 := 954) dlw_948 dlw_949 dlw_951 dlw_952 dlw_953 ⟨rfl, rfl, rfl, rfl, rfl⟩ zi_1 hl ⟨by decide, hi.1, hi.2.1, hi.2.2⟩ ?_
  refine la_9 (jj := 2) (j := 2) (pc6 := 960) dlw_954 dlw_955 dlw_957 dlw_958 dlw_959 ⟨rfl, rfl, rfl, rfl, rfl⟩ zi_2 hl ⟨by decide, hi.1, hi.2.1, hi.2.2⟩ ?_
  refine la_9 (jj := 3) (j := 3) (pc6 := 966) dlw_960 dlw_961 dlw_963 dlw_964 dlw_965 ⟨rfl, rfl, rfl, rfl, rfl⟩ zi_3 hl ⟨by decide, hi.1, hi.2.1, hi.2.2⟩ ?_
  refine lwP_9 (pc' := 967) dlw_966 rfl (lda_9 (k := 3) hl.2.2.2.1) ?_
  obtain ⟨n8, z8, v9, r8, rv, w8, k8⟩ := lc_9 (Lx' := Lx) S (wL_given9 (L := Lx) W T I oU.1 oU.2.1 oU.2.2.1 oU.2.2.2) (fun κ' h => ⟨h.1, h.2.1⟩)
  refine lw_k9 (d := 15) (y := (kL_given, _, [])) dlw_967 rfl rfl rfl rfl rfl r8 w8 (show 967 + 3 = 970 from rfl) (st' := [.int v9]) (by rw [rv]; rfl) (fun w hw => ?_)
  obtain ⟨κ1, J2, P2, e8, S2⟩ := k8 w hw
  obtain ⟨κ2, hκ2⟩ : ∃ κ2, κ2 = stn9 κ1 w := ⟨_, rfl⟩
  have P2 : (∃ ρ', chI9 ρ' κ1 a Lx) ∧ (∃ F, zF F κ κ1) ∧ zI κ2 chTolds a = zI κ chTolds a := by rw [hκ2]; exact P2
  rw [e8, ← hκ2]
  rw [← hκ2] at S2
  refine lwP_9 (pc' := 972) (lo' := dset1 lo 5 (.int v9)) (st' := []) dlw_970 rfl rfl ?_
  have hl1 : lO9 scr a o u i (dset1 lo 5 (.int v9)) := lO_19 (by decide) hl (fun w9 z9 => by rw [hl.2.2.2.2] at z9; cases z9; rfl)
  refine lwP_9 (pc' := 973) dlw_972 rfl (lda_9 (k := 2) hl1.2.2.1) ?_
  refine la_9 (jj := 1) (j := 1) (pc6 := 979) dlw_973 dlw_974 dlw_976 dlw_977 dlw_978 ⟨rfl, rfl, rfl, rfl, rfl⟩ zi_1 hl1 ⟨by decide, hi.1, hi.2.1, hi.2.2⟩ ?_
  refine la_9 (jj := 2) (j := 2) (pc6 := 985) dlw_979 dlw_980 dlw_982 dlw_983 dlw_984 ⟨rfl, rfl, rfl, rfl, rfl⟩ zi_2 hl1 ⟨by decide, hi.1, hi.2.1, hi.2.2⟩ ?_
  refine la_9 (jj := 3) (j := 3) (pc6 := 991) dlw_985 dlw_986 dlw_988 dlw_989 dlw_990 ⟨rfl, rfl, rfl, rfl, rfl⟩ zi_3 hl1 ⟨by decide, hi.1, hi.2.1, hi.2.2⟩ ?_
  refine li_9 (m := (yX13_given, cX13_given, 7, (some .boolean), false, 16, 3)) (as := [.int _, .int _, .int _]) (Q := fun σ _ σ' => RJ σ' ∧ σ'.1 104 = σ.1 104 ∧ σ'.1 2 = σ.1 2) (j := 412) (pc' := 994) S2 hR dlw_991 (by decide +kernel) rfl ⟨rfl, by decide, rfl⟩ rfl (RA _ _ _) rfl (Nat.le_of_ble_eq_true rfl) rfl (fun v2 σ2 q9 => ?_)
  have q1 := q9.1
  have q2 := q9.2
  refine lwP_9 (pc' := 996) (lo' := dset1 (dset1 lo 5 (.int v9)) 6 (.int v2)) (st' := []) dlw_994 rfl rfl ?_
  refine lwP_9 (pc' := 999) (lo' := dset1 (dset1 lo 5 (.int v9)) 6 (.int v2)) (st' := []) dlw_996 rfl rfl ?_
  exact N _ _ _ _ _ _ _ (by omega) (lO_19 (by decide) hl1 (fun w9 z9 => by rw [hl1.2.2.2.2] at z9; cases z9; rfl)) (lS_t9 (Nat.le_refl _) (lr_9 (σ' := σ2) S2)) q1 (q2.1.trans (ht.trans P2.2.2.symm)) (by rw [q2.2]; exact hs)
end LC
