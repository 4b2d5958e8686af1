set_option maxHeartbeats 1600000
/-! the law's cases -/
def rcI9 (RJ : rS → Prop) (m : dM) (as : List Value) : Prop := ∀ (C : rCx) (σ : rS), cOK C → RJ σ → cI C 15 m (.ref (co C) :: as) σ (fun _ σ' => RJ σ' ∧ pR8 σ σ')
def rcJ9 (RJ : rS → Prop) (m : dM) (as : List Value) : Prop := ∀ (C : rCx) (σ : rS), cOK C → RJ σ → cJ C 15 m (.ref (co C) :: as) σ (fun _ σ' => RJ σ' ∧ pR8 σ σ')
def rcV9 (RJ : rS → Prop) (m : dM) (as : List Value) : Prop := ∀ (C : rCx) (σ : rS), cOK C → RJ σ → cV C 15 m (.ref (co C) :: as) σ (fun σ' => RJ σ' ∧ pR8 σ σ')
def rcT9 (RJ : rS → Prop) (m : dM) (y0 : Int32) : Prop := ∀ (C : rCx) (σ : rS), cOK C → RJ σ → cI C 15 m (.ref (co C) :: [.int y0]) σ (fun v σ' => RJ σ' ∧ ((σ.1 104 = 200 → σ'.1 0 = 1) ∧ (σ.1 104 ≠ 200 → v = σ.1 104 + 1 ∧ σ'.1 0 = 0)) ∧ pL21 y0 σ σ' ∧ kP23 σ σ' ∧ kN16 σ σ')
def rcF9 (RJ : rS → Prop) (m : dM) (as : List Value) : Prop := ∀ (C : rCx) (σ : rS), cOK C → RJ σ → cI C 15 m (.ref (co C) :: as) σ (fun v σ' => RJ σ' ∧ v = σ.1 104 ∧ pO21 σ σ' ∧ kP23 σ σ' ∧ kN16 σ σ')
def rcD9 (RJ : rS → Prop) (m : dM) (y0 y1 y2 y3 y4 : Int32) : Prop := ∀ (C : rCx) (σ : rS), cOK C → RJ σ → σ.1 2 ≤ 60000 → cI C 15 m (.ref (co C) :: [.int y0, .int y1, .int y2, .int y3, .int y4]) σ (fun v σ' => RJ σ' ∧ (v = σ.1 2 + 20 ∧ σ'.1 0 = 0) ∧ ((oR9 σ' = fdO9 (oR9 σ) (by9 y0 y1 y2 y3 y4) ∧ kR7 σ σ') ∧ kS8 σ σ'))
def rcE9 (RJ : rS → Prop) (m : dM) (y0 : Int32) : Prop := ∀ (C : rCx) (σ : rS), cOK C → RJ σ → cV C 15 m (.ref (co C) :: [.int y0]) σ (fun σ' => RJ σ' ∧ (((0 ≤ y0 ∧ y0 ≤ σ.1 2) → σ'.1 0 = 0) ∧ (¬ (0 ≤ y0 ∧ y0 ≤ σ.1 2) → σ'.1 0 = 1)) ∧ ((oR9 σ' = trO9 (oR9 σ) y0 ∧ kR7 σ σ') ∧ kS8 σ σ'))
def rcP9 (RJ : rS → Prop) (m : dM) : Prop := ∀ (C : rCx) (σ : rS), cOK C → RJ σ → cI C 15 m (.ref (co C) :: []) σ (fun v σ' => RJ σ' ∧ oR9 σ' = ((fun _ => 0, 0, σ'.1 53) : Ob9) ∧ (pQ9 σ v σ' ∧ kD20 σ σ' ∧ σ'.2.1 110 = σ.2.1 110 ∧ kE16 σ σ'))
def rcG9 (RJ : rS → Prop) (m : dM) : Prop := ∀ (C : rCx) (σ : rS), cOK C → RJ σ → cI C 15 m (.ref (co C) :: []) σ (fun v σ' => RJ σ' ∧ v = σ.1 53 ∧ pR8 σ σ')
def rcX9 (RJ : rS → Prop) (m : dM) (y0 : Int32) : Prop := ∀ (C : rCx) (σ : rS), cOK C → RJ σ → cI C 15 m (.ref (co C) :: [.int y0]) σ (fun v σ' => RJ σ' ∧ pR7 σ σ' ∧ XS22 y0 σ σ' v)
def rcQ9 (RJ : rS → Prop) (m : dM) (y0 : Int64) (y1 : Int32) : Prop := ∀ (C : rCx) (σ : rS), cOK C → RJ σ → cI C 15 m (.ref (co C) :: [.long y0, .int y1]) σ (fun v σ' => RJ σ' ∧ pY23 y1 σ (siU (slU σ 112 y0) 113 1) σ' v)
def rcR9 (RJ : rS → Prop) (m : dM) (y0 : Int32) : Prop := ∀ (C : rCx) (σ : rS), cOK C → RJ σ → cI C 15 m (.ref (co C) :: [.int y0]) σ (fun v σ' => RJ σ' ∧ pY23 y0 σ (siU σ 113 0) σ' v)
def rcS9 (RJ : rS → Prop) (m : dM) : Prop := ∀ (C : rCx) (σ : rS), cOK C → RJ σ → cI C 15 m (.ref (co C) :: []) σ (fun v σ' => RJ σ' ∧ pV16 σ σ' v)
def rcH9 (RJ : rS → Prop) (m : dM) (y0 y1 : Int32) : Prop := ∀ (C : rCx) (σ : rS), cOK C → RJ σ → cI C 15 m (.ref (co C) :: [.int y0, .int y1]) σ (fun v σ' => RJ σ' ∧ pH16 y0 y1 σ σ' v)
def rcB9 (RJ : rS → Prop) (m : dM) : Prop := ∀ (C : rCx) (σ : rS), cOK C → RJ σ → cI C 15 m (.ref (co C) :: []) σ (fun v σ' => RJ σ' ∧ pT8 σ σ' ∧ XB8 σ σ' v)
def rcU9 (RJ : rS → Prop) (m : dM) (y0 y1 : Int32) : Prop := ∀ (C : rCx) (σ : rS), cOK C → RJ σ → cI C 15 m (.ref (co C) :: [.int y0, .int y1]) σ (fun v σ' => RJ σ' ∧ pD8 y0 y1 σ σ' ∧ XD8 y0 y1 σ σ' v)
def rcW9 (m : dM) : Prop := ∀ (C : rCx) (σ : rS), cOK C → cI C 15 m (.ref (co C) :: []) σ (fun v σ' => σ' = σ ∧ v = σ.1 0)
def rcZ9 (RJ : rS → Prop) (m : dM) (as : List Value) (X : rS → rS → Int32 → Prop) : Prop := ∀ (C : rCx) (σ : rS), cOK C → RJ σ → cI C 15 m (.ref (co C) :: as) σ (fun v σ' => RJ σ' ∧ pR8 σ σ' ∧ X σ σ' v)
def rcZJ9 (RJ : rS → Prop) (m : dM) (as : List Value) (X : rS → rS → Int64 → Prop) : Prop := ∀ (C : rCx) (σ : rS), cOK C → RJ σ → cJ C 15 m (.ref (co C) :: as) σ (fun v σ' => RJ σ' ∧ pR8 σ σ' ∧ X σ σ' v)
/-- the reference's object takes a call -/
theorem inv_r9 {C : zC} {idx j oo : Nat} {r' : dM} {As rest : List Value} {h : dH} {fs : List Value} (hm : (tML 100 ++ tMX 100).lookup idx = some j) (hj : MTs[j]? = some r') (hq : r'.2.2.2.2.1 = false ∧ r'.1.name ≠ "<init>" ∧ r'.2.2.2.2.2.1 = 16) (hn : As.length = r'.2.2.2.2.2.2) (hl : (lg_sl (.ref oo :: As)).length ≤ r'.2.2.1) (hc : (rest.map fun v => v.category).sum ≤ 8) (ho : h.2 oo = some (.inr (16, fs))) : dinv (yEn C) 100 (.invokevirtual idx) 3 (As.reverse ++ .ref oo :: rest) h = some (r', .ref oo :: As, rest) := by
  have hdr : (As.reverse ++ Value.ref oo :: rest).drop r'.2.2.2.2.2.2 = .ref oo :: rest := by rw [← hn, ← List.length_reverse]; simp
  have htk : (As.reverse ++ Value.ref oo :: rest).take r'.2.2.2.2.2.2 = As.reverse := by rw [← hn, ← List.length_reverse]; simp
  show dinvV (yEn C) 100 3 idx (As.reverse ++ .ref oo :: rest) h = _
  have hm' : eML (yEn C) 100 idx = some j := hm
  have hj' : eMT (yEn C) j = some r' := hj
  unfold dinvV
  simp only [hm', hj', hdr, htk, List.reverse_reverse]
  rw [if_pos ⟨trivial, hq.1, hq.2.1, by unfold drec; rw [ho, hq.2.2]; simp, hc, hl⟩]
section LC
variable {sa : Nat → Nat} {TL : List (Nat × Nat × List Int32)} {b a o u t cs ss scr L n : Nat} {xs : Nat → Int32} {Lx : Int} {κ : zS} {σ : rS} {J : Nat → Int64} {RJ : rS → Prop} {lo : dL0} {i : Int32}
theorem rcH_9 (S : lS9 sa TL b a o u Lx t κ σ J cs ss) : ∃ fs, (zH (lB9 sa TL b o u σ J) κ).2 o = some (.inr (16, fs)) := by
  obtain ⟨_, _, _, _, _, ⟨⟨p1, p2, p3⟩, pz⟩, _⟩ := S
  have z := (pz o (Or.inr ⟨Nat.le_refl _, by omega⟩)).1
  refine ⟨rF (ad9 o) σ, ?_⟩
  show (if zT κ o = 0 then (if o = u then some (outC9 J) else (rH (none, fun _ => none) o (ad9 o) σ).2 o) else some (zCell κ o)) = _
  rw [if_pos z, if_neg (by omega)]
  exact if_pos rfl
theorem rI_9 {m : dM} {as : List Value} {Q : Int32 → rS → Prop} (S : lS9 sa TL b a o u Lx t κ σ J cs ss) (h : cI (rD9 sa TL b o u κ σ J) 15 m (.ref o :: as) σ Q) : ∃ (k9 : Nat) (v : Int32) (σ' : rS), drun (dEE sa TL) b k9 15 m 0 (dent (.ref o :: as)) [] (zH (lB9 sa TL b o u σ J) κ) 0 0 = some (some (.int v), zH (lB9 sa TL b o u σ' J) κ, 0, 0) ∧ Q v σ' := by
  obtain ⟨v, σ', ⟨k9, r1⟩, q⟩ := h
  refine ⟨k9, v, σ', ?_, q⟩
  rw [← rD_h9 S σ, ← rD_h9 S σ']
  exact r1
theorem rJ_9 {m : dM} {as : List Value} {Q : Int64 → rS → Prop} (S : lS9 sa TL b a o u Lx t κ σ J cs ss) (h : cJ (rD9 sa TL b o u κ σ J) 15 m (.ref o :: as) σ Q) : ∃ (k9 : Nat) (v : Int64) (σ' : rS), drun (dEE sa TL) b k9 15 m 0 (dent (.ref o :: as)) [] (zH (lB9 sa TL b o u σ J) κ) 0 0 = some (some (.long v), zH (lB9 sa TL b o u σ' J) κ, 0, 0) ∧ Q v σ' := by
  obtain ⟨v, σ', ⟨k9, r1⟩, q⟩ := h
  refine ⟨k9, v, σ', ?_, q⟩
  rw [← rD_h9 S σ, ← rD_h9 S σ']
  exact r1
theorem rV_9 {m : dM} {as : List Value} {Q : rS → Prop} (S : lS9 sa TL b a o u Lx t κ σ J cs ss) (h : cV (rD9 sa TL b o u κ σ J) 15 m (.ref o :: as) σ Q) : ∃ (k9 : Nat) (σ' : rS), drun (dEE sa TL) b k9 15 m 0 (dent (.ref o :: as)) [] (zH (lB9 sa TL b o u σ J) κ) 0 0 = some (none, zH (lB9 sa TL b o u σ' J) κ, 0, 0) ∧ Q σ' := by
  obtain ⟨σ', ⟨k9, r1⟩, q⟩ := h
  refine ⟨k9, σ', ?_, q⟩
  rw [← rD_h9 S σ, ← rD_h9 S σ']
  exact r1
/-- what comes behind a case -/
def nx9 (sa : Nat → Nat) (TL : List (Nat × Nat × List Int32)) (b a o u scr L : Nat) (xs : Nat → Int32) (RJ : rS → Prop) (Lx : Int) (t n : Nat) (i : Int32) : Prop := ∀ (lo : dL0) (κ : zS) (σ : rS) (J : Nat → Int64) (cs ss : Nat), lO9 scr a o u i lo → lS9 sa TL b a o u (Lx + 20) (t + 1) κ σ J cs ss → RJ σ → RC8 κ a σ → dV9 (dEE sa TL) dXX dKK b scr L xs lawP9 n 16 rLaw 1572 lo [] (zH (lB9 sa TL b o u σ J) κ) cs ss
theorem oU_9 (S : lS9 sa TL b a o u Lx t κ σ J cs ss) : b ≤ u ∧ zT κ u = 0 ∧ u < zn κ ∧ (yh (lB9 sa TL b o u σ J)).2 u = some (outC9 J) := by
  obtain ⟨_, _, _, _, _, ⟨⟨p1, p2, p3⟩, pz⟩, _⟩ := S
  exact ⟨p2, (pz u (Or.inl rfl)).1, (pz u (Or.inl rfl)).2, if_pos rfl⟩
theorem li_9 {m : dM} {as st : List Value} {idx j pc pc' : Nat} {Q : rS → Int32 → rS → Prop} (S : lS9 sa TL b a o u Lx t κ σ J cs ss) (hR : RJ σ) (hd : decode code pc = .ok (.invokevirtual idx, 3)) (hm : (tML 100 ++ tMX 100).lookup idx = some j) (hj : MTs[j]? = some m) (hq : m.2.2.2.2.1 = false ∧ m.1.name ≠ "<init>" ∧ m.2.2.2.2.2.1 = 16) (hn : as.length = m.2.2.2.2.2.2) (RA : ∀ (C : rCx) (σ : rS), cOK C → RJ σ → cI C 15 m (.ref (co C) :: as) σ (Q σ)) (hst : as.reverse ++ [.ref o] = st) (hl : (lg_sl (.ref o :: as)).length ≤ m.2.2.1) (hpc : pc + 3 = pc') (K : ∀ v σ', Q σ v σ' → dV9 (dEE sa TL) dXX dKK b scr L xs lawP9 n 16 rLaw pc' lo [.int v] (zH (lB9 sa TL b o u σ' J) κ) (cs + 0) (ss + 0)) : dV9 (dEE sa TL) dXX dKK b scr L xs lawP9 (n + 1) 16 rLaw pc lo st (zH (lB9 sa TL b o u σ J) κ) cs ss := by
  subst hst
  obtain ⟨k9, v2, σ2, r2, q⟩ := rI_9 S (RA _ σ (rD_c9 S) hR)
  obtain ⟨fs, ho⟩ := rcH_9 S
  exact lw_c9 (d := 15) hd rfl rfl rfl rfl (inv_r9 (C := lB9 sa TL b o u σ J) (As := as) (rest := []) (j := j) hm hj hq hn hl (by decide) ho) r2 hpc rfl (K v2 σ2 q)
theorem lj_9 {m : dM} {as st : List Value} {idx j pc pc' : Nat} {Q : rS → Int64 → rS → Prop} (S : lS9 sa TL b a o u Lx t κ σ J cs ss) (hR : RJ σ) (hd : decode code pc = .ok (.invokevirtual idx, 3)) (hm : (tML 100 ++ tMX 100).lookup idx = some j) (hj : MTs[j]? = some m) (hq : m.2.2.2.2.1 = false ∧ m.1.name ≠ "<init>" ∧ m.2.2.2.2.2.1 = 16) (hn : as.length = m.2.2.2.2.2.2) (RA : ∀ (C : rCx) (σ : rS), cOK C → RJ σ → cJ C 15 m (.ref (co C) :: as) σ (Q σ)) (hst : as.reverse ++ [.ref o] = st) (hl : (lg_sl (.ref o :: as)).length ≤ m.2.2.1) (hpc : pc + 3 = pc') (K : ∀ v σ', Q σ v σ' → dV9 (dEE sa TL) dXX dKK b scr L xs lawP9 n 16 rLaw pc' lo [.long v] (zH (lB9 sa TL b o u σ' J) κ) (cs + 0) (ss + 0)) : dV9 (dEE sa TL) dXX dKK b scr L xs lawP9 (n + 1) 16 rLaw pc lo st (zH (lB9 sa TL b o u σ J) κ) cs ss := by
  subst hst
  obtain ⟨k9, v2, σ2, r2, q⟩ := rJ_9 S (RA _ σ (rD_c9 S) hR)
  obtain ⟨fs, ho⟩ := rcH_9 S
  exact lw_c9 (d := 15) hd rfl rfl rfl rfl (inv_r9 (C := lB9 sa TL b o u σ J) (As := as) (rest := []) (j := j) hm hj hq hn hl (by decide) ho) r2 hpc rfl (K v2 σ2 q)
theorem lv_9 {m : dM} {as st : List Value} {idx j pc pc' : Nat} {Q : rS → rS → Prop} (S : lS9 sa TL b a o u Lx t κ σ J cs ss) (hR : RJ σ) (hd : decode code pc = .ok (.invokevirtual idx, 3)) (hm : (tML 100 ++ tMX 100).lookup idx = some j) (hj : MTs[j]? = some m) (hq : m.2.2.2.2.1 = false ∧ m.1.name ≠ "<init>" ∧ m.2.2.2.2.2.1 = 16) (hn : as.length = m.2.2.2.2.2.2) (RA : ∀ (C : rCx) (σ : rS), cOK C → RJ σ → cV C 15 m (.ref (co C) :: as) σ (Q σ)) (hst : as.reverse ++ [.ref o] = st) (hl : (lg_sl (.ref o :: as)).length ≤ m.2.2.1) (hpc : pc + 3 = pc') (K : ∀ σ', Q σ σ' → dV9 (dEE sa TL) dXX dKK b scr L xs lawP9 n 16 rLaw pc' lo [] (zH (lB9 sa TL b o u σ' J) κ) (cs + 0) (ss + 0)) : dV9 (dEE sa TL) dXX dKK b scr L xs lawP9 (n + 1) 16 rLaw pc lo st (zH (lB9 sa TL b o u σ J) κ) cs ss := by
  subst hst
  obtain ⟨k9, σ2, r2, q⟩ := rV_9 S (RA _ σ (rD_c9 S) hR)
  obtain ⟨fs, ho⟩ := rcH_9 S
  exact lw_c9 (d := 15) hd rfl rfl rfl rfl (inv_r9 (C := lB9 sa TL b o u σ J) (As := as) (rest := []) (j := j) hm hj hq hn hl (by decide) ho) r2 hpc rfl (K σ2 q)
theorem lt_feed9 {v9 : Int32} {v2 : Int32} {σ2 : rS} {κ2 : zS} {J2 : Nat → Int64} {t2 c2 s2 : Nat} {L2 : Int} {lo2 : dL0} (RT : rcW9 (yX13_thrown, cX13_thrown, 1, (some .int), false, 16, 0)) (hl2 : lO9 scr a o u i lo2) (l5 : lo2 5 = some (.int v9)) (l6 : lo2 6 = some (.int v2)) (S3 : lS9 sa TL b a o u L2 t2 κ2 σ2 J2 c2 s2) (q1 : RJ σ2) (AN : σ2.1 0 = v9 ∧ (v9 = 0 → J2 0 = v2.toInt64)) (K : dV9 (dEE sa TL) dXX dKK b scr L xs lawP9 n 16 rLaw 1572 lo2 [] (zH (lB9 sa TL b o u σ2 J2) κ2) c2 s2) : dV9 (dEE sa TL) dXX dKK b scr L xs lawP9 (n + 14) 16 rLaw 225 lo2 [] (zH (lB9 sa TL b o u σ2 J2) κ2) c2 s2 := by
  have oU2 := oU_9 S3
  refine lwP_9 (pc' := 226) dlw_225 rfl (lda_9 (k := 2) hl2.2.2.1) ?_
  refine li_9 (m := (yX13_thrown, cX13_thrown, 1, (some .int), false, 16, 0)) (as := []) (Q := fun σ v σ' => σ' = σ ∧ v = σ.1 0) (j := 430) (pc' := 229) S3 q1 dlw_226 (by decide +kernel) rfl ⟨rfl, by decide, rfl⟩ rfl (fun C σ hC _ => RT C σ hC) rfl (Nat.le_of_ble_eq_true rfl) rfl (fun v3 σ3 q3 => ?_)
  obtain ⟨e3, ev3⟩ := q3
  rw [e3]
  refine lwP_9 (pc' := 231) dlw_229 rfl (ldi_9 l5) ?_
  have ev : v3 = v9 := ev3.trans AN.1
  rw [ev]
  refine lwP_9 (pc' := 236) (lo' := lo2) (st' := []) dlw_231 rfl (ic_e9 rfl) ?_
  refine lwP_9 (pc' := 238) dlw_236 rfl (ldi_9 l5) ?_
  by_cases z : v9 = 0
  · have eJ := AN.2 z
    refine lwP_9 (pc' := 241) (lo' := lo2) (st' := []) dlw_238 rfl (by rw [z]; exact in_09 (t := 253) rfl) ?_
    refine lwP_9 (pc' := 242) dlw_241 rfl (lda_9 (k := 3) hl2.2.2.2.1) ?_
    refine lwP_9 (pc' := 243) (lo' := lo2) (st' := [.int 0, .ref u]) dlw_242 rfl (by rw [← zi_0]; rfl) ?_
    refine lw_h9 (pc' := 244) (st' := [.long (J2 0)]) dlw_243 rfl rfl rfl (lal_9 (zH_u9 oU2.2.1 oU2.2.2.2)) ?_
    refine lwP_9 (pc' := 246) dlw_244 rfl (ldi_9 l6) ?_
    refine lwP_9 (pc' := 247) (lo' := lo2) (st' := [.long v2.toInt64, .long (J2 0)]) dlw_246 rfl rfl ?_
    refine lwP_9 (pc' := 248) (lo' := lo2) (st' := [.int 0]) dlw_247 rfl (lc_e9 (eJ)) ?_
    refine lwP_9 (pc' := 253) (lo' := lo2) (st' := []) dlw_248 rfl (ie_09 rfl) ?_
    refine lwP_9 (pc' := 1572) (lo' := lo2) (st' := []) dlw_253 rfl rfl ?_
    exact K
  · refine dV_l9 (n := n + 2) (by omega) ?_
    refine lwP_9 (pc' := 253) (lo' := lo2) (st' := []) dlw_238 rfl (in_w9 z rfl) ?_
    refine lwP_9 (pc' := 1572) (lo' := lo2) (st' := []) dlw_253 rfl rfl ?_
    exact K
theorem ls_feed9 (RA : ∀ (y0 : Int32) (y1 : Int32) (y2 : Int32) (y3 : Int32) (y4 : Int32), rcD9 RJ (yX13_feed, cX13_feed, 8, (some .int), false, 16, 5) y0 y1 y2 y3 y4) (RT : rcW9 (yX13_thrown, cX13_thrown, 1, (some .int), false, 16, 0)) (hl : lO9 scr a o u i lo) (hi : 0 ≤ i.toInt ∧ i.toInt + 6 ≤ L ∧ L ≤ 3072) (hf : Lx ≤ 10220) (S : lS9 sa TL b a o u Lx t κ σ J cs ss) (hR : RJ σ) (ht : RC8 κ a σ) (N : nx9 sa TL b a o u scr L xs RJ Lx t n i) : dV9 (dEE sa TL) dXX dKK b scr L xs lawP9 (n + 71) 16 rLaw 152 lo [] (zH (lB9 sa TL b o u σ J) κ) cs ss := by
  obtain ⟨W, T, ⟨ρ, I⟩, _⟩ := id S
  have oU := oU_9 S
  have h60 : σ.1 2 ≤ 60000 := by
    have t60 : (60000 : Int32).toInt = 60000 := rfl
    have z : σ.1 2 = zI κ taLength (zR κ chTape a) := (mk_e9 ht.1.1).1
    have y := I.2.2.2.2.2.2.1
    rw [lei, t60, z]
    omega
  refine lwP_9 (pc' := 153) dlw_152 rfl (lda_9 (k := 1) hl.2.1) ?_
  refine la_9 (jj := 1) (j := 1) (pc6 := 159) dlw_153 dlw_154 dlw_156 dlw_157 dlw_158 ⟨rfl, rfl, rfl, rfl, rfl⟩ zi_1 hl ⟨by decide, hi.1, hi.2.1, hi.2.2⟩ ?_
  refine la_9 (jj := 2) (j := 2) (pc6 := 165) dlw_159 dlw_160 dlw_162 dlw_163 dlw_164 ⟨rfl, rfl, rfl, rfl, rfl⟩ zi_2 hl ⟨by decide, hi.1, hi.2.1, hi.2.2⟩ ?_
  refine la_9 (jj := 3) (j := 3) (pc6 := 171) dlw_165 dlw_166 dlw_168 dlw_169 dlw_170 ⟨rfl, rfl, rfl, rfl, rfl⟩ zi_3 hl ⟨by decide, hi.1, hi.2.1, hi.2.2⟩ ?_
  refine la_9 (jj := 4) (j := 4) (pc6 := 177) dlw_171 dlw_172 dlw_174 dlw_175 dlw_176 ⟨rfl, rfl, rfl, rfl, rfl⟩ zi_4 hl ⟨by decide, hi.1, hi.2.1, hi.2.2⟩ ?_
  refine la_9 (jj := 5) (j := 5) (pc6 := 183) dlw_177 dlw_178 dlw_180 dlw_181 dlw_182 ⟨rfl, rfl, rfl, rfl, rfl⟩ zi_5 hl ⟨by decide, hi.1, hi.2.1, hi.2.2⟩ ?_
  refine lwP_9 (pc' := 184) dlw_183 rfl (lda_9 (k := 3) hl.2.2.2.1) ?_
  obtain ⟨n8, z8, v9, r8, rv, w8, k8⟩ := lcp_9 (Lx' := Lx + 20) S (wM_feed9 (L := Lx) W T I hf oU.1 oU.2.1 oU.2.2.1 oU.2.2.2) (fun v C' κ' h => ⟨h.1.1, h.1.2.1⟩)
  refine lw_k9 (d := 15) (y := (kL_feed, _, [])) dlw_184 rfl rfl rfl rfl rfl r8 w8 (show 184 + 3 = 187 from rfl) (st' := [.int v9]) (by rw [rv]; rfl) (fun w hw => ?_)
  obtain ⟨κ1, J2, ⟨P2, PR⟩, e8, S2⟩ := k8 w hw
  obtain ⟨κ2, hκ2⟩ : ∃ κ2, κ2 = stn9 κ1 w := ⟨_, rfl⟩
  have P2 : (∃ ρ', chI9 ρ' κ1 a (Lx + 20)) ∧ (∃ F, zF F κ κ1) ∧ ((oC9 κ2 a = fdO9 (oC9 κ a) (by9 (xs (i + 1).toNatClampNeg) (xs (i + 2).toNatClampNeg) (xs (i + 3).toNatClampNeg) (xs (i + 4).toNatClampNeg) (xs (i + 5).toNatClampNeg)) ∧ kC7 κ κ2 a) ∧ kA8 κ κ2 a) := by rw [hκ2]; exact P2
  rw [e8, ← hκ2]
  rw [← hκ2] at S2
  refine lwP_9 (pc' := 189) (lo' := dset1 lo 5 (.int v9)) (st' := []) dlw_187 rfl rfl ?_
  have hl1 : lO9 scr a o u i (dset1 lo 5 (.int v9)) := lO_19 (by decide) hl (fun w9 z9 => by rw [hl.2.2.2.2] at z9; cases z9; rfl)
  refine lwP_9 (pc' := 190) dlw_189 rfl (lda_9 (k := 2) hl1.2.2.1) ?_
  refine la_9 (jj := 1) (j := 1) (pc6 := 196) dlw_190 dlw_191 dlw_193 dlw_194 dlw_195 ⟨rfl, rfl, rfl, rfl, rfl⟩ zi_1 hl1 ⟨by decide, hi.1, hi.2.1, hi.2.2⟩ ?_
  refine la_9 (jj := 2) (j := 2) (pc6 := 202) dlw_196 dlw_197 dlw_199 dlw_200 dlw_201 ⟨rfl, rfl, rfl, rfl, rfl⟩ zi_2 hl1 ⟨by decide, hi.1, hi.2.1, hi.2.2⟩ ?_
  refine la_9 (jj := 3) (j := 3) (pc6 := 208) dlw_202 dlw_203 dlw_205 dlw_206 dlw_207 ⟨rfl, rfl, rfl, rfl, rfl⟩ zi_3 hl1 ⟨by decide, hi.1, hi.2.1, hi.2.2⟩ ?_
  refine la_9 (jj := 4) (j := 4) (pc6 := 214) dlw_208 dlw_209 dlw_211 dlw_212 dlw_213 ⟨rfl, rfl, rfl, rfl, rfl⟩ zi_4 hl1 ⟨by decide, hi.1, hi.2.1, hi.2.2⟩ ?_
  refine la_9 (jj := 5) (j := 5) (pc6 := 220) dlw_214 dlw_215 dlw_217 dlw_218 dlw_219 ⟨rfl, rfl, rfl, rfl, rfl⟩ zi_5 hl1 ⟨by decide, hi.1, hi.2.1, hi.2.2⟩ ?_
  refine li_9 (RJ := fun σ => RJ σ ∧ σ.1 2 ≤ 60000) (m := (yX13_feed, cX13_feed, 8, (some .int), false, 16, 5)) (as := [.int (xs (i + 1).toNatClampNeg), .int (xs (i + 2).toNatClampNeg), .int (xs (i + 3).toNatClampNeg), .int (xs (i + 4).toNatClampNeg), .int (xs (i + 5).toNatClampNeg)]) (Q := fun σ v σ' => RJ σ' ∧ (v = σ.1 2 + 20 ∧ σ'.1 0 = 0) ∧ ((oR9 σ' = fdO9 (oR9 σ) (by9 (xs (i + 1).toNatClampNeg) (xs (i + 2).toNatClampNeg) (xs (i + 3).toNatClampNeg) (xs (i + 4).toNatClampNeg) (xs (i + 5).toNatClampNeg)) ∧ kR7 σ σ') ∧ kS8 σ σ')) (j := 235) (pc' := 223) S2 ⟨hR, h60⟩ dlw_220 (by decide +kernel) rfl ⟨rfl, by decide, rfl⟩ rfl (fun C σ hC hJ => RA _ _ _ _ _ C σ hC hJ.1 hJ.2) rfl (Nat.le_of_ble_eq_true rfl) rfl (fun v2 σ2 q9 => ?_)
  have q1 := q9.1
  have q3 := q9.2.1
  have q2 := q9.2.2
  refine lwP_9 (pc' := 225) (lo' := dset1 (dset1 lo 5 (.int v9)) 6 (.int v2)) (st' := []) dlw_223 rfl rfl ?_
  have AN := ca_w (v2 := v2) PR (oU_9 S2).2.2.2 ⟨fun x h => ⟨q3.2, by rw [h, q3.1, (mk_e9 ht.1.1).1]⟩, fun c h => h.elim⟩
  have S3 := lr_9 (σ' := σ2) S2
  exact lt_feed9 (lo2 := dset1 (dset1 lo 5 (.int v9)) 6 (.int v2)) RT (lO_19 (by decide) hl1 (fun w9 z9 => by rw [hl1.2.2.2.2] at z9; cases z9; rfl)) (ds_9 (by decide) (if_pos rfl) rfl) (if_pos rfl) S3 q1 AN (N _ _ _ _ _ _ (lO_19 (by decide) hl1 (fun w9 z9 => by rw [hl1.2.2.2.2] at z9; cases z9; rfl)) (lS_m9 (Int.le_refl _) (Nat.le_refl _) (lr_9 (σ' := σ2) S2)) q1 ⟨rk_7 q2.1.2 ht.1 P2.2.2.1.2 (q2.1.1.trans ((congrArg (fun w9 => fdO9 w9 _) ht.1.1).trans P2.2.2.1.1.symm)), ra_8 q2.1.2 q2.2 ht.2 P2.2.2.1.2 P2.2.2.2⟩)
theorem lt_end9 {v9 : Int32} {σ2 : rS} {κ2 : zS} {J2 : Nat → Int64} {t2 c2 s2 : Nat} {L2 : Int} {lo2 : dL0} (RT : rcW9 (yX13_thrown, cX13_thrown, 1, (some .int), false, 16, 0)) (hl2 : lO9 scr a o u i lo2) (l5 : lo2 5 = some (.int v9)) (S3 : lS9 sa TL b a o u L2 t2 κ2 σ2 J2 c2 s2) (q1 : RJ σ2) (AN : σ2.1 0 = v9) (K : dV9 (dEE sa TL) dXX dKK b scr L xs lawP9 n 16 rLaw 1572 lo2 [] (zH (lB9 sa TL b o u σ2 J2) κ2) c2 s2) : dV9 (dEE sa TL) dXX dKK b scr L xs lawP9 (n + 5) 16 rLaw 278 lo2 [] (zH (lB9 sa TL b o u σ2 J2) κ2) c2 s2 := by
  have oU2 := oU_9 S3
  refine lwP_9 (pc' := 279) dlw_278 rfl (lda_9 (k := 2) hl2.2.2.1) ?_
  refine li_9 (m := (yX13_thrown, cX13_thrown, 1, (some .int), false, 16, 0)) (as := []) (Q := fun σ v σ' => σ' = σ ∧ v = σ.1 0) (j := 430) (pc' := 282) S3 q1 dlw_279 (by decide +kernel) rfl ⟨rfl, by decide, rfl⟩ rfl (fun C σ hC _ => RT C σ hC) rfl (Nat.le_of_ble_eq_true rfl) rfl (fun v3 σ3 q3 => ?_)
  obtain ⟨e3, ev3⟩ := q3
  rw [e3]
  refine lwP_9 (pc' := 284) dlw_282 rfl (ldi_9 l5) ?_
  have ev : v3 = v9 := ev3.trans AN
  rw [ev]
  refine lwP_9 (pc' := 289) (lo' := lo2) (st' := []) dlw_284 rfl (ic_e9 rfl) ?_
  refine lwP_9 (pc' := 1572) (lo' := lo2) (st' := []) dlw_289 rfl rfl ?_
  exact K
theorem ls_end9 (RA : ∀ (y0 : Int32), rcE9 RJ (yX13_end, cX13_end, 2, none, false, 16, 1) y0) (RT : rcW9 (yX13_thrown, cX13_thrown, 1, (some .int), false, 16, 0)) (hl : lO9 scr a o u i lo) (hi : 0 ≤ i.toInt ∧ i.toInt + 6 ≤ L ∧ L ≤ 3072) (S : lS9 sa TL b a o u Lx t κ σ J cs ss) (hR : RJ σ) (ht : RC8 κ a σ) (N : nx9 sa TL b a o u scr L xs RJ Lx t n i) : dV9 (dEE sa TL) dXX dKK b scr L xs lawP9 (n + 20) 16 rLaw 256 lo [] (zH (lB9 sa TL b o u σ J) κ) cs ss := by
  obtain ⟨W, T, ⟨ρ, I⟩, _⟩ := id S
  refine lwP_9 (pc' := 257) dlw_256 rfl (lda_9 (k := 1) hl.2.1) ?_
  refine la_9 (jj := 1) (j := 1) (pc6 := 263) dlw_257 dlw_258 dlw_260 dlw_261 dlw_262 ⟨rfl, rfl, rfl, rfl, rfl⟩ zi_1 hl ⟨by decide, hi.1, hi.2.1, hi.2.2⟩ ?_
  obtain ⟨n8, z8, v9, r8, rv, w8, k8⟩ := lcp_9 (Lx' := Lx) S (wM_end9 (L := Lx) W T I) (fun v C' κ' h => ⟨h.1.1, h.1.2.1⟩)
  refine lw_k9 (d := 15) (y := (kL_end, _, [])) dlw_263 rfl rfl rfl rfl rfl r8 w8 (show 263 + 3 = 266 from rfl) (st' := [.int v9]) (by rw [rv]; rfl) (fun w hw => ?_)
  obtain ⟨κ1, J2, ⟨P2, PR⟩, e8, S2⟩ := k8 w hw
  obtain ⟨κ2, hκ2⟩ : ∃ κ2, κ2 = stn9 κ1 w := ⟨_, rfl⟩
  have P2 : (∃ ρ', chI9 ρ' κ1 a Lx) ∧ (∃ F, zF F κ κ1) ∧ ((oC9 κ2 a = trO9 (oC9 κ a) (xs (i + 1).toNatClampNeg) ∧ kC7 κ κ2 a) ∧ kA8 κ κ2 a) := by rw [hκ2]; exact P2
  rw [e8, ← hκ2]
  rw [← hκ2] at S2
  refine lwP_9 (pc' := 268) (lo' := dset1 lo 5 (.int v9)) (st' := []) dlw_266 rfl rfl ?_
  have hl1 : lO9 scr a o u i (dset1 lo 5 (.int v9)) := lO_19 (by decide) hl (fun w9 z9 => by rw [hl.2.2.2.2] at z9; cases z9; rfl)
  refine lwP_9 (pc' := 269) dlw_268 rfl (lda_9 (k := 2) hl1.2.2.1) ?_
  refine la_9 (jj := 1) (j := 1) (pc6 := 275) dlw_269 dlw_270 dlw_272 dlw_273 dlw_274 ⟨rfl, rfl, rfl, rfl, rfl⟩ zi_1 hl1 ⟨by decide, hi.1, hi.2.1, hi.2.2⟩ ?_
  refine lv_9 (m := (yX13_end, cX13_end, 2, none, false, 16, 1)) (as := [.int (xs (i + 1).toNatClampNeg)]) (Q := fun σ σ' => RJ σ' ∧ (((0 ≤ (xs (i + 1).toNatClampNeg) ∧ (xs (i + 1).toNatClampNeg) ≤ σ.1 2) → σ'.1 0 = 0) ∧ (¬ (0 ≤ (xs (i + 1).toNatClampNeg) ∧ (xs (i + 1).toNatClampNeg) ≤ σ.1 2) → σ'.1 0 = 1)) ∧ ((oR9 σ' = trO9 (oR9 σ) (xs (i + 1).toNatClampNeg) ∧ kR7 σ σ') ∧ kS8 σ σ')) (j := 236) (pc' := 278) S2 hR dlw_275 (by decide +kernel) rfl ⟨rfl, by decide, rfl⟩ rfl (RA _) rfl (Nat.le_of_ble_eq_true rfl) rfl (fun σ2 q9 => ?_)
  have q1 := q9.1
  have q3 := q9.2.1
  have q2 := q9.2.2
  have AN : σ2.1 0 = v9 := by
    have el : σ.1 2 = zI κ taLength (zR κ chTape a) := (mk_e9 ht.1.1).1
    rw [el] at q3
    rcases PR with ⟨e, h⟩ | ⟨_, e, h⟩
    · rw [e]; exact q3.1 h
    · rw [e]; exact q3.2 h
  have S3 := lr_9 (σ' := σ2) S2
  exact lt_end9 (lo2 := dset1 lo 5 (.int v9)) RT (hl1) (if_pos rfl) S3 q1 AN (N _ _ _ _ _ _ (hl1) (lS_m9 (by omega) (Nat.le_refl _) (lr_9 (σ' := σ2) S2)) q1 ⟨rk_7 q2.1.2 ht.1 P2.2.2.1.2 (q2.1.1.trans ((congrArg (fun w9 => trO9 w9 _) ht.1.1).trans P2.2.2.1.1.symm)), ra_8 q2.1.2 q2.2 ht.2 P2.2.2.1.2 P2.2.2.2⟩)
theorem lt_count9 {v9 : Int32} {v2 : Int32} {σ2 : rS} {κ2 : zS} {J2 : Nat → Int64} {t2 c2 s2 : Nat} {L2 : Int} {lo2 : dL0} (RT : rcW9 (yX13_thrown, cX13_thrown, 1, (some .int), false, 16, 0)) (hl2 : lO9 scr a o u i lo2) (l5 : lo2 5 = some (.int v9)) (l6 : lo2 6 = some (.int v2)) (S3 : lS9 sa TL b a o u L2 t2 κ2 σ2 J2 c2 s2) (q1 : RJ σ2) (AN : σ2.1 0 = v9 ∧ (v9 = 0 → J2 0 = v2.toInt64)) (K : dV9 (dEE sa TL) dXX dKK b scr L xs lawP9 n 16 rLaw 1572 lo2 [] (zH (lB9 sa TL b o u σ2 J2) κ2) c2 s2) : dV9 (dEE sa TL) dXX dKK b scr L xs lawP9 (n + 14) 16 rLaw 343 lo2 [] (zH (lB9 sa TL b o u σ2 J2) κ2) c2 s2 := by
  have oU2 := oU_9 S3
  refine lwP_9 (pc' := 344) dlw_343 rfl (lda_9 (k := 2) hl2.2.2.1) ?_
  refine li_9 (m := (yX13_thrown, cX13_thrown, 1, (some .int), false, 16, 0)) (as := []) (Q := fun σ v σ' => σ' = σ ∧ v = σ.1 0) (j := 430) (pc' := 347) S3 q1 dlw_344 (by decide +kernel) rfl ⟨rfl, by decide, rfl⟩ rfl (fun C σ hC _ => RT C σ hC) rfl (Nat.le_of_ble_eq_true rfl) rfl (fun v3 σ3 q3 => ?_)
  obtain ⟨e3, ev3⟩ := q3
  rw [e3]
  refine lwP_9 (pc' := 349) dlw_347 rfl (ldi_9 l5) ?_
  have ev : v3 = v9 := ev3.trans AN.1
  rw [ev]
  refine lwP_9 (pc' := 354) (lo' := lo2) (st' := []) dlw_349 rfl (ic_e9 rfl) ?_
  refine lwP_9 (pc' := 356) dlw_354 rfl (ldi_9 l5) ?_
  by_cases z : v9 = 0
  · have eJ := AN.2 z
    refine lwP_9 (pc' := 359) (lo' := lo2) (st' := []) dlw_356 rfl (by rw [z]; exact in_09 (t := 371) rfl) ?_
    refine lwP_9 (pc' := 360) dlw_359 rfl (lda_9 (k := 3) hl2.2.2.2.1) ?_
    refine lwP_9 (pc' := 361) (lo' := lo2) (st' := [.int 0, .ref u]) dlw_360 rfl (by rw [← zi_0]; rfl) ?_
    refine lw_h9 (pc' := 362) (st' := [.long (J2 0)]) dlw_361 rfl rfl rfl (lal_9 (zH_u9 oU2.2.1 oU2.2.2.2)) ?_
    refine lwP_9 (pc' := 364) dlw_362 rfl (ldi_9 l6) ?_
    refine lwP_9 (pc' := 365) (lo' := lo2) (st' := [.long v2.toInt64, .long (J2 0)]) dlw_364 rfl rfl ?_
    refine lwP_9 (pc' := 366) (lo' := lo2) (st' := [.int 0]) dlw_365 rfl (lc_e9 (eJ)) ?_
    refine lwP_9 (pc' := 371) (lo' := lo2) (st' := []) dlw_366 rfl (ie_09 rfl) ?_
    refine lwP_9 (pc' := 1572) (lo' := lo2) (st' := []) dlw_371 rfl rfl ?_
    exact K
  · refine dV_l9 (n := n + 2) (by omega) ?_
    refine lwP_9 (pc' := 371) (lo' := lo2) (st' := []) dlw_356 rfl (in_w9 z rfl) ?_
    refine lwP_9 (pc' := 1572) (lo' := lo2) (st' := []) dlw_371 rfl rfl ?_
    exact K
theorem ls_count9 (RA : ∀ (y0 : Int32), rcZ9 RJ (yX13_count, cX13_count, 5, (some .int), false, 16, 1) [.int y0] (fun σ σ' v => XK8 y0 σ σ' v)) (RT : rcW9 (yX13_thrown, cX13_thrown, 1, (some .int), false, 16, 0)) (hl : lO9 scr a o u i lo) (hi : 0 ≤ i.toInt ∧ i.toInt + 6 ≤ L ∧ L ≤ 3072) (S : lS9 sa TL b a o u Lx t κ σ J cs ss) (hR : RJ σ) (ht : RC8 κ a σ) (N : nx9 sa TL b a o u scr L xs RJ Lx t n i) : dV9 (dEE sa TL) dXX dKK b scr L xs lawP9 (n + 31) 16 rLaw 318 lo [] (zH (lB9 sa TL b o u σ J) κ) cs ss := by
  obtain ⟨W, T, ⟨ρ, I⟩, _⟩ := id S
  have oU := oU_9 S
  refine lwP_9 (pc' := 319) dlw_318 rfl (lda_9 (k := 1) hl.2.1) ?_
  refine la_9 (jj := 1) (j := 1) (pc6 := 325) dlw_319 dlw_320 dlw_322 dlw_323 dlw_324 ⟨rfl, rfl, rfl, rfl, rfl⟩ zi_1 hl ⟨by decide, hi.1, hi.2.1, hi.2.2⟩ ?_
  refine lwP_9 (pc' := 326) dlw_325 rfl (lda_9 (k := 3) hl.2.2.2.1) ?_
  obtain ⟨n8, z8, v9, r8, rv, w8, k8⟩ := lcp_9 (Lx' := Lx) S (wM_count9 (L := Lx) W T I σ ht oU.1 oU.2.1 oU.2.2.1 oU.2.2.2) (fun v C' κ' h => ⟨h.1.1, h.1.2.1⟩)
  refine lw_k9 (d := 15) (y := (kL_count, _, [])) dlw_326 rfl rfl rfl rfl rfl r8 w8 (show 326 + 3 = 329 from rfl) (st' := [.int v9]) (by rw [rv]; rfl) (fun w hw => ?_)
  obtain ⟨κ1, J2, ⟨P2, PR⟩, e8, S2⟩ := k8 w hw
  obtain ⟨κ2, hκ2⟩ : ∃ κ2, κ2 = stn9 κ1 w := ⟨_, rfl⟩
  have P2 : (∃ ρ', chI9 ρ' κ1 a Lx) ∧ (∃ F, zF F κ κ1) ∧ pC8 κ κ2 a := by rw [hκ2]; exact P2
  rw [e8, ← hκ2]
  rw [← hκ2] at S2
  refine lwP_9 (pc' := 331) (lo' := dset1 lo 5 (.int v9)) (st' := []) dlw_329 rfl rfl ?_
  have hl1 : lO9 scr a o u i (dset1 lo 5 (.int v9)) := lO_19 (by decide) hl (fun w9 z9 => by rw [hl.2.2.2.2] at z9; cases z9; rfl)
  refine lwP_9 (pc' := 332) dlw_331 rfl (lda_9 (k := 2) hl1.2.2.1) ?_
  refine la_9 (jj := 1) (j := 1) (pc6 := 338) dlw_332 dlw_333 dlw_335 dlw_336 dlw_337 ⟨rfl, rfl, rfl, rfl, rfl⟩ zi_1 hl1 ⟨by decide, hi.1, hi.2.1, hi.2.2⟩ ?_
  refine li_9 (m := (yX13_count, cX13_count, 5, (some .int), false, 16, 1)) (as := [.int (xs (i + 1).toNatClampNeg)]) (Q := fun σ v σ' => RJ σ' ∧ pR8 σ σ' ∧ XK8 (xs (i + 1).toNatClampNeg) σ σ' v) (j := 333) (pc' := 341) S2 hR dlw_338 (by decide +kernel) rfl ⟨rfl, by decide, rfl⟩ rfl (RA _) rfl (Nat.le_of_ble_eq_true rfl) rfl (fun v2 σ2 q9 => ?_)
  have q1 := q9.1
  have q2 := q9.2.1
  have q3 := q9.2.2
  refine lwP_9 (pc' := 343) (lo' := dset1 (dset1 lo 5 (.int v9)) 6 (.int v2)) (st' := []) dlw_341 rfl rfl ?_
  have AN := ca_w (v2 := v2) PR (oU_9 S2).2.2.2 (xx_w q3)
  have S3 := lr_9 (σ' := σ2) S2
  exact lt_count9 (lo2 := dset1 (dset1 lo 5 (.int v9)) 6 (.int v2)) RT (lO_19 (by decide) hl1 (fun w9 z9 => by rw [hl1.2.2.2.2] at z9; cases z9; rfl)) (ds_9 (by decide) (if_pos rfl) rfl) (if_pos rfl) S3 q1 AN (N _ _ _ _ _ _ (lO_19 (by decide) hl1 (fun w9 z9 => by rw [hl1.2.2.2.2] at z9; cases z9; rfl)) (lS_m9 (by omega) (Nat.le_refl _) (lr_9 (σ' := σ2) S2)) q1 (re_8 q2 ht P2.2.2))
theorem lt_explore9 {v9 : Int32} {v2 : Int32} {σ2 : rS} {κ2 : zS} {J2 : Nat → Int64} {t2 c2 s2 : Nat} {L2 : Int} {lo2 : dL0} (RT : rcW9 (yX13_thrown, cX13_thrown, 1, (some .int), false, 16, 0)) (hl2 : lO9 scr a o u i lo2) (l5 : lo2 5 = some (.int v9)) (l6 : lo2 6 = some (.int v2)) (S3 : lS9 sa TL b a o u L2 t2 κ2 σ2 J2 c2 s2) (q1 : RJ σ2) (AN : σ2.1 0 = v9 ∧ (v9 = 0 → J2 0 = v2.toInt64)) (K : dV9 (dEE sa TL) dXX dKK b scr L xs lawP9 n 16 rLaw 1572 lo2 [] (zH (lB9 sa TL b o u σ2 J2) κ2) c2 s2) : dV9 (dEE sa TL) dXX dKK b scr L xs lawP9 (n + 14) 16 rLaw 399 lo2 [] (zH (lB9 sa TL b o u σ2 J2) κ2) c2 s2 := by
  have oU2 := oU_9 S3
  refine lwP_9 (pc' := 400) dlw_399 rfl (lda_9 (k := 2) hl2.2.2.1) ?_
  refine li_9 (m := (yX13_thrown, cX13_thrown, 1, (some .int), false, 16, 0)) (as := []) (Q := fun σ v σ' => σ' = σ ∧ v = σ.1 0) (j := 430) (pc' := 403) S3 q1 dlw_400 (by decide +kernel) rfl ⟨rfl, by decide, rfl⟩ rfl (fun C σ hC _ => RT C σ hC) rfl (Nat.le_of_ble_eq_true rfl) rfl (fun v3 σ3 q3 => ?_)
  obtain ⟨e3, ev3⟩ := q3
  rw [e3]
  refine lwP_9 (pc' := 405) dlw_403 rfl (ldi_9 l5) ?_
  have ev : v3 = v9 := ev3.trans AN.1
  rw [ev]
  refine lwP_9 (pc' := 410) (lo' := lo2) (st' := []) dlw_405 rfl (ic_e9 rfl) ?_
  refine lwP_9 (pc' := 412) dlw_410 rfl (ldi_9 l5) ?_
  by_cases z : v9 = 0
  · have eJ := AN.2 z
    refine lwP_9 (pc' := 415) (lo' := lo2) (st' := []) dlw_412 rfl (by rw [z]; exact in_09 (t := 427) rfl) ?_
    refine lwP_9 (pc' := 416) dlw_415 rfl (lda_9 (k := 3) hl2.2.2.2.1) ?_
    refine lwP_9 (pc' := 417) (lo' := lo2) (st' := [.int 0, .ref u]) dlw_416 rfl (by rw [← zi_0]; rfl) ?_
    refine lw_h9 (pc' := 418) (st' := [.long (J2 0)]) dlw_417 rfl rfl rfl (lal_9 (zH_u9 oU2.2.1 oU2.2.2.2)) ?_
    refine lwP_9 (pc' := 420) dlw_418 rfl (ldi_9 l6) ?_
    refine lwP_9 (pc' := 421) (lo' := lo2) (st' := [.long v2.toInt64, .long (J2 0)]) dlw_420 rfl rfl ?_
    refine lwP_9 (pc' := 422) (lo' := lo2) (st' := [.int 0]) dlw_421 rfl (lc_e9 (eJ)) ?_
    refine lwP_9 (pc' := 427) (lo' := lo2) (st' := []) dlw_422 rfl (ie_09 rfl) ?_
    refine lwP_9 (pc' := 1572) (lo' := lo2) (st' := []) dlw_427 rfl rfl ?_
    exact K
  · refine dV_l9 (n := n + 2) (by omega) ?_
    refine lwP_9 (pc' := 427) (lo' := lo2) (st' := []) dlw_412 rfl (in_w9 z rfl) ?_
    refine lwP_9 (pc' := 1572) (lo' := lo2) (st' := []) dlw_427 rfl rfl ?_
    exact K
theorem ls_explore9 (RA : ∀ (y0 : Int32), rcX9 RJ (yX13_explore, cX13_explore, 4, (some .int), false, 16, 1) y0) (RT : rcW9 (yX13_thrown, cX13_thrown, 1, (some .int), false, 16, 0)) (hl : lO9 scr a o u i lo) (hi : 0 ≤ i.toInt ∧ i.toInt + 6 ≤ L ∧ L ≤ 3072) (S : lS9 sa TL b a o u Lx t κ σ J cs ss) (hR : RJ σ) (ht : RC8 κ a σ) (N : nx9 sa TL b a o u scr L xs RJ Lx t n i) : dV9 (dEE sa TL) dXX dKK b scr L xs lawP9 (n + 31) 16 rLaw 374 lo [] (zH (lB9 sa TL b o u σ J) κ) cs ss := by
  obtain ⟨W, T, ⟨ρ, I⟩, _⟩ := id S
  have oU := oU_9 S
  refine lwP_9 (pc' := 375) dlw_374 rfl (lda_9 (k := 1) hl.2.1) ?_
  refine la_9 (jj := 1) (j := 1) (pc6 := 381) dlw_375 dlw_376 dlw_378 dlw_379 dlw_380 ⟨rfl, rfl, rfl, rfl, rfl⟩ zi_1 hl ⟨by decide, hi.1, hi.2.1, hi.2.2⟩ ?_
  refine lwP_9 (pc' := 382) dlw_381 rfl (lda_9 (k := 3) hl.2.2.2.1) ?_
  obtain ⟨n8, z8, v9, r8, rv, w8, k8⟩ := lcp_9 (Lx' := Lx) S (wM_explore9 (L := Lx) W T I σ ht oU.1 oU.2.1 oU.2.2.1 oU.2.2.2) (fun v C' κ' h => ⟨h.1.1, h.1.2.1⟩)
  refine lw_k9 (d := 15) (y := (kL_explore, _, [])) dlw_382 rfl rfl rfl rfl rfl r8 w8 (show 382 + 3 = 385 from rfl) (st' := [.int v9]) (by rw [rv]; rfl) (fun w hw => ?_)
  obtain ⟨κ1, J2, ⟨P2, PR⟩, e8, S2⟩ := k8 w hw
  obtain ⟨κ2, hκ2⟩ : ∃ κ2, κ2 = stn9 κ1 w := ⟨_, rfl⟩
  have P2 : (∃ ρ', chI9 ρ' κ1 a Lx) ∧ (∃ F, zF F κ κ1) ∧ XC8 κ a σ (xs (i + 1).toNatClampNeg) κ2 := by rw [hκ2]; exact P2
  rw [e8, ← hκ2]
  rw [← hκ2] at S2
  refine lwP_9 (pc' := 387) (lo' := dset1 lo 5 (.int v9)) (st' := []) dlw_385 rfl rfl ?_
  have hl1 : lO9 scr a o u i (dset1 lo 5 (.int v9)) := lO_19 (by decide) hl (fun w9 z9 => by rw [hl.2.2.2.2] at z9; cases z9; rfl)
  refine lwP_9 (pc' := 388) dlw_387 rfl (lda_9 (k := 2) hl1.2.2.1) ?_
  refine la_9 (jj := 1) (j := 1) (pc6 := 394) dlw_388 dlw_389 dlw_391 dlw_392 dlw_393 ⟨rfl, rfl, rfl, rfl, rfl⟩ zi_1 hl1 ⟨by decide, hi.1, hi.2.1, hi.2.2⟩ ?_
  refine li_9 (m := (yX13_explore, cX13_explore, 4, (some .int), false, 16, 1)) (as := [.int (xs (i + 1).toNatClampNeg)]) (Q := fun σ v σ' => RJ σ' ∧ pR7 σ σ' ∧ XS22 (xs (i + 1).toNatClampNeg) σ σ' v) (j := 332) (pc' := 397) S2 hR dlw_394 (by decide +kernel) rfl ⟨rfl, by decide, rfl⟩ rfl (RA _) rfl (Nat.le_of_ble_eq_true rfl) rfl (fun v2 σ2 q9 => ?_)
  have q1 := q9.1
  have q2 := q9.2
  refine lwP_9 (pc' := 399) (lo' := dset1 (dset1 lo 5 (.int v9)) 6 (.int v2)) (st' := []) dlw_397 rfl rfl ?_
  have AN := ca_w (v2 := v2) PR (oU_9 S2).2.2.2 (xs_w ht (xs_x16 q2.2))
  have S3 := lr_9 (σ' := σ2) S2
  exact lt_explore9 (lo2 := dset1 (dset1 lo 5 (.int v9)) 6 (.int v2)) RT (lO_19 (by decide) hl1 (fun w9 z9 => by rw [hl1.2.2.2.2] at z9; cases z9; rfl)) (ds_9 (by decide) (if_pos rfl) rfl) (if_pos rfl) S3 q1 AN (N _ _ _ _ _ _ (lO_19 (by decide) hl1 (fun w9 z9 => by rw [hl1.2.2.2.2] at z9; cases z9; rfl)) (lS_m9 (by omega) (Nat.le_refl _) (lr_9 (σ' := σ2) S2)) q1 (rx_8 ht q2.1 q2.2 P2.2.2))
theorem lt_state9 {v9 : Int32} {v2 : Int32} {σ2 : rS} {κ2 : zS} {J2 : Nat → Int64} {t2 c2 s2 : Nat} {L2 : Int} {lo2 : dL0} (RT : rcW9 (yX13_thrown, cX13_thrown, 1, (some .int), false, 16, 0)) (hl2 : lO9 scr a o u i lo2) (l5 : lo2 5 = some (.int v9)) (l6 : lo2 6 = some (.int v2)) (S3 : lS9 sa TL b a o u L2 t2 κ2 σ2 J2 c2 s2) (q1 : RJ σ2) (AN : σ2.1 0 = v9 ∧ (v9 = 0 → J2 0 = v2.toInt64)) (K : dV9 (dEE sa TL) dXX dKK b scr L xs lawP9 n 16 rLaw 1572 lo2 [] (zH (lB9 sa TL b o u σ2 J2) κ2) c2 s2) : dV9 (dEE sa TL) dXX dKK b scr L xs lawP9 (n + 14) 16 rLaw 467 lo2 [] (zH (lB9 sa TL b o u σ2 J2) κ2) c2 s2 := by
  have oU2 := oU_9 S3
  refine lwP_9 (pc' := 468) dlw_467 rfl (lda_9 (k := 2) hl2.2.2.1) ?_
  refine li_9 (m := (yX13_thrown, cX13_thrown, 1, (some .int), false, 16, 0)) (as := []) (Q := fun σ v σ' => σ' = σ ∧ v = σ.1 0) (j := 430) (pc' := 471) S3 q1 dlw_468 (by decide +kernel) rfl ⟨rfl, by decide, rfl⟩ rfl (fun C σ hC _ => RT C σ hC) rfl (Nat.le_of_ble_eq_true rfl) rfl (fun v3 σ3 q3 => ?_)
  obtain ⟨e3, ev3⟩ := q3
  rw [e3]
  refine lwP_9 (pc' := 473) dlw_471 rfl (ldi_9 l5) ?_
  have ev : v3 = v9 := ev3.trans AN.1
  rw [ev]
  refine lwP_9 (pc' := 478) (lo' := lo2) (st' := []) dlw_473 rfl (ic_e9 rfl) ?_
  refine lwP_9 (pc' := 480) dlw_478 rfl (ldi_9 l5) ?_
  by_cases z : v9 = 0
  · have eJ := AN.2 z
    refine lwP_9 (pc' := 483) (lo' := lo2) (st' := []) dlw_480 rfl (by rw [z]; exact in_09 (t := 495) rfl) ?_
    refine lwP_9 (pc' := 484) dlw_483 rfl (lda_9 (k := 3) hl2.2.2.2.1) ?_
    refine lwP_9 (pc' := 485) (lo' := lo2) (st' := [.int 0, .ref u]) dlw_484 rfl (by rw [← zi_0]; rfl) ?_
    refine lw_h9 (pc' := 486) (st' := [.long (J2 0)]) dlw_485 rfl rfl rfl (lal_9 (zH_u9 oU2.2.1 oU2.2.2.2)) ?_
    refine lwP_9 (pc' := 488) dlw_486 rfl (ldi_9 l6) ?_
    refine lwP_9 (pc' := 489) (lo' := lo2) (st' := [.long v2.toInt64, .long (J2 0)]) dlw_488 rfl rfl ?_
    refine lwP_9 (pc' := 490) (lo' := lo2) (st' := [.int 0]) dlw_489 rfl (lc_e9 (eJ)) ?_
    refine lwP_9 (pc' := 495) (lo' := lo2) (st' := []) dlw_490 rfl (ie_09 rfl) ?_
    refine lwP_9 (pc' := 1572) (lo' := lo2) (st' := []) dlw_495 rfl rfl ?_
    exact K
  · refine dV_l9 (n := n + 2) (by omega) ?_
    refine lwP_9 (pc' := 495) (lo' := lo2) (st' := []) dlw_480 rfl (in_w9 z rfl) ?_
    refine lwP_9 (pc' := 1572) (lo' := lo2) (st' := []) dlw_495 rfl rfl ?_
    exact K
theorem ls_state9 (RA : ∀ (y0 : Int32) (y1 : Int32), rcZ9 RJ (yX13_state, cX13_state, 3, (some .int), false, 16, 2) [.int y0, .int y1] (fun σ σ' v => XT8 y0 y1 σ σ' v)) (RT : rcW9 (yX13_thrown, cX13_thrown, 1, (some .int), false, 16, 0)) (hl : lO9 scr a o u i lo) (hi : 0 ≤ i.toInt ∧ i.toInt + 6 ≤ L ∧ L ≤ 3072) (S : lS9 sa TL b a o u Lx t κ σ J cs ss) (hR : RJ σ) (ht : RC8 κ a σ) (N : nx9 sa TL b a o u scr L xs RJ Lx t n i) : dV9 (dEE sa TL) dXX dKK b scr L xs lawP9 (n + 41) 16 rLaw 430 lo [] (zH (lB9 sa TL b o u σ J) κ) cs ss := by
  obtain ⟨W, T, ⟨ρ, I⟩, _⟩ := id S
  have oU := oU_9 S
  refine lwP_9 (pc' := 431) dlw_430 rfl (lda_9 (k := 1) hl.2.1) ?_
  refine la_9 (jj := 1) (j := 1) (pc6 := 437) dlw_431 dlw_432 dlw_434 dlw_435 dlw_436 ⟨rfl, rfl, rfl, rfl, rfl⟩ zi_1 hl ⟨by decide, hi.1, hi.2.1, hi.2.2⟩ ?_
  refine la_9 (jj := 2) (j := 2) (pc6 := 443) dlw_437 dlw_438 dlw_440 dlw_441 dlw_442 ⟨rfl, rfl, rfl, rfl, rfl⟩ zi_2 hl ⟨by decide, hi.1, hi.2.1, hi.2.2⟩ ?_
  refine lwP_9 (pc' := 444) dlw_443 rfl (lda_9 (k := 3) hl.2.2.2.1) ?_
  obtain ⟨n8, z8, v9, r8, rv, w8, k8⟩ := lcp_9 (Lx' := Lx) S (wM_state9 (L := Lx) W T I σ ht oU.1 oU.2.1 oU.2.2.1 oU.2.2.2) (fun v C' κ' h => ⟨h.1.1, h.1.2.1⟩)
  refine lw_k9 (d := 15) (y := (kL_state, _, [])) dlw_444 rfl rfl rfl rfl rfl r8 w8 (show 444 + 3 = 447 from rfl) (st' := [.int v9]) (by rw [rv]; rfl) (fun w hw => ?_)
  obtain ⟨κ1, J2, ⟨P2, PR⟩, e8, S2⟩ := k8 w hw
  obtain ⟨κ2, hκ2⟩ : ∃ κ2, κ2 = stn9 κ1 w := ⟨_, rfl⟩
  have P2 : (∃ ρ', chI9 ρ' κ1 a Lx) ∧ (∃ F, zF F κ κ1) ∧ pC8 κ κ2 a := by rw [hκ2]; exact P2
  rw [e8, ← hκ2]
  rw [← hκ2] at S2
  refine lwP_9 (pc' := 449) (lo' := dset1 lo 5 (.int v9)) (st' := []) dlw_447 rfl rfl ?_
  have hl1 : lO9 scr a o u i (dset1 lo 5 (.int v9)) := lO_19 (by decide) hl (fun w9 z9 => by rw [hl.2.2.2.2] at z9; cases z9; rfl)
  refine lwP_9 (pc' := 450) dlw_449 rfl (lda_9 (k := 2) hl1.2.2.1) ?_
  refine la_9 (jj := 1) (j := 1) (pc6 := 456) dlw_450 dlw_451 dlw_453 dlw_454 dlw_455 ⟨rfl, rfl, rfl, rfl, rfl⟩ zi_1 hl1 ⟨by decide, hi.1, hi.2.1, hi.2.2⟩ ?_
  refine la_9 (jj := 2) (j := 2) (pc6 := 462) dlw_456 dlw_457 dlw_459 dlw_460 dlw_461 ⟨rfl, rfl, rfl, rfl, rfl⟩ zi_2 hl1 ⟨by decide, hi.1, hi.2.1, hi.2.2⟩ ?_
  refine li_9 (m := (yX13_state, cX13_state, 3, (some .int), false, 16, 2)) (as := [.int (xs (i + 1).toNatClampNeg), .int (xs (i + 2).toNatClampNeg)]) (Q := fun σ v σ' => RJ σ' ∧ pR8 σ σ' ∧ XT8 (xs (i + 1).toNatClampNeg) (xs (i + 2).toNatClampNeg) σ σ' v) (j := 336) (pc' := 465) S2 hR dlw_462 (by decide +kernel) rfl ⟨rfl, by decide, rfl⟩ rfl (RA _ _) rfl (Nat.le_of_ble_eq_true rfl) rfl (fun v2 σ2 q9 => ?_)
  have q1 := q9.1
  have q2 := q9.2.1
  have q3 := q9.2.2
  refine lwP_9 (pc' := 467) (lo' := dset1 (dset1 lo 5 (.int v9)) 6 (.int v2)) (st' := []) dlw_465 rfl rfl ?_
  have AN := ca_w (v2 := v2) PR (oU_9 S2).2.2.2 (xx_w q3)
  have S3 := lr_9 (σ' := σ2) S2
  exact lt_state9 (lo2 := dset1 (dset1 lo 5 (.int v9)) 6 (.int v2)) RT (lO_19 (by decide) hl1 (fun w9 z9 => by rw [hl1.2.2.2.2] at z9; cases z9; rfl)) (ds_9 (by decide) (if_pos rfl) rfl) (if_pos rfl) S3 q1 AN (N _ _ _ _ _ _ (lO_19 (by decide) hl1 (fun w9 z9 => by rw [hl1.2.2.2.2] at z9; cases z9; rfl)) (lS_m9 (by omega) (Nat.le_refl _) (lr_9 (σ' := σ2) S2)) q1 (re_8 q2 ht P2.2.2))
theorem lt_value9 {v9 : Int32} {v2 : Int32} {σ2 : rS} {κ2 : zS} {J2 : Nat → Int64} {t2 c2 s2 : Nat} {L2 : Int} {lo2 : dL0} (RT : rcW9 (yX13_thrown, cX13_thrown, 1, (some .int), false, 16, 0)) (hl2 : lO9 scr a o u i lo2) (l5 : lo2 5 = some (.int v9)) (l6 : lo2 6 = some (.int v2)) (S3 : lS9 sa TL b a o u L2 t2 κ2 σ2 J2 c2 s2) (q1 : RJ σ2) (AN : σ2.1 0 = v9 ∧ (v9 = 0 → J2 0 = v2.toInt64)) (K : dV9 (dEE sa TL) dXX dKK b scr L xs lawP9 n 16 rLaw 1572 lo2 [] (zH (lB9 sa TL b o u σ2 J2) κ2) c2 s2) : dV9 (dEE sa TL) dXX dKK b scr L xs lawP9 (n + 14) 16 rLaw 547 lo2 [] (zH (lB9 sa TL b o u σ2 J2) κ2) c2 s2 := by
  have oU2 := oU_9 S3
  refine lwP_9 (pc' := 548) dlw_547 rfl (lda_9 (k := 2) hl2.2.2.1) ?_
  refine li_9 (m := (yX13_thrown, cX13_thrown, 1, (some .int), false, 16, 0)) (as := []) (Q := fun σ v σ' => σ' = σ ∧ v = σ.1 0) (j := 430) (pc' := 551) S3 q1 dlw_548 (by decide +kernel) rfl ⟨rfl, by decide, rfl⟩ rfl (fun C σ hC _ => RT C σ hC) rfl (Nat.le_of_ble_eq_true rfl) rfl (fun v3 σ3 q3 => ?_)
  obtain ⟨e3, ev3⟩ := q3
  rw [e3]
  refine lwP_9 (pc' := 553) dlw_551 rfl (ldi_9 l5) ?_
  have ev : v3 = v9 := ev3.trans AN.1
  rw [ev]
  refine lwP_9 (pc' := 558) (lo' := lo2) (st' := []) dlw_553 rfl (ic_e9 rfl) ?_
  refine lwP_9 (pc' := 560) dlw_558 rfl (ldi_9 l5) ?_
  by_cases z : v9 = 0
  · have eJ := AN.2 z
    refine lwP_9 (pc' := 563) (lo' := lo2) (st' := []) dlw_560 rfl (by rw [z]; exact in_09 (t := 575) rfl) ?_
    refine lwP_9 (pc' := 564) dlw_563 rfl (lda_9 (k := 3) hl2.2.2.2.1) ?_
    refine lwP_9 (pc' := 565) (lo' := lo2) (st' := [.int 0, .ref u]) dlw_564 rfl (by rw [← zi_0]; rfl) ?_
    refine lw_h9 (pc' := 566) (st' := [.long (J2 0)]) dlw_565 rfl rfl rfl (lal_9 (zH_u9 oU2.2.1 oU2.2.2.2)) ?_
    refine lwP_9 (pc' := 568) dlw_566 rfl (ldi_9 l6) ?_
    refine lwP_9 (pc' := 569) (lo' := lo2) (st' := [.long v2.toInt64, .long (J2 0)]) dlw_568 rfl rfl ?_
    refine lwP_9 (pc' := 570) (lo' := lo2) (st' := [.int 0]) dlw_569 rfl (lc_e9 (eJ)) ?_
    refine lwP_9 (pc' := 575) (lo' := lo2) (st' := []) dlw_570 rfl (ie_09 rfl) ?_
    refine lwP_9 (pc' := 1572) (lo' := lo2) (st' := []) dlw_575 rfl rfl ?_
    exact K
  · refine dV_l9 (n := n + 2) (by omega) ?_
    refine lwP_9 (pc' := 575) (lo' := lo2) (st' := []) dlw_560 rfl (in_w9 z rfl) ?_
    refine lwP_9 (pc' := 1572) (lo' := lo2) (st' := []) dlw_575 rfl rfl ?_
    exact K
theorem ls_value9 (RA : ∀ (y0 : Int32) (y1 : Int32) (y2 : Int32), rcZ9 RJ (yX13_value, cX13_value, 5, (some .int), false, 16, 3) [.int y0, .int y1, .int y2] (fun σ σ' v => XV8 y0 y1 y2 σ σ' v)) (RT : rcW9 (yX13_thrown, cX13_thrown, 1, (some .int), false, 16, 0)) (hl : lO9 scr a o u i lo) (hi : 0 ≤ i.toInt ∧ i.toInt + 6 ≤ L ∧ L ≤ 3072) (S : lS9 sa TL b a o u Lx t κ σ J cs ss) (hR : RJ σ) (ht : RC8 κ a σ) (N : nx9 sa TL b a o u scr L xs RJ Lx t n i) : dV9 (dEE sa TL) dXX dKK b scr L xs lawP9 (n + 51) 16 rLaw 498 lo [] (zH (lB9 sa TL b o u σ J) κ) cs ss := by
  obtain ⟨W, T, ⟨ρ, I⟩, _⟩ := id S
  have oU := oU_9 S
  refine lwP_9 (pc' := 499) dlw_498 rfl (lda_9 (k := 1) hl.2.1) ?_
  refine la_9 (jj := 1) (j := 1) (pc6 := 505) dlw_499 dlw_500 dlw_502 dlw_503 dlw_504 ⟨rfl, rfl, rfl, rfl, rfl⟩ zi_1 hl ⟨by decide, hi.1, hi.2.1, hi.2.2⟩ ?_
  refine la_9 (jj := 2) (j := 2) (pc6 := 511) dlw_505 dlw_506 dlw_508 dlw_509 dlw_510 ⟨rfl, rfl, rfl, rfl, rfl⟩ zi_2 hl ⟨by decide, hi.1, hi.2.1, hi.2.2⟩ ?_
  refine la_9 (jj := 3) (j := 3) (pc6 := 517) dlw_511 dlw_512 dlw_514 dlw_515 dlw_516 ⟨rfl, rfl, rfl, rfl, rfl⟩ zi_3 hl ⟨by decide, hi.1, hi.2.1, hi.2.2⟩ ?_
  refine lwP_9 (pc' := 518) dlw_517 rfl (lda_9 (k := 3) hl.2.2.2.1) ?_
  obtain ⟨n8, z8, v9, r8, rv, w8, k8⟩ := lcp_9 (Lx' := Lx) S (wM_value9 (L := Lx) W T I σ ht oU.1 oU.2.1 oU.2.2.1 oU.2.2.2) (fun v C' κ' h => ⟨h.1.1, h.1.2.1⟩)
  refine lw_k9 (d := 15) (y := (kL_value, _, [])) dlw_518 rfl rfl rfl rfl rfl r8 w8 (show 518 + 3 = 521 from rfl) (st' := [.int v9]) (by rw [rv]; rfl) (fun w hw => ?_)
  obtain ⟨κ1, J2, ⟨P2, PR⟩, e8, S2⟩ := k8 w hw
  obtain ⟨κ2, hκ2⟩ : ∃ κ2, κ2 = stn9 κ1 w := ⟨_, rfl⟩
  have P2 : (∃ ρ', chI9 ρ' κ1 a Lx) ∧ (∃ F, zF F κ κ1) ∧ pC8 κ κ2 a := by rw [hκ2]; exact P2
  rw [e8, ← hκ2]
  rw [← hκ2] at S2
  refine lwP_9 (pc' := 523) (lo' := dset1 lo 5 (.int v9)) (st' := []) dlw_521 rfl rfl ?_
  have hl1 : lO9 scr a o u i (dset1 lo 5 (.int v9)) := lO_19 (by decide) hl (fun w9 z9 => by rw [hl.2.2.2.2] at z9; cases z9; rfl)
  refine lwP_9 (pc' := 524) dlw_523 rfl (lda_9 (k := 2) hl1.2.2.1) ?_
  refine la_9 (jj := 1) (j := 1) (pc6 := 530) dlw_524 dlw_525 dlw_527 dlw_528 dlw_529 ⟨rfl, rfl, rfl, rfl, rfl⟩ zi_1 hl1 ⟨by decide, hi.1, hi.2.1, hi.2.2⟩ ?_
  refine la_9 (jj := 2) (j := 2) (pc6 := 536) dlw_530 dlw_531 dlw_533 dlw_534 dlw_535 ⟨rfl, rfl, rfl, rfl, rfl⟩ zi_2 hl1 ⟨by decide, hi.1, hi.2.1, hi.2.2⟩ ?_
  refine la_9 (jj := 3) (j := 3) (pc6 := 542) dlw_536 dlw_537 dlw_539 dlw_540 dlw_541 ⟨rfl, rfl, rfl, rfl, rfl⟩ zi_3 hl1 ⟨by decide, hi.1, hi.2.1, hi.2.2⟩ ?_
  refine li_9 (m := (yX13_value, cX13_value, 5, (some .int), false, 16, 3)) (as := [.int (xs (i + 1).toNatClampNeg), .int (xs (i + 2).toNatClampNeg), .int (xs (i + 3).toNatClampNeg)]) (Q := fun σ v σ' => RJ σ' ∧ pR8 σ σ' ∧ XV8 (xs (i + 1).toNatClampNeg) (xs (i + 2).toNatClampNeg) (xs (i + 3).toNatClampNeg) σ σ' v) (j := 337) (pc' := 545) S2 hR dlw_542 (by decide +kernel) rfl ⟨rfl, by decide, rfl⟩ rfl (RA _ _ _) rfl (Nat.le_of_ble_eq_true rfl) rfl (fun v2 σ2 q9 => ?_)
  have q1 := q9.1
  have q2 := q9.2.1
  have q3 := q9.2.2
  refine lwP_9 (pc' := 547) (lo' := dset1 (dset1 lo 5 (.int v9)) 6 (.int v2)) (st' := []) dlw_545 rfl rfl ?_
  have AN := ca_w (v2 := v2) PR (oU_9 S2).2.2.2 (xx_w q3)
  have S3 := lr_9 (σ' := σ2) S2
  exact lt_value9 (lo2 := dset1 (dset1 lo 5 (.int v9)) 6 (.int v2)) RT (lO_19 (by decide) hl1 (fun w9 z9 => by rw [hl1.2.2.2.2] at z9; cases z9; rfl)) (ds_9 (by decide) (if_pos rfl) rfl) (if_pos rfl) S3 q1 AN (N _ _ _ _ _ _ (lO_19 (by decide) hl1 (fun w9 z9 => by rw [hl1.2.2.2.2] at z9; cases z9; rfl)) (lS_m9 (by omega) (Nat.le_refl _) (lr_9 (σ' := σ2) S2)) q1 (re_8 q2 ht P2.2.2))
theorem lt_next9 {v9 : Int32} {v2 : Int32} {σ2 : rS} {κ2 : zS} {J2 : Nat → Int64} {t2 c2 s2 : Nat} {L2 : Int} {lo2 : dL0} (RT : rcW9 (yX13_thrown, cX13_thrown, 1, (some .int), false, 16, 0)) (hl2 : lO9 scr a o u i lo2) (l5 : lo2 5 = some (.int v9)) (l6 : lo2 6 = some (.int v2)) (S3 : lS9 sa TL b a o u L2 t2 κ2 σ2 J2 c2 s2) (q1 : RJ σ2) (AN : σ2.1 0 = v9 ∧ (v9 = 0 → J2 0 = v2.toInt64)) (K : dV9 (dEE sa TL) dXX dKK b scr L xs lawP9 n 16 rLaw 1572 lo2 [] (zH (lB9 sa TL b o u σ2 J2) κ2) c2 s2) : dV9 (dEE sa TL) dXX dKK b scr L xs lawP9 (n + 14) 16 rLaw 627 lo2 [] (zH (lB9 sa TL b o u σ2 J2) κ2) c2 s2 := by
  have oU2 := oU_9 S3
  refine lwP_9 (pc' := 628) dlw_627 rfl (lda_9 (k := 2) hl2.2.2.1) ?_
  refine li_9 (m := (yX13_thrown, cX13_thrown, 1, (some .int), false, 16, 0)) (as := []) (Q := fun σ v σ' => σ' = σ ∧ v = σ.1 0) (j := 430) (pc' := 631) S3 q1 dlw_628 (by decide +kernel) rfl ⟨rfl, by decide, rfl⟩ rfl (fun C σ hC _ => RT C σ hC) rfl (Nat.le_of_ble_eq_true rfl) rfl (fun v3 σ3 q3 => ?_)
  obtain ⟨e3, ev3⟩ := q3
  rw [e3]
  refine lwP_9 (pc' := 633) dlw_631 rfl (ldi_9 l5) ?_
  have ev : v3 = v9 := ev3.trans AN.1
  rw [ev]
  refine lwP_9 (pc' := 638) (lo' := lo2) (st' := []) dlw_633 rfl (ic_e9 rfl) ?_
  refine lwP_9 (pc' := 640) dlw_638 rfl (ldi_9 l5) ?_
  by_cases z : v9 = 0
  · have eJ := AN.2 z
    refine lwP_9 (pc' := 643) (lo' := lo2) (st' := []) dlw_640 rfl (by rw [z]; exact in_09 (t := 655) rfl) ?_
    refine lwP_9 (pc' := 644) dlw_643 rfl (lda_9 (k := 3) hl2.2.2.2.1) ?_
    refine lwP_9 (pc' := 645) (lo' := lo2) (st' := [.int 0, .ref u]) dlw_644 rfl (by rw [← zi_0]; rfl) ?_
    refine lw_h9 (pc' := 646) (st' := [.long (J2 0)]) dlw_645 rfl rfl rfl (lal_9 (zH_u9 oU2.2.1 oU2.2.2.2)) ?_
    refine lwP_9 (pc' := 648) dlw_646 rfl (ldi_9 l6) ?_
    refine lwP_9 (pc' := 649) (lo' := lo2) (st' := [.long v2.toInt64, .long (J2 0)]) dlw_648 rfl rfl ?_
    refine lwP_9 (pc' := 650) (lo' := lo2) (st' := [.int 0]) dlw_649 rfl (lc_e9 (eJ)) ?_
    refine lwP_9 (pc' := 655) (lo' := lo2) (st' := []) dlw_650 rfl (ie_09 rfl) ?_
    refine lwP_9 (pc' := 1572) (lo' := lo2) (st' := []) dlw_655 rfl rfl ?_
    exact K
  · refine dV_l9 (n := n + 2) (by omega) ?_
    refine lwP_9 (pc' := 655) (lo' := lo2) (st' := []) dlw_640 rfl (in_w9 z rfl) ?_
    refine lwP_9 (pc' := 1572) (lo' := lo2) (st' := []) dlw_655 rfl rfl ?_
    exact K
theorem ls_next9 (RA : ∀ (y0 : Int32) (y1 : Int32) (y2 : Int32), rcZ9 RJ (yX13_next, cX13_next, 5, (some .int), false, 16, 3) [.int y0, .int y1, .int y2] (fun σ σ' v => XN8 y0 y1 y2 σ σ' v)) (RT : rcW9 (yX13_thrown, cX13_thrown, 1, (some .int), false, 16, 0)) (hl : lO9 scr a o u i lo) (hi : 0 ≤ i.toInt ∧ i.toInt + 6 ≤ L ∧ L ≤ 3072) (S : lS9 sa TL b a o u Lx t κ σ J cs ss) (hR : RJ σ) (ht : RC8 κ a σ) (N : nx9 sa TL b a o u scr L xs RJ Lx t n i) : dV9 (dEE sa TL) dXX dKK b scr L xs lawP9 (n + 51) 16 rLaw 578 lo [] (zH (lB9 sa TL b o u σ J) κ) cs ss := by
  obtain ⟨W, T, ⟨ρ, I⟩, _⟩ := id S
  have oU := oU_9 S
  refine lwP_9 (pc' := 579) dlw_578 rfl (lda_9 (k := 1) hl.2.1) ?_
  refine la_9 (jj := 1) (j := 1) (pc6 := 585) dlw_579 dlw_580 dlw_582 dlw_583 dlw_584 ⟨rfl, rfl, rfl, rfl, rfl⟩ zi_1 hl ⟨by decide, hi.1, hi.2.1, hi.2.2⟩ ?_
  refine la_9 (jj := 2) (j := 2) (pc6 := 591) dlw_585 dlw_586 dlw_588 dlw_589 dlw_590 ⟨rfl, rfl, rfl, rfl, rfl⟩ zi_2 hl ⟨by decide, hi.1, hi.2.1, hi.2.2⟩ ?_
  refine la_9 (jj := 3) (j := 3) (pc6 := 597) dlw_591 dlw_592 dlw_594 dlw_595 dlw_596 ⟨rfl, rfl, rfl, rfl, rfl⟩ zi_3 hl ⟨by decide, hi.1, hi.2.1, hi.2.2⟩ ?_
  refine lwP_9 (pc' := 598) dlw_597 rfl (lda_9 (k := 3) hl.2.2.2.1) ?_
  obtain ⟨n8, z8, v9, r8, rv, w8, k8⟩ := lcp_9 (Lx' := Lx) S (wM_next9 (L := Lx) W T I σ ht oU.1 oU.2.1 oU.2.2.1 oU.2.2.2) (fun v C' κ' h => ⟨h.1.1, h.1.2.1⟩)
  refine lw_k9 (d := 15) (y := (kL_next, _, [])) dlw_598 rfl rfl rfl rfl rfl r8 w8 (show 598 + 3 = 601 from rfl) (st' := [.int v9]) (by rw [rv]; rfl) (fun w hw => ?_)
  obtain ⟨κ1, J2, ⟨P2, PR⟩, e8, S2⟩ := k8 w hw
  obtain ⟨κ2, hκ2⟩ : ∃ κ2, κ2 = stn9 κ1 w := ⟨_, rfl⟩
  have P2 : (∃ ρ', chI9 ρ' κ1 a Lx) ∧ (∃ F, zF F κ κ1) ∧ pC8 κ κ2 a := by rw [hκ2]; exact P2
  rw [e8, ← hκ2]
  rw [← hκ2] at S2
  refine lwP_9 (pc' := 603) (lo' := dset1 lo 5 (.int v9)) (st' := []) dlw_601 rfl rfl ?_
  have hl1 : lO9 scr a o u i (dset1 lo 5 (.int v9)) := lO_19 (by decide) hl (fun w9 z9 => by rw [hl.2.2.2.2] at z9; cases z9; rfl)
  refine lwP_9 (pc' := 604) dlw_603 rfl (lda_9 (k := 2) hl1.2.2.1) ?_
  refine la_9 (jj := 1) (j := 1) (pc6 := 610) dlw_604 dlw_605 dlw_607 dlw_608 dlw_609 ⟨rfl, rfl, rfl, rfl, rfl⟩ zi_1 hl1 ⟨by decide, hi.1, hi.2.1, hi.2.2⟩ ?_
  refine la_9 (jj := 2) (j := 2) (pc6 := 616) dlw_610 dlw_611 dlw_613 dlw_614 dlw_615 ⟨rfl, rfl, rfl, rfl, rfl⟩ zi_2 hl1 ⟨by decide, hi.1, hi.2.1, hi.2.2⟩ ?_
  refine la_9 (jj := 3) (j := 3) (pc6 := 622) dlw_616 dlw_617 dlw_619 dlw_620 dlw_621 ⟨rfl, rfl, rfl, rfl, rfl⟩ zi_3 hl1 ⟨by decide, hi.1, hi.2.1, hi.2.2⟩ ?_
  refine li_9 (m := (yX13_next, cX13_next, 5, (some .int), false, 16, 3)) (as := [.int (xs (i + 1).toNatClampNeg), .int (xs (i + 2).toNatClampNeg), .int (xs (i + 3).toNatClampNeg)]) (Q := fun σ v σ' => RJ σ' ∧ pR8 σ σ' ∧ XN8 (xs (i + 1).toNatClampNeg) (xs (i + 2).toNatClampNeg) (xs (i + 3).toNatClampNeg) σ σ' v) (j := 338) (pc' := 625) S2 hR dlw_622 (by decide +kernel) rfl ⟨rfl, by decide, rfl⟩ rfl (RA _ _ _) rfl (Nat.le_of_ble_eq_true rfl) rfl (fun v2 σ2 q9 => ?_)
  have q1 := q9.1
  have q2 := q9.2.1
  have q3 := q9.2.2
  refine lwP_9 (pc' := 627) (lo' := dset1 (dset1 lo 5 (.int v9)) 6 (.int v2)) (st' := []) dlw_625 rfl rfl ?_
  have AN := ca_w (v2 := v2) PR (oU_9 S2).2.2.2 (xx_w q3)
  have S3 := lr_9 (σ' := σ2) S2
  exact lt_next9 (lo2 := dset1 (dset1 lo 5 (.int v9)) 6 (.int v2)) RT (lO_19 (by decide) hl1 (fun w9 z9 => by rw [hl1.2.2.2.2] at z9; cases z9; rfl)) (ds_9 (by decide) (if_pos rfl) rfl) (if_pos rfl) S3 q1 AN (N _ _ _ _ _ _ (lO_19 (by decide) hl1 (fun w9 z9 => by rw [hl1.2.2.2.2] at z9; cases z9; rfl)) (lS_m9 (by omega) (Nat.le_refl _) (lr_9 (σ' := σ2) S2)) q1 (re_8 q2 ht P2.2.2))
theorem lt_ending9 {v9 : Int32} {v2 : Int32} {σ2 : rS} {κ2 : zS} {J2 : Nat → Int64} {t2 c2 s2 : Nat} {L2 : Int} {lo2 : dL0} (RT : rcW9 (yX13_thrown, cX13_thrown, 1, (some .int), false, 16, 0)) (hl2 : lO9 scr a o u i lo2) (l5 : lo2 5 = some (.int v9)) (l6 : lo2 6 = some (.int v2)) (S3 : lS9 sa TL b a o u L2 t2 κ2 σ2 J2 c2 s2) (q1 : RJ σ2) (AN : σ2.1 0 = v9 ∧ (v9 = 0 → J2 0 = v2.toInt64)) (K : dV9 (dEE sa TL) dXX dKK b scr L xs lawP9 n 16 rLaw 1572 lo2 [] (zH (lB9 sa TL b o u σ2 J2) κ2) c2 s2) : dV9 (dEE sa TL) dXX dKK b scr L xs lawP9 (n + 14) 16 rLaw 695 lo2 [] (zH (lB9 sa TL b o u σ2 J2) κ2) c2 s2 := by
  have oU2 := oU_9 S3
  refine lwP_9 (pc' := 696) dlw_695 rfl (lda_9 (k := 2) hl2.2.2.1) ?_
  refine li_9 (m := (yX13_thrown, cX13_thrown, 1, (some .int), false, 16, 0)) (as := []) (Q := fun σ v σ' => σ' = σ ∧ v = σ.1 0) (j := 430) (pc' := 699) S3 q1 dlw_696 (by decide +kernel) rfl ⟨rfl, by decide, rfl⟩ rfl (fun C σ hC _ => RT C σ hC) rfl (Nat.le_of_ble_eq_true rfl) rfl (fun v3 σ3 q3 => ?_)
  obtain ⟨e3, ev3⟩ := q3
  rw [e3]
  refine lwP_9 (pc' := 701) dlw_699 rfl (ldi_9 l5) ?_
  have ev : v3 = v9 := ev3.trans AN.1
  rw [ev]
  refine lwP_9 (pc' := 706) (lo' := lo2) (st' := []) dlw_701 rfl (ic_e9 rfl) ?_
  refine lwP_9 (pc' := 708) dlw_706 rfl (ldi_9 l5) ?_
  by_cases z : v9 = 0
  · have eJ := AN.2 z
    refine lwP_9 (pc' := 711) (lo' := lo2) (st' := []) dlw_708 rfl (by rw [z]; exact in_09 (t := 723) rfl) ?_
    refine lwP_9 (pc' := 712) dlw_711 rfl (lda_9 (k := 3) hl2.2.2.2.1) ?_
    refine lwP_9 (pc' := 713) (lo' := lo2) (st' := [.int 0, .ref u]) dlw_712 rfl (by rw [← zi_0]; rfl) ?_
    refine lw_h9 (pc' := 714) (st' := [.long (J2 0)]) dlw_713 rfl rfl rfl (lal_9 (zH_u9 oU2.2.1 oU2.2.2.2)) ?_
    refine lwP_9 (pc' := 716) dlw_714 rfl (ldi_9 l6) ?_
    refine lwP_9 (pc' := 717) (lo' := lo2) (st' := [.long v2.toInt64, .long (J2 0)]) dlw_716 rfl rfl ?_
    refine lwP_9 (pc' := 718) (lo' := lo2) (st' := [.int 0]) dlw_717 rfl (lc_e9 (eJ)) ?_
    refine lwP_9 (pc' := 723) (lo' := lo2) (st' := []) dlw_718 rfl (ie_09 rfl) ?_
    refine lwP_9 (pc' := 1572) (lo' := lo2) (st' := []) dlw_723 rfl rfl ?_
    exact K
  · refine dV_l9 (n := n + 2) (by omega) ?_
    refine lwP_9 (pc' := 723) (lo' := lo2) (st' := []) dlw_708 rfl (in_w9 z rfl) ?_
    refine lwP_9 (pc' := 1572) (lo' := lo2) (st' := []) dlw_723 rfl rfl ?_
    exact K
theorem ls_ending9 (RA : ∀ (y0 : Int32) (y1 : Int32), rcZ9 RJ (yX13_ending, cX13_ending, 3, (some .int), false, 16, 2) [.int y0, .int y1] (fun σ σ' v => XE8 y0 y1 σ σ' v)) (RT : rcW9 (yX13_thrown, cX13_thrown, 1, (some .int), false, 16, 0)) (hl : lO9 scr a o u i lo) (hi : 0 ≤ i.toInt ∧ i.toInt + 6 ≤ L ∧ L ≤ 3072) (S : lS9 sa TL b a o u Lx t κ σ J cs ss) (hR : RJ σ) (ht : RC8 κ a σ) (N : nx9 sa TL b a o u scr L xs RJ Lx t n i) : dV9 (dEE sa TL) dXX dKK b scr L xs lawP9 (n + 41) 16 rLaw 658 lo [] (zH (lB9 sa TL b o u σ J) κ) cs ss := by
  obtain ⟨W, T, ⟨ρ, I⟩, _⟩ := id S
  have oU := oU_9 S
  refine lwP_9 (pc' := 659) dlw_658 rfl (lda_9 (k := 1) hl.2.1) ?_
  refine la_9 (jj := 1) (j := 1) (pc6 := 665) dlw_659 dlw_660 dlw_662 dlw_663 dlw_664 ⟨rfl, rfl, rfl, rfl, rfl⟩ zi_1 hl ⟨by decide, hi.1, hi.2.1, hi.2.2⟩ ?_
  refine la_9 (jj := 2) (j := 2) (pc6 := 671) dlw_665 dlw_666 dlw_668 dlw_669 dlw_670 ⟨rfl, rfl, rfl, rfl, rfl⟩ zi_2 hl ⟨by decide, hi.1, hi.2.1, hi.2.2⟩ ?_
  refine lwP_9 (pc' := 672) dlw_671 rfl (lda_9 (k := 3) hl.2.2.2.1) ?_
  obtain ⟨n8, z8, v9, r8, rv, w8, k8⟩ := lcp_9 (Lx' := Lx) S (wM_ending9 (L := Lx) W T I σ ht oU.1 oU.2.1 oU.2.2.1 oU.2.2.2) (fun v C' κ' h => ⟨h.1.1, h.1.2.1⟩)
  refine lw_k9 (d := 15) (y := (kL_ending, _, [])) dlw_672 rfl rfl rfl rfl rfl r8 w8 (show 672 + 3 = 675 from rfl) (st' := [.int v9]) (by rw [rv]; rfl) (fun w hw => ?_)
  obtain ⟨κ1, J2, ⟨P2, PR⟩, e8, S2⟩ := k8 w hw
  obtain ⟨κ2, hκ2⟩ : ∃ κ2, κ2 = stn9 κ1 w := ⟨_, rfl⟩
  have P2 : (∃ ρ', chI9 ρ' κ1 a Lx) ∧ (∃ F, zF F κ κ1) ∧ pC8 κ κ2 a := by rw [hκ2]; exact P2
  rw [e8, ← hκ2]
  rw [← hκ2] at S2
  refine lwP_9 (pc' := 677) (lo' := dset1 lo 5 (.int v9)) (st' := []) dlw_675 rfl rfl ?_
  have hl1 : lO9 scr a o u i (dset1 lo 5 (.int v9)) := lO_19 (by decide) hl (fun w9 z9 => by rw [hl.2.2.2.2] at z9; cases z9; rfl)
  refine lwP_9 (pc' := 678) dlw_677 rfl (lda_9 (k := 2) hl1.2.2.1) ?_
  refine la_9 (jj := 1) (j := 1) (pc6 := 684) dlw_678 dlw_679 dlw_681 dlw_682 dlw_683 ⟨rfl, rfl, rfl, rfl, rfl⟩ zi_1 hl1 ⟨by decide, hi.1, hi.2.1, hi.2.2⟩ ?_
  refine la_9 (jj := 2) (j := 2) (pc6 := 690) dlw_684 dlw_685 dlw_687 dlw_688 dlw_689 ⟨rfl, rfl, rfl, rfl, rfl⟩ zi_2 hl1 ⟨by decide, hi.1, hi.2.1, hi.2.2⟩ ?_
  refine li_9 (m := (yX13_ending, cX13_ending, 3, (some .int), false, 16, 2)) (as := [.int (xs (i + 1).toNatClampNeg), .int (xs (i + 2).toNatClampNeg)]) (Q := fun σ v σ' => RJ σ' ∧ pR8 σ σ' ∧ XE8 (xs (i + 1).toNatClampNeg) (xs (i + 2).toNatClampNeg) σ σ' v) (j := 339) (pc' := 693) S2 hR dlw_690 (by decide +kernel) rfl ⟨rfl, by decide, rfl⟩ rfl (RA _ _) rfl (Nat.le_of_ble_eq_true rfl) rfl (fun v2 σ2 q9 => ?_)
  have q1 := q9.1
  have q2 := q9.2.1
  have q3 := q9.2.2
  refine lwP_9 (pc' := 695) (lo' := dset1 (dset1 lo 5 (.int v9)) 6 (.int v2)) (st' := []) dlw_693 rfl rfl ?_
  have AN := ca_w (v2 := v2) PR (oU_9 S2).2.2.2 (xx_w q3)
  have S3 := lr_9 (σ' := σ2) S2
  exact lt_ending9 (lo2 := dset1 (dset1 lo 5 (.int v9)) 6 (.int v2)) RT (lO_19 (by decide) hl1 (fun w9 z9 => by rw [hl1.2.2.2.2] at z9; cases z9; rfl)) (ds_9 (by decide) (if_pos rfl) rfl) (if_pos rfl) S3 q1 AN (N _ _ _ _ _ _ (lO_19 (by decide) hl1 (fun w9 z9 => by rw [hl1.2.2.2.2] at z9; cases z9; rfl)) (lS_m9 (by omega) (Nat.le_refl _) (lr_9 (σ' := σ2) S2)) q1 (re_8 q2 ht P2.2.2))
theorem lt_decide9 {v9 : Int32} {v2 : Int32} {σ2 : rS} {κ2 : zS} {J2 : Nat → Int64} {t2 c2 s2 : Nat} {L2 : Int} {lo2 : dL0} (RT : rcW9 (yX13_thrown, cX13_thrown, 1, (some .int), false, 16, 0)) (hl2 : lO9 scr a o u i lo2) (l5 : lo2 5 = some (.int v9)) (l6 : lo2 6 = some (.int v2)) (S3 : lS9 sa TL b a o u L2 t2 κ2 σ2 J2 c2 s2) (q1 : RJ σ2) (AN : σ2.1 0 = v9 ∧ (v9 = 0 → J2 0 = v2.toInt64)) (K : dV9 (dEE sa TL) dXX dKK b scr L xs lawP9 n 16 rLaw 1572 lo2 [] (zH (lB9 sa TL b o u σ2 J2) κ2) c2 s2) : dV9 (dEE sa TL) dXX dKK b scr L xs lawP9 (n + 14) 16 rLaw 763 lo2 [] (zH (lB9 sa TL b o u σ2 J2) κ2) c2 s2 := by
  have oU2 := oU_9 S3
  refine lwP_9 (pc' := 764) dlw_763 rfl (lda_9 (k := 2) hl2.2.2.1) ?_
  refine li_9 (m := (yX13_thrown, cX13_thrown, 1, (some .int), false, 16, 0)) (as := []) (Q := fun σ v σ' => σ' = σ ∧ v = σ.1 0) (j := 430) (pc' := 767) S3 q1 dlw_764 (by decide +kernel) rfl ⟨rfl, by decide, rfl⟩ rfl (fun C σ hC _ => RT C σ hC) rfl (Nat.le_of_ble_eq_true rfl) rfl (fun v3 σ3 q3 => ?_)
  obtain ⟨e3, ev3⟩ := q3
  rw [e3]
  refine lwP_9 (pc' := 769) dlw_767 rfl (ldi_9 l5) ?_
  have ev : v3 = v9 := ev3.trans AN.1
  rw [ev]
  refine lwP_9 (pc' := 774) (lo' := lo2) (st' := []) dlw_769 rfl (ic_e9 rfl) ?_
  refine lwP_9 (pc' := 776) dlw_774 rfl (ldi_9 l5) ?_
  by_cases z : v9 = 0
  · have eJ := AN.2 z
    refine lwP_9 (pc' := 779) (lo' := lo2) (st' := []) dlw_776 rfl (by rw [z]; exact in_09 (t := 791) rfl) ?_
    refine lwP_9 (pc' := 780) dlw_779 rfl (lda_9 (k := 3) hl2.2.2.2.1) ?_
    refine lwP_9 (pc' := 781) (lo' := lo2) (st' := [.int 0, .ref u]) dlw_780 rfl (by rw [← zi_0]; rfl) ?_
    refine lw_h9 (pc' := 782) (st' := [.long (J2 0)]) dlw_781 rfl rfl rfl (lal_9 (zH_u9 oU2.2.1 oU2.2.2.2)) ?_
    refine lwP_9 (pc' := 784) dlw_782 rfl (ldi_9 l6) ?_
    refine lwP_9 (pc' := 785) (lo' := lo2) (st' := [.long v2.toInt64, .long (J2 0)]) dlw_784 rfl rfl ?_
    refine lwP_9 (pc' := 786) (lo' := lo2) (st' := [.int 0]) dlw_785 rfl (lc_e9 (eJ)) ?_
    refine lwP_9 (pc' := 791) (lo' := lo2) (st' := []) dlw_786 rfl (ie_09 rfl) ?_
    refine lwP_9 (pc' := 1572) (lo' := lo2) (st' := []) dlw_791 rfl rfl ?_
    exact K
  · refine dV_l9 (n := n + 2) (by omega) ?_
    refine lwP_9 (pc' := 791) (lo' := lo2) (st' := []) dlw_776 rfl (in_w9 z rfl) ?_
    refine lwP_9 (pc' := 1572) (lo' := lo2) (st' := []) dlw_791 rfl rfl ?_
    exact K
theorem ls_decide9 (RA : ∀ (y0 : Int32) (y1 : Int32), rcU9 RJ (yX13_decide, cX13_decide, 4, (some .int), false, 16, 2) y0 y1) (RT : rcW9 (yX13_thrown, cX13_thrown, 1, (some .int), false, 16, 0)) (hl : lO9 scr a o u i lo) (hi : 0 ≤ i.toInt ∧ i.toInt + 6 ≤ L ∧ L ≤ 3072) (S : lS9 sa TL b a o u Lx t κ σ J cs ss) (hR : RJ σ) (ht : RC8 κ a σ) (N : nx9 sa TL b a o u scr L xs RJ Lx t n i) : dV9 (dEE sa TL) dXX dKK b scr L xs lawP9 (n + 41) 16 rLaw 726 lo [] (zH (lB9 sa TL b o u σ J) κ) cs ss := by
  obtain ⟨W, T, ⟨ρ, I⟩, _⟩ := id S
  have oU := oU_9 S
  refine lwP_9 (pc' := 727) dlw_726 rfl (lda_9 (k := 1) hl.2.1) ?_
  refine la_9 (jj := 1) (j := 1) (pc6 := 733) dlw_727 dlw_728 dlw_730 dlw_731 dlw_732 ⟨rfl, rfl, rfl, rfl, rfl⟩ zi_1 hl ⟨by decide, hi.1, hi.2.1, hi.2.2⟩ ?_
  refine la_9 (jj := 2) (j := 2) (pc6 := 739) dlw_733 dlw_734 dlw_736 dlw_737 dlw_738 ⟨rfl, rfl, rfl, rfl, rfl⟩ zi_2 hl ⟨by decide, hi.1, hi.2.1, hi.2.2⟩ ?_
  refine lwP_9 (pc' := 740) dlw_739 rfl (lda_9 (k := 3) hl.2.2.2.1) ?_
  obtain ⟨n8, z8, v9, r8, rv, w8, k8⟩ := lcp_9 (Lx' := Lx) S (wM_decide9 (L := Lx) W T I σ ht oU.1 oU.2.1 oU.2.2.1 oU.2.2.2) (fun v C' κ' h => ⟨h.1.1, h.1.2.1⟩)
  refine lw_k9 (d := 15) (y := (kL_decide, _, [])) dlw_740 rfl rfl rfl rfl rfl r8 w8 (show 740 + 3 = 743 from rfl) (st' := [.int v9]) (by rw [rv]; rfl) (fun w hw => ?_)
  obtain ⟨κ1, J2, ⟨P2, PR⟩, e8, S2⟩ := k8 w hw
  obtain ⟨κ2, hκ2⟩ : ∃ κ2, κ2 = stn9 κ1 w := ⟨_, rfl⟩
  have P2 : (∃ ρ', chI9 ρ' κ1 a Lx) ∧ (∃ F, zF F κ κ1) ∧ pDc8 κ κ2 a σ (xs (i + 1).toNatClampNeg) (xs (i + 2).toNatClampNeg) := by rw [hκ2]; exact P2
  rw [e8, ← hκ2]
  rw [← hκ2] at S2
  refine lwP_9 (pc' := 745) (lo' := dset1 lo 5 (.int v9)) (st' := []) dlw_743 rfl rfl ?_
  have hl1 : lO9 scr a o u i (dset1 lo 5 (.int v9)) := lO_19 (by decide) hl (fun w9 z9 => by rw [hl.2.2.2.2] at z9; cases z9; rfl)
  refine lwP_9 (pc' := 746) dlw_745 rfl (lda_9 (k := 2) hl1.2.2.1) ?_
  refine la_9 (jj := 1) (j := 1) (pc6 := 752) dlw_746 dlw_747 dlw_749 dlw_750 dlw_751 ⟨rfl, rfl, rfl, rfl, rfl⟩ zi_1 hl1 ⟨by decide, hi.1, hi.2.1, hi.2.2⟩ ?_
  refine la_9 (jj := 2) (j := 2) (pc6 := 758) dlw_752 dlw_753 dlw_755 dlw_756 dlw_757 ⟨rfl, rfl, rfl, rfl, rfl⟩ zi_2 hl1 ⟨by decide, hi.1, hi.2.1, hi.2.2⟩ ?_
  refine li_9 (m := (yX13_decide, cX13_decide, 4, (some .int), false, 16, 2)) (as := [.int (xs (i + 1).toNatClampNeg), .int (xs (i + 2).toNatClampNeg)]) (Q := fun σ v σ' => RJ σ' ∧ pD8 (xs (i + 1).toNatClampNeg) (xs (i + 2).toNatClampNeg) σ σ' ∧ XD8 (xs (i + 1).toNatClampNeg) (xs (i + 2).toNatClampNeg) σ σ' v) (j := 340) (pc' := 761) S2 hR dlw_758 (by decide +kernel) rfl ⟨rfl, by decide, rfl⟩ rfl (RA _ _) rfl (Nat.le_of_ble_eq_true rfl) rfl (fun v2 σ2 q9 => ?_)
  have q1 := q9.1
  have q2 := q9.2
  refine lwP_9 (pc' := 763) (lo' := dset1 (dset1 lo 5 (.int v9)) 6 (.int v2)) (st' := []) dlw_761 rfl rfl ?_
  have AN := ca_w (v2 := v2) PR (oU_9 S2).2.2.2 (xx_w q2.2)
  have S3 := lr_9 (σ' := σ2) S2
  exact lt_decide9 (lo2 := dset1 (dset1 lo 5 (.int v9)) 6 (.int v2)) RT (lO_19 (by decide) hl1 (fun w9 z9 => by rw [hl1.2.2.2.2] at z9; cases z9; rfl)) (ds_9 (by decide) (if_pos rfl) rfl) (if_pos rfl) S3 q1 AN (N _ _ _ _ _ _ (lO_19 (by decide) hl1 (fun w9 z9 => by rw [hl1.2.2.2.2] at z9; cases z9; rfl)) (lS_m9 (by omega) (Nat.le_refl _) (lr_9 (σ' := σ2) S2)) q1 (rd_8 q2.1 ht P2.2.2))
theorem lt_decided9 {v9 : Int32} {v2 : Int32} {σ2 : rS} {κ2 : zS} {J2 : Nat → Int64} {t2 c2 s2 : Nat} {L2 : Int} {lo2 : dL0} (RT : rcW9 (yX13_thrown, cX13_thrown, 1, (some .int), false, 16, 0)) (hl2 : lO9 scr a o u i lo2) (l5 : lo2 5 = some (.int v9)) (l6 : lo2 6 = some (.int v2)) (S3 : lS9 sa TL b a o u L2 t2 κ2 σ2 J2 c2 s2) (q1 : RJ σ2) (AN : σ2.1 0 = v9 ∧ (v9 = 0 → J2 0 = v2.toInt64)) (K : dV9 (dEE sa TL) dXX dKK b scr L xs lawP9 n 16 rLaw 1572 lo2 [] (zH (lB9 sa TL b o u σ2 J2) κ2) c2 s2) : dV9 (dEE sa TL) dXX dKK b scr L xs lawP9 (n + 14) 16 rLaw 819 lo2 [] (zH (lB9 sa TL b o u σ2 J2) κ2) c2 s2 := by
  have oU2 := oU_9 S3
  refine lwP_9 (pc' := 820) dlw_819 rfl (lda_9 (k := 2) hl2.2.2.1) ?_
  refine li_9 (m := (yX13_thrown, cX13_thrown, 1, (some .int), false, 16, 0)) (as := []) (Q := fun σ v σ' => σ' = σ ∧ v = σ.1 0) (j := 430) (pc' := 823) S3 q1 dlw_820 (by decide +kernel) rfl ⟨rfl, by decide, rfl⟩ rfl (fun C σ hC _ => RT C σ hC) rfl (Nat.le_of_ble_eq_true rfl) rfl (fun v3 σ3 q3 => ?_)
  obtain ⟨e3, ev3⟩ := q3
  rw [e3]
  refine lwP_9 (pc' := 825) dlw_823 rfl (ldi_9 l5) ?_
  have ev : v3 = v9 := ev3.trans AN.1
  rw [ev]
  refine lwP_9 (pc' := 830) (lo' := lo2) (st' := []) dlw_825 rfl (ic_e9 rfl) ?_
  refine lwP_9 (pc' := 832) dlw_830 rfl (ldi_9 l5) ?_
  by_cases z : v9 = 0
  · have eJ := AN.2 z
    refine lwP_9 (pc' := 835) (lo' := lo2) (st' := []) dlw_832 rfl (by rw [z]; exact in_09 (t := 847) rfl) ?_
    refine lwP_9 (pc' := 836) dlw_835 rfl (lda_9 (k := 3) hl2.2.2.2.1) ?_
    refine lwP_9 (pc' := 837) (lo' := lo2) (st' := [.int 0, .ref u]) dlw_836 rfl (by rw [← zi_0]; rfl) ?_
    refine lw_h9 (pc' := 838) (st' := [.long (J2 0)]) dlw_837 rfl rfl rfl (lal_9 (zH_u9 oU2.2.1 oU2.2.2.2)) ?_
    refine lwP_9 (pc' := 840) dlw_838 rfl (ldi_9 l6) ?_
    refine lwP_9 (pc' := 841) (lo' := lo2) (st' := [.long v2.toInt64, .long (J2 0)]) dlw_840 rfl rfl ?_
    refine lwP_9 (pc' := 842) (lo' := lo2) (st' := [.int 0]) dlw_841 rfl (lc_e9 (eJ)) ?_
    refine lwP_9 (pc' := 847) (lo' := lo2) (st' := []) dlw_842 rfl (ie_09 rfl) ?_
    refine lwP_9 (pc' := 1572) (lo' := lo2) (st' := []) dlw_847 rfl rfl ?_
    exact K
  · refine dV_l9 (n := n + 2) (by omega) ?_
    refine lwP_9 (pc' := 847) (lo' := lo2) (st' := []) dlw_832 rfl (in_w9 z rfl) ?_
    refine lwP_9 (pc' := 1572) (lo' := lo2) (st' := []) dlw_847 rfl rfl ?_
    exact K
theorem ls_decided9 (RA : ∀ (y0 : Int32), rcZ9 RJ (yX13_decided, cX13_decided, 2, (some .int), false, 16, 1) [.int y0] (fun σ σ' v => XG8 y0 σ σ' v)) (RT : rcW9 (yX13_thrown, cX13_thrown, 1, (some .int), false, 16, 0)) (hl : lO9 scr a o u i lo) (hi : 0 ≤ i.toInt ∧ i.toInt + 6 ≤ L ∧ L ≤ 3072) (S : lS9 sa TL b a o u Lx t κ σ J cs ss) (hR : RJ σ) (ht : RC8 κ a σ) (N : nx9 sa TL b a o u scr L xs RJ Lx t n i) : dV9 (dEE sa TL) dXX dKK b scr L xs lawP9 (n + 31) 16 rLaw 794 lo [] (zH (lB9 sa TL b o u σ J) κ) cs ss := by
  obtain ⟨W, T, ⟨ρ, I⟩, _⟩ := id S
  have oU := oU_9 S
  refine lwP_9 (pc' := 795) dlw_794 rfl (lda_9 (k := 1) hl.2.1) ?_
  refine la_9 (jj := 1) (j := 1) (pc6 := 801) dlw_795 dlw_796 dlw_798 dlw_799 dlw_800 ⟨rfl, rfl, rfl, rfl, rfl⟩ zi_1 hl ⟨by decide, hi.1, hi.2.1, hi.2.2⟩ ?_
  refine lwP_9 (pc' := 802) dlw_801 rfl (lda_9 (k := 3) hl.2.2.2.1) ?_
  obtain ⟨n8, z8, v9, r8, rv, w8, k8⟩ := lcp_9 (Lx' := Lx) S (wM_decided9 (L := Lx) W T I σ ht oU.1 oU.2.1 oU.2.2.1 oU.2.2.2) (fun v C' κ' h => ⟨h.1.1, h.1.2.1⟩)
  refine lw_k9 (d := 15) (y := (kL_decided, _, [])) dlw_802 rfl rfl rfl rfl rfl r8 w8 (show 802 + 3 = 805 from rfl) (st' := [.int v9]) (by rw [rv]; rfl) (fun w hw => ?_)
  obtain ⟨κ1, J2, ⟨P2, PR⟩, e8, S2⟩ := k8 w hw
  obtain ⟨κ2, hκ2⟩ : ∃ κ2, κ2 = stn9 κ1 w := ⟨_, rfl⟩
  have P2 : (∃ ρ', chI9 ρ' κ1 a Lx) ∧ (∃ F, zF F κ κ1) ∧ pC8 κ κ2 a := by rw [hκ2]; exact P2
  rw [e8, ← hκ2]
  rw [← hκ2] at S2
  refine lwP_9 (pc' := 807) (lo' := dset1 lo 5 (.int v9)) (st' := []) dlw_805 rfl rfl ?_
  have hl1 : lO9 scr a o u i (dset1 lo 5 (.int v9)) := lO_19 (by decide) hl (fun w9 z9 => by rw [hl.2.2.2.2] at z9; cases z9; rfl)
  refine lwP_9 (pc' := 808) dlw_807 rfl (lda_9 (k := 2) hl1.2.2.1) ?_
  refine la_9 (jj := 1) (j := 1) (pc6 := 814) dlw_808 dlw_809 dlw_811 dlw_812 dlw_813 ⟨rfl, rfl, rfl, rfl, rfl⟩ zi_1 hl1 ⟨by decide, hi.1, hi.2.1, hi.2.2⟩ ?_
  refine li_9 (m := (yX13_decided, cX13_decided, 2, (some .int), false, 16, 1)) (as := [.int (xs (i + 1).toNatClampNeg)]) (Q := fun σ v σ' => RJ σ' ∧ pR8 σ σ' ∧ XG8 (xs (i + 1).toNatClampNeg) σ σ' v) (j := 341) (pc' := 817) S2 hR dlw_814 (by decide +kernel) rfl ⟨rfl, by decide, rfl⟩ rfl (RA _) rfl (Nat.le_of_ble_eq_true rfl) rfl (fun v2 σ2 q9 => ?_)
  have q1 := q9.1
  have q2 := q9.2.1
  have q3 := q9.2.2
  refine lwP_9 (pc' := 819) (lo' := dset1 (dset1 lo 5 (.int v9)) 6 (.int v2)) (st' := []) dlw_817 rfl rfl ?_
  have AN := ca_w (v2 := v2) PR (oU_9 S2).2.2.2 (xx_w q3)
  have S3 := lr_9 (σ' := σ2) S2
  exact lt_decided9 (lo2 := dset1 (dset1 lo 5 (.int v9)) 6 (.int v2)) RT (lO_19 (by decide) hl1 (fun w9 z9 => by rw [hl1.2.2.2.2] at z9; cases z9; rfl)) (ds_9 (by decide) (if_pos rfl) rfl) (if_pos rfl) S3 q1 AN (N _ _ _ _ _ _ (lO_19 (by decide) hl1 (fun w9 z9 => by rw [hl1.2.2.2.2] at z9; cases z9; rfl)) (lS_m9 (by omega) (Nat.le_refl _) (lr_9 (σ' := σ2) S2)) q1 (re_8 q2 ht P2.2.2))
theorem lt_best9 {v9 : Int32} {v2 : Int32} {σ2 : rS} {κ2 : zS} {J2 : Nat → Int64} {t2 c2 s2 : Nat} {L2 : Int} {lo2 : dL0} (RT : rcW9 (yX13_thrown, cX13_thrown, 1, (some .int), false, 16, 0)) (hl2 : lO9 scr a o u i lo2) (l5 : lo2 5 = some (.int v9)) (l6 : lo2 6 = some (.int v2)) (S3 : lS9 sa TL b a o u L2 t2 κ2 σ2 J2 c2 s2) (q1 : RJ σ2) (AN : σ2.1 0 = v9 ∧ (v9 = 0 → J2 0 = v2.toInt64)) (K : dV9 (dEE sa TL) dXX dKK b scr L xs lawP9 n 16 rLaw 1572 lo2 [] (zH (lB9 sa TL b o u σ2 J2) κ2) c2 s2) : dV9 (dEE sa TL) dXX dKK b scr L xs lawP9 (n + 14) 16 rLaw 863 lo2 [] (zH (lB9 sa TL b o u σ2 J2) κ2) c2 s2 := by
  have oU2 := oU_9 S3
  refine lwP_9 (pc' := 864) dlw_863 rfl (lda_9 (k := 2) hl2.2.2.1) ?_
  refine li_9 (m := (yX13_thrown, cX13_thrown, 1, (some .int), false, 16, 0)) (as := []) (Q := fun σ v σ' => σ' = σ ∧ v = σ.1 0) (j := 430) (pc' := 867) S3 q1 dlw_864 (by decide +kernel) rfl ⟨rfl, by decide, rfl⟩ rfl (fun C σ hC _ => RT C σ hC) rfl (Nat.le_of_ble_eq_true rfl) rfl (fun v3 σ3 q3 => ?_)
  obtain ⟨e3, ev3⟩ := q3
  rw [e3]
  refine lwP_9 (pc' := 869) dlw_867 rfl (ldi_9 l5) ?_
  have ev : v3 = v9 := ev3.trans AN.1
  rw [ev]
  refine lwP_9 (pc' := 874) (lo' := lo2) (st' := []) dlw_869 rfl (ic_e9 rfl) ?_
  refine lwP_9 (pc' := 876) dlw_874 rfl (ldi_9 l5) ?_
  by_cases z : v9 = 0
  · have eJ := AN.2 z
    refine lwP_9 (pc' := 879) (lo' := lo2) (st' := []) dlw_876 rfl (by rw [z]; exact in_09 (t := 891) rfl) ?_
    refine lwP_9 (pc' := 880) dlw_879 rfl (lda_9 (k := 3) hl2.2.2.2.1) ?_
    refine lwP_9 (pc' := 881) (lo' := lo2) (st' := [.int 0, .ref u]) dlw_880 rfl (by rw [← zi_0]; rfl) ?_
    refine lw_h9 (pc' := 882) (st' := [.long (J2 0)]) dlw_881 rfl rfl rfl (lal_9 (zH_u9 oU2.2.1 oU2.2.2.2)) ?_
    refine lwP_9 (pc' := 884) dlw_882 rfl (ldi_9 l6) ?_
    refine lwP_9 (pc' := 885) (lo' := lo2) (st' := [.long v2.toInt64, .long (J2 0)]) dlw_884 rfl rfl ?_
    refine lwP_9 (pc' := 886) (lo' := lo2) (st' := [.int 0]) dlw_885 rfl (lc_e9 (eJ)) ?_
    refine lwP_9 (pc' := 891) (lo' := lo2) (st' := []) dlw_886 rfl (ie_09 rfl) ?_
    refine lwP_9 (pc' := 1572) (lo' := lo2) (st' := []) dlw_891 rfl rfl ?_
    exact K
  · refine dV_l9 (n := n + 2) (by omega) ?_
    refine lwP_9 (pc' := 891) (lo' := lo2) (st' := []) dlw_876 rfl (in_w9 z rfl) ?_
    refine lwP_9 (pc' := 1572) (lo' := lo2) (st' := []) dlw_891 rfl rfl ?_
    exact K
theorem ls_best9 (RA : rcB9 RJ (yX13_best, cX13_best, 4, (some .int), false, 16, 0)) (RT : rcW9 (yX13_thrown, cX13_thrown, 1, (some .int), false, 16, 0)) (hl : lO9 scr a o u i lo) (hi : 0 ≤ i.toInt ∧ i.toInt + 6 ≤ L ∧ L ≤ 3072) (S : lS9 sa TL b a o u Lx t κ σ J cs ss) (hR : RJ σ) (ht : RC8 κ a σ) (N : nx9 sa TL b a o u scr L xs RJ Lx t n i) : dV9 (dEE sa TL) dXX dKK b scr L xs lawP9 (n + 21) 16 rLaw 850 lo [] (zH (lB9 sa TL b o u σ J) κ) cs ss := by
  obtain ⟨W, T, ⟨ρ, I⟩, _⟩ := id S
  have oU := oU_9 S
  refine lwP_9 (pc' := 851) dlw_850 rfl (lda_9 (k := 1) hl.2.1) ?_
  refine lwP_9 (pc' := 852) dlw_851 rfl (lda_9 (k := 3) hl.2.2.2.1) ?_
  obtain ⟨n8, z8, v9, r8, rv, w8, k8⟩ := lcp_9 (Lx' := Lx) S (wM_best9 (L := Lx) W T I σ ht oU.1 oU.2.1 oU.2.2.1 oU.2.2.2) (fun v C' κ' h => ⟨h.1.1, h.1.2.1⟩)
  refine lw_k9 (d := 15) (y := (kL_best, _, [])) dlw_852 rfl rfl rfl rfl rfl r8 w8 (show 852 + 3 = 855 from rfl) (st' := [.int v9]) (by rw [rv]; rfl) (fun w hw => ?_)
  obtain ⟨κ1, J2, ⟨P2, PR⟩, e8, S2⟩ := k8 w hw
  obtain ⟨κ2, hκ2⟩ : ∃ κ2, κ2 = stn9 κ1 w := ⟨_, rfl⟩
  have P2 : (∃ ρ', chI9 ρ' κ1 a Lx) ∧ (∃ F, zF F κ κ1) ∧ BB9 κ κ2 a σ := by rw [hκ2]; exact P2
  rw [e8, ← hκ2]
  rw [← hκ2] at S2
  refine lwP_9 (pc' := 857) (lo' := dset1 lo 5 (.int v9)) (st' := []) dlw_855 rfl rfl ?_
  have hl1 : lO9 scr a o u i (dset1 lo 5 (.int v9)) := lO_19 (by decide) hl (fun w9 z9 => by rw [hl.2.2.2.2] at z9; cases z9; rfl)
  refine lwP_9 (pc' := 858) dlw_857 rfl (lda_9 (k := 2) hl1.2.2.1) ?_
  refine li_9 (m := (yX13_best, cX13_best, 4, (some .int), false, 16, 0)) (as := []) (Q := fun σ v σ' => RJ σ' ∧ pT8 σ σ' ∧ XB8 σ σ' v) (j := 402) (pc' := 861) S2 hR dlw_858 (by decide +kernel) rfl ⟨rfl, by decide, rfl⟩ rfl (RA) rfl (Nat.le_of_ble_eq_true rfl) rfl (fun v2 σ2 q9 => ?_)
  have q1 := q9.1
  have q2 := q9.2
  refine lwP_9 (pc' := 863) (lo' := dset1 (dset1 lo 5 (.int v9)) 6 (.int v2)) (st' := []) dlw_861 rfl rfl ?_
  have AN := ca_w (v2 := v2) PR (oU_9 S2).2.2.2 (xx_w (XO_8 q2.2))
  have S3 := lr_9 (σ' := σ2) S2
  exact lt_best9 (lo2 := dset1 (dset1 lo 5 (.int v9)) 6 (.int v2)) RT (lO_19 (by decide) hl1 (fun w9 z9 => by rw [hl1.2.2.2.2] at z9; cases z9; rfl)) (ds_9 (by decide) (if_pos rfl) rfl) (if_pos rfl) S3 q1 AN (N _ _ _ _ _ _ (lO_19 (by decide) hl1 (fun w9 z9 => by rw [hl1.2.2.2.2] at z9; cases z9; rfl)) (lS_m9 (by omega) (Nat.le_refl _) (lr_9 (σ' := σ2) S2)) q1 (rb_8 ht q2.1 q2.2 P2.2.2))
theorem lt_solve9 {v9 : Int32} {v2 : Int32} {σ2 : rS} {κ2 : zS} {J2 : Nat → Int64} {t2 c2 s2 : Nat} {L2 : Int} {lo2 : dL0} (RT : rcW9 (yX13_thrown, cX13_thrown, 1, (some .int), false, 16, 0)) (hl2 : lO9 scr a o u i lo2) (l5 : lo2 5 = some (.int v9)) (l6 : lo2 6 = some (.int v2)) (S3 : lS9 sa TL b a o u L2 t2 κ2 σ2 J2 c2 s2) (q1 : RJ σ2) (AN : σ2.1 0 = v9 ∧ (v9 = 0 → J2 0 = v2.toInt64)) (K : dV9 (dEE sa TL) dXX dKK b scr L xs lawP9 n 16 rLaw 1572 lo2 [] (zH (lB9 sa TL b o u σ2 J2) κ2) c2 s2) : dV9 (dEE sa TL) dXX dKK b scr L xs lawP9 (n + 14) 16 rLaw 907 lo2 [] (zH (lB9 sa TL b o u σ2 J2) κ2) c2 s2 := by
  have oU2 := oU_9 S3
  refine lwP_9 (pc' := 908) dlw_907 rfl (lda_9 (k := 2) hl2.2.2.1) ?_
  refine li_9 (m := (yX13_thrown, cX13_thrown, 1, (some .int), false, 16, 0)) (as := []) (Q := fun σ v σ' => σ' = σ ∧ v = σ.1 0) (j := 430) (pc' := 911) S3 q1 dlw_908 (by decide +kernel) rfl ⟨rfl, by decide, rfl⟩ rfl (fun C σ hC _ => RT C σ hC) rfl (Nat.le_of_ble_eq_true rfl) rfl (fun v3 σ3 q3 => ?_)
  obtain ⟨e3, ev3⟩ := q3
  rw [e3]
  refine lwP_9 (pc' := 913) dlw_911 rfl (ldi_9 l5) ?_
  have ev : v3 = v9 := ev3.trans AN.1
  rw [ev]
  refine lwP_9 (pc' := 918) (lo' := lo2) (st' := []) dlw_913 rfl (ic_e9 rfl) ?_
  refine lwP_9 (pc' := 920) dlw_918 rfl (ldi_9 l5) ?_
  by_cases z : v9 = 0
  · have eJ := AN.2 z
    refine lwP_9 (pc' := 923) (lo' := lo2) (st' := []) dlw_920 rfl (by rw [z]; exact in_09 (t := 935) rfl) ?_
    refine lwP_9 (pc' := 924) dlw_923 rfl (lda_9 (k := 3) hl2.2.2.2.1) ?_
    refine lwP_9 (pc' := 925) (lo' := lo2) (st' := [.int 0, .ref u]) dlw_924 rfl (by rw [← zi_0]; rfl) ?_
    refine lw_h9 (pc' := 926) (st' := [.long (J2 0)]) dlw_925 rfl rfl rfl (lal_9 (zH_u9 oU2.2.1 oU2.2.2.2)) ?_
    refine lwP_9 (pc' := 928) dlw_926 rfl (ldi_9 l6) ?_
    refine lwP_9 (pc' := 929) (lo' := lo2) (st' := [.long v2.toInt64, .long (J2 0)]) dlw_928 rfl rfl ?_
    refine lwP_9 (pc' := 930) (lo' := lo2) (st' := [.int 0]) dlw_929 rfl (lc_e9 (eJ)) ?_
    refine lwP_9 (pc' := 935) (lo' := lo2) (st' := []) dlw_930 rfl (ie_09 rfl) ?_
    refine lwP_9 (pc' := 1572) (lo' := lo2) (st' := []) dlw_935 rfl rfl ?_
    exact K
  · refine dV_l9 (n := n + 2) (by omega) ?_
    refine lwP_9 (pc' := 935) (lo' := lo2) (st' := []) dlw_920 rfl (in_w9 z rfl) ?_
    refine lwP_9 (pc' := 1572) (lo' := lo2) (st' := []) dlw_935 rfl rfl ?_
    exact K
theorem ls_solve9 (RJ3 : ∀ σ, RJ σ → pb16 σ) (RA : rcS9 RJ (yX13_solve, cX13_solve, 4, (some .int), false, 16, 0)) (RT : rcW9 (yX13_thrown, cX13_thrown, 1, (some .int), false, 16, 0)) (hl : lO9 scr a o u i lo) (hi : 0 ≤ i.toInt ∧ i.toInt + 6 ≤ L ∧ L ≤ 3072) (S : lS9 sa TL b a o u Lx t κ σ J cs ss) (hR : RJ σ) (ht : RC8 κ a σ) (N : nx9 sa TL b a o u scr L xs RJ Lx t n i) : dV9 (dEE sa TL) dXX dKK b scr L xs lawP9 (n + 21) 16 rLaw 894 lo [] (zH (lB9 sa TL b o u σ J) κ) cs ss := by
  obtain ⟨W, T, ⟨ρ, I⟩, _⟩ := id S
  have oU := oU_9 S
  refine lwP_9 (pc' := 895) dlw_894 rfl (lda_9 (k := 1) hl.2.1) ?_
  refine lwP_9 (pc' := 896) dlw_895 rfl (lda_9 (k := 3) hl.2.2.2.1) ?_
  obtain ⟨n8, z8, v9, r8, rv, w8, k8⟩ := lcp_9 (Lx' := Lx) S (wM_solve9 (L := Lx) W T I σ ht (RJ3 σ hR).1 oU.1 oU.2.1 oU.2.2.1 oU.2.2.2) (fun v C' κ' h => ⟨h.1.1, h.1.2.1⟩)
  refine lw_k9 (d := 15) (y := (kL_solve, _, [])) dlw_896 rfl rfl rfl rfl rfl r8 w8 (show 896 + 3 = 899 from rfl) (st' := [.int v9]) (by rw [rv]; rfl) (fun w hw => ?_)
  obtain ⟨κ1, J2, ⟨P2, PR⟩, e8, S2⟩ := k8 w hw
  obtain ⟨κ2, hκ2⟩ : ∃ κ2, κ2 = stn9 κ1 w := ⟨_, rfl⟩
  have P2 : (∃ ρ', chI9 ρ' κ1 a Lx) ∧ (∃ F, zF F κ κ1) ∧ pA8 κ κ2 a ∧ CV16 κ κ2 a σ := by rw [hκ2]; exact P2
  rw [e8, ← hκ2]
  rw [← hκ2] at S2
  refine lwP_9 (pc' := 901) (lo' := dset1 lo 5 (.int v9)) (st' := []) dlw_899 rfl rfl ?_
  have hl1 : lO9 scr a o u i (dset1 lo 5 (.int v9)) := lO_19 (by decide) hl (fun w9 z9 => by rw [hl.2.2.2.2] at z9; cases z9; rfl)
  refine lwP_9 (pc' := 902) dlw_901 rfl (lda_9 (k := 2) hl1.2.2.1) ?_
  refine li_9 (m := (yX13_solve, cX13_solve, 4, (some .int), false, 16, 0)) (as := []) (Q := fun σ v σ' => RJ σ' ∧ pV16 σ σ' v) (j := 374) (pc' := 905) S2 hR dlw_902 (by decide +kernel) rfl ⟨rfl, by decide, rfl⟩ rfl (RA) rfl (Nat.le_of_ble_eq_true rfl) rfl (fun v2 σ2 q9 => ?_)
  have q1 := q9.1
  have q2 := q9.2
  refine lwP_9 (pc' := 907) (lo' := dset1 (dset1 lo 5 (.int v9)) 6 (.int v2)) (st' := []) dlw_905 rfl rfl ?_
  have AN := ca_w (v2 := v2) PR (oU_9 S2).2.2.2 (xx_w (XQ_15 (RJ3 σ hR).1 q2.2.1))
  have S3 := lr_9 (σ' := σ2) S2
  exact lt_solve9 (lo2 := dset1 (dset1 lo 5 (.int v9)) 6 (.int v2)) RT (lO_19 (by decide) hl1 (fun w9 z9 => by rw [hl1.2.2.2.2] at z9; cases z9; rfl)) (ds_9 (by decide) (if_pos rfl) rfl) (if_pos rfl) S3 q1 AN (N _ _ _ _ _ _ (lO_19 (by decide) hl1 (fun w9 z9 => by rw [hl1.2.2.2.2] at z9; cases z9; rfl)) (lS_m9 (by omega) (Nat.le_refl _) (lr_9 (σ' := σ2) S2)) q1 (rv_16 ht (RJ3 σ hR).1 q2 P2.2.2))
theorem lt_show9 {v9 : Int32} {v2 : Int32} {σ2 : rS} {κ2 : zS} {J2 : Nat → Int64} {t2 c2 s2 : Nat} {L2 : Int} {lo2 : dL0} (RT : rcW9 (yX13_thrown, cX13_thrown, 1, (some .int), false, 16, 0)) (hl2 : lO9 scr a o u i lo2) (l5 : lo2 5 = some (.int v9)) (l6 : lo2 6 = some (.int v2)) (S3 : lS9 sa TL b a o u L2 t2 κ2 σ2 J2 c2 s2) (q1 : RJ σ2) (AN : σ2.1 0 = v9 ∧ (v9 = 0 → J2 0 = v2.toInt64)) (K : dV9 (dEE sa TL) dXX dKK b scr L xs lawP9 n 16 rLaw 1572 lo2 [] (zH (lB9 sa TL b o u σ2 J2) κ2) c2 s2) : dV9 (dEE sa TL) dXX dKK b scr L xs lawP9 (n + 14) 16 rLaw 975 lo2 [] (zH (lB9 sa TL b o u σ2 J2) κ2) c2 s2 := by
  have oU2 := oU_9 S3
  refine lwP_9 (pc' := 976) dlw_975 rfl (lda_9 (k := 2) hl2.2.2.1) ?_
  refine li_9 (m := (yX13_thrown, cX13_thrown, 1, (some .int), false, 16, 0)) (as := []) (Q := fun σ v σ' => σ' = σ ∧ v = σ.1 0) (j := 430) (pc' := 979) S3 q1 dlw_976 (by decide +kernel) rfl ⟨rfl, by decide, rfl⟩ rfl (fun C σ hC _ => RT C σ hC) rfl (Nat.le_of_ble_eq_true rfl) rfl (fun v3 σ3 q3 => ?_)
  obtain ⟨e3, ev3⟩ := q3
  rw [e3]
  refine lwP_9 (pc' := 981) dlw_979 rfl (ldi_9 l5) ?_
  have ev : v3 = v9 := ev3.trans AN.1
  rw [ev]
  refine lwP_9 (pc' := 986) (lo' := lo2) (st' := []) dlw_981 rfl (ic_e9 rfl) ?_
  refine lwP_9 (pc' := 988) dlw_986 rfl (ldi_9 l5) ?_
  by_cases z : v9 = 0
  · have eJ := AN.2 z
    refine lwP_9 (pc' := 991) (lo' := lo2) (st' := []) dlw_988 rfl (by rw [z]; exact in_09 (t := 1003) rfl) ?_
    refine lwP_9 (pc' := 992) dlw_991 rfl (lda_9 (k := 3) hl2.2.2.2.1) ?_
    refine lwP_9 (pc' := 993) (lo' := lo2) (st' := [.int 0, .ref u]) dlw_992 rfl (by rw [← zi_0]; rfl) ?_
    refine lw_h9 (pc' := 994) (st' := [.long (J2 0)]) dlw_993 rfl rfl rfl (lal_9 (zH_u9 oU2.2.1 oU2.2.2.2)) ?_
    refine lwP_9 (pc' := 996) dlw_994 rfl (ldi_9 l6) ?_
    refine lwP_9 (pc' := 997) (lo' := lo2) (st' := [.long v2.toInt64, .long (J2 0)]) dlw_996 rfl rfl ?_
    refine lwP_9 (pc' := 998) (lo' := lo2) (st' := [.int 0]) dlw_997 rfl (lc_e9 (eJ)) ?_
    refine lwP_9 (pc' := 1003) (lo' := lo2) (st' := []) dlw_998 rfl (ie_09 rfl) ?_
    refine lwP_9 (pc' := 1572) (lo' := lo2) (st' := []) dlw_1003 rfl rfl ?_
    exact K
  · refine dV_l9 (n := n + 2) (by omega) ?_
    refine lwP_9 (pc' := 1003) (lo' := lo2) (st' := []) dlw_988 rfl (in_w9 z rfl) ?_
    refine lwP_9 (pc' := 1572) (lo' := lo2) (st' := []) dlw_1003 rfl rfl ?_
    exact K
theorem ls_show9 (RJ3 : ∀ σ, RJ σ → pb16 σ) (RA : ∀ (y0 : Int32) (y1 : Int32), rcH9 RJ (yX13_show, cX13_show, 3, (some .int), false, 16, 2) y0 y1) (RT : rcW9 (yX13_thrown, cX13_thrown, 1, (some .int), false, 16, 0)) (hl : lO9 scr a o u i lo) (hi : 0 ≤ i.toInt ∧ i.toInt + 6 ≤ L ∧ L ≤ 3072) (S : lS9 sa TL b a o u Lx t κ σ J cs ss) (hR : RJ σ) (ht : RC8 κ a σ) (N : nx9 sa TL b a o u scr L xs RJ Lx t n i) : dV9 (dEE sa TL) dXX dKK b scr L xs lawP9 (n + 41) 16 rLaw 938 lo [] (zH (lB9 sa TL b o u σ J) κ) cs ss := by
  obtain ⟨W, T, ⟨ρ, I⟩, _⟩ := id S
  have oU := oU_9 S
  refine lwP_9 (pc' := 939) dlw_938 rfl (lda_9 (k := 1) hl.2.1) ?_
  refine la_9 (jj := 1) (j := 1) (pc6 := 945) dlw_939 dlw_940 dlw_942 dlw_943 dlw_944 ⟨rfl, rfl, rfl, rfl, rfl⟩ zi_1 hl ⟨by decide, hi.1, hi.2.1, hi.2.2⟩ ?_
  refine la_9 (jj := 2) (j := 2) (pc6 := 951) dlw_945 dlw_946 dlw_948 dlw_949 dlw_950 ⟨rfl, rfl, rfl, rfl, rfl⟩ zi_2 hl ⟨by decide, hi.1, hi.2.1, hi.2.2⟩ ?_
  refine lwP_9 (pc' := 952) dlw_951 rfl (lda_9 (k := 3) hl.2.2.2.1) ?_
  obtain ⟨n8, z8, v9, r8, rv, w8, k8⟩ := lcp_9 (Lx' := Lx) S (wM_show9 (L := Lx) W T I σ ht (RJ3 σ hR).1 oU.1 oU.2.1 oU.2.2.1 oU.2.2.2) (fun v C' κ' h => ⟨h.1.1, h.1.2.1⟩)
  refine lw_k9 (d := 15) (y := (kL_show, _, [])) dlw_952 rfl rfl rfl rfl rfl r8 w8 (show 952 + 3 = 955 from rfl) (st' := [.int v9]) (by rw [rv]; rfl) (fun w hw => ?_)
  obtain ⟨κ1, J2, ⟨P2, PR⟩, e8, S2⟩ := k8 w hw
  obtain ⟨κ2, hκ2⟩ : ∃ κ2, κ2 = stn9 κ1 w := ⟨_, rfl⟩
  have P2 : (∃ ρ', chI9 ρ' κ1 a Lx) ∧ (∃ F, zF F κ κ1) ∧ pA8 κ κ2 a ∧ HS16 κ κ2 a σ (xs (i + 1).toNatClampNeg) (xs (i + 2).toNatClampNeg) := by rw [hκ2]; exact P2
  rw [e8, ← hκ2]
  rw [← hκ2] at S2
  refine lwP_9 (pc' := 957) (lo' := dset1 lo 5 (.int v9)) (st' := []) dlw_955 rfl rfl ?_
  have hl1 : lO9 scr a o u i (dset1 lo 5 (.int v9)) := lO_19 (by decide) hl (fun w9 z9 => by rw [hl.2.2.2.2] at z9; cases z9; rfl)
  refine lwP_9 (pc' := 958) dlw_957 rfl (lda_9 (k := 2) hl1.2.2.1) ?_
  refine la_9 (jj := 1) (j := 1) (pc6 := 964) dlw_958 dlw_959 dlw_961 dlw_962 dlw_963 ⟨rfl, rfl, rfl, rfl, rfl⟩ zi_1 hl1 ⟨by decide, hi.1, hi.2.1, hi.2.2⟩ ?_
  refine la_9 (jj := 2) (j := 2) (pc6 := 970) dlw_964 dlw_965 dlw_967 dlw_968 dlw_969 ⟨rfl, rfl, rfl, rfl, rfl⟩ zi_2 hl1 ⟨by decide, hi.1, hi.2.1, hi.2.2⟩ ?_
  refine li_9 (m := (yX13_show, cX13_show, 3, (some .int), false, 16, 2)) (as := [.int (xs (i + 1).toNatClampNeg), .int (xs (i + 2).toNatClampNeg)]) (Q := fun σ v σ' => RJ σ' ∧ pH16 (xs (i + 1).toNatClampNeg) (xs (i + 2).toNatClampNeg) σ σ' v) (j := 383) (pc' := 973) S2 hR dlw_970 (by decide +kernel) rfl ⟨rfl, by decide, rfl⟩ rfl (RA _ _) rfl (Nat.le_of_ble_eq_true rfl) rfl (fun v2 σ2 q9 => ?_)
  have q1 := q9.1
  have q2 := q9.2
  refine lwP_9 (pc' := 975) (lo' := dset1 (dset1 lo 5 (.int v9)) 6 (.int v2)) (st' := []) dlw_973 rfl rfl ?_
  have AN := ca_w (v2 := v2) PR (oU_9 S2).2.2.2 (xc_w (xh_16 q2))
  have S3 := lr_9 (σ' := σ2) S2
  exact lt_show9 (lo2 := dset1 (dset1 lo 5 (.int v9)) 6 (.int v2)) RT (lO_19 (by decide) hl1 (fun w9 z9 => by rw [hl1.2.2.2.2] at z9; cases z9; rfl)) (ds_9 (by decide) (if_pos rfl) rfl) (if_pos rfl) S3 q1 AN (N _ _ _ _ _ _ (lO_19 (by decide) hl1 (fun w9 z9 => by rw [hl1.2.2.2.2] at z9; cases z9; rfl)) (lS_m9 (by omega) (Nat.le_refl _) (lr_9 (σ' := σ2) S2)) q1 (rh_16 ht q2 P2.2.2))
theorem lt_size9 {v9 : Int32} {v2 : Int32} {σ2 : rS} {κ2 : zS} {J2 : Nat → Int64} {t2 c2 s2 : Nat} {L2 : Int} {lo2 : dL0} (RT : rcW9 (yX13_thrown, cX13_thrown, 1, (some .int), false, 16, 0)) (hl2 : lO9 scr a o u i lo2) (l5 : lo2 5 = some (.int v9)) (l6 : lo2 6 = some (.int v2)) (S3 : lS9 sa TL b a o u L2 t2 κ2 σ2 J2 c2 s2) (q1 : RJ σ2) (AN : σ2.1 0 = v9 ∧ (v9 = 0 → J2 0 = v2.toInt64)) (K : dV9 (dEE sa TL) dXX dKK b scr L xs lawP9 n 16 rLaw 1572 lo2 [] (zH (lB9 sa TL b o u σ2 J2) κ2) c2 s2) : dV9 (dEE sa TL) dXX dKK b scr L xs lawP9 (n + 14) 16 rLaw 1031 lo2 [] (zH (lB9 sa TL b o u σ2 J2) κ2) c2 s2 := by
  have oU2 := oU_9 S3
  refine lwP_9 (pc' := 1032) dlw_1031 rfl (lda_9 (k := 2) hl2.2.2.1) ?_
  refine li_9 (m := (yX13_thrown, cX13_thrown, 1, (some .int), false, 16, 0)) (as := []) (Q := fun σ v σ' => σ' = σ ∧ v = σ.1 0) (j := 430) (pc' := 1035) S3 q1 dlw_1032 (by decide +kernel) rfl ⟨rfl, by decide, rfl⟩ rfl (fun C σ hC _ => RT C σ hC) rfl (Nat.le_of_ble_eq_true rfl) rfl (fun v3 σ3 q3 => ?_)
  obtain ⟨e3, ev3⟩ := q3
  rw [e3]
  refine lwP_9 (pc' := 1037) dlw_1035 rfl (ldi_9 l5) ?_
  have ev : v3 = v9 := ev3.trans AN.1
  rw [ev]
  refine lwP_9 (pc' := 1042) (lo' := lo2) (st' := []) dlw_1037 rfl (ic_e9 rfl) ?_
  refine lwP_9 (pc' := 1044) dlw_1042 rfl (ldi_9 l5) ?_
  by_cases z : v9 = 0
  · have eJ := AN.2 z
    refine lwP_9 (pc' := 1047) (lo' := lo2) (st' := []) dlw_1044 rfl (by rw [z]; exact in_09 (t := 1059) rfl) ?_
    refine lwP_9 (pc' := 1048) dlw_1047 rfl (lda_9 (k := 3) hl2.2.2.2.1) ?_
    refine lwP_9 (pc' := 1049) (lo' := lo2) (st' := [.int 0, .ref u]) dlw_1048 rfl (by rw [← zi_0]; rfl) ?_
    refine lw_h9 (pc' := 1050) (st' := [.long (J2 0)]) dlw_1049 rfl rfl rfl (lal_9 (zH_u9 oU2.2.1 oU2.2.2.2)) ?_
    refine lwP_9 (pc' := 1052) dlw_1050 rfl (ldi_9 l6) ?_
    refine lwP_9 (pc' := 1053) (lo' := lo2) (st' := [.long v2.toInt64, .long (J2 0)]) dlw_1052 rfl rfl ?_
    refine lwP_9 (pc' := 1054) (lo' := lo2) (st' := [.int 0]) dlw_1053 rfl (lc_e9 (eJ)) ?_
    refine lwP_9 (pc' := 1059) (lo' := lo2) (st' := []) dlw_1054 rfl (ie_09 rfl) ?_
    refine lwP_9 (pc' := 1572) (lo' := lo2) (st' := []) dlw_1059 rfl rfl ?_
    exact K
  · refine dV_l9 (n := n + 2) (by omega) ?_
    refine lwP_9 (pc' := 1059) (lo' := lo2) (st' := []) dlw_1044 rfl (in_w9 z rfl) ?_
    refine lwP_9 (pc' := 1572) (lo' := lo2) (st' := []) dlw_1059 rfl rfl ?_
    exact K
theorem ls_size9 (RA : ∀ (y0 : Int32), rcZ9 RJ (yX13_size, cX13_size, 2, (some .int), false, 16, 1) [.int y0] (fun σ σ' v => XZ17 y0 σ σ' v)) (RT : rcW9 (yX13_thrown, cX13_thrown, 1, (some .int), false, 16, 0)) (hl : lO9 scr a o u i lo) (hi : 0 ≤ i.toInt ∧ i.toInt + 6 ≤ L ∧ L ≤ 3072) (S : lS9 sa TL b a o u Lx t κ σ J cs ss) (hR : RJ σ) (ht : RC8 κ a σ) (N : nx9 sa TL b a o u scr L xs RJ Lx t n i) : dV9 (dEE sa TL) dXX dKK b scr L xs lawP9 (n + 31) 16 rLaw 1006 lo [] (zH (lB9 sa TL b o u σ J) κ) cs ss := by
  obtain ⟨W, T, ⟨ρ, I⟩, _⟩ := id S
  have oU := oU_9 S
  refine lwP_9 (pc' := 1007) dlw_1006 rfl (lda_9 (k := 1) hl.2.1) ?_
  refine la_9 (jj := 1) (j := 1) (pc6 := 1013) dlw_1007 dlw_1008 dlw_1010 dlw_1011 dlw_1012 ⟨rfl, rfl, rfl, rfl, rfl⟩ zi_1 hl ⟨by decide, hi.1, hi.2.1, hi.2.2⟩ ?_
  refine lwP_9 (pc' := 1014) dlw_1013 rfl (lda_9 (k := 3) hl.2.2.2.1) ?_
  obtain ⟨n8, z8, v9, r8, rv, w8, k8⟩ := lcp_9 (Lx' := Lx) S (wM_size9 (L := Lx) W T I σ ht oU.1 oU.2.1 oU.2.2.1 oU.2.2.2) (fun v C' κ' h => ⟨h.1.1, h.1.2.1⟩)
  refine lw_k9 (d := 15) (y := (kL_size, _, [])) dlw_1014 rfl rfl rfl rfl rfl r8 w8 (show 1014 + 3 = 1017 from rfl) (st' := [.int v9]) (by rw [rv]; rfl) (fun w hw => ?_)
  obtain ⟨κ1, J2, ⟨P2, PR⟩, e8, S2⟩ := k8 w hw
  obtain ⟨κ2, hκ2⟩ : ∃ κ2, κ2 = stn9 κ1 w := ⟨_, rfl⟩
  have P2 : (∃ ρ', chI9 ρ' κ1 a Lx) ∧ (∃ F, zF F κ κ1) ∧ pC8 κ κ2 a := by rw [hκ2]; exact P2
  rw [e8, ← hκ2]
  rw [← hκ2] at S2
  refine lwP_9 (pc' := 1019) (lo' := dset1 lo 5 (.int v9)) (st' := []) dlw_1017 rfl rfl ?_
  have hl1 : lO9 scr a o u i (dset1 lo 5 (.int v9)) := lO_19 (by decide) hl (fun w9 z9 => by rw [hl.2.2.2.2] at z9; cases z9; rfl)
  refine lwP_9 (pc' := 1020) dlw_1019 rfl (lda_9 (k := 2) hl1.2.2.1) ?_
  refine la_9 (jj := 1) (j := 1) (pc6 := 1026) dlw_1020 dlw_1021 dlw_1023 dlw_1024 dlw_1025 ⟨rfl, rfl, rfl, rfl, rfl⟩ zi_1 hl1 ⟨by decide, hi.1, hi.2.1, hi.2.2⟩ ?_
  refine li_9 (m := (yX13_size, cX13_size, 2, (some .int), false, 16, 1)) (as := [.int (xs (i + 1).toNatClampNeg)]) (Q := fun σ v σ' => RJ σ' ∧ pR8 σ σ' ∧ XZ17 (xs (i + 1).toNatClampNeg) σ σ' v) (j := 385) (pc' := 1029) S2 hR dlw_1026 (by decide +kernel) rfl ⟨rfl, by decide, rfl⟩ rfl (RA _) rfl (Nat.le_of_ble_eq_true rfl) rfl (fun v2 σ2 q9 => ?_)
  have q1 := q9.1
  have q2 := q9.2.1
  have q3 := q9.2.2
  refine lwP_9 (pc' := 1031) (lo' := dset1 (dset1 lo 5 (.int v9)) 6 (.int v2)) (st' := []) dlw_1029 rfl rfl ?_
  have AN := ca_w (v2 := v2) PR (oU_9 S2).2.2.2 (xx_w q3)
  have S3 := lr_9 (σ' := σ2) S2
  exact lt_size9 (lo2 := dset1 (dset1 lo 5 (.int v9)) 6 (.int v2)) RT (lO_19 (by decide) hl1 (fun w9 z9 => by rw [hl1.2.2.2.2] at z9; cases z9; rfl)) (ds_9 (by decide) (if_pos rfl) rfl) (if_pos rfl) S3 q1 AN (N _ _ _ _ _ _ (lO_19 (by decide) hl1 (fun w9 z9 => by rw [hl1.2.2.2.2] at z9; cases z9; rfl)) (lS_m9 (by omega) (Nat.le_refl _) (lr_9 (σ' := σ2) S2)) q1 (re_8 q2 ht P2.2.2))
theorem lt_limb9 {v9 : Int32} {v2 : Int32} {σ2 : rS} {κ2 : zS} {J2 : Nat → Int64} {t2 c2 s2 : Nat} {L2 : Int} {lo2 : dL0} (RT : rcW9 (yX13_thrown, cX13_thrown, 1, (some .int), false, 16, 0)) (hl2 : lO9 scr a o u i lo2) (l5 : lo2 5 = some (.int v9)) (l6 : lo2 6 = some (.int v2)) (S3 : lS9 sa TL b a o u L2 t2 κ2 σ2 J2 c2 s2) (q1 : RJ σ2) (AN : σ2.1 0 = v9 ∧ (v9 = 0 → J2 0 = v2.toInt64)) (K : dV9 (dEE sa TL) dXX dKK b scr L xs lawP9 n 16 rLaw 1572 lo2 [] (zH (lB9 sa TL b o u σ2 J2) κ2) c2 s2) : dV9 (dEE sa TL) dXX dKK b scr L xs lawP9 (n + 14) 16 rLaw 1099 lo2 [] (zH (lB9 sa TL b o u σ2 J2) κ2) c2 s2 := by
  have oU2 := oU_9 S3
  refine lwP_9 (pc' := 1100) dlw_1099 rfl (lda_9 (k := 2) hl2.2.2.1) ?_
  refine li_9 (m := (yX13_thrown, cX13_thrown, 1, (some .int), false, 16, 0)) (as := []) (Q := fun σ v σ' => σ' = σ ∧ v = σ.1 0) (j := 430) (pc' := 1103) S3 q1 dlw_1100 (by decide +kernel) rfl ⟨rfl, by decide, rfl⟩ rfl (fun C σ hC _ => RT C σ hC) rfl (Nat.le_of_ble_eq_true rfl) rfl (fun v3 σ3 q3 => ?_)
  obtain ⟨e3, ev3⟩ := q3
  rw [e3]
  refine lwP_9 (pc' := 1105) dlw_1103 rfl (ldi_9 l5) ?_
  have ev : v3 = v9 := ev3.trans AN.1
  rw [ev]
  refine lwP_9 (pc' := 1110) (lo' := lo2) (st' := []) dlw_1105 rfl (ic_e9 rfl) ?_
  refine lwP_9 (pc' := 1112) dlw_1110 rfl (ldi_9 l5) ?_
  by_cases z : v9 = 0
  · have eJ := AN.2 z
    refine lwP_9 (pc' := 1115) (lo' := lo2) (st' := []) dlw_1112 rfl (by rw [z]; exact in_09 (t := 1127) rfl) ?_
    refine lwP_9 (pc' := 1116) dlw_1115 rfl (lda_9 (k := 3) hl2.2.2.2.1) ?_
    refine lwP_9 (pc' := 1117) (lo' := lo2) (st' := [.int 0, .ref u]) dlw_1116 rfl (by rw [← zi_0]; rfl) ?_
    refine lw_h9 (pc' := 1118) (st' := [.long (J2 0)]) dlw_1117 rfl rfl rfl (lal_9 (zH_u9 oU2.2.1 oU2.2.2.2)) ?_
    refine lwP_9 (pc' := 1120) dlw_1118 rfl (ldi_9 l6) ?_
    refine lwP_9 (pc' := 1121) (lo' := lo2) (st' := [.long v2.toInt64, .long (J2 0)]) dlw_1120 rfl rfl ?_
    refine lwP_9 (pc' := 1122) (lo' := lo2) (st' := [.int 0]) dlw_1121 rfl (lc_e9 (eJ)) ?_
    refine lwP_9 (pc' := 1127) (lo' := lo2) (st' := []) dlw_1122 rfl (ie_09 rfl) ?_
    refine lwP_9 (pc' := 1572) (lo' := lo2) (st' := []) dlw_1127 rfl rfl ?_
    exact K
  · refine dV_l9 (n := n + 2) (by omega) ?_
    refine lwP_9 (pc' := 1127) (lo' := lo2) (st' := []) dlw_1112 rfl (in_w9 z rfl) ?_
    refine lwP_9 (pc' := 1572) (lo' := lo2) (st' := []) dlw_1127 rfl rfl ?_
    exact K
theorem ls_limb9 (RA : ∀ (y0 : Int32) (y1 : Int32), rcZ9 RJ (yX13_limb, cX13_limb, 5, (some .int), false, 16, 2) [.int y0, .int y1] (fun σ σ' v => XL18 y0 y1 σ σ' v)) (RT : rcW9 (yX13_thrown, cX13_thrown, 1, (some .int), false, 16, 0)) (hl : lO9 scr a o u i lo) (hi : 0 ≤ i.toInt ∧ i.toInt + 6 ≤ L ∧ L ≤ 3072) (S : lS9 sa TL b a o u Lx t κ σ J cs ss) (hR : RJ σ) (ht : RC8 κ a σ) (N : nx9 sa TL b a o u scr L xs RJ Lx t n i) : dV9 (dEE sa TL) dXX dKK b scr L xs lawP9 (n + 41) 16 rLaw 1062 lo [] (zH (lB9 sa TL b o u σ J) κ) cs ss := by
  obtain ⟨W, T, ⟨ρ, I⟩, _⟩ := id S
  have oU := oU_9 S
  refine lwP_9 (pc' := 1063) dlw_1062 rfl (lda_9 (k := 1) hl.2.1) ?_
  refine la_9 (jj := 1) (j := 1) (pc6 := 1069) dlw_1063 dlw_1064 dlw_1066 dlw_1067 dlw_1068 ⟨rfl, rfl, rfl, rfl, rfl⟩ zi_1 hl ⟨by decide, hi.1, hi.2.1, hi.2.2⟩ ?_
  refine la_9 (jj := 2) (j := 2) (pc6 := 1075) dlw_1069 dlw_1070 dlw_1072 dlw_1073 dlw_1074 ⟨rfl, rfl, rfl, rfl, rfl⟩ zi_2 hl ⟨by decide, hi.1, hi.2.1, hi.2.2⟩ ?_
  refine lwP_9 (pc' := 1076) dlw_1075 rfl (lda_9 (k := 3) hl.2.2.2.1) ?_
  obtain ⟨n8, z8, v9, r8, rv, w8, k8⟩ := lcp_9 (Lx' := Lx) S (wM_limb9 (L := Lx) W T I σ ht oU.1 oU.2.1 oU.2.2.1 oU.2.2.2) (fun v C' κ' h => ⟨h.1.1, h.1.2.1⟩)
  refine lw_k9 (d := 15) (y := (kL_limb, _, [])) dlw_1076 rfl rfl rfl rfl rfl r8 w8 (show 1076 + 3 = 1079 from rfl) (st' := [.int v9]) (by rw [rv]; rfl) (fun w hw => ?_)
  obtain ⟨κ1, J2, ⟨P2, PR⟩, e8, S2⟩ := k8 w hw
  obtain ⟨κ2, hκ2⟩ : ∃ κ2, κ2 = stn9 κ1 w := ⟨_, rfl⟩
  have P2 : (∃ ρ', chI9 ρ' κ1 a Lx) ∧ (∃ F, zF F κ κ1) ∧ pC8 κ κ2 a := by rw [hκ2]; exact P2
  rw [e8, ← hκ2]
  rw [← hκ2] at S2
  refine lwP_9 (pc' := 1081) (lo' := dset1 lo 5 (.int v9)) (st' := []) dlw_1079 rfl rfl ?_
  have hl1 : lO9 scr a o u i (dset1 lo 5 (.int v9)) := lO_19 (by decide) hl (fun w9 z9 => by rw [hl.2.2.2.2] at z9; cases z9; rfl)
  refine lwP_9 (pc' := 1082) dlw_1081 rfl (lda_9 (k := 2) hl1.2.2.1) ?_
  refine la_9 (jj := 1) (j := 1) (pc6 := 1088) dlw_1082 dlw_1083 dlw_1085 dlw_1086 dlw_1087 ⟨rfl, rfl, rfl, rfl, rfl⟩ zi_1 hl1 ⟨by decide, hi.1, hi.2.1, hi.2.2⟩ ?_
  refine la_9 (jj := 2) (j := 2) (pc6 := 1094) dlw_1088 dlw_1089 dlw_1091 dlw_1092 dlw_1093 ⟨rfl, rfl, rfl, rfl, rfl⟩ zi_2 hl1 ⟨by decide, hi.1, hi.2.1, hi.2.2⟩ ?_
  refine li_9 (m := (yX13_limb, cX13_limb, 5, (some .int), false, 16, 2)) (as := [.int (xs (i + 1).toNatClampNeg), .int (xs (i + 2).toNatClampNeg)]) (Q := fun σ v σ' => RJ σ' ∧ pR8 σ σ' ∧ XL18 (xs (i + 1).toNatClampNeg) (xs (i + 2).toNatClampNeg) σ σ' v) (j := 386) (pc' := 1097) S2 hR dlw_1094 (by decide +kernel) rfl ⟨rfl, by decide, rfl⟩ rfl (RA _ _) rfl (Nat.le_of_ble_eq_true rfl) rfl (fun v2 σ2 q9 => ?_)
  have q1 := q9.1
  have q2 := q9.2.1
  have q3 := q9.2.2
  refine lwP_9 (pc' := 1099) (lo' := dset1 (dset1 lo 5 (.int v9)) 6 (.int v2)) (st' := []) dlw_1097 rfl rfl ?_
  have AN := ca_w (v2 := v2) PR (oU_9 S2).2.2.2 (xx_w q3)
  have S3 := lr_9 (σ' := σ2) S2
  exact lt_limb9 (lo2 := dset1 (dset1 lo 5 (.int v9)) 6 (.int v2)) RT (lO_19 (by decide) hl1 (fun w9 z9 => by rw [hl1.2.2.2.2] at z9; cases z9; rfl)) (ds_9 (by decide) (if_pos rfl) rfl) (if_pos rfl) S3 q1 AN (N _ _ _ _ _ _ (lO_19 (by decide) hl1 (fun w9 z9 => by rw [hl1.2.2.2.2] at z9; cases z9; rfl)) (lS_m9 (by omega) (Nat.le_refl _) (lr_9 (σ' := σ2) S2)) q1 (re_8 q2 ht P2.2.2))
theorem lt_tell9 {v9 : Int32} {v2 : Int32} {σ2 : rS} {κ2 : zS} {J2 : Nat → Int64} {t2 c2 s2 : Nat} {L2 : Int} {lo2 : dL0} (RT : rcW9 (yX13_thrown, cX13_thrown, 1, (some .int), false, 16, 0)) (hl2 : lO9 scr a o u i lo2) (l5 : lo2 5 = some (.int v9)) (l6 : lo2 6 = some (.int v2)) (S3 : lS9 sa TL b a o u L2 t2 κ2 σ2 J2 c2 s2) (q1 : RJ σ2) (AN : σ2.1 0 = v9 ∧ (v9 = 0 → J2 0 = v2.toInt64)) (K : dV9 (dEE sa TL) dXX dKK b scr L xs lawP9 n 16 rLaw 1572 lo2 [] (zH (lB9 sa TL b o u σ2 J2) κ2) c2 s2) : dV9 (dEE sa TL) dXX dKK b scr L xs lawP9 (n + 14) 16 rLaw 1155 lo2 [] (zH (lB9 sa TL b o u σ2 J2) κ2) c2 s2 := by
  have oU2 := oU_9 S3
  refine lwP_9 (pc' := 1156) dlw_1155 rfl (lda_9 (k := 2) hl2.2.2.1) ?_
  refine li_9 (m := (yX13_thrown, cX13_thrown, 1, (some .int), false, 16, 0)) (as := []) (Q := fun σ v σ' => σ' = σ ∧ v = σ.1 0) (j := 430) (pc' := 1159) S3 q1 dlw_1156 (by decide +kernel) rfl ⟨rfl, by decide, rfl⟩ rfl (fun C σ hC _ => RT C σ hC) rfl (Nat.le_of_ble_eq_true rfl) rfl (fun v3 σ3 q3 => ?_)
  obtain ⟨e3, ev3⟩ := q3
  rw [e3]
  refine lwP_9 (pc' := 1161) dlw_1159 rfl (ldi_9 l5) ?_
  have ev : v3 = v9 := ev3.trans AN.1
  rw [ev]
  refine lwP_9 (pc' := 1166) (lo' := lo2) (st' := []) dlw_1161 rfl (ic_e9 rfl) ?_
  refine lwP_9 (pc' := 1168) dlw_1166 rfl (ldi_9 l5) ?_
  by_cases z : v9 = 0
  · have eJ := AN.2 z
    refine lwP_9 (pc' := 1171) (lo' := lo2) (st' := []) dlw_1168 rfl (by rw [z]; exact in_09 (t := 1183) rfl) ?_
    refine lwP_9 (pc' := 1172) dlw_1171 rfl (lda_9 (k := 3) hl2.2.2.2.1) ?_
    refine lwP_9 (pc' := 1173) (lo' := lo2) (st' := [.int 0, .ref u]) dlw_1172 rfl (by rw [← zi_0]; rfl) ?_
    refine lw_h9 (pc' := 1174) (st' := [.long (J2 0)]) dlw_1173 rfl rfl rfl (lal_9 (zH_u9 oU2.2.1 oU2.2.2.2)) ?_
    refine lwP_9 (pc' := 1176) dlw_1174 rfl (ldi_9 l6) ?_
    refine lwP_9 (pc' := 1177) (lo' := lo2) (st' := [.long v2.toInt64, .long (J2 0)]) dlw_1176 rfl rfl ?_
    refine lwP_9 (pc' := 1178) (lo' := lo2) (st' := [.int 0]) dlw_1177 rfl (lc_e9 (eJ)) ?_
    refine lwP_9 (pc' := 1183) (lo' := lo2) (st' := []) dlw_1178 rfl (ie_09 rfl) ?_
    refine lwP_9 (pc' := 1572) (lo' := lo2) (st' := []) dlw_1183 rfl rfl ?_
    exact K
  · refine dV_l9 (n := n + 2) (by omega) ?_
    refine lwP_9 (pc' := 1183) (lo' := lo2) (st' := []) dlw_1168 rfl (in_w9 z rfl) ?_
    refine lwP_9 (pc' := 1572) (lo' := lo2) (st' := []) dlw_1183 rfl rfl ?_
    exact K
theorem ls_tell9 (RA : ∀ (y0 : Int32), rcT9 RJ (yX13_tell, cX13_tell, 2, (some .int), false, 16, 1) y0) (RT : rcW9 (yX13_thrown, cX13_thrown, 1, (some .int), false, 16, 0)) (hl : lO9 scr a o u i lo) (hi : 0 ≤ i.toInt ∧ i.toInt + 6 ≤ L ∧ L ≤ 3072) (S : lS9 sa TL b a o u Lx t κ σ J cs ss) (hR : RJ σ) (ht : RC8 κ a σ) (N : nx9 sa TL b a o u scr L xs RJ Lx t n i) : dV9 (dEE sa TL) dXX dKK b scr L xs lawP9 (n + 31) 16 rLaw 1130 lo [] (zH (lB9 sa TL b o u σ J) κ) cs ss := by
  obtain ⟨W, T, ⟨ρ, I⟩, _⟩ := id S
  have oU := oU_9 S
  refine lwP_9 (pc' := 1131) dlw_1130 rfl (lda_9 (k := 1) hl.2.1) ?_
  refine la_9 (jj := 1) (j := 1) (pc6 := 1137) dlw_1131 dlw_1132 dlw_1134 dlw_1135 dlw_1136 ⟨rfl, rfl, rfl, rfl, rfl⟩ zi_1 hl ⟨by decide, hi.1, hi.2.1, hi.2.2⟩ ?_
  refine lwP_9 (pc' := 1138) dlw_1137 rfl (lda_9 (k := 3) hl.2.2.2.1) ?_
  obtain ⟨n8, z8, v9, r8, rv, w8, k8⟩ := lcp_9 (Lx' := Lx) S (wM_tell9 (L := Lx) W T I oU.1 oU.2.1 oU.2.2.1 oU.2.2.2) (fun v C' κ' h => ⟨h.1.1, h.1.2.1⟩)
  refine lw_k9 (d := 15) (y := (kL_tell, _, [])) dlw_1138 rfl rfl rfl rfl rfl r8 w8 (show 1138 + 3 = 1141 from rfl) (st' := [.int v9]) (by rw [rv]; rfl) (fun w hw => ?_)
  obtain ⟨κ1, J2, ⟨P2, PR⟩, e8, S2⟩ := k8 w hw
  obtain ⟨κ2, hκ2⟩ : ∃ κ2, κ2 = stn9 κ1 w := ⟨_, rfl⟩
  have P2 : (∃ ρ', chI9 ρ' κ1 a Lx) ∧ (∃ F, zF F κ κ1) ∧ TL21 κ κ2 a (xs (i + 1).toNatClampNeg) := by rw [hκ2]; exact P2
  rw [e8, ← hκ2]
  rw [← hκ2] at S2
  refine lwP_9 (pc' := 1143) (lo' := dset1 lo 5 (.int v9)) (st' := []) dlw_1141 rfl rfl ?_
  have hl1 : lO9 scr a o u i (dset1 lo 5 (.int v9)) := lO_19 (by decide) hl (fun w9 z9 => by rw [hl.2.2.2.2] at z9; cases z9; rfl)
  refine lwP_9 (pc' := 1144) dlw_1143 rfl (lda_9 (k := 2) hl1.2.2.1) ?_
  refine la_9 (jj := 1) (j := 1) (pc6 := 1150) dlw_1144 dlw_1145 dlw_1147 dlw_1148 dlw_1149 ⟨rfl, rfl, rfl, rfl, rfl⟩ zi_1 hl1 ⟨by decide, hi.1, hi.2.1, hi.2.2⟩ ?_
  refine li_9 (m := (yX13_tell, cX13_tell, 2, (some .int), false, 16, 1)) (as := [.int (xs (i + 1).toNatClampNeg)]) (Q := fun σ v σ' => RJ σ' ∧ ((σ.1 104 = 200 → σ'.1 0 = 1) ∧ (σ.1 104 ≠ 200 → v = σ.1 104 + 1 ∧ σ'.1 0 = 0)) ∧ pL21 (xs (i + 1).toNatClampNeg) σ σ' ∧ kP23 σ σ' ∧ kN16 σ σ') (j := 387) (pc' := 1153) S2 hR dlw_1150 (by decide +kernel) rfl ⟨rfl, by decide, rfl⟩ rfl (RA _) rfl (Nat.le_of_ble_eq_true rfl) rfl (fun v2 σ2 q9 => ?_)
  have q1 := q9.1
  have q3 := q9.2.1
  have q2 := q9.2.2
  refine lwP_9 (pc' := 1155) (lo' := dset1 (dset1 lo 5 (.int v9)) 6 (.int v2)) (st' := []) dlw_1153 rfl rfl ?_
  have et : σ.1 104 = zI κ chTolds a := ht.2.2.2.2.1.1
  have hT : (zI κ chTolds a).toInt ≤ 200 := I.2.2.2.2.2.1.1.2.2
  have l200 : (200 : Int32).toInt = 200 := rfl
  rw [et] at q3
  have AN := ca_w (v2 := v2) PR (oU_9 S2).2.2.2 ⟨fun x h => (fun y => ⟨y.2, h.2.trans y.1.symm⟩) (q3.2 (fun z => by rw [z] at h; exact absurd h.1 (by decide))), fun c h => (q3.1 (Int32.toInt_inj.mp (by
    have y := h.2
    rw [lti, l200] at y
    rw [l200]
    omega))).trans h.1.symm⟩
  have S3 := lr_9 (σ' := σ2) S2
  exact lt_tell9 (lo2 := dset1 (dset1 lo 5 (.int v9)) 6 (.int v2)) RT (lO_19 (by decide) hl1 (fun w9 z9 => by rw [hl1.2.2.2.2] at z9; cases z9; rfl)) (ds_9 (by decide) (if_pos rfl) rfl) (if_pos rfl) S3 q1 AN (N _ _ _ _ _ _ (lO_19 (by decide) hl1 (fun w9 z9 => by rw [hl1.2.2.2.2] at z9; cases z9; rfl)) (lS_m9 (by omega) (Nat.le_refl _) (lr_9 (σ' := σ2) S2)) q1 (tlk_21 ht I.2.2.2.2.2.1.1.2 q2 P2.2.2))
theorem lt_play9 {v9 : Int32} {v2 : Int32} {σ2 : rS} {κ2 : zS} {J2 : Nat → Int64} {t2 c2 s2 : Nat} {L2 : Int} {lo2 : dL0} (RT : rcW9 (yX13_thrown, cX13_thrown, 1, (some .int), false, 16, 0)) (hl2 : lO9 scr a o u i lo2) (l5 : lo2 5 = some (.int v9)) (l6 : lo2 6 = some (.int v2)) (S3 : lS9 sa TL b a o u L2 t2 κ2 σ2 J2 c2 s2) (q1 : RJ σ2) (AN : σ2.1 0 = v9 ∧ (v9 = 0 → J2 0 = v2.toInt64)) (K : dV9 (dEE sa TL) dXX dKK b scr L xs lawP9 n 16 rLaw 1572 lo2 [] (zH (lB9 sa TL b o u σ2 J2) κ2) c2 s2) : dV9 (dEE sa TL) dXX dKK b scr L xs lawP9 (n + 14) 16 rLaw 1268 lo2 [] (zH (lB9 sa TL b o u σ2 J2) κ2) c2 s2 := by
  have oU2 := oU_9 S3
  refine lwP_9 (pc' := 1269) dlw_1268 rfl (lda_9 (k := 2) hl2.2.2.1) ?_
  refine li_9 (m := (yX13_thrown, cX13_thrown, 1, (some .int), false, 16, 0)) (as := []) (Q := fun σ v σ' => σ' = σ ∧ v = σ.1 0) (j := 430) (pc' := 1272) S3 q1 dlw_1269 (by decide +kernel) rfl ⟨rfl, by decide, rfl⟩ rfl (fun C σ hC _ => RT C σ hC) rfl (Nat.le_of_ble_eq_true rfl) rfl (fun v3 σ3 q3 => ?_)
  obtain ⟨e3, ev3⟩ := q3
  rw [e3]
  refine lwP_9 (pc' := 1274) dlw_1272 rfl (ldi_9 l5) ?_
  have ev : v3 = v9 := ev3.trans AN.1
  rw [ev]
  refine lwP_9 (pc' := 1279) (lo' := lo2) (st' := []) dlw_1274 rfl (ic_e9 rfl) ?_
  refine lwP_9 (pc' := 1281) dlw_1279 rfl (ldi_9 l5) ?_
  by_cases z : v9 = 0
  · have eJ := AN.2 z
    refine lwP_9 (pc' := 1284) (lo' := lo2) (st' := []) dlw_1281 rfl (by rw [z]; exact in_09 (t := 1296) rfl) ?_
    refine lwP_9 (pc' := 1285) dlw_1284 rfl (lda_9 (k := 3) hl2.2.2.2.1) ?_
    refine lwP_9 (pc' := 1286) (lo' := lo2) (st' := [.int 0, .ref u]) dlw_1285 rfl (by rw [← zi_0]; rfl) ?_
    refine lw_h9 (pc' := 1287) (st' := [.long (J2 0)]) dlw_1286 rfl rfl rfl (lal_9 (zH_u9 oU2.2.1 oU2.2.2.2)) ?_
    refine lwP_9 (pc' := 1289) dlw_1287 rfl (ldi_9 l6) ?_
    refine lwP_9 (pc' := 1290) (lo' := lo2) (st' := [.long v2.toInt64, .long (J2 0)]) dlw_1289 rfl rfl ?_
    refine lwP_9 (pc' := 1291) (lo' := lo2) (st' := [.int 0]) dlw_1290 rfl (lc_e9 (eJ)) ?_
    refine lwP_9 (pc' := 1296) (lo' := lo2) (st' := []) dlw_1291 rfl (ie_09 rfl) ?_
    refine lwP_9 (pc' := 1572) (lo' := lo2) (st' := []) dlw_1296 rfl rfl ?_
    exact K
  · refine dV_l9 (n := n + 2) (by omega) ?_
    refine lwP_9 (pc' := 1296) (lo' := lo2) (st' := []) dlw_1281 rfl (in_w9 z rfl) ?_
    refine lwP_9 (pc' := 1572) (lo' := lo2) (st' := []) dlw_1296 rfl rfl ?_
    exact K
theorem ls_play9 (RJ3 : ∀ σ, RJ σ → pb16 σ) (RA : ∀ (y0 : Int64) (y1 : Int32), rcQ9 RJ (yX13_play, cX13_play, 4, (some .int), false, 16, 2) y0 y1) (RT : rcW9 (yX13_thrown, cX13_thrown, 1, (some .int), false, 16, 0)) (hl : lO9 scr a o u i lo) (hi : 0 ≤ i.toInt ∧ i.toInt + 6 ≤ L ∧ L ≤ 3072) (S : lS9 sa TL b a o u Lx t κ σ J cs ss) (hR : RJ σ) (ht : RC8 κ a σ) (N : nx9 sa TL b a o u scr L xs RJ Lx t n i) : dV9 (dEE sa TL) dXX dKK b scr L xs lawP9 (n + 65) 16 rLaw 1199 lo [] (zH (lB9 sa TL b o u σ J) κ) cs ss := by
  obtain ⟨W, T, ⟨ρ, I⟩, _⟩ := id S
  have oU := oU_9 S
  refine lwP_9 (pc' := 1200) dlw_1199 rfl (lda_9 (k := 1) hl.2.1) ?_
  refine la_9 (jj := 1) (j := 1) (pc6 := 1206) dlw_1200 dlw_1201 dlw_1203 dlw_1204 dlw_1205 ⟨rfl, rfl, rfl, rfl, rfl⟩ zi_1 hl ⟨by decide, hi.1, hi.2.1, hi.2.2⟩ ?_
  refine lwP_9 (pc' := 1207) dlw_1206 rfl rfl ?_
  refine lwP_9 (pc' := 1209) dlw_1207 rfl rfl ?_
  refine lwP_9 (pc' := 1210) dlw_1209 rfl rfl ?_
  refine la_9 (jj := 2) (j := 2) (pc6 := 1216) dlw_1210 dlw_1211 dlw_1213 dlw_1214 dlw_1215 ⟨rfl, rfl, rfl, rfl, rfl⟩ zi_2 hl ⟨by decide, hi.1, hi.2.1, hi.2.2⟩ ?_
  refine lwP_9 (pc' := 1217) dlw_1216 rfl rfl ?_
  refine lw_h9 (pc' := 1220) dlw_1217 rfl rfl rfl rfl ?_
  refine lwP_9 (pc' := 1221) dlw_1220 rfl rfl ?_
  refine lwP_9 (pc' := 1222) dlw_1221 rfl rfl ?_
  refine la_9 (jj := 3) (j := 3) (pc6 := 1228) dlw_1222 dlw_1223 dlw_1225 dlw_1226 dlw_1227 ⟨rfl, rfl, rfl, rfl, rfl⟩ zi_3 hl ⟨by decide, hi.1, hi.2.1, hi.2.2⟩ ?_
  refine lwP_9 (pc' := 1229) dlw_1228 rfl (lda_9 (k := 3) hl.2.2.2.1) ?_
  obtain ⟨n8, z8, v9, r8, rv, w8, k8⟩ := lcp_9 (Lx' := Lx) S (wM_play9 (L := Lx) W T I σ ht (RJ3 σ hR).2.1 oU.1 oU.2.1 oU.2.2.1 oU.2.2.2) (fun v C' κ' h => ⟨h.1.1, h.1.2.1⟩)
  refine lw_k9 (d := 15) (y := (kL_play, _, [])) dlw_1229 rfl rfl rfl rfl rfl r8 w8 (show 1229 + 3 = 1232 from rfl) (st' := [.int v9]) (by rw [rv]; rfl) (fun w hw => ?_)
  obtain ⟨κ1, J2, ⟨P2, PR⟩, e8, S2⟩ := k8 w hw
  obtain ⟨κ2, hκ2⟩ : ∃ κ2, κ2 = stn9 κ1 w := ⟨_, rfl⟩
  rw [e8, ← hκ2]
  rw [← hκ2] at S2
  refine lwP_9 (pc' := 1234) (lo' := dset1 lo 5 (.int v9)) (st' := []) dlw_1232 rfl rfl ?_
  have hl1 : lO9 scr a o u i (dset1 lo 5 (.int v9)) := lO_19 (by decide) hl (fun w9 z9 => by rw [hl.2.2.2.2] at z9; cases z9; rfl)
  refine lwP_9 (pc' := 1235) dlw_1234 rfl (lda_9 (k := 2) hl1.2.2.1) ?_
  refine la_9 (jj := 1) (j := 1) (pc6 := 1241) dlw_1235 dlw_1236 dlw_1238 dlw_1239 dlw_1240 ⟨rfl, rfl, rfl, rfl, rfl⟩ zi_1 hl1 ⟨by decide, hi.1, hi.2.1, hi.2.2⟩ ?_
  refine lwP_9 (pc' := 1242) dlw_1241 rfl rfl ?_
  refine lwP_9 (pc' := 1244) dlw_1242 rfl rfl ?_
  refine lwP_9 (pc' := 1245) dlw_1244 rfl rfl ?_
  refine la_9 (jj := 2) (j := 2) (pc6 := 1251) dlw_1245 dlw_1246 dlw_1248 dlw_1249 dlw_1250 ⟨rfl, rfl, rfl, rfl, rfl⟩ zi_2 hl1 ⟨by decide, hi.1, hi.2.1, hi.2.2⟩ ?_
  refine lwP_9 (pc' := 1252) dlw_1251 rfl rfl ?_
  refine lw_h9 (pc' := 1255) dlw_1252 rfl rfl rfl rfl ?_
  refine lwP_9 (pc' := 1256) dlw_1255 rfl rfl ?_
  refine lwP_9 (pc' := 1257) dlw_1256 rfl rfl ?_
  refine la_9 (jj := 3) (j := 3) (pc6 := 1263) dlw_1257 dlw_1258 dlw_1260 dlw_1261 dlw_1262 ⟨rfl, rfl, rfl, rfl, rfl⟩ zi_3 hl1 ⟨by decide, hi.1, hi.2.1, hi.2.2⟩ ?_
  refine li_9 (m := (yX13_play, cX13_play, 4, (some .int), false, 16, 2)) (as := [.long _, .int (xs (i + 3).toNatClampNeg)]) (Q := fun σ v σ' => RJ σ' ∧ pY23 (xs (i + 3).toNatClampNeg) σ (siU (slU σ 112 _) 113 1) σ' v) (j := 393) (pc' := 1266) S2 hR dlw_1263 (by decide +kernel) rfl ⟨rfl, by decide, rfl⟩ rfl (RA _ _) rfl (Nat.le_of_ble_eq_true rfl) rfl (fun v2 σ2 q9 => ?_)
  have q1 := q9.1
  have q2 := q9.2
  refine lwP_9 (pc' := 1268) (lo' := dset1 (dset1 lo 5 (.int v9)) 6 (.int v2)) (st' := []) dlw_1266 rfl rfl ?_
  have AN := ca_w (v2 := v2) PR (oU_9 S2).2.2.2 (go_w q2.2.2.2.2.2 q2.2.2.1)
  have S3 := lr_9 (σ' := σ2) S2
  exact lt_play9 (lo2 := dset1 (dset1 lo 5 (.int v9)) 6 (.int v2)) RT (lO_19 (by decide) hl1 (fun w9 z9 => by rw [hl1.2.2.2.2] at z9; cases z9; rfl)) (ds_9 (by decide) (if_pos rfl) rfl) (if_pos rfl) S3 q1 AN (N _ _ _ _ _ _ (lO_19 (by decide) hl1 (fun w9 z9 => by rw [hl1.2.2.2.2] at z9; cases z9; rfl)) (lS_m9 (by omega) (Nat.le_refl _) (lr_9 (σ' := σ2) S2)) q1 (by rw [hκ2]; exact py_23 ht q2 P2.2.2))
theorem lt_walk9 {v9 : Int32} {v2 : Int32} {σ2 : rS} {κ2 : zS} {J2 : Nat → Int64} {t2 c2 s2 : Nat} {L2 : Int} {lo2 : dL0} (RT : rcW9 (yX13_thrown, cX13_thrown, 1, (some .int), false, 16, 0)) (hl2 : lO9 scr a o u i lo2) (l5 : lo2 5 = some (.int v9)) (l6 : lo2 6 = some (.int v2)) (S3 : lS9 sa TL b a o u L2 t2 κ2 σ2 J2 c2 s2) (q1 : RJ σ2) (AN : σ2.1 0 = v9 ∧ (v9 = 0 → J2 0 = v2.toInt64)) (K : dV9 (dEE sa TL) dXX dKK b scr L xs lawP9 n 16 rLaw 1572 lo2 [] (zH (lB9 sa TL b o u σ2 J2) κ2) c2 s2) : dV9 (dEE sa TL) dXX dKK b scr L xs lawP9 (n + 14) 16 rLaw 1324 lo2 [] (zH (lB9 sa TL b o u σ2 J2) κ2) c2 s2 := by
  have oU2 := oU_9 S3
  refine lwP_9 (pc' := 1325) dlw_1324 rfl (lda_9 (k := 2) hl2.2.2.1) ?_
  refine li_9 (m := (yX13_thrown, cX13_thrown, 1, (some .int), false, 16, 0)) (as := []) (Q := fun σ v σ' => σ' = σ ∧ v = σ.1 0) (j := 430) (pc' := 1328) S3 q1 dlw_1325 (by decide +kernel) rfl ⟨rfl, by decide, rfl⟩ rfl (fun C σ hC _ => RT C σ hC) rfl (Nat.le_of_ble_eq_true rfl) rfl (fun v3 σ3 q3 => ?_)
  obtain ⟨e3, ev3⟩ := q3
  rw [e3]
  refine lwP_9 (pc' := 1330) dlw_1328 rfl (ldi_9 l5) ?_
  have ev : v3 = v9 := ev3.trans AN.1
  rw [ev]
  refine lwP_9 (pc' := 1335) (lo' := lo2) (st' := []) dlw_1330 rfl (ic_e9 rfl) ?_
  refine lwP_9 (pc' := 1337) dlw_1335 rfl (ldi_9 l5) ?_
  by_cases z : v9 = 0
  · have eJ := AN.2 z
    refine lwP_9 (pc' := 1340) (lo' := lo2) (st' := []) dlw_1337 rfl (by rw [z]; exact in_09 (t := 1352) rfl) ?_
    refine lwP_9 (pc' := 1341) dlw_1340 rfl (lda_9 (k := 3) hl2.2.2.2.1) ?_
    refine lwP_9 (pc' := 1342) (lo' := lo2) (st' := [.int 0, .ref u]) dlw_1341 rfl (by rw [← zi_0]; rfl) ?_
    refine lw_h9 (pc' := 1343) (st' := [.long (J2 0)]) dlw_1342 rfl rfl rfl (lal_9 (zH_u9 oU2.2.1 oU2.2.2.2)) ?_
    refine lwP_9 (pc' := 1345) dlw_1343 rfl (ldi_9 l6) ?_
    refine lwP_9 (pc' := 1346) (lo' := lo2) (st' := [.long v2.toInt64, .long (J2 0)]) dlw_1345 rfl rfl ?_
    refine lwP_9 (pc' := 1347) (lo' := lo2) (st' := [.int 0]) dlw_1346 rfl (lc_e9 (eJ)) ?_
    refine lwP_9 (pc' := 1352) (lo' := lo2) (st' := []) dlw_1347 rfl (ie_09 rfl) ?_
    refine lwP_9 (pc' := 1572) (lo' := lo2) (st' := []) dlw_1352 rfl rfl ?_
    exact K
  · refine dV_l9 (n := n + 2) (by omega) ?_
    refine lwP_9 (pc' := 1352) (lo' := lo2) (st' := []) dlw_1337 rfl (in_w9 z rfl) ?_
    refine lwP_9 (pc' := 1572) (lo' := lo2) (st' := []) dlw_1352 rfl rfl ?_
    exact K
theorem ls_walk9 (RJ3 : ∀ σ, RJ σ → pb16 σ) (RA : ∀ (y0 : Int32), rcR9 RJ (yX13_walk, cX13_walk, 2, (some .int), false, 16, 1) y0) (RT : rcW9 (yX13_thrown, cX13_thrown, 1, (some .int), false, 16, 0)) (hl : lO9 scr a o u i lo) (hi : 0 ≤ i.toInt ∧ i.toInt + 6 ≤ L ∧ L ≤ 3072) (S : lS9 sa TL b a o u Lx t κ σ J cs ss) (hR : RJ σ) (ht : RC8 κ a σ) (N : nx9 sa TL b a o u scr L xs RJ Lx t n i) : dV9 (dEE sa TL) dXX dKK b scr L xs lawP9 (n + 31) 16 rLaw 1299 lo [] (zH (lB9 sa TL b o u σ J) κ) cs ss := by
  obtain ⟨W, T, ⟨ρ, I⟩, _⟩ := id S
  have oU := oU_9 S
  refine lwP_9 (pc' := 1300) dlw_1299 rfl (lda_9 (k := 1) hl.2.1) ?_
  refine la_9 (jj := 1) (j := 1) (pc6 := 1306) dlw_1300 dlw_1301 dlw_1303 dlw_1304 dlw_1305 ⟨rfl, rfl, rfl, rfl, rfl⟩ zi_1 hl ⟨by decide, hi.1, hi.2.1, hi.2.2⟩ ?_
  refine lwP_9 (pc' := 1307) dlw_1306 rfl (lda_9 (k := 3) hl.2.2.2.1) ?_
  obtain ⟨n8, z8, v9, r8, rv, w8, k8⟩ := lcp_9 (Lx' := Lx) S (wM_walk9 (L := Lx) W T I σ ht (RJ3 σ hR).2.1 oU.1 oU.2.1 oU.2.2.1 oU.2.2.2) (fun v C' κ' h => ⟨h.1.1, h.1.2.1⟩)
  refine lw_k9 (d := 15) (y := (kL_walk, _, [])) dlw_1307 rfl rfl rfl rfl rfl r8 w8 (show 1307 + 3 = 1310 from rfl) (st' := [.int v9]) (by rw [rv]; rfl) (fun w hw => ?_)
  obtain ⟨κ1, J2, ⟨P2, PR⟩, e8, S2⟩ := k8 w hw
  obtain ⟨κ2, hκ2⟩ : ∃ κ2, κ2 = stn9 κ1 w := ⟨_, rfl⟩
  rw [e8, ← hκ2]
  rw [← hκ2] at S2
  refine lwP_9 (pc' := 1312) (lo' := dset1 lo 5 (.int v9)) (st' := []) dlw_1310 rfl rfl ?_
  have hl1 : lO9 scr a o u i (dset1 lo 5 (.int v9)) := lO_19 (by decide) hl (fun w9 z9 => by rw [hl.2.2.2.2] at z9; cases z9; rfl)
  refine lwP_9 (pc' := 1313) dlw_1312 rfl (lda_9 (k := 2) hl1.2.2.1) ?_
  refine la_9 (jj := 1) (j := 1) (pc6 := 1319) dlw_1313 dlw_1314 dlw_1316 dlw_1317 dlw_1318 ⟨rfl, rfl, rfl, rfl, rfl⟩ zi_1 hl1 ⟨by decide, hi.1, hi.2.1, hi.2.2⟩ ?_
  refine li_9 (m := (yX13_walk, cX13_walk, 2, (some .int), false, 16, 1)) (as := [.int (xs (i + 1).toNatClampNeg)]) (Q := fun σ v σ' => RJ σ' ∧ pY23 (xs (i + 1).toNatClampNeg) σ (siU σ 113 0) σ' v) (j := 394) (pc' := 1322) S2 hR dlw_1319 (by decide +kernel) rfl ⟨rfl, by decide, rfl⟩ rfl (RA _) rfl (Nat.le_of_ble_eq_true rfl) rfl (fun v2 σ2 q9 => ?_)
  have q1 := q9.1
  have q2 := q9.2
  refine lwP_9 (pc' := 1324) (lo' := dset1 (dset1 lo 5 (.int v9)) 6 (.int v2)) (st' := []) dlw_1322 rfl rfl ?_
  have AN := ca_w (v2 := v2) PR (oU_9 S2).2.2.2 (go_w q2.2.2.2.2.2 q2.2.2.1)
  have S3 := lr_9 (σ' := σ2) S2
  exact lt_walk9 (lo2 := dset1 (dset1 lo 5 (.int v9)) 6 (.int v2)) RT (lO_19 (by decide) hl1 (fun w9 z9 => by rw [hl1.2.2.2.2] at z9; cases z9; rfl)) (ds_9 (by decide) (if_pos rfl) rfl) (if_pos rfl) S3 q1 AN (N _ _ _ _ _ _ (lO_19 (by decide) hl1 (fun w9 z9 => by rw [hl1.2.2.2.2] at z9; cases z9; rfl)) (lS_m9 (by omega) (Nat.le_refl _) (lr_9 (σ' := σ2) S2)) q1 (by rw [hκ2]; exact py_23 ht q2 P2.2.2))
theorem lt_played9 {v9 : Int32} {v2 : Int64} {σ2 : rS} {κ2 : zS} {J2 : Nat → Int64} {t2 c2 s2 : Nat} {L2 : Int} {lo2 : dL0} (RT : rcW9 (yX13_thrown, cX13_thrown, 1, (some .int), false, 16, 0)) (hl2 : lO9 scr a o u i lo2) (l5 : lo2 5 = some (.int v9)) (l6 : lo2 6 = some (.long v2)) (S3 : lS9 sa TL b a o u L2 t2 κ2 σ2 J2 c2 s2) (q1 : RJ σ2) (AN : σ2.1 0 = v9 ∧ (v9 = 0 → J2 0 = v2)) (K : dV9 (dEE sa TL) dXX dKK b scr L xs lawP9 n 16 rLaw 1572 lo2 [] (zH (lB9 sa TL b o u σ2 J2) κ2) c2 s2) : dV9 (dEE sa TL) dXX dKK b scr L xs lawP9 (n + 13) 16 rLaw 1380 lo2 [] (zH (lB9 sa TL b o u σ2 J2) κ2) c2 s2 := by
  have oU2 := oU_9 S3
  refine lwP_9 (pc' := 1381) dlw_1380 rfl (lda_9 (k := 2) hl2.2.2.1) ?_
  refine li_9 (m := (yX13_thrown, cX13_thrown, 1, (some .int), false, 16, 0)) (as := []) (Q := fun σ v σ' => σ' = σ ∧ v = σ.1 0) (j := 430) (pc' := 1384) S3 q1 dlw_1381 (by decide +kernel) rfl ⟨rfl, by decide, rfl⟩ rfl (fun C σ hC _ => RT C σ hC) rfl (Nat.le_of_ble_eq_true rfl) rfl (fun v3 σ3 q3 => ?_)
  obtain ⟨e3, ev3⟩ := q3
  rw [e3]
  refine lwP_9 (pc' := 1386) dlw_1384 rfl (ldi_9 l5) ?_
  have ev : v3 = v9 := ev3.trans AN.1
  rw [ev]
  refine lwP_9 (pc' := 1391) (lo' := lo2) (st' := []) dlw_1386 rfl (ic_e9 rfl) ?_
  refine lwP_9 (pc' := 1393) dlw_1391 rfl (ldi_9 l5) ?_
  by_cases z : v9 = 0
  · have eJ := AN.2 z
    refine lwP_9 (pc' := 1396) (lo' := lo2) (st' := []) dlw_1393 rfl (by rw [z]; exact in_09 (t := 1407) rfl) ?_
    refine lwP_9 (pc' := 1397) dlw_1396 rfl (lda_9 (k := 3) hl2.2.2.2.1) ?_
    refine lwP_9 (pc' := 1398) (lo' := lo2) (st' := [.int 0, .ref u]) dlw_1397 rfl (by rw [← zi_0]; rfl) ?_
    refine lw_h9 (pc' := 1399) (st' := [.long (J2 0)]) dlw_1398 rfl rfl rfl (lal_9 (zH_u9 oU2.2.1 oU2.2.2.2)) ?_
    refine lwP_9 (pc' := 1401) dlw_1399 rfl (ldl_9 l6) ?_
    refine lwP_9 (pc' := 1402) (lo' := lo2) (st' := [.int 0]) dlw_1401 rfl (lc_e9 (eJ)) ?_
    refine lwP_9 (pc' := 1407) (lo' := lo2) (st' := []) dlw_1402 rfl (ie_09 rfl) ?_
    refine lwP_9 (pc' := 1572) (lo' := lo2) (st' := []) dlw_1407 rfl rfl ?_
    exact K
  · refine dV_l9 (n := n + 2) (by omega) ?_
    refine lwP_9 (pc' := 1407) (lo' := lo2) (st' := []) dlw_1393 rfl (in_w9 z rfl) ?_
    refine lwP_9 (pc' := 1572) (lo' := lo2) (st' := []) dlw_1407 rfl rfl ?_
    exact K
theorem ls_played9 (RA : ∀ (y0 : Int32), rcZJ9 RJ (yX13_played, cX13_played, 2, (some .long), false, 16, 1) [.int y0] (fun σ σ' v => XQ23 y0 σ σ' v)) (RT : rcW9 (yX13_thrown, cX13_thrown, 1, (some .int), false, 16, 0)) (hl : lO9 scr a o u i lo) (hi : 0 ≤ i.toInt ∧ i.toInt + 6 ≤ L ∧ L ≤ 3072) (S : lS9 sa TL b a o u Lx t κ σ J cs ss) (hR : RJ σ) (ht : RC8 κ a σ) (N : nx9 sa TL b a o u scr L xs RJ Lx t n i) : dV9 (dEE sa TL) dXX dKK b scr L xs lawP9 (n + 30) 16 rLaw 1355 lo [] (zH (lB9 sa TL b o u σ J) κ) cs ss := by
  obtain ⟨W, T, ⟨ρ, I⟩, _⟩ := id S
  have oU := oU_9 S
  refine lwP_9 (pc' := 1356) dlw_1355 rfl (lda_9 (k := 1) hl.2.1) ?_
  refine la_9 (jj := 1) (j := 1) (pc6 := 1362) dlw_1356 dlw_1357 dlw_1359 dlw_1360 dlw_1361 ⟨rfl, rfl, rfl, rfl, rfl⟩ zi_1 hl ⟨by decide, hi.1, hi.2.1, hi.2.2⟩ ?_
  refine lwP_9 (pc' := 1363) dlw_1362 rfl (lda_9 (k := 3) hl.2.2.2.1) ?_
  obtain ⟨n8, z8, v9, r8, rv, w8, k8⟩ := lcp_9 (Lx' := Lx) S (wM_played9 (L := Lx) W T I σ ht oU.1 oU.2.1 oU.2.2.1 oU.2.2.2) (fun v C' κ' h => ⟨h.1.1, h.1.2.1⟩)
  refine lw_k9 (d := 15) (y := (kL_played, _, [])) dlw_1363 rfl rfl rfl rfl rfl r8 w8 (show 1363 + 3 = 1366 from rfl) (st' := [.int v9]) (by rw [rv]; rfl) (fun w hw => ?_)
  obtain ⟨κ1, J2, ⟨P2, PR⟩, e8, S2⟩ := k8 w hw
  obtain ⟨κ2, hκ2⟩ : ∃ κ2, κ2 = stn9 κ1 w := ⟨_, rfl⟩
  have P2 : (∃ ρ', chI9 ρ' κ1 a Lx) ∧ (∃ F, zF F κ κ1) ∧ pC8 κ κ2 a := by rw [hκ2]; exact P2
  rw [e8, ← hκ2]
  rw [← hκ2] at S2
  refine lwP_9 (pc' := 1368) (lo' := dset1 lo 5 (.int v9)) (st' := []) dlw_1366 rfl rfl ?_
  have hl1 : lO9 scr a o u i (dset1 lo 5 (.int v9)) := lO_19 (by decide) hl (fun w9 z9 => by rw [hl.2.2.2.2] at z9; cases z9; rfl)
  refine lwP_9 (pc' := 1369) dlw_1368 rfl (lda_9 (k := 2) hl1.2.2.1) ?_
  refine la_9 (jj := 1) (j := 1) (pc6 := 1375) dlw_1369 dlw_1370 dlw_1372 dlw_1373 dlw_1374 ⟨rfl, rfl, rfl, rfl, rfl⟩ zi_1 hl1 ⟨by decide, hi.1, hi.2.1, hi.2.2⟩ ?_
  refine lj_9 (m := (yX13_played, cX13_played, 2, (some .long), false, 16, 1)) (as := [.int (xs (i + 1).toNatClampNeg)]) (Q := fun σ v σ' => RJ σ' ∧ pR8 σ σ' ∧ XQ23 (xs (i + 1).toNatClampNeg) σ σ' v) (j := 395) (pc' := 1378) S2 hR dlw_1375 (by decide +kernel) rfl ⟨rfl, by decide, rfl⟩ rfl (RA _) rfl (Nat.le_of_ble_eq_true rfl) rfl (fun v2 σ2 q9 => ?_)
  have q1 := q9.1
  have q2 := q9.2.1
  have q3 := q9.2.2
  refine lwP_9 (pc' := 1380) (lo' := dset2 (dset1 lo 5 (.int v9)) 6 (.long v2)) (st' := []) dlw_1378 rfl rfl ?_
  have AN := cl_w (v2 := v2) PR (oU_9 S2).2.2.2 (xx_w q3)
  have S3 := lr_9 (σ' := σ2) S2
  exact lt_played9 (lo2 := dset2 (dset1 lo 5 (.int v9)) 6 (.long v2)) RT (lO_29 (by decide) hl1) (ds2_9 (by decide) (by decide) (if_pos rfl) rfl) (if_pos rfl) S3 q1 AN (N _ _ _ _ _ _ (lO_29 (by decide) hl1) (lS_m9 (by omega) (Nat.le_refl _) (lr_9 (σ' := σ2) S2)) q1 (re_8 q2 ht P2.2.2))
theorem lt_independent9 {v9 : Int32} {v2 : Int32} {σ2 : rS} {κ2 : zS} {J2 : Nat → Int64} {t2 c2 s2 : Nat} {L2 : Int} {lo2 : dL0} (RT : rcW9 (yX13_thrown, cX13_thrown, 1, (some .int), false, 16, 0)) (hl2 : lO9 scr a o u i lo2) (l5 : lo2 5 = some (.int v9)) (l6 : lo2 6 = some (.int v2)) (b2 : v9 = 0 → nb v2) (S3 : lS9 sa TL b a o u L2 t2 κ2 σ2 J2 c2 s2) (q1 : RJ σ2) (AN : σ2.1 0 = v9 ∧ (v9 = 0 → J2 0 = v2.toInt64)) (K : dV9 (dEE sa TL) dXX dKK b scr L xs lawP9 n 16 rLaw 1572 lo2 [] (zH (lB9 sa TL b o u σ2 J2) κ2) c2 s2) : dV9 (dEE sa TL) dXX dKK b scr L xs lawP9 (n + 16) 16 rLaw 1447 lo2 [] (zH (lB9 sa TL b o u σ2 J2) κ2) c2 s2 := by
  have oU2 := oU_9 S3
  refine lwP_9 (pc' := 1448) dlw_1447 rfl (lda_9 (k := 2) hl2.2.2.1) ?_
  refine li_9 (m := (yX13_thrown, cX13_thrown, 1, (some .int), false, 16, 0)) (as := []) (Q := fun σ v σ' => σ' = σ ∧ v = σ.1 0) (j := 430) (pc' := 1451) S3 q1 dlw_1448 (by decide +kernel) rfl ⟨rfl, by decide, rfl⟩ rfl (fun C σ hC _ => RT C σ hC) rfl (Nat.le_of_ble_eq_true rfl) rfl (fun v3 σ3 q3 => ?_)
  obtain ⟨e3, ev3⟩ := q3
  rw [e3]
  refine lwP_9 (pc' := 1453) dlw_1451 rfl (ldi_9 l5) ?_
  have ev : v3 = v9 := ev3.trans AN.1
  rw [ev]
  refine lwP_9 (pc' := 1458) (lo' := lo2) (st' := []) dlw_1453 rfl (ic_e9 rfl) ?_
  refine lwP_9 (pc' := 1460) dlw_1458 rfl (ldi_9 l5) ?_
  by_cases z : v9 = 0
  · have eJ := AN.2 z
    refine lwP_9 (pc' := 1463) (lo' := lo2) (st' := []) dlw_1460 rfl (by rw [z]; exact in_09 (t := 1482) rfl) ?_
    refine lwP_9 (pc' := 1464) dlw_1463 rfl (lda_9 (k := 3) hl2.2.2.2.1) ?_
    refine lwP_9 (pc' := 1465) (lo' := lo2) (st' := [.int 0, .ref u]) dlw_1464 rfl (by rw [← zi_0]; rfl) ?_
    refine lw_h9 (pc' := 1466) (st' := [.long (J2 0)]) dlw_1465 rfl rfl rfl (lal_9 (zH_u9 oU2.2.1 oU2.2.2.2)) ?_
    refine lwP_9 (pc' := 1468) dlw_1466 rfl (ldi_9 l6) ?_
    by_cases z6 : v2 = 0
    · refine dV_l9 (n := n + 5) (by omega) ?_
      refine lwP_9 (pc' := 1475) (lo' := lo2) (st' := [.long (J2 0)]) dlw_1468 rfl (by rw [z6]; exact ie_09 rfl) ?_
      refine lwP_9 (pc' := 1476) (lo' := lo2) (st' := [.long 0, .long (J2 0)]) dlw_1475 rfl rfl ?_
      refine lwP_9 (pc' := 1477) (lo' := lo2) (st' := [.int 0]) dlw_1476 rfl (lc_e9 (by rw [eJ, z6]; decide)) ?_
      refine lwP_9 (pc' := 1482) (lo' := lo2) (st' := []) dlw_1477 rfl (ie_09 rfl) ?_
      refine lwP_9 (pc' := 1572) (lo' := lo2) (st' := []) dlw_1482 rfl rfl ?_
      exact K
    · have w1 : v2 = 1 := (b2 z).resolve_left z6
      refine lwP_9 (pc' := 1471) (lo' := lo2) (st' := [.long (J2 0)]) dlw_1468 rfl (ifeq_n9 (t := 1475) z6 rfl) ?_
      refine lwP_9 (pc' := 1472) (lo' := lo2) (st' := [.long 1, .long (J2 0)]) dlw_1471 rfl rfl ?_
      refine lwP_9 (pc' := 1476) (lo' := lo2) (st' := [.long 1, .long (J2 0)]) dlw_1472 rfl rfl ?_
      refine lwP_9 (pc' := 1477) (lo' := lo2) (st' := [.int 0]) dlw_1476 rfl (lc_e9 (by rw [eJ, w1]; decide)) ?_
      refine lwP_9 (pc' := 1482) (lo' := lo2) (st' := []) dlw_1477 rfl (ie_09 rfl) ?_
      refine lwP_9 (pc' := 1572) (lo' := lo2) (st' := []) dlw_1482 rfl rfl ?_
      exact K
  · refine dV_l9 (n := n + 2) (by omega) ?_
    refine lwP_9 (pc' := 1482) (lo' := lo2) (st' := []) dlw_1460 rfl (in_w9 z rfl) ?_
    refine lwP_9 (pc' := 1572) (lo' := lo2) (st' := []) dlw_1482 rfl rfl ?_
    exact K
theorem ls_independent9 (RJ3 : ∀ σ, RJ σ → pb16 σ) (RA : ∀ (y0 : Int32) (y1 : Int32), rcZ9 RJ (yX13_independent, cX13_independent, 3, (some .boolean), false, 16, 2) [.int y0, .int y1] (fun σ σ' v => XIA24 y0 y1 σ σ' v)) (RT : rcW9 (yX13_thrown, cX13_thrown, 1, (some .int), false, 16, 0)) (hl : lO9 scr a o u i lo) (hi : 0 ≤ i.toInt ∧ i.toInt + 6 ≤ L ∧ L ≤ 3072) (S : lS9 sa TL b a o u Lx t κ σ J cs ss) (hR : RJ σ) (ht : RC8 κ a σ) (N : nx9 sa TL b a o u scr L xs RJ Lx t n i) : dV9 (dEE sa TL) dXX dKK b scr L xs lawP9 (n + 43) 16 rLaw 1410 lo [] (zH (lB9 sa TL b o u σ J) κ) cs ss := by
  obtain ⟨W, T, ⟨ρ, I⟩, _⟩ := id S
  have oU := oU_9 S
  refine lwP_9 (pc' := 1411) dlw_1410 rfl (lda_9 (k := 1) hl.2.1) ?_
  refine la_9 (jj := 1) (j := 1) (pc6 := 1417) dlw_1411 dlw_1412 dlw_1414 dlw_1415 dlw_1416 ⟨rfl, rfl, rfl, rfl, rfl⟩ zi_1 hl ⟨by decide, hi.1, hi.2.1, hi.2.2⟩ ?_
  refine la_9 (jj := 2) (j := 2) (pc6 := 1423) dlw_1417 dlw_1418 dlw_1420 dlw_1421 dlw_1422 ⟨rfl, rfl, rfl, rfl, rfl⟩ zi_2 hl ⟨by decide, hi.1, hi.2.1, hi.2.2⟩ ?_
  refine lwP_9 (pc' := 1424) dlw_1423 rfl (lda_9 (k := 3) hl.2.2.2.1) ?_
  obtain ⟨n8, z8, v9, r8, rv, w8, k8⟩ := lcp_9 (Lx' := Lx) S (wM_independent9 (L := Lx) W T I σ ht ⟨(RJ3 σ hR).1, (RJ3 σ hR).2.2⟩ oU.1 oU.2.1 oU.2.2.1 oU.2.2.2) (fun v C' κ' h => ⟨h.1.1, h.1.2.1⟩)
  refine lw_k9 (d := 15) (y := (kL_independent, _, [])) dlw_1424 rfl rfl rfl rfl rfl r8 w8 (show 1424 + 3 = 1427 from rfl) (st' := [.int v9]) (by rw [rv]; rfl) (fun w hw => ?_)
  obtain ⟨κ1, J2, ⟨P2, PR⟩, e8, S2⟩ := k8 w hw
  obtain ⟨κ2, hκ2⟩ : ∃ κ2, κ2 = stn9 κ1 w := ⟨_, rfl⟩
  have P2 : (∃ ρ', chI9 ρ' κ1 a Lx) ∧ (∃ F, zF F κ κ1) ∧ pC8 κ κ2 a := by rw [hκ2]; exact P2
  rw [e8, ← hκ2]
  rw [← hκ2] at S2
  refine lwP_9 (pc' := 1429) (lo' := dset1 lo 5 (.int v9)) (st' := []) dlw_1427 rfl rfl ?_
  have hl1 : lO9 scr a o u i (dset1 lo 5 (.int v9)) := lO_19 (by decide) hl (fun w9 z9 => by rw [hl.2.2.2.2] at z9; cases z9; rfl)
  refine lwP_9 (pc' := 1430) dlw_1429 rfl (lda_9 (k := 2) hl1.2.2.1) ?_
  refine la_9 (jj := 1) (j := 1) (pc6 := 1436) dlw_1430 dlw_1431 dlw_1433 dlw_1434 dlw_1435 ⟨rfl, rfl, rfl, rfl, rfl⟩ zi_1 hl1 ⟨by decide, hi.1, hi.2.1, hi.2.2⟩ ?_
  refine la_9 (jj := 2) (j := 2) (pc6 := 1442) dlw_1436 dlw_1437 dlw_1439 dlw_1440 dlw_1441 ⟨rfl, rfl, rfl, rfl, rfl⟩ zi_2 hl1 ⟨by decide, hi.1, hi.2.1, hi.2.2⟩ ?_
  refine li_9 (m := (yX13_independent, cX13_independent, 3, (some .boolean), false, 16, 2)) (as := [.int (xs (i + 1).toNatClampNeg), .int (xs (i + 2).toNatClampNeg)]) (Q := fun σ v σ' => RJ σ' ∧ pR8 σ σ' ∧ XIA24 (xs (i + 1).toNatClampNeg) (xs (i + 2).toNatClampNeg) σ σ' v) (j := 411) (pc' := 1445) S2 hR dlw_1442 (by decide +kernel) rfl ⟨rfl, by decide, rfl⟩ rfl (RA _ _) rfl (Nat.le_of_ble_eq_true rfl) rfl (fun v2 σ2 q9 => ?_)
  have q1 := q9.1
  have q2 := q9.2.1
  have q3 := q9.2.2
  refine lwP_9 (pc' := 1447) (lo' := dset1 (dset1 lo 5 (.int v9)) 6 (.int v2)) (st' := []) dlw_1445 rfl rfl ?_
  have AN := ca_w (v2 := v2) PR (oU_9 S2).2.2.2 (xc_w q3)
  have b2 : v9 = 0 → nb v2 := fun z => by
    rcases q3 with ⟨_, _, y⟩ | ⟨y, s⟩
    · rw [y]; exact nb_i24
    · exact absurd ((s.symm.trans AN.1).trans z) y
  have S3 := lr_9 (σ' := σ2) S2
  exact lt_independent9 (lo2 := dset1 (dset1 lo 5 (.int v9)) 6 (.int v2)) RT (lO_19 (by decide) hl1 (fun w9 z9 => by rw [hl1.2.2.2.2] at z9; cases z9; rfl)) (ds_9 (by decide) (if_pos rfl) rfl) (if_pos rfl) b2 S3 q1 AN (N _ _ _ _ _ _ (lO_19 (by decide) hl1 (fun w9 z9 => by rw [hl1.2.2.2.2] at z9; cases z9; rfl)) (lS_m9 (by omega) (Nat.le_refl _) (lr_9 (σ' := σ2) S2)) q1 (re_8 q2 ht P2.2.2))
theorem lt_given9 {v9 : Int32} {v2 : Int32} {σ2 : rS} {κ2 : zS} {J2 : Nat → Int64} {t2 c2 s2 : Nat} {L2 : Int} {lo2 : dL0} (RT : rcW9 (yX13_thrown, cX13_thrown, 1, (some .int), false, 16, 0)) (hl2 : lO9 scr a o u i lo2) (l5 : lo2 5 = some (.int v9)) (l6 : lo2 6 = some (.int v2)) (b2 : v9 = 0 → nb v2) (S3 : lS9 sa TL b a o u L2 t2 κ2 σ2 J2 c2 s2) (q1 : RJ σ2) (AN : σ2.1 0 = v9 ∧ (v9 = 0 → J2 0 = v2.toInt64)) (K : dV9 (dEE sa TL) dXX dKK b scr L xs lawP9 n 16 rLaw 1572 lo2 [] (zH (lB9 sa TL b o u σ2 J2) κ2) c2 s2) : dV9 (dEE sa TL) dXX dKK b scr L xs lawP9 (n + 16) 16 rLaw 1534 lo2 [] (zH (lB9 sa TL b o u σ2 J2) κ2) c2 s2 := by
  have oU2 := oU_9 S3
  refine lwP_9 (pc' := 1535) dlw_1534 rfl (lda_9 (k := 2) hl2.2.2.1) ?_
  refine li_9 (m := (yX13_thrown, cX13_thrown, 1, (some .int), false, 16, 0)) (as := []) (Q := fun σ v σ' => σ' = σ ∧ v = σ.1 0) (j := 430) (pc' := 1538) S3 q1 dlw_1535 (by decide +kernel) rfl ⟨rfl, by decide, rfl⟩ rfl (fun C σ hC _ => RT C σ hC) rfl (Nat.le_of_ble_eq_true rfl) rfl (fun v3 σ3 q3 => ?_)
  obtain ⟨e3, ev3⟩ := q3
  rw [e3]
  refine lwP_9 (pc' := 1540) dlw_1538 rfl (ldi_9 l5) ?_
  have ev : v3 = v9 := ev3.trans AN.1
  rw [ev]
  refine lwP_9 (pc' := 1545) (lo' := lo2) (st' := []) dlw_1540 rfl (ic_e9 rfl) ?_
  refine lwP_9 (pc' := 1547) dlw_1545 rfl (ldi_9 l5) ?_
  by_cases z : v9 = 0
  · have eJ := AN.2 z
    refine lwP_9 (pc' := 1550) (lo' := lo2) (st' := []) dlw_1547 rfl (by rw [z]; exact in_09 (t := 1569) rfl) ?_
    refine lwP_9 (pc' := 1551) dlw_1550 rfl (lda_9 (k := 3) hl2.2.2.2.1) ?_
    refine lwP_9 (pc' := 1552) (lo' := lo2) (st' := [.int 0, .ref u]) dlw_1551 rfl (by rw [← zi_0]; rfl) ?_
    refine lw_h9 (pc' := 1553) (st' := [.long (J2 0)]) dlw_1552 rfl rfl rfl (lal_9 (zH_u9 oU2.2.1 oU2.2.2.2)) ?_
    refine lwP_9 (pc' := 1555) dlw_1553 rfl (ldi_9 l6) ?_
    by_cases z6 : v2 = 0
    · refine dV_l9 (n := n + 5) (by omega) ?_
      refine lwP_9 (pc' := 1562) (lo' := lo2) (st' := [.long (J2 0)]) dlw_1555 rfl (by rw [z6]; exact ie_09 rfl) ?_
      refine lwP_9 (pc' := 1563) (lo' := lo2) (st' := [.long 0, .long (J2 0)]) dlw_1562 rfl rfl ?_
      refine lwP_9 (pc' := 1564) (lo' := lo2) (st' := [.int 0]) dlw_1563 rfl (lc_e9 (by rw [eJ, z6]; decide)) ?_
      refine lwP_9 (pc' := 1569) (lo' := lo2) (st' := []) dlw_1564 rfl (ie_09 rfl) ?_
      refine lwP_9 (pc' := 1572) (lo' := lo2) (st' := []) dlw_1569 rfl rfl ?_
      exact K
    · have w1 : v2 = 1 := (b2 z).resolve_left z6
      refine lwP_9 (pc' := 1558) (lo' := lo2) (st' := [.long (J2 0)]) dlw_1555 rfl (ifeq_n9 (t := 1562) z6 rfl) ?_
      refine lwP_9 (pc' := 1559) (lo' := lo2) (st' := [.long 1, .long (J2 0)]) dlw_1558 rfl rfl ?_
      refine lwP_9 (pc' := 1563) (lo' := lo2) (st' := [.long 1, .long (J2 0)]) dlw_1559 rfl rfl ?_
      refine lwP_9 (pc' := 1564) (lo' := lo2) (st' := [.int 0]) dlw_1563 rfl (lc_e9 (by rw [eJ, w1]; decide)) ?_
      refine lwP_9 (pc' := 1569) (lo' := lo2) (st' := []) dlw_1564 rfl (ie_09 rfl) ?_
      refine lwP_9 (pc' := 1572) (lo' := lo2) (st' := []) dlw_1569 rfl rfl ?_
      exact K
  · refine dV_l9 (n := n + 2) (by omega) ?_
    refine lwP_9 (pc' := 1569) (lo' := lo2) (st' := []) dlw_1547 rfl (in_w9 z rfl) ?_
    refine lwP_9 (pc' := 1572) (lo' := lo2) (st' := []) dlw_1569 rfl rfl ?_
    exact K
theorem ls_given9 (RJ3 : ∀ σ, RJ σ → pb16 σ) (RA : ∀ (y0 : Int32) (y1 : Int32) (y2 : Int32), rcZ9 RJ (yX13_given, cX13_given, 7, (some .boolean), false, 16, 3) [.int y0, .int y1, .int y2] (fun σ σ' v => XGA24 y0 y1 y2 σ σ' v)) (RT : rcW9 (yX13_thrown, cX13_thrown, 1, (some .int), false, 16, 0)) (hl : lO9 scr a o u i lo) (hi : 0 ≤ i.toInt ∧ i.toInt + 6 ≤ L ∧ L ≤ 3072) (S : lS9 sa TL b a o u Lx t κ σ J cs ss) (hR : RJ σ) (ht : RC8 κ a σ) (N : nx9 sa TL b a o u scr L xs RJ Lx t n i) : dV9 (dEE sa TL) dXX dKK b scr L xs lawP9 (n + 53) 16 rLaw 1485 lo [] (zH (lB9 sa TL b o u σ J) κ) cs ss := by
  obtain ⟨W, T, ⟨ρ, I⟩, _⟩ := id S
  have oU := oU_9 S
  refine lwP_9 (pc' := 1486) dlw_1485 rfl (lda_9 (k := 1) hl.2.1) ?_
  refine la_9 (jj := 1) (j := 1) (pc6 := 1492) dlw_1486 dlw_1487 dlw_1489 dlw_1490 dlw_1491 ⟨rfl, rfl, rfl, rfl, rfl⟩ zi_1 hl ⟨by decide, hi.1, hi.2.1, hi.2.2⟩ ?_
  refine la_9 (jj := 2) (j := 2) (pc6 := 1498) dlw_1492 dlw_1493 dlw_1495 dlw_1496 dlw_1497 ⟨rfl, rfl, rfl, rfl, rfl⟩ zi_2 hl ⟨by decide, hi.1, hi.2.1, hi.2.2⟩ ?_
  refine la_9 (jj := 3) (j := 3) (pc6 := 1504) dlw_1498 dlw_1499 dlw_1501 dlw_1502 dlw_1503 ⟨rfl, rfl, rfl, rfl, rfl⟩ zi_3 hl ⟨by decide, hi.1, hi.2.1, hi.2.2⟩ ?_
  refine lwP_9 (pc' := 1505) dlw_1504 rfl (lda_9 (k := 3) hl.2.2.2.1) ?_
  obtain ⟨n8, z8, v9, r8, rv, w8, k8⟩ := lcp_9 (Lx' := Lx) S (wM_given9 (L := Lx) W T I σ ht ⟨(RJ3 σ hR).1, (RJ3 σ hR).2.2⟩ oU.1 oU.2.1 oU.2.2.1 oU.2.2.2) (fun v C' κ' h => ⟨h.1.1, h.1.2.1⟩)
  refine lw_k9 (d := 15) (y := (kL_given, _, [])) dlw_1505 rfl rfl rfl rfl rfl r8 w8 (show 1505 + 3 = 1508 from rfl) (st' := [.int v9]) (by rw [rv]; rfl) (fun w hw => ?_)
  obtain ⟨κ1, J2, ⟨P2, PR⟩, e8, S2⟩ := k8 w hw
  obtain ⟨κ2, hκ2⟩ : ∃ κ2, κ2 = stn9 κ1 w := ⟨_, rfl⟩
  have P2 : (∃ ρ', chI9 ρ' κ1 a Lx) ∧ (∃ F, zF F κ κ1) ∧ pC8 κ κ2 a := by rw [hκ2]; exact P2
  rw [e8, ← hκ2]
  rw [← hκ2] at S2
  refine lwP_9 (pc' := 1510) (lo' := dset1 lo 5 (.int v9)) (st' := []) dlw_1508 rfl rfl ?_
  have hl1 : lO9 scr a o u i (dset1 lo 5 (.int v9)) := lO_19 (by decide) hl (fun w9 z9 => by rw [hl.2.2.2.2] at z9; cases z9; rfl)
  refine lwP_9 (pc' := 1511) dlw_1510 rfl (lda_9 (k := 2) hl1.2.2.1) ?_
  refine la_9 (jj := 1) (j := 1) (pc6 := 1517) dlw_1511 dlw_1512 dlw_1514 dlw_1515 dlw_1516 ⟨rfl, rfl, rfl, rfl, rfl⟩ zi_1 hl1 ⟨by decide, hi.1, hi.2.1, hi.2.2⟩ ?_
  refine la_9 (jj := 2) (j := 2) (pc6 := 1523) dlw_1517 dlw_1518 dlw_1520 dlw_1521 dlw_1522 ⟨rfl, rfl, rfl, rfl, rfl⟩ zi_2 hl1 ⟨by decide, hi.1, hi.2.1, hi.2.2⟩ ?_
  refine la_9 (jj := 3) (j := 3) (pc6 := 1529) dlw_1523 dlw_1524 dlw_1526 dlw_1527 dlw_1528 ⟨rfl, rfl, rfl, rfl, rfl⟩ zi_3 hl1 ⟨by decide, hi.1, hi.2.1, hi.2.2⟩ ?_
  refine li_9 (m := (yX13_given, cX13_given, 7, (some .boolean), false, 16, 3)) (as := [.int (xs (i + 1).toNatClampNeg), .int (xs (i + 2).toNatClampNeg), .int (xs (i + 3).toNatClampNeg)]) (Q := fun σ v σ' => RJ σ' ∧ pR8 σ σ' ∧ XGA24 (xs (i + 1).toNatClampNeg) (xs (i + 2).toNatClampNeg) (xs (i + 3).toNatClampNeg) σ σ' v) (j := 412) (pc' := 1532) S2 hR dlw_1529 (by decide +kernel) rfl ⟨rfl, by decide, rfl⟩ rfl (RA _ _ _) rfl (Nat.le_of_ble_eq_true rfl) rfl (fun v2 σ2 q9 => ?_)
  have q1 := q9.1
  have q2 := q9.2.1
  have q3 := q9.2.2
  refine lwP_9 (pc' := 1534) (lo' := dset1 (dset1 lo 5 (.int v9)) 6 (.int v2)) (st' := []) dlw_1532 rfl rfl ?_
  have AN := ca_w (v2 := v2) PR (oU_9 S2).2.2.2 (xc_w q3)
  have b2 : v9 = 0 → nb v2 := fun z => by
    rcases q3 with ⟨_, _, y⟩ | ⟨y, s⟩
    · rw [y]; exact nb_i24
    · exact absurd ((s.symm.trans AN.1).trans z) y
  have S3 := lr_9 (σ' := σ2) S2
  exact lt_given9 (lo2 := dset1 (dset1 lo 5 (.int v9)) 6 (.int v2)) RT (lO_19 (by decide) hl1 (fun w9 z9 => by rw [hl1.2.2.2.2] at z9; cases z9; rfl)) (ds_9 (by decide) (if_pos rfl) rfl) (if_pos rfl) b2 S3 q1 AN (N _ _ _ _ _ _ (lO_19 (by decide) hl1 (fun w9 z9 => by rw [hl1.2.2.2.2] at z9; cases z9; rfl)) (lS_m9 (by omega) (Nat.le_refl _) (lr_9 (σ' := σ2) S2)) q1 (re_8 q2 ht P2.2.2))
end LC
