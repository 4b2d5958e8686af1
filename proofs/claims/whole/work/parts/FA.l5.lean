set_option maxHeartbeats 1600000
/-! the law's cases: program, fault, forget -/
/-- an object of the class takes a call -/
theorem inv_c9 {C : zC} {idx j oo : Nat} {r' : dM} {As rest : List Value} {h : dH} {fs : List Value} (hm : (tML 100 ++ tMX 100).lookup idx = some j) (hj : MTs[j]? = some r') (hq : r'.2.2.2.2.1 = false ∧ r'.1.name ≠ "<init>" ∧ r'.2.2.2.2.2.1 = 15) (hn : As.length = r'.2.2.2.2.2.2) (hl : (lg_sl (.ref oo :: As)).length ≤ r'.2.2.1) (hc : (rest.map fun v => v.category).sum ≤ 8) (ho : h.2 oo = some (.inr (15, fs))) : dinv (yEn C) 100 (.invokevirtual idx) 3 (As.reverse ++ .ref oo :: rest) h = some (r', .ref oo :: As, rest) := by
  have hdr : (As.reverse ++ Value.ref oo :: rest).drop r'.2.2.2.2.2.2 = .ref oo :: rest := by rw [← hn, ← List.length_reverse]; simp
  have htk : (As.reverse ++ Value.ref oo :: rest).take r'.2.2.2.2.2.2 = As.reverse := by rw [← hn, ← List.length_reverse]; simp
  show dinvV (yEn C) 100 3 idx (As.reverse ++ .ref oo :: rest) h = _
  have hm' : eML (yEn C) 100 idx = some j := hm
  have hj' : eMT (yEn C) j = some r' := hj
  unfold dinvV
  simp only [hm', hj', hdr, htk, List.reverse_reverse]
  rw [if_pos ⟨trivial, hq.1, hq.2.1, by unfold drec; rw [ho, hq.2.2]; simp, hc, hl⟩]
theorem inv_k9 {a : Nat} {h : dH} {fs : List Value} (ho : h.2 a = some (.inr (15, fs))) : dinvK dKK 100 (.invokevirtual 107) 3 [.ref a] h = some ((mCh_program, [(2, 13, 16, 126)]), [.ref a], []) := by
  have e1 : dKK.2.1 100 107 = some 0 := rfl
  have e2 : dKK.1 0 = some ((yX12_program, cX12_program, 3, (some .int), false, 15, 0), [(2, 13, 16, 126)]) := rfl
  show dinvKV dKK 100 3 107 [.ref a] h = _
  unfold dinvKV
  simp only [e1, e2, List.drop_zero, List.take_zero, List.reverse_nil, ho]
  exact if_pos ⟨trivial, trivial, by decide, trivial, Nat.le_of_ble_eq_true rfl, Nat.le_of_ble_eq_true rfl⟩
section LP
variable {sa : Nat → Nat} {TL : List (Nat × Nat × List Int32)} {b a o u t cs ss scr L n : Nat} {xs : Nat → Int32} {Lx Lx' : Int} {κ : zS} {σ : rS} {J : Nat → Int64} {RJ : rS → Prop} {lo : dL0} {i : Int32}
theorem ch_ob9 (S : lS9 sa TL b a o u Lx t κ σ J cs ss) : ∃ fs, (zH (lB9 sa TL b o u σ J) κ).2 a = some (.inr (15, fs)) := ⟨_, zH_ob (Or.inl S.2.1) (by decide) (by decide)⟩
theorem lS_d9 {κ' : zS} {x y : Nat} {F : Nat → Nat → Prop} {ρ' : Nat → Nat} (S : lS9 sa TL b a o u Lx t κ σ J cs ss) (W' : zW (lB9 sa TL b o u σ J) (zn κ) κ') (Z : zF F κ κ') (I' : chI9 ρ' κ' a Lx') (hc' : zc κ' = zc κ + x) (hs' : zs κ' = zs κ + y) : lS9 sa TL b a o u Lx' t κ' σ J (cs + x) (ss + y) := by
  obtain ⟨W, T, _, O, ⟨R1, R2⟩, ⟨⟨p1, p2, p3⟩, pz⟩, e0, he, hc, hs⟩ := S
  refine ⟨W'.lo (Nat.le_refl _) (Nat.le_trans W'.1.2.1 W'.1.2.2), Z.t T (by decide), ⟨ρ', I'⟩, oT_z9 W Z O, ⟨?_, ?_⟩, ⟨⟨p1, p2, p3⟩, fun x hx => ⟨Z.2.2.2.1.1.2 x (pz x hx).2 (pz x hx).1, Nat.lt_of_lt_of_le (pz x hx).2 Z.2.2.2.2.2.2⟩⟩, e0, he, by omega, by omega⟩
  · have m := Z.2.2.2.1.1.1.1
    omega
  · have m := Z.2.2.2.1.1.1.2
    omega
/-- a call of the class that doesn't throw -/
theorem lx_9 {m : dM} {idx j pc pc' : Nat} {Q : Int32 → zS → Prop} (S : lS9 sa TL b a o u Lx t κ σ J cs ss) (hd : decode code pc = .ok (.invokevirtual idx, 3)) (hm : (tML 100 ++ tMX 100).lookup idx = some j) (hj : MTs[j]? = some m) (hq : m.2.2.2.2.1 = false ∧ m.1.name ≠ "<init>" ∧ m.2.2.2.2.2.1 = 15) (hn : 0 = m.2.2.2.2.2.2) (hl : 1 ≤ m.2.2.1) (hpc : pc + 3 = pc') (R : zRun (lB9 sa TL b o u σ J) 0 m [.ref a] κ (oI Q noX)) (K : ∀ v κ' x y, Q v κ' → zW (lB9 sa TL b o u σ J) (zn κ) κ' → zc κ' = zc κ + x → zs κ' = zs κ + y → dV9 (dEE sa TL) dXX dKK b scr L xs lawP9 n 16 rLaw pc' lo [.int v] (zH (lB9 sa TL b o u σ J) κ') (cs + x) (ss + y)) : dV9 (dEE sa TL) dXX dKK b scr L xs lawP9 (n + 1) 16 rLaw pc lo [.ref a] (zH (lB9 sa TL b o u σ J) κ) cs ss := by
  obtain ⟨o9, κ', x, y, g1, g2, g3, g4, g5, g6⟩ := R
  rcases g6 with ⟨v, e, q⟩ | ⟨cls, _, f⟩
  · subst e
    have g1' : dGo (dEE sa TL) b 0 m 0 (dent [.ref a]) [] (zH (lB9 sa TL b o u σ J) κ) 0 0 (some (.int v), zH (lB9 sa TL b o u σ J) κ', x, y) := g1
    obtain ⟨n1, r1⟩ := go_up (Nat.zero_le 15) g1'
    obtain ⟨fs, ho⟩ := ch_ob9 S
    exact lw_c9 (d := 15) hd rfl rfl rfl rfl (inv_c9 (C := lB9 sa TL b o u σ J) (As := []) (rest := []) (j := j) hm hj hq hn hl (by decide) ho) r1 hpc rfl (K v κ' x y q g4 g2 g3)
  · exact f.elim
/-- a call that may have caught: the state behind it -/
theorem lc_c9 {κ' : zS} {q : Option Nat} {x y e : Nat} {J' : Nat → Int64} {F : Nat → Nat → Prop} {ρ' : Nat → Nat} (S : lS9 sa TL b a o u Lx t κ σ J cs ss) (r2 : q = none ∨ q = some (zn κ')) (r3 : x + zc κ = zc κ' + e) (r4 : y + zs κ = zs κ' + 6 * e) (r5 : e ≤ 1) (r7 : zW (lB9 sa TL b o u σ J) (zn κ) κ') (I' : chI9 ρ' κ' a Lx') (Z : zF F κ κ') : (∃ w, dwN (q, (zH (lB9 sa TL b o u σ J') κ').2) w) ∧ ∀ w, dwN (q, (zH (lB9 sa TL b o u σ J') κ').2) w → lS9 sa TL b a o u Lx' (t + 1) (stn9 κ' w) σ J' (cs + x) (ss + y) := by
  obtain ⟨W, T, _, O, ⟨R1, R2⟩, ⟨⟨p1, p2, p3⟩, pz⟩, e0, he, hc, hs⟩ := S
  have W1 : zW (lB9 sa TL b o u σ J') b κ' := zW_b9 p1 p2 (r7.lo (Nat.le_refl _) (Nat.le_trans r7.1.2.1 r7.1.2.2))
  have T1 : zT κ' a = 15 := Z.t T (by decide)
  have z1 : ∀ x, (x = u ∨ (o ≤ x ∧ x ≤ o + 75)) → zT κ' x = 0 ∧ x < zn κ' := fun x hx => ⟨Z.2.2.2.1.1.2 x (pz x hx).2 (pz x hx).1, Nat.lt_of_lt_of_le (pz x hx).2 Z.2.2.2.2.2.2⟩
  have ltz : ∀ x, zT κ' x ≠ 0 → x < zn κ' := fun x h => (W1.2.1 x h).2
  refine ⟨⟨zn κ', ?_, fun x c hx => ?_⟩, fun w hw => ?_⟩
  · intro q' hq
    have hq : q = some q' := hq
    rcases r2 with z | z
    · rw [z] at hq; cases hq
    · rw [z] at hq; exact (Option.some.inj hq).symm
  · by_cases h0 : zT κ' x = 0
    · have hx' : (if zT κ' x = 0 then (if x = u then some (outC9 J') else (rH (none, fun _ => none) o (ad9 o) σ).2 x) else some (zCell κ' x)) = some c := hx
      rw [if_pos h0] at hx'
      by_cases e1 : x = u
      · exact (z1 x (Or.inl e1)).2
      · rw [if_neg e1] at hx'
        exact (z1 x (Or.inr (rH_n9 hx'))).2
    · exact ltz x h0
  · have kn : ∀ x c, (if zT κ' x = 0 then (if x = u then some (outC9 J') else (rH (none, fun _ => none) o (ad9 o) σ).2 x) else some (zCell κ' x)) = some c → x < w := fun x c h => hw.2 x c h
    have h2 : ∀ x, zT κ' x ≠ 0 → x < w := fun x h => kn x (zCell κ' x) (if_neg h)
    have aw : b ≤ w := by
      have q1 := h2 a (by rw [T1]; decide)
      have q2 := (W1.2.1 a (by rw [T1]; decide)).1.1
      have q3 : b ≤ a := q2
      omega
    refine ⟨stn_W9 h2 aw W1, T1, ⟨ρ', stn_c9 ltz h2 I'⟩, stn_o9 ltz h2 (oT_z9 W Z O), ⟨?_, ?_⟩, ⟨⟨p1, p2, p3⟩, fun x hx => ⟨(z1 x hx).1, ?_⟩⟩, e0 + e, by omega, ?_, ?_⟩
    · rw [stn_p9 rfl ltz h2]
      have m := Z.2.2.2.1.1.1.1
      show zs κ' ≤ _
      omega
    · rw [stn_p9 rfl ltz h2]
      have m := Z.2.2.2.1.1.1.2
      show 4 * zc κ' ≤ _
      omega
    · show x < w
      rcases hx with e1 | e1
      · exact kn x (outC9 J') (by rw [if_pos (z1 x (Or.inl e1)).1, if_pos e1])
      · obtain ⟨c, hc9⟩ := rH_k9 (σ := σ) e1.1 e1.2
        refine kn x c ?_
        rw [if_pos (z1 x (Or.inr e1)).1, if_neg (by omega)]
        exact hc9
    · show cs + x = zc κ' + (e0 + e) + 77
      omega
    · show ss + y = zs κ' + 6 * (e0 + e) + 3196536
      omega
theorem pop_9 {pc nl : Nat} {x : Int32} {st : List Value} : dpure .pop 1 pc nl lo (.int x :: st) = some (pc + 1, lo, st) := rfl
theorem ls_fault9 (RA : rcG9 RJ (yX13_fault, cX13_fault, 1, (some .int), false, 16, 0)) (hl : lO9 scr a o u i lo) (S : lS9 sa TL b a o u Lx t κ σ J cs ss) (hR : RJ σ) (ht : RC8 κ a σ) (N : nx9 sa TL b a o u scr L xs RJ Lx t n i) : dV9 (dEE sa TL) dXX dKK b scr L xs lawP9 (n + 5) 16 rLaw 305 lo [] (zH (lB9 sa TL b o u σ J) κ) cs ss := by
  obtain ⟨W, T, ⟨ρ, I⟩, _⟩ := id S
  refine lwP_9 (pc' := 306) dlw_305 rfl (lda_9 (k := 1) hl.2.1) ?_
  refine lx_9 (m := mCh_fault) (j := 207) (pc' := 309) S dlw_306 (by decide +kernel) rfl ⟨rfl, by decide, rfl⟩ rfl (by decide) rfl (Ch_fault_c9 (Q := fun v κ' => κ = κ' ∧ v = zI κ chFaultCode a) W T ⟨rfl, rfl⟩) (fun v κ' x y e W' hc hs => ?_)
  obtain ⟨e, ev⟩ := e
  subst e
  have ex : x = 0 := by omega
  have ey : y = 0 := by omega
  subst ex
  subst ey
  refine lwP_9 (pc' := 310) dlw_309 rfl (lda_9 (k := 2) hl.2.2.1) ?_
  obtain ⟨k9, v2, σ2, r2, q1, q2, q3⟩ := rI_9 S (RA _ σ (rD_c9 S) hR)
  obtain ⟨fs, ho⟩ := rcH_9 S
  refine lw_c9 (d := 15) (pc' := 313) (st' := [.int v2, .int v]) dlw_310 rfl rfl rfl rfl (inv_r9 (C := lB9 sa TL b o u σ J) (As := []) (rest := [.int v]) (j := 302) (by decide +kernel) rfl ⟨rfl, by decide, rfl⟩ rfl (Nat.le_of_ble_eq_true rfl) (Nat.le_of_ble_eq_true rfl) ho) r2 rfl rfl ?_
  have e3 : σ.1 53 = zI κ chFaultCode a := (mk_e9 ht.1.1).2.1
  have ee : v2 = v := q2.trans (e3.trans ev.symm)
  subst ee
  refine lwP_9 (pc' := 1572) (lo' := lo) (st' := []) dlw_313 rfl ?_ ?_
  · show dif 3 313 lo [] 1259 (dcnd .eq v2 v2) = _
    have c : dcnd .eq v2 v2 = true := by simp [dcnd]
    rw [c]
    rfl
  · exact N _ _ _ _ _ _ hl (lS_m9 (by omega) (Nat.le_succ _) (lr_9 (σ' := σ2) S)) q1 (re_8 q3 ht ⟨⟨rfl, rfl, rfl, rfl, rfl⟩, ⟨rfl, rfl⟩, kA_r16⟩)

theorem ls_program9 (hX : tx5 (c59 sa TL b)) (RJ2 : ∀ σ, RJ σ → 0 ≤ σ.1 2 ∧ σ.1 2 ≤ 65536) (RA : rcP9 RJ (yX13_program, cX13_program, 1, (some .int), false, 16, 0)) (hl : lO9 scr a o u i lo) (h0 : 0 ≤ Lx) (hL : Lx ≤ 10240) (S : lS9 sa TL b a o u Lx t κ σ J cs ss) (hR : RJ σ) (ht : RC8 κ a σ) (N : nx9 sa TL b a o u scr L xs RJ Lx t n i) : dV9 (dEE sa TL) dXX dKK b scr L xs lawP9 (n + 5) 16 rLaw 292 lo [] (zH (lB9 sa TL b o u σ J) κ) cs ss := by
  obtain ⟨W, T, ⟨ρ, I⟩, _⟩ := id S
  obtain ⟨fs, ho⟩ := ch_ob9 S
  obtain ⟨v, κ', q, x, y, n1, e, r1, r2, ⟨r3, r4, r5⟩, r7, r8, I', ⟨F, Z⟩, tq⟩ := Ch_program_9 W T (tx_l9 hX) h0 hL I
  obtain ⟨w8, k8⟩ := lc_c9 (J' := J) S r2 r3 r4 r5 r7 I' Z
  refine lwP_9 (pc' := 293) dlw_292 rfl (lda_9 (k := 1) hl.2.1) ?_
  refine lw_k9 (d := 15) (z := (some (.int v), (q, (zH (lB9 sa TL b o u σ J) κ').2), x, y)) (y := ((mCh_program, [(2, 13, 16, 126)]), [.ref a], [])) dlw_293 rfl rfl rfl rfl (inv_k9 ho) r1 w8 (show 293 + 3 = 296 from rfl) (st' := [.int v]) rfl (fun w hw => ?_)
  have S2 := k8 w hw
  obtain ⟨κ2, hκ2⟩ : ∃ κ2, κ2 = stn9 κ' w := ⟨_, rfl⟩
  have e8 : (some w, (zH (lB9 sa TL b o u σ J) κ').2) = zH (lB9 sa TL b o u σ J) κ2 := by rw [hκ2]; rfl
  show dV9 _ _ _ _ _ _ _ _ _ _ _ _ _ _ (some w, (zH (lB9 sa TL b o u σ J) κ').2) (cs + x) (ss + y)
  rw [e8]
  rw [← hκ2] at S2
  refine lwP_9 (pc' := 297) dlw_296 rfl (lda_9 (k := 2) hl.2.2.1) ?_
  obtain ⟨k9, v2, σ2, r9, q1, q2, q3⟩ := rI_9 S2 (RA _ σ (rD_c9 S2) hR)
  obtain ⟨fs2, ho2⟩ := rcH_9 S2
  refine lw_c9 (d := 15) (pc' := 300) (st' := [.int v2, .int v]) dlw_297 rfl rfl rfl rfl (inv_r9 (C := lB9 sa TL b o u σ J) (As := []) (rest := [.int v]) (j := 301) (by decide +kernel) rfl ⟨rfl, by decide, rfl⟩ rfl (Nat.le_of_ble_eq_true rfl) (Nat.le_of_ble_eq_true rfl) ho2) r9 rfl rfl ?_
  have PG := pg_e9 W T I (RJ2 σ hR) ht tq q3 q2
  have ee := PG.1
  have eo : RC8 κ2 a σ2 := by rw [hκ2]; exact PG.2
  subst ee
  refine lwP_9 (pc' := 1572) (lo' := lo) (st' := []) dlw_300 rfl ?_ ?_
  · show dif 3 300 lo [] 1272 (dcnd .eq v2 v2) = _
    have c : dcnd .eq v2 v2 = true := by simp [dcnd]
    rw [c]
    rfl
  · exact N _ _ _ _ _ _ hl (lS_m9 (by omega) (Nat.le_refl _) (lr_9 (σ' := σ2) S2)) q1 eo

theorem ls_forget9 (RA : rcF9 RJ (yX13_forget, cX13_forget, 2, (some .int), false, 16, 0) []) (hl : lO9 scr a o u i lo) (S : lS9 sa TL b a o u Lx t κ σ J cs ss) (hR : RJ σ) (ht : RC8 κ a σ) (N : nx9 sa TL b a o u scr L xs RJ Lx t n i) : dV9 (dEE sa TL) dXX dKK b scr L xs lawP9 (n + 5) 16 rLaw 1186 lo [] (zH (lB9 sa TL b o u σ J) κ) cs ss := by
  obtain ⟨W, T, ⟨ρ, I⟩, _⟩ := id S
  refine lwP_9 (pc' := 1187) dlw_1186 rfl (lda_9 (k := 1) hl.2.1) ?_
  refine lx_9 (m := mCh_forget) (j := 224) (pc' := 1190) S dlw_1187 (by decide +kernel) rfl ⟨rfl, by decide, rfl⟩ rfl (by decide) rfl (Ch_forget_w (Q := fun v κ' => (chI9 ρ κ' a Lx ∧ (∃ F, zF F κ κ') ∧ FG21 κ κ' a) ∧ v = zI κ chTolds a) W T ρ Lx I (fun v κ' h => h)) (fun v κ' x y e W' hc hs => ?_)
  obtain ⟨⟨I', ⟨F, Z⟩, z0⟩, ev⟩ := e
  have S2 := lS_d9 S W' Z I' hc hs
  refine lwP_9 (pc' := 1191) dlw_1190 rfl (lda_9 (k := 2) hl.2.2.1) ?_
  obtain ⟨k9, v2, σ2, r2, q1, q2, q3⟩ := rI_9 S2 (RA _ σ (rD_c9 S2) hR)
  obtain ⟨fs, ho⟩ := rcH_9 S2
  refine lw_c9 (d := 15) (pc' := 1194) (st' := [.int v2, .int v]) dlw_1191 rfl rfl rfl rfl (inv_r9 (C := lB9 sa TL b o u σ J) (As := []) (rest := [.int v]) (j := 388) (by decide +kernel) rfl ⟨rfl, by decide, rfl⟩ rfl (Nat.le_of_ble_eq_true rfl) (Nat.le_of_ble_eq_true rfl) ho) r2 rfl rfl ?_
  have et : σ.1 104 = zI κ chTolds a := ht.2.2.2.2.1.1
  have ee : v2 = v := by rw [q2, ev, et]
  subst ee
  refine lwP_9 (pc' := 1572) (lo' := lo) (st' := []) dlw_1194 rfl ?_ ?_
  · show dif 3 1194 lo [] 378 (dcnd .eq v2 v2) = _
    have c : dcnd .eq v2 v2 = true := by simp [dcnd]
    rw [c]
    rfl
  · exact N _ _ _ _ _ _ hl (lS_m9 (by omega) (Nat.le_succ _) (lr_9 (σ' := σ2) S2)) q1 (fgk_21 ht q3 z0)

end LP
