set_option maxHeartbeats 1600000
/-! the law's beginning: the class's object, the reference's, the row -/
def k09 (b : Nat) : zS := (fun _ => 0, fun _ => 0, fun _ _ => 0, fun _ _ => 0, fun _ _ => 0, fun _ _ => 0, fun _ _ => none, fun _ => (0, 0), b, 0, 0)
def c09 (sa : Nat → Nat) (TL : List (Nat × Nat × List Int32)) (b : Nat) : zC := (sa, TL, b, (none, fun _ => none))
theorem zr_09 : ∀ f, f < 100 → zr f = none := by decide +kernel
theorem zz_09 : ∀ f, f ∈ zZT → f / 100 ≠ 0 := by decide +kernel
theorem zW_09 {sa : Nat → Nat} {TL : List (Nat × Nat × List Int32)} {b : Nat} (hb : 0 < b) (hT : cTx (c09 sa TL b)) : zW (c09 sa TL b) b (k09 b) := by
  refine ⟨⟨⟨hb, hT⟩, Nat.le_refl _, Nat.le_refl _⟩, fun a h => absurd rfl h, fun f t a h e => ?_, fun a i v h => ?_, fun a i v h => ?_, fun f a h e => ?_, fun a i h => ?_, fun a i h => ?_, fun f t a h _ e => ?_⟩
  · have e : 0 = f / 100 := e
    rw [zr_09 f (by omega)] at h
    cases h
  · have h : 0 = 24 := h
    omega
  · have h : 0 = 25 := h
    omega
  · have e : 0 = f / 100 := e
    exact absurd e.symm (zz_09 f h)
  · have h : 0 = 23 := h
    omega
  · have h : 0 = 21 := h
    omega
  · have e : 0 = f / 100 := e
    rw [zr_09 f (by omega)] at h
    cases h
theorem zH_09 {sa : Nat → Nat} {TL : List (Nat × Nat × List Int32)} {b : Nat} : zH (c09 sa TL b) (k09 b) = (some b, fun _ => none) := rfl
theorem lg_09 {k : Nat} : lgH9 k (k09 (k + 1)) 1 [] := ⟨rfl, fun _ _ => rfl, fun _ _ => rfl, fun _ _ _ => rfl, fun _ _ _ => rfl, fun _ _ _ => rfl, fun _ _ _ => rfl, fun _ _ => rfl, fun _ _ => rfl, rfl, rfl⟩
theorem zk_k9 : ∀ p ∈ zRT, p.1 / 100 = 15 → 0 < lgR9 cl9_45 p.1 1 ∧ lgT9 cl9_45 (lgR9 cl9_45 p.1 1) = p.2 ∧ (20 ≤ p.2 → lgO9 cl9_45 (lgR9 cl9_45 p.1 1) = (p.1, 1)) := by decide +kernel
theorem zk_z9 : ∀ f ∈ zZT, f / 100 = 15 → lgI9 cl9_45 f 1 = 0 := by decide +kernel
theorem zk_t9 : lgT9 cl9_45 1 = 55 := by decide +kernel
/-- a constructor is called -/
theorem inv_i9 {C : zC} {idx j oo : Nat} {r' : dM} {rest : List Value} {h : dH} (hm : (tML 100 ++ tMX 100).lookup idx = some j) (hj : MTs[j]? = some r') (hq : r'.2.2.2.2.1 = false ∧ r'.1.name = "<init>" ∧ r'.2.2.2.1.isNone = true) (hn : r'.2.2.2.2.2.2 = 0) (hl : 1 ≤ r'.2.2.1) (hc : (rest.map fun v => v.category).sum ≤ 8) : dinv (yEn C) 100 (.invokespecial idx) 3 (.ref oo :: rest) h = some (r', [.ref oo], rest) := by
  show dinvI (yEn C) 100 3 idx (.ref oo :: rest) = _
  have hm' : eML (yEn C) 100 idx = some j := hm
  have hj' : eMT (yEn C) j = some r' := hj
  unfold dinvI
  simp only [hm', hj', hn, List.drop_zero, List.take_zero, List.reverse_nil]
  rw [if_pos ⟨trivial, hq.1, hq.2.1, hq.2.2, hc, hl⟩]
theorem dV_e9 {E : dE} {X : dX} {K : dKE} {b scr L : Nat} {xs : Nat → Int32} {post : Option Value → Nat → Nat → Prop} {n d : Nat} {r : dM} {pc : Nat} {lo : dL0} {st : List Value} {h : dH} {cs ss : Nat} (H : dV9 E X K b scr L xs post n d r pc lo st h cs ss) : ∃ n, dwp E X K b scr L xs post n d r pc lo st h cs ss := ⟨n, H.2⟩
section LB
variable {sa : Nat → Nat} {TL : List (Nat × Nat × List Int32)} {b scr L : Nat} {xs : Nat → Int32} {RJ : rS → Prop}
theorem zW_19 {o u n0 : Nat} {σ : rS} {J : Nat → Int64} {κ : zS} (ho : b ≤ o) (hu : b ≤ u) (W : zW (c09 sa TL b) n0 κ) : zW (lB9 sa TL b o u σ J) n0 κ := by
  obtain ⟨⟨⟨h1, h2⟩, h3⟩, h4⟩ := W
  refine ⟨⟨⟨h1, fun k hk => ?_⟩, h3⟩, h4⟩
  obtain ⟨g1, ⟨g2, x, y, g3, g4, g5, g6, g7⟩, g8⟩ := h2 k hk
  exact ⟨g1, ⟨g2, x, y, g3, g4, g5, cB_n9 ho hu g5, g7⟩, cB_n9 ho hu g2⟩
/-- the heap, all made -/
theorem zH_29 {κ : zS} {o : Nat} (h0 : ∀ x, zT κ x ≠ 0 → x < o) : dnew (rH (some (o + 76), (zH (c09 sa TL b) κ).2) o (ad9 o) sg9) (o + 76) (outC9 (fun _ => 0)) = zH (lB9 sa TL b o (o + 76) sg9 (fun _ => 0)) (stn9 κ (o + 77)) := by
  refine Prod.ext rfl ?_
  funext x
  show (if x = o + 76 then some (outC9 (fun _ => 0)) else (rH (some (o + 76), (zH (c09 sa TL b) κ).2) o (ad9 o) sg9).2 x) = if zT κ x = 0 then (if x = o + 76 then some (outC9 (fun _ => 0)) else (rH (none, fun _ => none) o (ad9 o) sg9).2 x) else some (zCell κ x)
  have r : ∀ hh : dH, x ≠ o → (rH hh o (ad9 o) sg9).2 x = match (ROWS13.find? fun q => ad9 o q.1 == x) with
      | some q => some (rRow sg9 q.1 q.2)
      | none => hh.2 x := fun hh e => if_neg e
  by_cases e : zT κ x = 0
  · rw [if_pos e]
    by_cases e1 : x = o + 76
    · rw [if_pos e1, if_pos e1]
    · rw [if_neg e1, if_neg e1]
      by_cases e2 : x = o
      · exact (if_pos e2).trans (if_pos e2).symm
      · rw [r _ e2, r _ e2]
        cases ROWS13.find? (fun q => ad9 o q.1 == x) with
        | some q => rfl
        | none => exact if_pos e
  · have lt := h0 x e
    rw [if_neg e, if_neg (by omega), r _ (by omega)]
    cases hf : ROWS13.find? (fun q => ad9 o q.1 == x) with
    | some q =>
      have e2 : ad9 o q.1 = x := by simpa using List.find?_some hf
      unfold ad9 at e2
      omega
    | none => exact if_neg e
theorem xS_09 {hb : dH} {o : Nat} : xS9 hb o 0 false (dnew hb o (.inr (16, (List.range 126).map (fun k => defaultValue (nY 16 k))))) := by
  refine ⟨rfl, ⟨fun k => defaultValue (nY 16 k), if_pos rfl, fun p q hp => absurd hp (Nat.not_lt_zero _), fun i _ => ?_⟩, fun p q hp => absurd hp (Nat.not_lt_zero _), fun a ha _ => if_neg ha⟩
  show _ = if false = true ∧ i = 106 then _ else _
  rw [if_neg (fun z => by cases z.1)]
theorem law_9 (hX : tx5 (c59 sa TL b)) (RJ2 : ∀ σ, RJ σ → 0 ≤ σ.1 2 ∧ σ.1 2 ≤ 65536) (RJ3 : ∀ σ, RJ σ → pb16 σ) (RB : rB9 RJ) (R0 : RJ sg9) (hb : 0 < b) (hT : cTx (c09 sa TL b)) (hL : L ≤ 3072) : ∃ n, dwp (dEE sa TL) dXX dKK b scr L xs lawP9 n 16 rLaw 0 (dent [.ref scr]) [] (some b, fun _ => none) 0 0 := by
  obtain ⟨k, rfl⟩ : ∃ k, b = k + 1 := ⟨b - 1, by omega⟩
  have W0 := zW_09 (Nat.succ_pos k) hT
  have W1 : zW (c09 sa TL (k + 1)) (k + 1) (noo (k09 (k + 1)) 15) := zW_no W0 rfl
  have H1 : lgH9 k (noo (k09 (k + 1)) 15) 2 cl9_0 := lg_no9 lg_09
  have T1 : zT (noo (k09 (k + 1)) 15) (k + 1) = 55 := if_pos rfl
  obtain ⟨o9, κ1, x, y, g1, g2, g3, g4, g5, g6⟩ := Ch_init_c (Q := fun κ' => lgH9 k κ' 138 cl9_45) W1 T1 k ⟨H1, rfl⟩ (fun κ' h => h)
  rcases g6 with ⟨e, H2⟩ | ⟨cls, _, f⟩
  · subst e
    have g1' : dGo (dEE sa TL) (k + 1) 4 mCh_init 0 (dent [.ref (k + 1)]) [] (zH (c09 sa TL (k + 1)) (noo (k09 (k + 1)) 15)) 0 0 (none, zH (c09 sa TL (k + 1)) κ1, x, y) := g1
    obtain ⟨n1, r1⟩ := go_up (show 4 ≤ 15 by decide) g1'
    have T2 : zT κ1 (k + 1) = 40 + 15 := (H2.2.1 1 (by decide)).trans zk_t9
    have W2 : zW (c09 sa TL (k + 1)) (k + 1) κ1 := g4.lo (Nat.le_refl _) (Nat.le_trans g4.1.2.1 g4.1.2.2)
    have W3 : zW (c09 sa TL (k + 1)) (k + 1) (nff κ1 (k + 1)) := zW_nf W2 rfl T2 (by decide) (by decide) (lg_ok9 H2 (by decide) zk_k9 zk_z9)
    have H3 : lgH9 k (nff κ1 (k + 1)) 138 clF9 := lg_nf9 (by decide) H2
    have e3 : zH (c09 sa TL (k + 1)) (nff κ1 (k + 1)) = zH (c09 sa TL (k + 1)) κ1 := zH_nf T2 (by decide) (by decide)
    have c2 : zc (nff κ1 (k + 1)) = zc κ1 ∧ zs (nff κ1 (k + 1)) = zs κ1 := ⟨rfl, rfl⟩
    obtain ⟨κ2, hκ2⟩ : ∃ κ2, κ2 = nff κ1 (k + 1) := ⟨_, rfl⟩
    rw [← hκ2] at W3 H3 e3 c2
    obtain ⟨s1, s2, s3, s4, s5⟩ := st_c9 H3
    obtain ⟨o, ho⟩ : ∃ o, o = k + 138 := ⟨_, rfl⟩
    rw [← ho] at s5
    have lt : ∀ x, zT κ2 x ≠ 0 → x < o := fun x h => by
      have q := (W3.2.1 x h).2
      omega
    obtain ⟨hf, q1, k9, q2⟩ := x13_run9 (sa := sa) (TL := TL) (b := k + 1) (d := 14) (show k + 1 ≤ o by omega) (xS_09 (hb := zH (c09 sa TL (k + 1)) κ2) (o := o))
    have q3 := x13_h9 q1
    have e4 := zH_29 (sa := sa) (TL := TL) (b := k + 1) lt
    rw [← q3] at e4
    have z0 : nN 15 + y = zs κ2 := by
      have z : zs (noo (k09 (k + 1)) 15) = nN 15 := Nat.zero_add _
      omega
    have c0 : 1 + x = zc κ2 := by
      have z : zc (noo (k09 (k + 1)) 15) = 1 := rfl
      omega
    have LL : dV9 (dEE sa TL) dXX dKK (k + 1) scr L xs lawP9 (200 * 512 + 20 + 13) 16 rLaw 0 (dent [.ref scr]) [] (zH (c09 sa TL (k + 1)) (k09 (k + 1))) 0 0 := by
      refine lw_h9 (pc' := 3) dlw_0 rfl rfl rfl (nw_9 (C := c09 sa TL (k + 1)) (κ := k09 (k + 1)) (idx := 8) rfl (by decide +kernel)) ?_
      refine lwP_9 (pc' := 4) (lo' := dent [.ref scr]) (st' := [.ref (k + 1), .ref (k + 1)]) dlw_3 rfl rfl ?_
      refine lw_c9 (d := 15) (pc' := 7) (st' := [.ref (k + 1)]) dlw_4 rfl rfl rfl rfl (inv_i9 (C := c09 sa TL (k + 1)) (j := 204) (r' := mCh_init) (by decide +kernel) rfl ⟨rfl, by decide, rfl⟩ rfl (by decide) (Nat.le_of_ble_eq_true rfl)) r1 rfl rfl ?_
      rw [← e3]
      refine lwP_9 (pc' := 8) (lo' := dset1 (dent [.ref scr]) 1 (.ref (k + 1))) (st' := []) dlw_7 rfl rfl ?_
      refine lw_h9 (pc' := 11) (st' := [.ref o]) (h' := dnew (zH (c09 sa TL (k + 1)) κ2) o (.inr (16, (List.range 126).map (fun k => defaultValue (nY 16 k))))) (cs' := 0 + 1 + x + 1) (ss' := 0 + nN 15 + y + 126) dlw_8 rfl rfl rfl ?_ ?_
      · have a1 : eNW (dEE sa TL) 100 91 = some 16 := by
          show (tNW 100).lookup 91 = some 16
          decide +kernel
        have a2 : eND (dEE sa TL) 16 = some ((List.range 126).map (fun k => defaultValue (nY 16 k))) := by
          show tND 16 = _
          unfold tND
          rw [if_pos (by decide)]
          rfl
        have a3 : (zH (c09 sa TL (k + 1)) κ2).1 = some o := congrArg some s5
        show dnewo (dEE sa TL) 100 3 91 [] (zH (c09 sa TL (k + 1)) κ2) _ _ = _
        unfold dnewo
        simp only [a1, a2, a3]
        rw [if_pos trivial]
        simp
      refine lwP_9 (pc' := 12) (lo' := dset1 (dent [.ref scr]) 1 (.ref (k + 1))) (st' := [.ref o, .ref o]) dlw_11 rfl rfl ?_
      refine lw_c9 (d := 15) (pc' := 15) (st' := [.ref o]) dlw_12 rfl rfl rfl rfl (inv_i9 (C := c09 sa TL (k + 1)) (j := 233) (r' := mX139) (by decide +kernel) rfl ⟨rfl, by decide, rfl⟩ rfl (by decide) (Nat.le_of_ble_eq_true rfl)) q2 rfl rfl ?_
      refine lwP_9 (pc' := 16) (lo' := dset1 (dset1 (dent [.ref scr]) 1 (.ref (k + 1))) 2 (.ref o)) (st' := []) dlw_15 rfl rfl ?_
      refine lwP_9 (pc' := 17) (lo' := dset1 (dset1 (dent [.ref scr]) 1 (.ref (k + 1))) 2 (.ref o)) (st' := [.int 1]) dlw_16 rfl rfl ?_
      refine lw_h9 (pc' := 19) (st' := [.ref (o + 76)]) (h' := zH (lB9 sa TL (k + 1) o (o + 76) sg9 (fun _ => 0)) (stn9 κ2 (o + 77))) (cs' := 0 + 1 + x + 1 + 75 + 1) (ss' := 0 + nN 15 + y + 126 + 3196409 + 1) dlw_17 rfl rfl rfl ?_ ?_
      · have a3 : hf.1 = some (o + 76) := by rw [q3]; rfl
        show dnewa 2 .long [.int 1] hf _ _ = _
        have a4 : dnty .long = some (2, .inr (.inl (fun _ => 0))) := rfl
        unfold dnewa
        simp only [a4, a3]
        rw [if_pos (by decide), ← e4]
        rfl
      refine lwP_9 (pc' := 20) (lo' := dset1 (dset1 (dset1 (dent [.ref scr]) 1 (.ref (k + 1))) 2 (.ref o)) 3 (.ref (o + 76))) (st' := []) dlw_19 rfl rfl ?_
      refine lwP_9 (pc' := 21) (lo' := dset1 (dset1 (dset1 (dent [.ref scr]) 1 (.ref (k + 1))) 2 (.ref o)) 3 (.ref (o + 76))) (st' := [.int 0]) dlw_20 rfl rfl ?_
      refine lwP_9 (pc' := 23) (lo' := dset1 (dset1 (dset1 (dset1 (dent [.ref scr]) 1 (.ref (k + 1))) 2 (.ref o)) 3 (.ref (o + 76))) 4 (.int 0)) (st' := []) dlw_21 rfl rfl ?_
      refine lloop_9 (RJ := RJ) hX RJ2 RJ3 RB hL 512 0 0 _ _ sg9 _ _ _ 0 rfl rfl rfl ⟨rfl, rfl, rfl, rfl, rfl⟩ ?_ R0 (by have z := st_r8 H3; exact z)
      have h2 : ∀ x, zT κ2 x ≠ 0 → x < o + 77 := fun x h => by
        have q := lt x h
        omega
      have ltz : ∀ x, zT κ2 x ≠ 0 → x < zn κ2 := fun x h => (W3.2.1 x h).2
      refine ⟨stn_W9 h2 (show k + 1 ≤ o + 77 by omega) (zW_19 (by omega) (by omega) W3), s4, ⟨_, stn_c9 ltz h2 (ch_st9 H3)⟩, stn_o9 ltz h2 (oT_st9 H3), ⟨?_, ?_⟩, ⟨⟨by omega, by omega, by omega⟩, fun x hx => ⟨?_, ?_⟩⟩, 0, Nat.le_refl _, ?_, ?_⟩
      · show zs κ2 ≤ 3000 + _
        omega
      · show 4 * zc κ2 ≤ 548 + _
        omega
      · show zT κ2 x = 0
        by_cases e : zT κ2 x = 0
        · exact e
        · have q := lt x e
          omega
      · show x < o + 77
        omega
      · show 0 + 1 + x + 1 + 75 + 1 = zc κ2 + 0 + 77
        omega
      · show 0 + nN 15 + y + 126 + 3196409 + 1 = zs κ2 + 6 * 0 + 3196536
        omega
    rw [zH_09] at LL
    exact dV_e9 LL
  · exact f.elim
end LB
