set_option maxHeartbeats 1600000
/-! the law's wrappers: a call of the class whose throws are caught -/
def outC9 (J : Nat → Int64) : dC := .inl (2, 1, .inr (.inl J))
def cO9 (C : zC) (u : Nat) (J : Nat → Int64) : zC := (C.1, C.2.1, C.2.2.1, C.2.2.2.1, fun b => if b = u then some (outC9 J) else C.2.2.2.2 b)
theorem zH_o9 {C : zC} {u : Nat} {J : Nat → Int64} {κ : zS} (h : zT κ u = 0) : zH (cO9 C u J) κ = dupd (zH C κ) u (outC9 J) := by
  show (some (zn κ), fun a => if zT κ a = 0 then (if a = u then some (outC9 J) else C.2.2.2.2 a) else some (zCell κ a)) = (some (zn κ), fun a => if a = u then some (outC9 J) else if zT κ a = 0 then C.2.2.2.2 a else some (zCell κ a))
  congr 1
  funext a
  by_cases e : a = u
  · rw [e, if_pos h, if_pos rfl, if_pos rfl]
  · rw [if_neg e, if_neg e]
theorem zH_u9 {C : zC} {u : Nat} {κ : zS} {c : dC} (h : zT κ u = 0) (hu : (yh C).2 u = some c) : (zH C κ).2 u = some c := by
  show (if zT κ u = 0 then (yh C).2 u else some (zCell κ u)) = some c
  rw [if_pos h, hu]
theorem zW_o9 {C : zC} {n0 u : Nat} {J : Nat → Int64} {κ : zS} (hu : yb C ≤ u) (W : zW C n0 κ) : zW (cO9 C u J) n0 κ := by
  obtain ⟨⟨⟨h1, h2⟩, h3⟩, h4⟩ := W
  refine ⟨⟨⟨h1, fun k hk => ?_⟩, h3⟩, h4⟩
  obtain ⟨g1, ⟨g2, x, y, g3, g4, g5, g6, g7⟩, g8⟩ := h2 k hk
  refine ⟨g1, ⟨g2, x, y, g3, g4, g5, ?_, g7⟩, ?_⟩
  · show (if x.2.1 = u then some (outC9 J) else C.2.2.2.2 x.2.1) = none
    have p : x.2.1 < C.2.2.1 := g5
    have q : C.2.2.1 ≤ u := hu
    rw [if_neg (by omega)]
    exact g6
  · show (if C.1 k = u then some (outC9 J) else C.2.2.2.2 (C.1 k)) = none
    have p : C.1 k < C.2.2.1 := g2
    have q : C.2.2.1 ≤ u := hu
    rw [if_neg (by omega)]
    exact g8
/-- a run that catches, at its return -/
theorem gc_t9 {E : dE} {X : dX} {XH : Nat → Option String} {hx : dHH} {b n d : Nat} {r : dM} {pc : Nat} {lo : dL0} {st : List Value} {h : dH} {cs ss : Nat} {v : Option Value} {i : Instr} {len : Nat} (hd : decode r.2.1 pc = .ok (i, len)) (hp : dpure i len pc r.2.2.1 lo st = none) (hg : dheap E b d r i len st h cs ss = none) (hr : dret r i len st = some v) : drunC E X XH hx b (n + 1) d r pc lo st h cs ss = some (v, h, cs, ss) := by
  rw [drunC, hd]
  dsimp only
  rw [hp]
  dsimp only
  rw [hg]
  dsimp only
  rw [hr]
/-- a call that throws, and is caught by a handler of two bytes -/
theorem gc_y9 {E : dE} {X : dX} {XH : Nat → Option String} {hx : dHH} {b n d idx hp0 k : Nat} {r : dM} {pc : Nat} {lo : dL0} {st : List Value} {h : dH} {cs ss : Nat} {z : dZ} {w : dY} {len : Nat} {y : dV} (hd : decode r.2.1 pc = .ok (.invokevirtual idx, len)) (hp : dpure (.invokevirtual idx) len pc r.2.2.1 lo st = none) (hg : dheap E b (d + 1) r (.invokevirtual idx) len st h cs ss = none) (hy : dinv E r.2.2.2.2.2.1 (.invokevirtual idx) len st h = some y) (hn : drun E b n d y.1 0 (dent y.2.1) [] h 0 0 = none) (hr : drunX E X b n d y.1 0 (dent y.2.1) [] h 0 0 = some w) (hf : dfind XH pc w.1 hx = some hp0) (hd2 : decode r.2.1 hp0 = .ok (.astore k, 2)) (hk : k < r.2.2.1) (K : drunC E X XH hx b n (d + 1) r (hp0 + 2) (dclr lo k) [] w.2.1 (cs + w.2.2.1) (ss + w.2.2.2) = some z) : drunC E X XH hx b (n + 1) (d + 1) r pc lo st h cs ss = some z := by
  rw [drunC, hd]
  try dsimp only
  rw [hp]
  try dsimp only
  rw [hg]
  try dsimp only
  rw [dinv_ret (r := r) hy]
  try dsimp only
  rw [hy]
  try dsimp only
  rw [hn]
  try dsimp only
  rw [hr]
  try dsimp only
  rw [hf]
  try dsimp only
  rw [hd2]
  exact (if_pos hk).trans K
/-- a number, and the return -/
theorem tl_9 {E : dE} {X : dX} {XH : Nat → Option String} {hx : dHH} {b d pc : Nat} {r : dM} {j : Int32} {jj : Int} (hr : r.2.2.2.1 = some .int) (d1 : decode r.2.1 pc = .ok (.iconst jj, 1)) (hj : Int32.ofInt jj = j) (d2 : decode r.2.1 (pc + 1) = .ok (.ireturn, 1)) : ∀ (n : Nat) (lo : dL0) (h : dH) (x y : Nat), drunC E X XH hx b (n + 2) d r pc lo [] h x y = some (some (.int j), h, x, y) := fun n lo h x y => by
  refine gc_p9 (w := (pc + 1, lo, [.int j])) d1 ?_ ?_
  · show some (pc + 1, lo, [Value.int (Int32.ofInt jj)]) = _
    rw [hj]
  · refine gc_t9 d2 rfl rfl ?_
    unfold dret
    dsimp only
    rw [hr]
    exact if_pos ⟨rfl, rfl⟩
/-- what a wrapper's run comes to -/
def wrQ9 (C : zC) (κ : zS) (u : Nat) (k : dM × dHH) (as : List Value) (P : zS → Prop) : Prop := ∃ (v : Int32) (κ' : zS) (C' : zC) (q : Option Nat) (x y n e : Nat), drunC (yEn C) dXX (dKK.2.2 100) k.2 (yb C) n 15 k.1 0 (dent as) [] (zH C κ) 0 0 = some (some (.int v), (q, (zH C' κ').2), x, y) ∧ (q = none ∨ q = some (zn κ')) ∧ (x + zc κ = zc κ' + e ∧ y + zs κ = zs κ' + 6 * e ∧ e ≤ 1) ∧ (C' = C ∨ ∃ J, C' = cO9 C u J) ∧ zW C (zn κ) κ' ∧ zM (zn κ) κ κ' ∧ P κ'
/-- what a handler does -/
def hdQ9 (C : zC) (k : dM × dHH) (pc : Nat) (lo : dL0) (cls : String) : Prop := ∃ (hp0 : Nat) (j : Int32), dfind (dKK.2.2 100) pc cls k.2 = some hp0 ∧ ((∃ k4 : Fin 4, decode k.1.2.1 hp0 = .ok (.astore_n k4, 1) ∧ (k4 : Nat) < k.1.2.2.1 ∧ ∀ (n : Nat) (lo : dL0) (h : dH) (x y : Nat), drunC (yEn C) dXX (dKK.2.2 100) k.2 (yb C) (n + 2) 15 k.1 (hp0 + 1) lo [] h x y = some (some (.int j), h, x, y)) ∨ (∃ kk : Nat, decode k.1.2.1 hp0 = .ok (.astore kk, 2) ∧ kk < k.1.2.2.1 ∧ ∀ (n : Nat) (lo : dL0) (h : dH) (x y : Nat), drunC (yEn C) dXX (dKK.2.2 100) k.2 (yb C) (n + 2) 15 k.1 (hp0 + 2) lo [] h x y = some (some (.int j), h, x, y)))
theorem wr_9 {C : zC} {κ : zS} {u n0 p s pc idx d0 : Nat} {k : dM × dHH} {as st as' rest : List Value} {lo : dL0} {m : dM} {P : zS → Prop} {Qo : zU → zS → Prop} (W : zW C n0 κ) (ho : k.1.2.2.2.2.2.1 = 100)
 (hpre : ∀ n z, drunC (yEn C) dXX (dKK.2.2 100) k.2 (yb C) n 15 k.1 pc lo st (zH C κ) 0 0 = some z → drunC (yEn C) dXX (dKK.2.2 100) k.2 (yb C) (n + p) 15 k.1 0 (dent as) [] (zH C κ) 0 0 = some z)
 (hd : decode k.1.2.1 pc = .ok (.invokevirtual idx, 3)) (hy : dinv (yEn C) 100 (.invokevirtual idx) 3 st (zH C κ) = some (m, as', rest)) (R : zRun C d0 m as' κ Qo) (h14 : d0 ≤ 14)
 (hok : ∀ vo κ', Qo (.inl vo) κ' → zW C (zn κ) κ' → P κ' ∧ ∃ C', (C' = C ∨ ∃ J, C' = cO9 C u J) ∧ ∀ n x y, drunC (yEn C) dXX (dKK.2.2 100) k.2 (yb C) (n + s) 15 k.1 (pc + 3) lo (vo.toList ++ rest) (zH C κ') x y = some (some (.int 0), zH C' κ', x, y))
 (hex : ∀ cls κ', Qo (.inr cls) κ' → κ' = ut κ ∧ P κ ∧ hdQ9 C k pc lo cls) : wrQ9 C κ u k as P := by
  replace W := W.lo (Nat.le_trans W.1.2.1 W.1.2.2) (Nat.le_refl (zn κ))
  obtain ⟨o, κ1, x, y, g1, g2, g3, g4, g5, g6⟩ := R
  have hpn : dpure (.invokevirtual idx) 3 pc k.1.2.2.1 lo st = none := rfl
  have hgn : dheap (yEn C) (yb C) (14 + 1) k.1 (.invokevirtual idx) 3 st (zH C κ) 0 0 = none := rfl
  have hy' : dinv (yEn C) k.1.2.2.2.2.2.1 (.invokevirtual idx) 3 st (zH C κ) = some (m, as', rest) := by rw [ho]; exact hy
  cases o with
  | inl vo =>
    have g1' : dGo (yEn C) (yb C) d0 m 0 (dent as') [] (zH C κ) 0 0 (vo, zH C κ1, x, y) := g1
    obtain ⟨n1, r1⟩ := go_up h14 g1'
    obtain ⟨hP, C', hC, hs⟩ := hok vo κ1 g6 g4
    have e1 := drun_le (Nat.le_add_right n1 s) r1
    exact ⟨0, κ1, C', some (zn κ1), 0 + x, 0 + y, n1 + s + 1 + p, 0, hpre _ _ (gc_r9 (w := (vo, zH C κ1, x, y)) hd hpn hgn hy' e1 (hs n1 (0 + x) (0 + y))), Or.inr rfl, ⟨by omega, by omega, by omega⟩, hC, g4, g5, hP⟩
  | inr cls =>
    have g1' : dGoX (yEn C) dXX (yb C) d0 m 0 (dent as') [] (zH C κ) 0 0 (cls, (none, (zH C κ1).2), x, y) := g1
    obtain ⟨n1, r1⟩ := gox_up (yap C) h14 g1'
    obtain ⟨eu, hP, hp0, j, hf, hh⟩ := hex cls κ1 g6
    have e1 := drunX_le (yap C) (Nat.le_add_right n1 2) r1
    have e0 := drunX_not (yap C) _ _ _ _ _ _ _ _ _ _ r1 (n1 + 2)
    have hz : (zH C κ1).2 = (zH C κ).2 := by rw [eu]; rfl
    have cx : zc κ1 = zc κ + 1 ∧ zs κ1 = zs κ + 6 := by rw [eu]; exact ⟨rfl, rfl⟩
    rcases hh with ⟨k4, d1, d2, d3⟩ | ⟨kk, d1, d2, d3⟩
    · refine ⟨j, κ, C, none, 0 + x, 0 + y, n1 + 2 + 1 + p, 1, hpre _ _ (gc_x9 (w := (cls, (none, (zH C κ1).2), x, y)) (k := k4) hd hpn hgn hy' e0 e1 hf d1 d2 ?_), Or.inl rfl, ⟨by omega, by omega, by omega⟩, Or.inl rfl, W, zM.rf, hP⟩
      rw [← hz]
      exact d3 n1 _ _ _ _
    · refine ⟨j, κ, C, none, 0 + x, 0 + y, n1 + 2 + 1 + p, 1, hpre _ _ (gc_y9 (w := (cls, (none, (zH C κ1).2), x, y)) (k := kk) hd hpn hgn hy' e0 e1 hf d1 d2 ?_), Or.inl rfl, ⟨by omega, by omega, by omega⟩, Or.inl rfl, W, zM.rf, hP⟩
      rw [← hz]
      exact d3 n1 _ _ _ _
/-- a long is stored into the row, then the return -/
theorem ls_9 {C : zC} {κ : zS} {u pc tgt d : Nat} {r : dM} {hx : dHH} {XH : Nat → Option String} {J : Nat → Int64} {x9 : Int64} {off : Int} {lo : dL0} (hb : yb C ≤ u) (h0 : zT κ u = 0) (hu : (yh C).2 u = some (outC9 J)) (hr : r.2.2.2.1 = some .int) (d1 : decode r.2.1 pc = .ok (.lastore, 1)) (d2 : decode r.2.1 (pc + 1) = .ok (.goto off, 3)) (hg : dpure (.goto off) 3 (pc + 1) r.2.2.1 lo [] = some (tgt, lo, [])) (d3 : decode r.2.1 tgt = .ok (.iconst 0, 1)) (d4 : decode r.2.1 (tgt + 1) = .ok (.ireturn, 1)) : ∀ n x y, drunC (yEn C) dXX XH hx (yb C) (n + 4) d r pc lo [.long x9, .int 0, .ref u] (zH C κ) x y = some (some (.int 0), zH (cO9 C u (vp_updL J 0 x9)) κ, x, y) := fun n x y => by
  refine gc_h9 (g := ([], dupd (zH C κ) u (outC9 (vp_updL J 0 x9)), x, y)) d1 rfl ?_ ?_
  · show dastL (yb C) 1 [.long x9, .int 0, .ref u] (zH C κ) x y = _
    unfold dastL
    dsimp only
    rw [zH_u9 h0 hu]
    exact if_pos ⟨rfl, hb, rfl, by decide⟩
  · rw [← zH_o9 h0]
    refine gc_p9 (w := (tgt, lo, [])) d2 hg ?_
    exact tl_9 hr d3 zi_0 d4 n lo _ x y
