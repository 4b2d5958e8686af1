set_option maxHeartbeats 1600000
/-! a call of the class whose throws are caught, with what comes out of it -/
def wrP9 (C : zC) (κ : zS) (u : Nat) (k : dM × dHH) (as : List Value) (P : Int32 → zC → zS → Prop) : Prop := ∃ (v : Int32) (κ' : zS) (C' : zC) (q : Option Nat) (x y n e : Nat), drunC (yEn C) dXX (dKK.2.2 100) k.2 (yb C) n 15 k.1 0 (dent as) [] (zH C κ) 0 0 = some (some (.int v), (q, (zH C' κ').2), x, y) ∧ (q = none ∨ q = some (zn κ')) ∧ (x + zc κ = zc κ' + e ∧ y + zs κ = zs κ' + 6 * e ∧ e ≤ 1) ∧ (C' = C ∨ ∃ J, C' = cO9 C u J) ∧ zW C (zn κ) κ' ∧ zM (zn κ) κ κ' ∧ P v C' κ'
/-- what a handler does -/
def hdP9 (C : zC) (k : dM × dHH) (pc : Nat) (lo : dL0) (cls : String) (j : Int32) : Prop := ∃ (hp0 : Nat), dfind (dKK.2.2 100) pc cls k.2 = some hp0 ∧ ((∃ k4 : Fin 4, decode k.1.2.1 hp0 = .ok (.astore_n k4, 1) ∧ (k4 : Nat) < k.1.2.2.1 ∧ ∀ (n : Nat) (lo : dL0) (h : dH) (x y : Nat), drunC (yEn C) dXX (dKK.2.2 100) k.2 (yb C) (n + 2) 15 k.1 (hp0 + 1) lo [] h x y = some (some (.int j), h, x, y)) ∨ (∃ kk : Nat, decode k.1.2.1 hp0 = .ok (.astore kk, 2) ∧ kk < k.1.2.2.1 ∧ ∀ (n : Nat) (lo : dL0) (h : dH) (x y : Nat), drunC (yEn C) dXX (dKK.2.2 100) k.2 (yb C) (n + 2) 15 k.1 (hp0 + 2) lo [] h x y = some (some (.int j), h, x, y)))
theorem wr_p9 {C : zC} {κ : zS} {u n0 p s pc idx d0 : Nat} {k : dM × dHH} {as st as' rest : List Value} {lo : dL0} {m : dM} {P : Int32 → zC → zS → Prop} {Qo : zU → zS → Prop} (W : zW C n0 κ) (ho : k.1.2.2.2.2.2.1 = 100)
 (hpre : ∀ n z, drunC (yEn C) dXX (dKK.2.2 100) k.2 (yb C) n 15 k.1 pc lo st (zH C κ) 0 0 = some z → drunC (yEn C) dXX (dKK.2.2 100) k.2 (yb C) (n + p) 15 k.1 0 (dent as) [] (zH C κ) 0 0 = some z)
 (hd : decode k.1.2.1 pc = .ok (.invokevirtual idx, 3)) (hy : dinv (yEn C) 100 (.invokevirtual idx) 3 st (zH C κ) = some (m, as', rest)) (R : zRun C d0 m as' κ Qo) (h14 : d0 ≤ 14)
 (hok : ∀ vo κ', Qo (.inl vo) κ' → zW C (zn κ) κ' → ∃ C', P 0 C' κ' ∧ (C' = C ∨ ∃ J, C' = cO9 C u J) ∧ ∀ n x y, drunC (yEn C) dXX (dKK.2.2 100) k.2 (yb C) (n + s) 15 k.1 (pc + 3) lo (vo.toList ++ rest) (zH C κ') x y = some (some (.int 0), zH C' κ', x, y))
 (hex : ∀ cls κ', Qo (.inr cls) κ' → κ' = ut κ ∧ ∃ j, P j C κ ∧ hdP9 C k pc lo cls j) : wrP9 C κ u k as P := by
  replace W := W.lo (Nat.le_trans W.1.2.1 W.1.2.2) (Nat.le_refl (zn κ))
  obtain ⟨o, κ1, x, y, g1, g2, g3, g4, g5, g6⟩ := R
  have hpn : dpure (.invokevirtual idx) 3 pc k.1.2.2.1 lo st = none := rfl
  have hgn : dheap (yEn C) (yb C) (14 + 1) k.1 (.invokevirtual idx) 3 st (zH C κ) 0 0 = none := rfl
  have hy' : dinv (yEn C) k.1.2.2.2.2.2.1 (.invokevirtual idx) 3 st (zH C κ) = some (m, as', rest) := by rw [ho]; exact hy
  cases o with
  | inl vo =>
    have g1' : dGo (yEn C) (yb C) d0 m 0 (dent as') [] (zH C κ) 0 0 (vo, zH C κ1, x, y) := g1
    obtain ⟨n1, r1⟩ := go_up h14 g1'
    obtain ⟨C', hP, hC, hs⟩ := hok vo κ1 g6 g4
    have e1 := drun_le (Nat.le_add_right n1 s) r1
    exact ⟨0, κ1, C', some (zn κ1), 0 + x, 0 + y, n1 + s + 1 + p, 0, hpre _ _ (gc_r9 (w := (vo, zH C κ1, x, y)) hd hpn hgn hy' e1 (hs n1 (0 + x) (0 + y))), Or.inr rfl, ⟨by omega, by omega, by omega⟩, hC, g4, g5, hP⟩
  | inr cls =>
    have g1' : dGoX (yEn C) dXX (yb C) d0 m 0 (dent as') [] (zH C κ) 0 0 (cls, (none, (zH C κ1).2), x, y) := g1
    obtain ⟨n1, r1⟩ := gox_up (yap C) h14 g1'
    obtain ⟨eu, j, hP, hp0, hf, hh⟩ := hex cls κ1 g6
    have e1 := drunX_le (yap C) (Nat.le_add_right n1 2) r1
    have e0 := drunX_not (yap C) _ _ _ _ _ _ _ _ _ _ r1 (n1 + 2)
    have hz : (zH C κ1).2 = (zH C κ).2 := by rw [eu]; rfl
    have cx : zc κ1 = zc κ + 1 ∧ zs κ1 = zs κ + 6 := by rw [eu]; exact ⟨rfl, rfl⟩
    rcases hh with ⟨k4, d1, d2, d3⟩ | ⟨kk, d1, d2, d3⟩
    · refine ⟨j, κ, C, none, 0 + x, 0 + y, n1 + 2 + 1 + p, 1, hpre _ _ (gc_x9 (w := (cls, (none, (zH C κ1).2), x, y)) (k := k4) hd hpn hgn hy' e0 e1 hf d1 d2 ?_), Or.inl rfl, ⟨by omega, by omega, by omega⟩, Or.inl rfl, W, zM.rf, hP⟩
      rw [← hz]
      exact d3 n1 _ _ _ _
    · refine ⟨j, κ, C, none, 0 + x, 0 + y, n1 + 2 + 1 + p, 1, hpre _ _ (gc_y9 (w := (cls, (none, (zH C κ1).2), x, y)) (k := kk) hd hpn hgn hy' e0 e1 hf d1 d2 ?_), Or.inl rfl, ⟨by omega, by omega, by omega⟩, Or.inl rfl, W, zM.rf, hP⟩
      rw [← hz]
      exact d3 n1 _ _ _ _
