set_option maxHeartbeats 1600000
/-! ChanceWorks.program, whole -/
theorem gf_e9 {C : zC} {n0 d idx o ci k a t cs ss : Nat} {r : dM} {st : List Value} {κ : zS} (W : zW C n0 κ) (ho : r.2.2.2.2.2.1 = o) (hf : (tFL o).lookup idx = some (ci, k)) (hk : (k < nN ci ∧ 0 < ci ∧ ci < 20) ∧ zr (100 * ci + k) = some (t + 1)) (hB : zBo κ a ci) (hT : zT κ (zR κ (100 * ci + k) a) = t + 1) : dheap (yEn C) (yb C) d r (.getfield idx) 3 (.ref a :: st) (zH C κ) cs ss = some (.ref (zR κ (100 * ci + k) a) :: st, zH C κ, cs, ss) := by
  have hv : zV κ a (100 * ci + k) = .ref (zR κ (100 * ci + k) a) := zV_r hk.2 (zW_b W (by omega)).2.2
  have h1 : dgetf (yEn C) r.2.2.2.2.2.1 3 idx (.ref a :: st) (zH C κ) cs ss = some (.ref (zR κ (100 * ci + k) a) :: st, zH C κ, cs, ss) := by
    have hf' : eFL (yEn C) o idx = some (ci, k) := hf
    unfold dgetf
    simp only [zH_ob hB hk.1.2.1 hk.1.2.2, ho, hf', zFs_at hk.1.1, hv]
    rfl
  show dor (dgetf (yEn C) r.2.2.2.2.2.1 3 idx (.ref a :: st) (zH C κ) cs ss) _ = _
  rw [h1]
  rfl
/-- the way to the parser -/
theorem pg_p9 {C : zC} {n0 a n : Nat} {κ : zS} {XH : Nat → Option String} {hx : dHH} {z : dZ} (W : zW C n0 κ) (T : zT κ a = 15) (K : drunC (yEn C) dXX XH hx (yb C) n 15 mCh_program 10 (dset1 (dent [.ref a]) 1 (.int 1)) [.ref (zR κ chSpare a), .ref (zR κ chParser a)] (zH C κ) 0 0 = some z) : drunC (yEn C) dXX XH hx (yb C) (n + 6) 15 mCh_program 0 (dent [.ref a]) [] (zH C κ) 0 0 = some z := by
  have l0 : lA (dent [.ref a]) [some (.ref a), none, none] := m_ent [.ref a] 2
  have l1 : lA (dset1 (dent [.ref a]) 1 (.int 1)) [some (.ref a), some (.int 1), none] := lA_set1 (i := 1) (v := .int 1) l0
  have a0 : ∀ pc st, dpure (.aload_n 0) 1 pc 3 (dset1 (dent [.ref a]) 1 (.int 1)) st = some (pc + 1, dset1 (dent [.ref a]) 1 (.int 1), .ref a :: st) := fun pc st => by
    show dldA 1 1 pc ((0 : Fin 4) : Nat) (dset1 (dent [.ref a]) 1 (.int 1)) st = some (pc + 1, dset1 (dent [.ref a]) 1 (.int 1), .ref a :: st)
    unfold dldA
    rw [show (dset1 (dent [.ref a]) 1 (.int 1)) ((0 : Fin 4) : Nat) = some (.ref a) from l1 0 _ rfl]
    rfl
  refine gc_p9 (w := (1, dent [.ref a], [.int 1])) dX12_program_0 ?_ ?_
  · show some (0 + 1, dent [.ref a], [Value.int (Int32.ofInt 1)]) = _
    rw [zi_1]
  refine gc_p9 (w := (2, dset1 (dent [.ref a]) 1 (.int 1), [])) dX12_program_1 ?_ ?_
  · show dstI 1 1 1 1 3 (dent [.ref a]) [.int 1] = _
    rfl
  refine gc_p9 (w := (3, dset1 (dent [.ref a]) 1 (.int 1), [.ref a])) dX12_program_2 (a0 2 []) ?_
  refine gc_h9 (g := ([.ref (zR κ chParser a)], zH C κ, 0, 0)) dX12_program_3 rfl (gf_e9 W rfl fl_X12_31 fk_chParser (Or.inl T) (ty_chParser W T)) ?_
  refine gc_p9 (w := (7, dset1 (dent [.ref a]) 1 (.int 1), [.ref a, .ref (zR κ chParser a)])) dX12_program_6 (a0 6 _) ?_
  refine gc_h9 (g := ([.ref (zR κ chSpare a), .ref (zR κ chParser a)], zH C κ, 0, 0)) dX12_program_7 rfl (gf_e9 W rfl fl_X12_23 fk_chSpare (Or.inl T) (ty_chSpare W T)) ?_
  exact K
theorem inv_e9 {C : zC} {o idx j b : Nat} {r' : dM} {As rest : List Value} {κ : zS} (hm : (tML o ++ tMX o).lookup idx = some j) (hj : MTs[j]? = some r') (hq : r'.2.2.2.2.1 = false ∧ r'.1.name ≠ "<init>" ∧ 0 < r'.2.2.2.2.2.1 ∧ r'.2.2.2.2.2.1 < 20) (hn : As.length = r'.2.2.2.2.2.2) (hl : (lg_sl (.ref b :: As)).length ≤ r'.2.2.1) (hc : (rest.map fun v => v.category).sum ≤ 8) (hB : zBo κ b r'.2.2.2.2.2.1) : dinv (yEn C) o (.invokevirtual idx) 3 (As.reverse ++ .ref b :: rest) (zH C κ) = some (r', .ref b :: As, rest) := by
  have hdr : (As.reverse ++ Value.ref b :: rest).drop r'.2.2.2.2.2.2 = .ref b :: rest := by rw [← hn, ← List.length_reverse]; simp
  have htk : (As.reverse ++ Value.ref b :: rest).take r'.2.2.2.2.2.2 = As.reverse := by rw [← hn, ← List.length_reverse]; simp
  show dinvV (yEn C) o 3 idx (As.reverse ++ .ref b :: rest) (zH C κ) = _
  have hm' : eML (yEn C) o idx = some j := hm
  have hj' : eMT (yEn C) j = some r' := hj
  unfold dinvV
  simp only [hm', hj', hdr, htk, List.reverse_reverse]
  rw [if_pos ⟨trivial, hq.1, hq.2.1, by unfold drec; rw [zH_ob hB hq.2.2.1 hq.2.2.2]; simp, hc, hl⟩]
theorem pg_i9 {C : zC} {n0 a : Nat} {κ : zS} (W : zW C n0 κ) (T : zT κ a = 15) : dinv (yEn C) 15 (.invokevirtual 123) 3 [.ref (zR κ chSpare a), .ref (zR κ chParser a)] (zH C κ) = some (mPa_read, [.ref (zR κ chParser a), .ref (zR κ chSpare a)], []) :=
  inv_e9 (As := [.ref (zR κ chSpare a)]) (rest := []) (j := 143) (by decide +kernel) rfl ⟨rfl, by decide, by decide, by decide⟩ rfl (Nat.le_of_ble_eq_true rfl) (by decide) (Or.inl (ty_chParser W T))
/-- what program leaves and answers, by its reading -/
def pgC9 (κ : zS) (a : Nat) (v : Int32) (κ' : zS) : Prop := ∃ e0, ini5 (up5 κ (zR κ chTape a)) e0 ∧ ((∃ e1, rd5 e0 = .inl (e1, ()) ∧ v = e1.1 coStatements ∧ oC9 κ' a = ((fun _ => 0, 0, 0) : Ob9)) ∨ (∃ f p, rd5 e0 = .inr (f, p) ∧ f ≠ 0 ∧ v = (-1 : Int32) - p ∧ oC9 κ' a = ((fun _ => 0, 0, f) : Ob9)))
/-- ChanceWorks.program -/
theorem Ch_program_9 {C : zC} {n0 a : Nat} {L : Int} {ρ : Nat → Nat} {κ : zS} (W : zW C n0 κ) (T : zT κ a = 15) (hX : tx5 C) (h0 : 0 ≤ L) (hL : L ≤ 10240) (I : chI9 ρ κ a L) : ∃ (v : Int32) (κ' : zS) (q : Option Nat) (x y n e : Nat), drunC (yEn C) dXX (dKK.2.2 15) [(2, 13, 16, 126)] (yb C) n 15 mCh_program 0 (dent [.ref a]) [] (zH C κ) 0 0 = some (some (.int v), (q, (zH C κ').2), x, y) ∧ (q = none ∨ q = some (zn κ')) ∧ (x + zc κ = zc κ' + e ∧ y + zs κ = zs κ' + 6 * e ∧ e ≤ 1) ∧ zW C (zn κ) κ' ∧ zM (zn κ) κ κ' ∧ chI9 ρ κ' a L ∧ (∃ F, zF F κ κ') ∧ pgC9 κ a v κ' := by
  replace W := W.lo (Nat.le_trans W.1.2.1 W.1.2.2) (Nat.le_refl (zn κ))
  have tP := ty_chParser W T
  have tp := ty_chSpare W T
  have lk := I.1.2.2.2
  have R : zRun C 14 mPa_read [.ref (zR κ chParser a), .ref (zR κ chSpare a)] κ (oV (fun κ' => (rdF κ κ' (zR κ chParser a) (zR κ chSpare a) ∧ paI κ' (zR κ chParser a)) ∧ (∃ e0, ini5 (up5 κ (zR κ paTape (zR κ chParser a))) e0 ∧ ∃ e1, rd5 e0 = .inl (e1, ()) ∧ zI κ' coStatements (zR κ' paCode (zR κ chParser a)) = e1.1 coStatements)) (fun cls κ' => rdX5 κ cls κ' (zR κ chParser a) (zR κ chSpare a) ∧ ∃ e0, ini5 (up5 κ (zR κ paTape (zR κ chParser a))) e0 ∧ rd5 e0 = .inr (zI κ' paFaultCode (zR κ chParser a), zI κ' paFaultPlace (zR κ chParser a)))) := Pa_read_q5 W tP tp hX ⟨⟨by rw [lk]; exact I.1.1, I.1.2.1.1.2, I.1.2.2.1⟩, by rw [lk]; have y := I.2.2.2.2.2.2; omega⟩ (fun _ h => h) (fun _ _ h => h)
  have l1 : lA (dset1 (dent [.ref a]) 1 (.int 1)) [some (.ref a), some (.int 1), none] := lA_set1 (i := 1) (v := .int 1) (m_ent [.ref a] 2)
  obtain ⟨o, κ1, x, y, g1, g2, g3, g4, g5, g6⟩ := R
  rcases g6 with ⟨rfl, F⟩ | ⟨cls, rfl, F⟩
  · obtain ⟨F, w0, ie, w1, re, ce⟩ := F
    rw [lk] at ie
    rw [F.1.2.2.1] at ce
    obtain ⟨n1, r1⟩ := g1
    have T1 : zT κ1 a = 15 := F.1.1.t T (by decide)
    have G : zG C (zn κ) 15 mCh_program 13 [some (.ref a), some (.int 1), none] [] κ1 (oI (fun v κ' => chI9 ρ κ' a L ∧ (∃ F, zF F κ κ') ∧ pgR9 κ κ1 a 1 v κ' ∧ zc κ' = zc κ1) noX) := y_goto dX12_program_13 (t := 19) rfl (t_Ch_program_19 g4 T1 (pg_w9 W T h0 I g4 F))
    obtain ⟨o2, κ2, x2, y2, k1, k2, k3, k4, k5, k6⟩ := G _ (0 + x) (0 + y) l1
    rcases k6 with ⟨v, rfl, Q1, Q2, Q3, Q4⟩ | ⟨_, _, z⟩
    · obtain ⟨n2, r2⟩ := k1
      have e1 := drun_le (Nat.le_max_left n1 n2) r1
      have e2 := drun_le (Nat.le_max_right n1 n2) r2
      refine ⟨v, κ2, some (zn κ2), 0 + x + x2, 0 + y + y2, max n1 n2 + 1 + 6, 0, pg_p9 W T (gc_r9 (w := (none, zH C κ1, x, y)) dX12_program_10 rfl rfl (pg_i9 W T) e1 (drunC_of9 _ _ _ _ _ _ _ _ _ _ e2)), Or.inr rfl, ⟨by omega, by omega, by omega⟩, k4, g5.tr k5, Q1, Q2, ⟨w0, ie, Or.inl ⟨w1, re, (Q3.2.2 (by decide)).trans ce, Q3.1⟩⟩⟩
    · exact absurd z (fun h => h)
  · obtain ⟨n1, r1⟩ := g1
    obtain ⟨⟨⟨ec, τ, et, Fr, Fp⟩, nz⟩, w0, ie, re⟩ := F
    rw [lk] at ie
    rw [et] at nz re
    have Wt : zW C (zn κ) τ := by rw [et] at g4; exact g4
    have Mt : zM (zn κ) κ τ := by rw [et] at g5; exact g5
    have ct : zc κ1 = zc τ + 1 ∧ zs κ1 = zs τ + 6 := by rw [et]; exact ⟨rfl, rfl⟩
    have T1 : zT τ a = 15 := Fr.1.t T (by decide)
    have l2 : lA (dclr (dset1 (dent [.ref a]) 1 (.int 1)) 2) [some (.ref a), none, none] := fun j w hw => by
      match j, hw with
      | 0, hw =>
        cases hw
        have y := l1 0 _ rfl
        show (if 0 = 2 then none else match dset1 (dent [.ref a]) 1 (.int 1) 0 with | some w => if 0 + 1 = 2 ∧ w.category = 2 then none else some w | none => none) = _
        rw [y]
        rfl
      | 1, hw => cases hw
      | 2, hw => cases hw
      | j + 3, hw => cases hw
    have G : zG C (zn κ) 15 mCh_program 17 [some (.ref a), none, none] [] τ (oI (fun v κ' => chI9 ρ κ' a L ∧ (∃ F, zF F κ κ') ∧ pgR9 κ τ a 0 v κ' ∧ zc κ' = zc τ) noX) := y_ic dX12_program_17 zi_0 (y_isn dX12_program_18 (by decide) rfl (t_Ch_program_19 Wt T1 (pg_w9 W T h0 I Wt ⟨Fr, Fp⟩)))
    obtain ⟨o2, κ2, x2, y2, k1, k2, k3, k4, k5, k6⟩ := G _ (0 + x) (0 + y) l2
    rcases k6 with ⟨v, rfl, Q1, Q2, Q3, Q4⟩ | ⟨_, _, z⟩
    · obtain ⟨n2, r2⟩ := k1
      have x0 : x2 = 0 := by omega
      subst x0
      have e1 := drunX_le (yap C) (Nat.le_max_left n1 n2) r1
      have e0 := drunX_not (yap C) _ _ _ _ _ _ _ _ _ _ r1 (max n1 n2)
      have e2 := drun_none9 _ _ _ _ _ _ _ _ _ _ (drun_le (Nat.le_max_right n1 n2) r2) rfl
      have hf : dfind (dKK.2.2 15) 10 cls [(2, 13, 16, 126)] = some 16 := by
        rw [ec]
        decide +kernel
      have hz : (zH C κ1).2 = (zH C τ).2 := by rw [et]; rfl
      refine ⟨v, κ2, none, 0 + x + 0, 0 + y + y2, max n1 n2 + 1 + 6, 1, pg_p9 W T (gc_x9 (w := (cls, (none, (zH C κ1).2), x, y)) (k := 2) dX12_program_10 rfl rfl (pg_i9 W T) e0 e1 hf dX12_program_16 (by decide) (drunC_of9 _ _ _ _ _ _ _ _ _ _ (by rw [hz]; exact e2))), Or.inl rfl, ⟨by omega, by omega, by omega⟩, k4, Mt.tr k5, Q1, Q2, ⟨w0, ie, Or.inr ⟨_, _, re, nz, Q3.2.1 rfl, Q3.1⟩⟩⟩
    · exact absurd z (fun h => h)
