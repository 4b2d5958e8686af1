section
set_option maxHeartbeats 1600000
/-! ChanceWorks.program, whole -/
theorem gf_e9 {C : zC} {n0 d idx o ci k a t cs ss : Nat} {r : dM} {st : List Value} {κ : zS} (W : zW C n0 κ) (ho : r.2.2.2.2.2.1 = o) (hf : (tFL o).lookup idx = some (ci, k)) (hk : (k < nN ci ∧ 0 < ci ∧ ci < 20) ∧ zr (100 * ci + k) = some (t + 1)) (hB : zBo κ a ci) (hT : zT κ (zR κ (100 * ci + k) a) = t + 1) : dheap (yEn C) (yb C) d r (.getfield idx) 3 (.ref a :: st) (zH C κ) cs ss = some (.ref (zR κ (100 * ci + k) a) :: st, zH C κ, cs, ss) := by
  have hv : zV κ a (100 * ci + k) = .ref (zR κ (100 * ci + k) a) := zV_r hk.2 (zW_b W (by omega)).2.2
  have h1 : dgetf (yEn C) r.2.2.2.2.2.1 3 idx (.ref a :: st) (zH C κ) cs ss = some (.ref (zR κ (100 * ci + k) a) :: st, zH C κ, cs, ss) := by
    have hf' : eFL (yEn C) o idx = some (ci, k) := hf
    unfold dgetf
    simp only [zH_ob hB hk.1.2.1 hk.1.2.2, ho, hf', zFs_at hk.1.1, hv]
    rfl
  show dor (dgetf (yEn C) r.2.2.2.2.2.1 3 idx (.ref a :: st) (zH C κ) cs ss) _ = _
  rw [h1]
  rfl
/-- the way to the parser -/
theorem pg_p9 {C : zC} {n0 a n : Nat} {κ : zS} {XH : Nat → Option String} {hx : dHH} {z : dZ} (W : zW C n0 κ) (T : zT κ a = 15) (K : drunC (yEn C) dXX XH hx (yb C) n 15 mCh_program 10 (dset1 (dent [.ref a]) 1 (.int 1)) [.ref (zR κ chSpare a), .ref (zR κ chParser a)] (zH C κ) 0 0 = some z) : drunC (yEn C) dXX XH hx (yb C) (n + 6) 15 mCh_program 0 (dent [.ref a]) [] (zH C κ) 0 0 = some z := by
  have l0 : lA (dent [.ref a]) [some (.ref a), none, none] := m_ent [.ref a] 2
  have l1 : lA (dset1 (dent [.ref a]) 1 (.int 1)) [some (.ref a), some (.int 1), none] := lA_set1 (i := 1) (v := .int 1) l0
  have a0 : ∀ pc st, dpure (.aload_n 0) 1 pc 3 (dset1 (dent [.ref a]) 1 (.int 1)) st = some (pc + 1, dset1 (dent [.ref a]) 1 (.int 1), .ref a :: st) := fun pc st => by
    show dldA 1 1 pc ((0 : Fin 4) : Nat) (dset1 (dent [.ref a]) 1 (.int 1)) st = some (pc + 1, dset1 (dent [.ref a]) 1 (.int 1), .ref a :: st)
    unfold dldA
    rw [show (dset1 (dent [.ref a]) 1 (.int 1)) ((0 : Fin 4) : Nat) = some (.ref a) from l1 0 _ rfl]
    rfl
  refine gc_p9 (w := (1, dent [.ref a], [.int 1])) dX12_program_0 ?_ ?_
  · show some (0 + 1, dent [.ref a], [Value.int (Int32.ofInt 1)]) = _
    rw [zi_1]
  refine gc_p9 (w := (2, dset1 (dent [.ref a]) 1 (.int 1), [])) dX12_program_1 ?_ ?_
  · show dstI 1 1 1 1 3 (dent [.ref a]) [.int 1] = _
    rfl
  refine gc_p9 (w := (3, dset1 (dent [.ref a]) 1 (.int 1), [.ref a])) dX12_program_2 (a0 2 []) ?_
  refine gc_h9 (g := ([.ref (zR κ chParser a)], zH C κ, 0, 0)) dX12_program_3 rfl (gf_e9 W rfl fl_X12_31 fk_chParser (Or.inl T) (ty_chParser W T)) ?_
  refine gc_p9 (w := (7, dset1 (dent [.ref a]) 1 (.int 1), [.ref a, .ref (zR κ chParser a)])) dX12_program_6 (a0 6 _) ?_
  refine gc_h9 (g := ([.ref (zR κ chSpare a), .ref (zR κ chParser a)], zH C κ, 0, 0)) dX12_program_7 rfl (gf_e9 W rfl fl_X12_23 fk_chSpare (Or.inl T) (ty_chSpare W T)) ?_
  exact K
theorem inv_e9 {C : zC} {o idx j b : Nat} {r' : dM} {As rest : List Value} {κ : zS} (hm : (tML o ++ tMX o).lookup idx = some j) (hj : MTs[j]? = some r') (hq : r'.2.2.2.2.1 = false ∧ r'.1.name ≠ "<init>" ∧ 0 < r'.2.2.2.2.2.1 ∧ r'.2.2.2.2.2.1 < 20) (hn : As.length = r'.2.2.2.2.2.2) (hl : (lg_sl (.ref b :: As)).length ≤ r'.2.2.1) (hc : (rest.map fun v => v.category).sum ≤ 8) (hB : zBo κ b r'.2.2.2.2.2.1) : dinv (yEn C) o (.invokevirtual idx) 3 (As.reverse ++ .ref b :: rest) (zH C κ) = some (r', .ref b :: As, rest) := by
  have hdr : (As.reverse ++ Value.ref b :: rest).drop r'.2.2.2.2.2.2 = .ref b :: rest := by rw [← hn, ← List.length_reverse]; simp
  have htk : (As.reverse ++ Value.ref b :: rest).take r'.2.2.2.2.2.2 = As.reverse := by rw [← hn, ← List.length_reverse]; simp
  show dinvV (yEn C) o 3 idx (As.reverse ++ .ref b :: rest) (zH C κ) = _
  have hm' : eML (yEn C) o idx = some j := hm
  have hj' : eMT (yEn C) j = some r' := hj
  unfold dinvV
  simp only [hm', hj', hdr, htk, List.reverse_reverse]
  rw [if_pos ⟨trivial, hq.1, hq.2.1, by unfold drec; rw [zH_ob hB hq.2.2.1 hq.2.2.2]; simp, hc, hl⟩]
theorem pg_i9 {C : zC} {n0 a : Nat} {κ : zS} (W : zW C n0 κ) (T : zT κ a = 15) : dinv (yEn C) 15 (.invokevirtual 123) 3 [.ref (zR κ chSpare a), .ref (zR κ chParser a)] (zH C κ) = some (mPa_read, [.ref (zR κ chParser a), .ref (zR κ chSpare a)], []) :=
  inv_e9 (As := [.ref (zR κ chSpare a)]) (rest := []) (j := 143) (by decide +kernel) rfl ⟨rfl, by decide, by decide, by decide⟩ rfl (Nat.le_of_ble_eq_true rfl) (by decide) (Or.inl (ty_chParser W T))
/-- what program leaves and answers, by its reading -/
def pgC9 (κ : zS) (a : Nat) (v : Int32) (κ' : zS) : Prop := ∃ e0, (ini5 (up5 κ (zR κ chTape a)) e0 ∧ ∀ g, g < 10 → e0.2.1 503 g = -1) ∧ ((∃ e1, rd5 e0 = .inl (e1, ()) ∧ v = e1.1 coStatements ∧ oC9 κ' a = ((fun _ => 0, 0, 0) : Ob9) ∧ (zI κ' chReady a ≠ 0 ∧ zI κ' atExplored (zR κ' chAtlas a) = 0 ∧ tC21 κ' a = tC21 κ a ∧ zI κ' chPlayMade a = 0 ∧ pS16 κ κ' a) ∧ ∃ e2, f5_Co_linkFollows_2 fu5 0 e1 = .inl (e2, ()) ∧ (∀ g, g < 600 → (cu7 κ' (zR κ' chCode a)).1 g = e2.1 g) ∧ (∀ g, g < 600 → (cu7 κ' (zR κ' chCode a)).2.1 g = e2.2.1 g)) ∨ (∃ f p, rd5 e0 = .inr (f, p) ∧ f ≠ 0 ∧ v = (-1 : Int32) - p ∧ oC9 κ' a = ((fun _ => 0, 0, f) : Ob9) ∧ kC7 κ κ' a ∧ kA8 κ κ' a))
/-- ChanceWorks.program -/
theorem Ch_program_9 {C : zC} {n0 a : Nat} {L : Int} {ρ : Nat → Nat} {κ : zS} (W : zW C n0 κ) (T : zT κ a = 15) (hX : tx5 C) (h0 : 0 ≤ L) (hL : L ≤ 10240) (I : chI9 ρ κ a L) : ∃ (v : Int32) (κ' : zS) (q : Option Nat) (x y n e : Nat), drunC (yEn C) dXX (dKK.2.2 15) [(2, 13, 16, 126)] (yb C) n 15 mCh_program 0 (dent [.ref a]) [] (zH C κ) 0 0 = some (some (.int v), (q, (zH C κ').2), x, y) ∧ (q = none ∨ q = some (zn κ')) ∧ (x + zc κ = zc κ' + e ∧ y + zs κ = zs κ' + 6 * e ∧ e ≤ 1) ∧ zW C (zn κ) κ' ∧ zM (zn κ) κ κ' ∧ chI9 ρ κ' a L ∧ (∃ F, zF F κ κ') ∧ pgC9 κ a v κ' := by
  replace W := W.lo (Nat.le_trans W.1.2.1 W.1.2.2) (Nat.le_refl (zn κ))
  have tP := ty_chParser W T
  have tp := ty_chSpare W T
  have lk := I.1.2.2.2
  have R : zRun C 14 mPa_read [.ref (zR κ chParser a), .ref (zR κ chSpare a)] κ (oV (fun κ' => (rdF κ κ' (zR κ chParser a) (zR κ chSpare a) ∧ paI κ' (zR κ chParser a)) ∧ (∃ e0, (ini5 (up5 κ (zR κ paTape (zR κ chParser a))) e0 ∧ ∀ g, g < 10 → e0.2.1 503 g = -1) ∧ ∃ e1, rd5 e0 = .inl (e1, ()) ∧ f5_Co_linkFollows_2 fu5 0 e1 = .inl (ab5 κ' (zR κ chParser a), ()) ∧ zI κ' coStatements (zR κ' paCode (zR κ chParser a)) = e1.1 coStatements)) (fun cls κ' => rdX5 κ cls κ' (zR κ chParser a) (zR κ chSpare a) ∧ ∃ e0, (ini5 (up5 κ (zR κ paTape (zR κ chParser a))) e0 ∧ ∀ g, g < 10 → e0.2.1 503 g = -1) ∧ rd5 e0 = .inr (zI κ' paFaultCode (zR κ chParser a), zI κ' paFaultPlace (zR κ chParser a)))) := Pa_read_q6 W tP tp hX ⟨⟨by rw [lk]; exact I.1.1, I.1.2.1.1.2, I.1.2.2.1⟩, by rw [lk]; have y := I.2.2.2.2.2.2; omega⟩ (fun _ h => h) (fun _ _ h => h)
  have l1 : lA (dset1 (dent [.ref a]) 1 (.int 1)) [some (.ref a), some (.int 1), none] := lA_set1 (i := 1) (v := .int 1) (m_ent [.ref a] 2)
  obtain ⟨o, κ1, x, y, g1, g2, g3, g4, g5, g6⟩ := R
  rcases g6 with ⟨rfl, F⟩ | ⟨cls, rfl, F⟩
  · obtain ⟨F, w0, ie, w1, re, le, ce⟩ := F
    rw [lk] at ie
    rw [F.1.2.2.1] at ce
    obtain ⟨n1, r1⟩ := g1
    have T1 : zT κ1 a = 15 := F.1.1.t T (by decide)
    have G : zG C (zn κ) 15 mCh_program 13 [some (.ref a), some (.int 1), none] [] κ1 (oI (fun v κ' => chI9 ρ κ' a L ∧ (∃ F, zF F κ κ') ∧ pgR9 κ κ1 a 1 v κ' ∧ zc κ' = zc κ1) noX) := y_goto dX12_program_13 (t := 19) rfl (t_Ch_program_19 g4 T1 (pg_w9 W T h0 I g4 F))
    obtain ⟨o2, κ2, x2, y2, k1, k2, k3, k4, k5, k6⟩ := G _ (0 + x) (0 + y) l1
    rcases k6 with ⟨v, rfl, Q1, Q2, Q3, Q4⟩ | ⟨_, _, z⟩
    · obtain ⟨n2, r2⟩ := k1
      have e1 := drun_le (Nat.le_max_left n1 n2) r1
      have e2 := drun_le (Nat.le_max_right n1 n2) r2
      refine ⟨v, κ2, some (zn κ2), 0 + x + x2, 0 + y + y2, max n1 n2 + 1 + 6, 0, pg_p9 W T (gc_r9 (w := (none, zH C κ1, x, y)) dX12_program_10 rfl rfl (pg_i9 W T) e1 (drunC_of9 _ _ _ _ _ _ _ _ _ _ e2)), Or.inr rfl, ⟨by omega, by omega, by omega⟩, k4, g5.tr k5, Q1, Q2, ⟨w0, ie, Or.inl ⟨w1, re, (Q3.2.2.1 (by decide)).trans ce, Q3.1, ⟨(Q3.2.2.2.2 (by decide)).1, (Q3.2.2.2.2 (by decide)).2.2⟩, _, le, fun g hg => by rw [(Q3.2.2.2.2 (by decide)).2.1]; exact (cu_b7 F.1.2.2.1).1 g hg, fun g hg => by rw [(Q3.2.2.2.2 (by decide)).2.1]; exact (cu_b7 F.1.2.2.1).2 g hg⟩⟩⟩
    · exact absurd z (fun h => h)
  · obtain ⟨n1, r1⟩ := g1
    obtain ⟨⟨⟨ec, τ, et, Fr, Fp⟩, nz⟩, w0, ie, re⟩ := F
    rw [lk] at ie
    rw [et] at nz re
    have Wt : zW C (zn κ) τ := by rw [et] at g4; exact g4
    have Mt : zM (zn κ) κ τ := by rw [et] at g5; exact g5
    have ct : zc κ1 = zc τ + 1 ∧ zs κ1 = zs τ + 6 := by rw [et]; exact ⟨rfl, rfl⟩
    have T1 : zT τ a = 15 := Fr.1.t T (by decide)
    have l2 : lA (dclr (dset1 (dent [.ref a]) 1 (.int 1)) 2) [some (.ref a), none, none] := fun j w hw => by
      match j, hw with
      | 0, hw =>
        cases hw
        have y := l1 0 _ rfl
        show (if 0 = 2 then none else match dset1 (dent [.ref a]) 1 (.int 1) 0 with | some w => if 0 + 1 = 2 ∧ w.category = 2 then none else some w | none => none) = _
        rw [y]
        rfl
      | 1, hw => cases hw
      | 2, hw => cases hw
      | j + 3, hw => cases hw
    have G : zG C (zn κ) 15 mCh_program 17 [some (.ref a), none, none] [] τ (oI (fun v κ' => chI9 ρ κ' a L ∧ (∃ F, zF F κ κ') ∧ pgR9 κ τ a 0 v κ' ∧ zc κ' = zc τ) noX) := y_ic dX12_program_17 zi_0 (y_isn dX12_program_18 (by decide) rfl (t_Ch_program_19 Wt T1 (pg_w9 W T h0 I Wt ⟨Fr, Fp⟩)))
    obtain ⟨o2, κ2, x2, y2, k1, k2, k3, k4, k5, k6⟩ := G _ (0 + x) (0 + y) l2
    rcases k6 with ⟨v, rfl, Q1, Q2, Q3, Q4⟩ | ⟨_, _, z⟩
    · obtain ⟨n2, r2⟩ := k1
      have x0 : x2 = 0 := by omega
      subst x0
      have e1 := drunX_le (yap C) (Nat.le_max_left n1 n2) r1
      have e0 := drunX_not (yap C) _ _ _ _ _ _ _ _ _ _ r1 (max n1 n2)
      have e2 := drun_none9 _ _ _ _ _ _ _ _ _ _ (drun_le (Nat.le_max_right n1 n2) r2) rfl
      have hf : dfind (dKK.2.2 15) 10 cls [(2, 13, 16, 126)] = some 16 := by
        rw [ec]
        decide +kernel
      have hz : (zH C κ1).2 = (zH C τ).2 := by rw [et]; rfl
      refine ⟨v, κ2, none, 0 + x + 0, 0 + y + y2, max n1 n2 + 1 + 6, 1, pg_p9 W T (gc_x9 (w := (cls, (none, (zH C κ1).2), x, y)) (k := 2) dX12_program_10 rfl rfl (pg_i9 W T) e0 e1 hf dX12_program_16 (by decide) (drunC_of9 _ _ _ _ _ _ _ _ _ _ (by rw [hz]; exact e2))), Or.inl rfl, ⟨by omega, by omega, by omega⟩, k4, Mt.tr k5, Q1, Q2, ⟨w0, ie, Or.inr ⟨_, _, re, nz, Q3.2.1 rfl, Q3.1, Q3.2.2.2.1 rfl⟩⟩⟩
    · exact absurd z (fun h => h)

end
section
set_option maxHeartbeats 1600000
/-! program: class and reference answer alike and leave alike -/
theorem by_r9 {x : Int32} (h : fits .byte (.int x) = true) : -128 ≤ x.toInt ∧ x.toInt ≤ 127 := by
  have h2 : (decide (-128 ≤ x) && decide (x ≤ 127)) = true := h
  rw [Bool.and_eq_true] at h2
  have a := of_decide_eq_true h2.1
  have b := of_decide_eq_true h2.2
  have t1 : (-128 : Int32).toInt = -128 := rfl
  have t2 : (127 : Int32).toInt = 127 := rfl
  rw [lei, t1] at a
  rw [lei, t2] at b
  exact ⟨a, b⟩
theorem pg_e9 {C : zC} {n0 a : Nat} {L : Int} {ρ : Nat → Nat} {κ κ' : zS} {σ σ2 : rS} {v v2 : Int32} (W : zW C n0 κ) (T : zT κ a = 15) (I : chI9 ρ κ a L) (J : 0 ≤ σ.1 2 ∧ σ.1 2 ≤ 65536) (hr8 : RC8 κ a σ) (hC : pgC9 κ a v κ') (hQ : pQ9 σ v2 σ2 ∧ kD20 σ σ2 ∧ σ2.2.1 110 = σ.2.1 110 ∧ kE16 σ σ2) (ho : oR9 σ2 = ((fun _ => 0, 0, σ2.1 53) : Ob9)) : v2 = v ∧ RC8 κ' a σ2 := by
  have hr7 := hr8.1
  have ht := hr7.1
  obtain ⟨τ, ⟨t2, t1, tb3, tbk⟩, t53, k0, k1⟩ := hQ.1
  obtain ⟨e0, ⟨ie, i503⟩, h⟩ := hC
  obtain ⟨m1, m2, m3⟩ := mk_e9 ht
  have tt := ty_chTape W T
  have tb := ty_taBytes W tt
  have B := I.1.1.1.1
  have t65 : (65536 : Int32).toInt = 65536 := rfl
  have j0 := J.1
  have j1 := J.2
  rw [lei, t0i] at j0
  rw [lei, t65] at j1
  have okU : okU5 (up5 κ (zR κ chTape a)) := ⟨B.1, B.2.1, W.n tb⟩
  have hr : ∀ j, -128 ≤ ((up5 κ (zR κ chTape a)).1 j).toInt ∧ ((up5 κ (zR κ chTape a)).1 j).toInt ≤ 127 := fun j => by_r9 (W.2.2.2.2.2.2.2.1 _ j tb)
  have okS : okS5 τ := by
    unfold okS5
    rw [t2]
    exact ⟨j0, j1⟩
  have hB9 : ∀ j, j < (zI κ taLength (zR κ chTape a)).toInt.toNat → bU5 (up5 κ (zR κ chTape a)) j = bS5 τ j := fun j hj => by
    show zA κ (zR κ taBytes (zR κ chTape a)) j &&& 255 = τ.2.2.1 1 j &&& 255
    rw [t1, m3 j (by rw [m1]; exact hj)]
  have hn9 : nS5 τ = (zI κ taLength (zR κ chTape a)).toInt.toNat := by
    unfold nS5
    rw [t2, m1]
  have S := rp_5 (U := up5 κ (zR κ chTape a)) (e0 := e0) (σ := τ) (n := (zI κ taLength (zR κ chTape a)).toInt.toNat) okU hr okS (fun j hj => by
    show zA κ (zR κ taBytes (zR κ chTape a)) j &&& 255 = τ.2.2.1 1 j &&& 255
    rw [t1, m3 j (by rw [m1]; exact hj)]) rfl (by
    unfold nS5
    rw [t2, m1]) ie
  rcases S with S | ⟨e1, u, S, T9, X9, Bk, N, Z, s, aa, V9, W9, LR, G, s150, vs, ws⟩ | ⟨f, p, f0, s1, s2, S⟩
  · rcases h with ⟨e1, r, _⟩ | ⟨f, p, r, nz, _⟩
    · rw [S] at r; cases r
    · rw [S] at r
      exact absurd (Prod.mk.inj (Sum.inr.inj r)).1.symm nz
  · rcases h with ⟨e2, r, hv, oc, rdy, e3, lk3, u1, u2⟩ | ⟨f, p, r, nz, _⟩
    · have rr := r
      rw [S] at r
      have ee : e1 = e2 := (Prod.mk.inj (Sum.inl.inj r)).1
      have z11 := LR.2.2.2.1.1
      have c1 : e1.1 coStatements = Int32.ofNat s := (congrArg (fun V : V5 => vst5 V) LR.2.1.1).trans vs
      have c2 : (g5_tellProgram τ).1 19 = Int32.ofNat s := (congrArg (fun W : W5 => wst5 W) LR.2.1.2).trans ws
      refine ⟨?_, ?_⟩
      · rw [(k0 z11).1, c2, hv, ← ee, c1]
      · obtain ⟨_, g14, gf, gs, g26, gb, gn, g69, gno, g106, g94, g114⟩ := k0 z11
        obtain ⟨T6, X6, B6, N6, nv, na, ff, ss, hb6, TR, E142, FN, sx⟩ := rq_6 okU hr okS hB9 rfl hn9 ie i503 rr lk3
        have hB6 : B6 = 0 ∨ B6 = 65537 := by
          rw [hb6]
          by_cases c : τ.1 3 = 0
          · rw [if_pos c]; exact Or.inr rfl
          · rw [if_neg c]; exact Or.inl rfl
        have h3 : σ2.1 3 = Int32.ofNat B6 := by
          rw [gf 3 (by decide) (by decide), hb6]
          rw [tb3]
          by_cases c : σ.1 3 = 0
          · rw [if_pos c]
            rcases gb with z | z
            · exact absurd (z.trans c.symm) gn
            · exact z
          · rw [if_neg c]
            have c2 : σ.1 3 = 65537 := tbk.resolve_left c
            rcases gb with z | z
            · exact z
            · exact absurd (z.trans c2.symm) gn
        obtain ⟨w, cr⟩ := CR_g7 (e := cu7 κ' (zR κ' chCode a)) (σ' := σ2) TR E142 FN sx hB6 g26 u1 u2 h3 (fun g hg n3 n14 => gf g hg n14) gs
        have n14 : ¬ σ2.1 14 = 0 := by rw [g14]; decide
        exact ⟨⟨by rw [ho, oc, t53, z11], ⟨fun z => absurd z n14, fun z => absurd z rdy.1⟩, fun _ => ⟨nv, ss, w, cr⟩⟩, ⟨fun _ => rdy.2.1, fun _ => g69⟩, fun z => absurd g69 z, fun _ => gno, RT_k21 hr8.2.2.2.2.1 rdy.2.2.1 hQ.2.1, ⟨⟨fun _ => g106, fun _ => rdy.2.2.2.1⟩, fun z => absurd g106 z⟩, RS_016 rdy.2.2.2.2.1.1 g94, RW_016 rdy.2.2.2.2.1.2 g114, RH_k16 hr8.2.2.2.2.2.2.2.2.1 rdy.2.2.2.2.2 hQ.2.2.2.1 (nM_515 hQ.2.2.2.2), fun z => absurd g106 z⟩
    · rw [S] at r; cases r
  · rcases h with ⟨e2, r, hv, oc, _⟩ | ⟨f', p', r, nz, hv, oc, kc⟩
    · rw [S] at r; cases r
    · rw [S] at r
      obtain ⟨ef, ep⟩ := Prod.mk.inj (Sum.inr.inj r)
      refine ⟨?_, ?_⟩
      · rw [(k1 (by rw [s1]; exact f0)).1, s2, hv, ep]
      · exact ⟨rk_7 (k1 (by rw [s1]; exact f0)).2.1 hr7 kc.1 (by rw [ho, oc, t53, s1, ef]), ra_8 (k1 (by rw [s1]; exact f0)).2.1 ⟨(k1 (by rw [s1]; exact f0)).2.2.1, (k1 (by rw [s1]; exact f0)).2.2.2.1, hQ.2.2.1, kN_f16 (k1 (by rw [s1]; exact f0)).2.2.2.2.1 (k1 (by rw [s1]; exact f0)).2.2.2.2.2 hQ.2.2.2.2⟩ hr8.2 kc.1 kc.2⟩
/-- fault, by what it answers -/
theorem Ch_fault_c9 {C : zC} {n0 : Nat} {a0 : Nat} {κ : zS} {Q : Int32 → zS → Prop} (W : zW C n0 κ) (Ta0 : zT κ a0 = 15) (h : Q (zI κ chFaultCode a0) κ) : zRun C 0 mCh_fault [.ref a0] κ (oI Q noX) := by
  refine Ch_fault_run W Ta0 ?_
  unfold w_Ch_fault_0
  exact h

end
section
set_option maxHeartbeats 1600000
/-! the class: constructors that call no other, exactly -/
/-- a row made for a field -/
def mkr9 (κ : zS) (f a t n : Nat) : zS := uo (na κ t n) f a (zn κ)
theorem Ta_init_c {C : zC} {n0 : Nat} {a0 : Nat} {κ : zS} {Q : zS → Prop} (W : zW C n0 κ) (Ta0 : zT κ a0 = 53)  (h : ∀ (κ' : zS), (κ' = (mkr9 (mkr9 (mkr9 (mkr9 κ taBytes a0 21 ((240 : Int32)).toNatClampNeg) taKinds a0 20 ((64 : Int32)).toNatClampNeg) taPlaces a0 20 ((64 : Int32)).toNatClampNeg) taLengths a0 20 ((64 : Int32)).toNatClampNeg)) → Q κ') : zRun C 1 mTa_init [.ref a0] κ (oV Q noX) := by
  refine Ta_init_run W Ta0 ?_
  replace W := W.lo (Nat.le_trans W.1.2.1 W.1.2.2) (Nat.le_refl (zn κ))
  unfold w_Ta_init_0
  refine ⟨?_, ?_⟩
  · first | exact ⟨by decide, by decide⟩ | (subst_vars; exact if_pos rfl)  -- b1
  intro κ_1 hκ_1
  intro W2
  refine ⟨?_, ?_⟩
  · first | exact ⟨by decide, by decide⟩ | (subst_vars; exact if_pos rfl)  -- b2
  intro κ_3 hκ_3
  intro W4
  refine ⟨?_, ?_⟩
  · first | exact ⟨by decide, by decide⟩ | (subst_vars; exact if_pos rfl)  -- b3
  intro κ_5 hκ_5
  intro W6
  refine ⟨?_, ?_⟩
  · first | exact ⟨by decide, by decide⟩ | (subst_vars; exact if_pos rfl)  -- b4
  intro κ_7 hκ_7
  intro W8
  refine ⟨?_, ?_⟩
  · first | exact ⟨by decide, by decide⟩ | (subst_vars; exact if_pos rfl)  -- b5
  intro κ_9 hκ_9
  intro W10
  refine ⟨?_, ?_⟩
  · first | exact ⟨by decide, by decide⟩ | (subst_vars; exact if_pos rfl)  -- b6
  intro κ_11 hκ_11
  intro W12
  refine ⟨?_, ?_⟩
  · first | exact ⟨by decide, by decide⟩ | (subst_vars; exact if_pos rfl)  -- b7
  intro κ_13 hκ_13
  intro W14
  refine ⟨?_, ?_⟩
  · first | exact ⟨by decide, by decide⟩ | (subst_vars; exact if_pos rfl)  -- b8
  intro κ_15 hκ_15
  intro W16
  refine h _ ?_
  · subst_vars; rfl  -- q9

theorem Co_init_c {C : zC} {n0 : Nat} {a0 : Nat} {κ : zS} {Q : zS → Prop} (W : zW C n0 κ) (Ta0 : zT κ a0 = 45)  (h : ∀ (κ' : zS), (κ' = (mkr9 (mkr9 (mkr9 (mkr9 (mkr9 (mkr9 (mkr9 (mkr9 (mkr9 κ coVarStarts a0 20 ((10 : Int32)).toNatClampNeg) coArrayBases a0 20 ((3 : Int32)).toNatClampNeg) coArraySizes a0 20 ((3 : Int32)).toNatClampNeg) coFirstStatements a0 20 ((10 : Int32)).toNatClampNeg) coNameCounts a0 20 ((10 : Int32)).toNatClampNeg) coOwnCounts a0 20 ((10 : Int32)).toNatClampNeg) coRows a0 20 ((88 : Int32)).toNatClampNeg) coOps a0 20 ((64 : Int32)).toNatClampNeg) coArgs a0 20 ((64 : Int32)).toNatClampNeg)) → Q κ') : zRun C 1 mCo_init [.ref a0] κ (oV Q noX) := by
  refine Co_init_run W Ta0 ?_
  replace W := W.lo (Nat.le_trans W.1.2.1 W.1.2.2) (Nat.le_refl (zn κ))
  unfold w_Co_init_0
  refine ⟨?_, ?_⟩
  · first | exact ⟨by decide, by decide⟩ | (subst_vars; exact if_pos rfl)  -- b1
  intro κ_1 hκ_1
  intro W2
  refine ⟨?_, ?_⟩
  · first | exact ⟨by decide, by decide⟩ | (subst_vars; exact if_pos rfl)  -- b2
  intro κ_3 hκ_3
  intro W4
  refine ⟨?_, ?_⟩
  · first | exact ⟨by decide, by decide⟩ | (subst_vars; exact if_pos rfl)  -- b3
  intro κ_5 hκ_5
  intro W6
  refine ⟨?_, ?_⟩
  · first | exact ⟨by decide, by decide⟩ | (subst_vars; exact if_pos rfl)  -- b4
  intro κ_7 hκ_7
  intro W8
  refine ⟨?_, ?_⟩
  · first | exact ⟨by decide, by decide⟩ | (subst_vars; exact if_pos rfl)  -- b5
  intro κ_9 hκ_9
  intro W10
  refine ⟨?_, ?_⟩
  · first | exact ⟨by decide, by decide⟩ | (subst_vars; exact if_pos rfl)  -- b6
  intro κ_11 hκ_11
  intro W12
  refine ⟨?_, ?_⟩
  · first | exact ⟨by decide, by decide⟩ | (subst_vars; exact if_pos rfl)  -- b7
  intro κ_13 hκ_13
  intro W14
  refine ⟨?_, ?_⟩
  · first | exact ⟨by decide, by decide⟩ | (subst_vars; exact if_pos rfl)  -- b8
  intro κ_15 hκ_15
  intro W16
  refine ⟨?_, ?_⟩
  · first | exact ⟨by decide, by decide⟩ | (subst_vars; exact if_pos rfl)  -- b9
  intro κ_17 hκ_17
  intro W18
  refine ⟨?_, ?_⟩
  · first | exact ⟨by decide, by decide⟩ | (subst_vars; exact if_pos rfl)  -- b10
  intro κ_19 hκ_19
  intro W20
  refine ⟨?_, ?_⟩
  · first | exact ⟨by decide, by decide⟩ | (subst_vars; exact if_pos rfl)  -- b11
  intro κ_21 hκ_21
  intro W22
  refine ⟨?_, ?_⟩
  · first | exact ⟨by decide, by decide⟩ | (subst_vars; exact if_pos rfl)  -- b12
  intro κ_23 hκ_23
  intro W24
  refine ⟨?_, ?_⟩
  · first | exact ⟨by decide, by decide⟩ | (subst_vars; exact if_pos rfl)  -- b13
  intro κ_25 hκ_25
  intro W26
  refine ⟨?_, ?_⟩
  · first | exact ⟨by decide, by decide⟩ | (subst_vars; exact if_pos rfl)  -- b14
  intro κ_27 hκ_27
  intro W28
  refine ⟨?_, ?_⟩
  · first | exact ⟨by decide, by decide⟩ | (subst_vars; exact if_pos rfl)  -- b15
  intro κ_29 hκ_29
  intro W30
  refine ⟨?_, ?_⟩
  · first | exact ⟨by decide, by decide⟩ | (subst_vars; exact if_pos rfl)  -- b16
  intro κ_31 hκ_31
  intro W32
  refine ⟨?_, ?_⟩
  · first | exact ⟨by decide, by decide⟩ | (subst_vars; exact if_pos rfl)  -- b17
  intro κ_33 hκ_33
  intro W34
  refine ⟨?_, ?_⟩
  · first | exact ⟨by decide, by decide⟩ | (subst_vars; exact if_pos rfl)  -- b18
  intro κ_35 hκ_35
  intro W36
  refine h _ ?_
  · subst_vars; rfl  -- q19

theorem Pa_init_c {C : zC} {n0 : Nat} {a0 : Nat} {a1 : Nat} {a2 : Nat} {κ : zS} {Q : zS → Prop} (W : zW C n0 κ) (Ta0 : zT κ a0 = 50) (Ta1 : zT κ a1 = 13) (Ta2 : zT κ a2 = 5)  (h : ∀ (κ' : zS), (κ' = (mkr9 (mkr9 (mkr9 (mkr9 (mkr9 (mkr9 (mkr9 (mkr9 (ur (ur κ paTape a0 a1) paCode a0 a2) paVarNames a0 20 ((10 : Int32)).toNatClampNeg) paArrayNames a0 20 ((3 : Int32)).toNatClampNeg) paFunctionNames a0 20 ((10 : Int32)).toNatClampNeg) paOwnNames a0 20 ((8 : Int32)).toNatClampNeg) paOwners a0 20 ((41 : Int32)).toNatClampNeg) paLasts a0 20 ((41 : Int32)).toNatClampNeg) paElses a0 23 ((41 : Int32)).toNatClampNeg) paWaiting a0 20 ((16 : Int32)).toNatClampNeg)) → Q κ') : zRun C 1 mPa_init [.ref a0, .ref a1, .ref a2] κ (oV Q noX) := by
  refine Pa_init_run W Ta0 Ta1 Ta2 ?_
  replace W := W.lo (Nat.le_trans W.1.2.1 W.1.2.2) (Nat.le_refl (zn κ))
  unfold w_Pa_init_0
  intro κ_1 hκ_1
  intro W2
  intro κ_3 hκ_3
  intro W4
  refine ⟨?_, ?_⟩
  · first | exact ⟨by decide, by decide⟩ | (subst_vars; exact if_pos rfl)  -- b1
  intro κ_5 hκ_5
  intro W6
  refine ⟨?_, ?_⟩
  · first | exact ⟨by decide, by decide⟩ | (subst_vars; exact if_pos rfl)  -- b2
  intro κ_7 hκ_7
  intro W8
  refine ⟨?_, ?_⟩
  · first | exact ⟨by decide, by decide⟩ | (subst_vars; exact if_pos rfl)  -- b3
  intro κ_9 hκ_9
  intro W10
  refine ⟨?_, ?_⟩
  · first | exact ⟨by decide, by decide⟩ | (subst_vars; exact if_pos rfl)  -- b4
  intro κ_11 hκ_11
  intro W12
  refine ⟨?_, ?_⟩
  · first | exact ⟨by decide, by decide⟩ | (subst_vars; exact if_pos rfl)  -- b5
  intro κ_13 hκ_13
  intro W14
  refine ⟨?_, ?_⟩
  · first | exact ⟨by decide, by decide⟩ | (subst_vars; exact if_pos rfl)  -- b6
  intro κ_15 hκ_15
  intro W16
  refine ⟨?_, ?_⟩
  · first | exact ⟨by decide, by decide⟩ | (subst_vars; exact if_pos rfl)  -- b7
  intro κ_17 hκ_17
  intro W18
  refine ⟨?_, ?_⟩
  · first | exact ⟨by decide, by decide⟩ | (subst_vars; exact if_pos rfl)  -- b8
  intro κ_19 hκ_19
  intro W20
  refine ⟨?_, ?_⟩
  · first | exact ⟨by decide, by decide⟩ | (subst_vars; exact if_pos rfl)  -- b9
  intro κ_21 hκ_21
  intro W22
  refine ⟨?_, ?_⟩
  · first | exact ⟨by decide, by decide⟩ | (subst_vars; exact if_pos rfl)  -- b10
  intro κ_23 hκ_23
  intro W24
  refine ⟨?_, ?_⟩
  · first | exact ⟨by decide, by decide⟩ | (subst_vars; exact if_pos rfl)  -- b11
  intro κ_25 hκ_25
  intro W26
  refine ⟨?_, ?_⟩
  · first | exact ⟨by decide, by decide⟩ | (subst_vars; exact if_pos rfl)  -- b12
  intro κ_27 hκ_27
  intro W28
  refine ⟨?_, ?_⟩
  · first | exact ⟨by decide, by decide⟩ | (subst_vars; exact if_pos rfl)  -- b13
  intro κ_29 hκ_29
  intro W30
  refine ⟨?_, ?_⟩
  · first | exact ⟨by decide, by decide⟩ | (subst_vars; exact if_pos rfl)  -- b14
  intro κ_31 hκ_31
  intro W32
  refine ⟨?_, ?_⟩
  · first | exact ⟨by decide, by decide⟩ | (subst_vars; exact if_pos rfl)  -- b15
  intro κ_33 hκ_33
  intro W34
  refine ⟨?_, ?_⟩
  · first | exact ⟨by decide, by decide⟩ | (subst_vars; exact if_pos rfl)  -- b16
  intro κ_35 hκ_35
  intro W36
  refine h _ ?_
  · subst_vars; rfl  -- q17

theorem Ho_init_c {C : zC} {n0 : Nat} {a0 : Nat} {a1 : Int32} {a2 : Int32} {a3 : Int32} {κ : zS} {Q : zS → Prop} (W : zW C n0 κ) (Ta0 : zT κ a0 = 46)  (h : ∀ (κ' : zS), (κ' = (mkr9 (mkr9 (mkr9 (ui (ui (ui κ hoMost a0 a1) hoWidest a0 a2) hoSlots a0 a3) hoStarts a0 20 ((1 : Int32)).toNatClampNeg) hoTable a0 20 ((0 : Int32)).toNatClampNeg) hoPool a0 20 ((16 : Int32)).toNatClampNeg)) → Q κ') : zRun C 1 mHo_init [.ref a0, .int a1, .int a2, .int a3] κ (oV Q noX) := by
  refine Ho_init_run W Ta0 ?_
  replace W := W.lo (Nat.le_trans W.1.2.1 W.1.2.2) (Nat.le_refl (zn κ))
  unfold w_Ho_init_0
  intro κ_1 hκ_1
  intro W2
  intro κ_3 hκ_3
  intro W4
  intro κ_5 hκ_5
  intro W6
  refine ⟨?_, ?_⟩
  · first | exact ⟨by decide, by decide⟩ | (subst_vars; exact if_pos rfl)  -- b1
  intro κ_7 hκ_7
  intro W8
  refine ⟨?_, ?_⟩
  · first | exact ⟨by decide, by decide⟩ | (subst_vars; exact if_pos rfl)  -- b2
  intro κ_9 hκ_9
  intro W10
  refine ⟨?_, ?_⟩
  · first | exact ⟨by decide, by decide⟩ | (subst_vars; exact if_pos rfl)  -- b3
  intro κ_11 hκ_11
  intro W12
  refine ⟨?_, ?_⟩
  · first | exact ⟨by decide, by decide⟩ | (subst_vars; exact if_pos rfl)  -- b4
  intro κ_13 hκ_13
  intro W14
  refine ⟨?_, ?_⟩
  · first | exact ⟨by decide, by decide⟩ | (subst_vars; exact if_pos rfl)  -- b5
  intro κ_15 hκ_15
  intro W16
  refine ⟨?_, ?_⟩
  · first | exact ⟨by decide, by decide⟩ | (subst_vars; exact if_pos rfl)  -- b6
  intro κ_17 hκ_17
  intro W18
  refine h _ ?_
  · subst_vars; rfl  -- q7

theorem We_init_c {C : zC} {n0 : Nat} {a0 : Nat} {κ : zS} {Q : zS → Prop} (W : zW C n0 κ) (Ta0 : zT κ a0 = 54)  (h : ∀ (κ' : zS), (κ' = (mkr9 (mkr9 (mkr9 (mkr9 (mkr9 (mkr9 (mkr9 (mkr9 (mkr9 (mkr9 (mkr9 (mkr9 (mkr9 (mkr9 κ weFirsts a0 20 ((1 : Int32)).toNatClampNeg) weTargets a0 20 ((64 : Int32)).toNatClampNeg) weBackFirsts a0 20 ((1 : Int32)).toNatClampNeg) weSources a0 20 ((64 : Int32)).toNatClampNeg) weEdges a0 20 ((64 : Int32)).toNatClampNeg) weOpen a0 23 ((0 : Int32)).toNatClampNeg) weKnotFirsts a0 20 ((1 : Int32)).toNatClampNeg) weKnotOf a0 20 ((0 : Int32)).toNatClampNeg) weOrder a0 20 ((0 : Int32)).toNatClampNeg) weSeen a0 20 ((0 : Int32)).toNatClampNeg) weLow a0 20 ((0 : Int32)).toNatClampNeg) weCursor a0 20 ((0 : Int32)).toNatClampNeg) wePath a0 20 ((0 : Int32)).toNatClampNeg) weHeap a0 20 ((0 : Int32)).toNatClampNeg)) → Q κ') : zRun C 1 mWe_init [.ref a0] κ (oV Q noX) := by
  refine We_init_run W Ta0 ?_
  replace W := W.lo (Nat.le_trans W.1.2.1 W.1.2.2) (Nat.le_refl (zn κ))
  unfold w_We_init_0
  refine ⟨?_, ?_⟩
  · first | exact ⟨by decide, by decide⟩ | (subst_vars; exact if_pos rfl)  -- b1
  intro κ_1 hκ_1
  intro W2
  refine ⟨?_, ?_⟩
  · first | exact ⟨by decide, by decide⟩ | (subst_vars; exact if_pos rfl)  -- b2
  intro κ_3 hκ_3
  intro W4
  refine ⟨?_, ?_⟩
  · first | exact ⟨by decide, by decide⟩ | (subst_vars; exact if_pos rfl)  -- b3
  intro κ_5 hκ_5
  intro W6
  refine ⟨?_, ?_⟩
  · first | exact ⟨by decide, by decide⟩ | (subst_vars; exact if_pos rfl)  -- b4
  intro κ_7 hκ_7
  intro W8
  refine ⟨?_, ?_⟩
  · first | exact ⟨by decide, by decide⟩ | (subst_vars; exact if_pos rfl)  -- b5
  intro κ_9 hκ_9
  intro W10
  refine ⟨?_, ?_⟩
  · first | exact ⟨by decide, by decide⟩ | (subst_vars; exact if_pos rfl)  -- b6
  intro κ_11 hκ_11
  intro W12
  refine ⟨?_, ?_⟩
  · first | exact ⟨by decide, by decide⟩ | (subst_vars; exact if_pos rfl)  -- b7
  intro κ_13 hκ_13
  intro W14
  refine ⟨?_, ?_⟩
  · first | exact ⟨by decide, by decide⟩ | (subst_vars; exact if_pos rfl)  -- b8
  intro κ_15 hκ_15
  intro W16
  refine ⟨?_, ?_⟩
  · first | exact ⟨by decide, by decide⟩ | (subst_vars; exact if_pos rfl)  -- b9
  intro κ_17 hκ_17
  intro W18
  refine ⟨?_, ?_⟩
  · first | exact ⟨by decide, by decide⟩ | (subst_vars; exact if_pos rfl)  -- b10
  intro κ_19 hκ_19
  intro W20
  refine ⟨?_, ?_⟩
  · first | exact ⟨by decide, by decide⟩ | (subst_vars; exact if_pos rfl)  -- b11
  intro κ_21 hκ_21
  intro W22
  refine ⟨?_, ?_⟩
  · first | exact ⟨by decide, by decide⟩ | (subst_vars; exact if_pos rfl)  -- b12
  intro κ_23 hκ_23
  intro W24
  refine ⟨?_, ?_⟩
  · first | exact ⟨by decide, by decide⟩ | (subst_vars; exact if_pos rfl)  -- b13
  intro κ_25 hκ_25
  intro W26
  refine ⟨?_, ?_⟩
  · first | exact ⟨by decide, by decide⟩ | (subst_vars; exact if_pos rfl)  -- b14
  intro κ_27 hκ_27
  intro W28
  refine ⟨?_, ?_⟩
  · first | exact ⟨by decide, by decide⟩ | (subst_vars; exact if_pos rfl)  -- b15
  intro κ_29 hκ_29
  intro W30
  refine ⟨?_, ?_⟩
  · first | exact ⟨by decide, by decide⟩ | (subst_vars; exact if_pos rfl)  -- b16
  intro κ_31 hκ_31
  intro W32
  refine ⟨?_, ?_⟩
  · first | exact ⟨by decide, by decide⟩ | (subst_vars; exact if_pos rfl)  -- b17
  intro κ_33 hκ_33
  intro W34
  refine ⟨?_, ?_⟩
  · first | exact ⟨by decide, by decide⟩ | (subst_vars; exact if_pos rfl)  -- b18
  intro κ_35 hκ_35
  intro W36
  refine ⟨?_, ?_⟩
  · first | exact ⟨by decide, by decide⟩ | (subst_vars; exact if_pos rfl)  -- b19
  intro κ_37 hκ_37
  intro W38
  refine ⟨?_, ?_⟩
  · first | exact ⟨by decide, by decide⟩ | (subst_vars; exact if_pos rfl)  -- b20
  intro κ_39 hκ_39
  intro W40
  refine ⟨?_, ?_⟩
  · first | exact ⟨by decide, by decide⟩ | (subst_vars; exact if_pos rfl)  -- b21
  intro κ_41 hκ_41
  intro W42
  refine ⟨?_, ?_⟩
  · first | exact ⟨by decide, by decide⟩ | (subst_vars; exact if_pos rfl)  -- b22
  intro κ_43 hκ_43
  intro W44
  refine ⟨?_, ?_⟩
  · first | exact ⟨by decide, by decide⟩ | (subst_vars; exact if_pos rfl)  -- b23
  intro κ_45 hκ_45
  intro W46
  refine ⟨?_, ?_⟩
  · first | exact ⟨by decide, by decide⟩ | (subst_vars; exact if_pos rfl)  -- b24
  intro κ_47 hκ_47
  intro W48
  refine ⟨?_, ?_⟩
  · first | exact ⟨by decide, by decide⟩ | (subst_vars; exact if_pos rfl)  -- b25
  intro κ_49 hκ_49
  intro W50
  refine ⟨?_, ?_⟩
  · first | exact ⟨by decide, by decide⟩ | (subst_vars; exact if_pos rfl)  -- b26
  intro κ_51 hκ_51
  intro W52
  refine ⟨?_, ?_⟩
  · first | exact ⟨by decide, by decide⟩ | (subst_vars; exact if_pos rfl)  -- b27
  intro κ_53 hκ_53
  intro W54
  refine ⟨?_, ?_⟩
  · first | exact ⟨by decide, by decide⟩ | (subst_vars; exact if_pos rfl)  -- b28
  intro κ_55 hκ_55
  intro W56
  refine h _ ?_
  · subst_vars; rfl  -- q29

theorem Ma_init_c {C : zC} {n0 : Nat} {a0 : Nat} {a1 : Nat} {κ : zS} {Q : zS → Prop} (W : zW C n0 κ) (Ta0 : zT κ a0 = 47) (Ta1 : zT κ a1 = 5)  (h : ∀ (κ' : zS), (κ' = (mkr9 (mkr9 (mkr9 (mkr9 (mkr9 (ur κ maCode a0 a1) maMemory a0 20 ((142 : Int32)).toNatClampNeg) maStack a0 20 ((256 : Int32)).toNatClampNeg) maWorked a0 20 ((16 : Int32)).toNatClampNeg) maValues a0 20 ((64 : Int32)).toNatClampNeg) maWeights a0 20 ((64 : Int32)).toNatClampNeg)) → Q κ') : zRun C 1 mMa_init [.ref a0, .ref a1] κ (oV Q noX) := by
  refine Ma_init_run W Ta0 Ta1 ?_
  replace W := W.lo (Nat.le_trans W.1.2.1 W.1.2.2) (Nat.le_refl (zn κ))
  unfold w_Ma_init_0
  intro κ_1 hκ_1
  intro W2
  refine ⟨?_, ?_⟩
  · first | exact ⟨by decide, by decide⟩ | (subst_vars; exact if_pos rfl)  -- b1
  intro κ_3 hκ_3
  intro W4
  refine ⟨?_, ?_⟩
  · first | exact ⟨by decide, by decide⟩ | (subst_vars; exact if_pos rfl)  -- b2
  intro κ_5 hκ_5
  intro W6
  refine ⟨?_, ?_⟩
  · first | exact ⟨by decide, by decide⟩ | (subst_vars; exact if_pos rfl)  -- b3
  intro κ_7 hκ_7
  intro W8
  refine ⟨?_, ?_⟩
  · first | exact ⟨by decide, by decide⟩ | (subst_vars; exact if_pos rfl)  -- b4
  intro κ_9 hκ_9
  intro W10
  refine ⟨?_, ?_⟩
  · first | exact ⟨by decide, by decide⟩ | (subst_vars; exact if_pos rfl)  -- b5
  intro κ_11 hκ_11
  intro W12
  refine ⟨?_, ?_⟩
  · first | exact ⟨by decide, by decide⟩ | (subst_vars; exact if_pos rfl)  -- b6
  intro κ_13 hκ_13
  intro W14
  refine ⟨?_, ?_⟩
  · first | exact ⟨by decide, by decide⟩ | (subst_vars; exact if_pos rfl)  -- b7
  intro κ_15 hκ_15
  intro W16
  refine ⟨?_, ?_⟩
  · first | exact ⟨by decide, by decide⟩ | (subst_vars; exact if_pos rfl)  -- b8
  intro κ_17 hκ_17
  intro W18
  refine ⟨?_, ?_⟩
  · first | exact ⟨by decide, by decide⟩ | (subst_vars; exact if_pos rfl)  -- b9
  intro κ_19 hκ_19
  intro W20
  refine ⟨?_, ?_⟩
  · first | exact ⟨by decide, by decide⟩ | (subst_vars; exact if_pos rfl)  -- b10
  intro κ_21 hκ_21
  intro W22
  refine h _ ?_
  · subst_vars; rfl  -- q11

end
section
set_option maxHeartbeats 1600000
/-! the class: what a row made for a field is -/
theorem mkr_n9 {κ : zS} {f a t n : Nat} : zn (mkr9 κ f a t n) = zn κ + 1 ∧ zc (mkr9 κ f a t n) = zc κ + 1 ∧ zs (mkr9 κ f a t n) = zs κ + n ∧ zI (mkr9 κ f a t n) = zI κ := ⟨rfl, rfl, rfl, rfl⟩
theorem mkr_r9 {κ : zS} {f a t n : Nat} : zR (mkr9 κ f a t n) f a = zn κ ∧ ∀ g b, ¬ (g = f ∧ b = a) → zR (mkr9 κ f a t n) g b = zR κ g b := ⟨if_pos ⟨rfl, rfl⟩, fun _ _ h => if_neg h⟩
theorem mkr_t9 {κ : zS} {f a t n : Nat} : zT (mkr9 κ f a t n) (zn κ) = t ∧ ∀ b, b ≠ zn κ → zT (mkr9 κ f a t n) b = zT κ b := ⟨if_pos rfl, fun _ h => if_neg h⟩
theorem mkr_l9 {κ : zS} {f a t n : Nat} : zN (mkr9 κ f a t n) (zn κ) = n ∧ ∀ b, b ≠ zn κ → zN (mkr9 κ f a t n) b = zN κ b := ⟨if_pos rfl, fun _ h => if_neg h⟩
theorem mkr_o9 {κ : zS} {f a t n : Nat} : zO (mkr9 κ f a t n) (zn κ) = (f, a) ∧ ∀ b, b ≠ zn κ → zO (mkr9 κ f a t n) b = zO κ b := ⟨if_pos rfl, fun _ h => (if_neg h).trans (if_neg h)⟩
theorem mkr_a9 {κ : zS} {f a t n : Nat} : zA (mkr9 κ f a t n) (zn κ) = (fun _ => 0) ∧ zQ (mkr9 κ f a t n) (zn κ) = (fun _ => none) ∧ ∀ b, b ≠ zn κ → zA (mkr9 κ f a t n) b = zA κ b ∧ zQ (mkr9 κ f a t n) b = zQ κ b := ⟨if_pos rfl, if_pos rfl, fun _ h => ⟨if_neg h, if_neg h⟩⟩
/-- what of an object's rows is known: the field, the row's place, its length -/
def rwK9 (κ : zS) (a : Nat) (l : List (Nat × Nat × Nat × Nat)) : Prop := ∀ q ∈ l, zR κ q.1 a = q.2.2.1 ∧ zT κ q.2.2.1 = q.2.1 ∧ zN κ q.2.2.1 = q.2.2.2 ∧ zO κ q.2.2.1 = (q.1, a) ∧ zA κ q.2.2.1 = (fun _ => 0) ∧ q.2.2.1 < zn κ
theorem rwK_s9 {κ : zS} {f a t n : Nat} {l : List (Nat × Nat × Nat × Nat)} (H : rwK9 κ a l) (hf : ∀ q ∈ l, q.1 ≠ f) : rwK9 (mkr9 κ f a t n) a ((f, t, zn κ, n) :: l) := by
  intro q hq
  rcases List.mem_cons.mp hq with e | e
  · rw [e]
    exact ⟨mkr_r9.1, mkr_t9.1, mkr_l9.1, mkr_o9.1, mkr_a9.1, Nat.lt_succ_self _⟩
  · obtain ⟨h1, h2, h3, h4, h5, h6⟩ := H q e
    have ne : q.2.2.1 ≠ zn κ := Nat.ne_of_lt h6
    refine ⟨(mkr_r9.2 _ _ (fun z => hf q e z.1)).trans h1, (mkr_t9.2 _ ne).trans h2, (mkr_l9.2 _ ne).trans h3, (mkr_o9.2 _ ne).trans h4, (mkr_a9.2.2 _ ne).1.trans h5, Nat.lt_succ_of_lt h6⟩
theorem rwK_09 {κ : zS} {a : Nat} : rwK9 κ a [] := fun _ h => by cases h

end
section
set_option maxHeartbeats 1600000
/-! the class: Calc's constructor, exactly -/
theorem zOk_n9 {κ1 κ2 : zS} {n w : Nat} (e : κ2 = uo (na κ1 20 n) nuLimbs w (zn κ1)) : zOk κ2 w 8 := by
  have r : zR κ2 nuLimbs w = zn κ1 := by rw [e]; exact if_pos ⟨rfl, rfl⟩
  refine zOk_8 ?_ ?_
  · rw [r, e]; exact if_pos rfl
  · rw [r, e]; exact if_pos rfl
/-- a number made for a field -/
def mkn9 (κ : zS) (m : Int32) (f a : Nat) : zS := ur (nff (mkr9 (noo κ 8) nuLimbs (zn κ) 20 (if m < (2 : Int32) then (2 : Int32) else m).toNatClampNeg) (zn κ)) f a (zn κ)
theorem Ca_init_c {C : zC} {n0 : Nat} {a0 : Nat} {κ : zS} {Q : zS → Prop} (W : zW C n0 κ) (Ta0 : zT κ a0 = 44)  (h : ∀ (κ' : zS), (κ' = mkn9 (mkn9 (mkn9 (mkn9 (mkn9 (mkn9 (mkr9 κ caFactors a0 22 ((4 : Int32)).toNatClampNeg) 8 caQuotient a0) 8 caRest a0) 8 caDivisor a0) 8 caX a0) 8 caY a0) 8 caSpare a0) → Q κ') : zRun C 2 mCa_init [.ref a0] κ (oV Q noX) := by
  refine Ca_init_run W Ta0 ?_
  replace W := W.lo (Nat.le_trans W.1.2.1 W.1.2.2) (Nat.le_refl (zn κ))
  unfold w_Ca_init_0
  refine ⟨?_, ?_⟩
  · first | exact ⟨by decide, by decide⟩ | exact zOk_n9 (by assumption) | (subst_vars; exact if_pos rfl)  -- b1
  intro κ_1 hκ_1
  intro W2
  refine ⟨?_, ?_⟩
  · first | exact ⟨by decide, by decide⟩ | exact zOk_n9 (by assumption) | (subst_vars; exact if_pos rfl)  -- b2
  intro κ_3 hκ_3
  intro W4
  intro κ_5 hκ_5
  intro W6
  intro T7
  refine Nu_init_c W6 T7  ?_ (fun κ_8 q9 => ?_)
  · decide  -- p3
  intro W10
  intro M11
  refine ⟨?_, ?_⟩
  · first | exact ⟨by decide, by decide⟩ | exact zOk_n9 (by assumption) | (subst_vars; exact if_pos rfl)  -- b4
  intro κ_12 hκ_12
  intro W13
  intro κ_14 hκ_14
  intro W15
  intro κ_16 hκ_16
  intro W17
  intro T18
  refine Nu_init_c W17 T18  ?_ (fun κ_19 q20 => ?_)
  · decide  -- p5
  intro W21
  intro M22
  refine ⟨?_, ?_⟩
  · first | exact ⟨by decide, by decide⟩ | exact zOk_n9 (by assumption) | (subst_vars; exact if_pos rfl)  -- b6
  intro κ_23 hκ_23
  intro W24
  intro κ_25 hκ_25
  intro W26
  intro κ_27 hκ_27
  intro W28
  intro T29
  refine Nu_init_c W28 T29  ?_ (fun κ_30 q31 => ?_)
  · decide  -- p7
  intro W32
  intro M33
  refine ⟨?_, ?_⟩
  · first | exact ⟨by decide, by decide⟩ | exact zOk_n9 (by assumption) | (subst_vars; exact if_pos rfl)  -- b8
  intro κ_34 hκ_34
  intro W35
  intro κ_36 hκ_36
  intro W37
  intro κ_38 hκ_38
  intro W39
  intro T40
  refine Nu_init_c W39 T40  ?_ (fun κ_41 q42 => ?_)
  · decide  -- p9
  intro W43
  intro M44
  refine ⟨?_, ?_⟩
  · first | exact ⟨by decide, by decide⟩ | exact zOk_n9 (by assumption) | (subst_vars; exact if_pos rfl)  -- b10
  intro κ_45 hκ_45
  intro W46
  intro κ_47 hκ_47
  intro W48
  intro κ_49 hκ_49
  intro W50
  intro T51
  refine Nu_init_c W50 T51  ?_ (fun κ_52 q53 => ?_)
  · decide  -- p11
  intro W54
  intro M55
  refine ⟨?_, ?_⟩
  · first | exact ⟨by decide, by decide⟩ | exact zOk_n9 (by assumption) | (subst_vars; exact if_pos rfl)  -- b12
  intro κ_56 hκ_56
  intro W57
  intro κ_58 hκ_58
  intro W59
  intro κ_60 hκ_60
  intro W61
  intro T62
  refine Nu_init_c W61 T62  ?_ (fun κ_63 q64 => ?_)
  · decide  -- p13
  intro W65
  intro M66
  refine ⟨?_, ?_⟩
  · first | exact ⟨by decide, by decide⟩ | exact zOk_n9 (by assumption) | (subst_vars; exact if_pos rfl)  -- b14
  intro κ_67 hκ_67
  intro W68
  intro κ_69 hκ_69
  intro W70
  refine h _ ?_
  · subst_vars; rfl  -- q15

end
section
set_option maxHeartbeats 1600000
/-! the class: an object whose rows are all made can be finished -/
theorem zOk_r9 {κ : zS} {w ci : Nat} {l : List (Nat × Nat × Nat × Nat)} (H : rwK9 κ w l) (hc : ∀ p ∈ zRT, p.1 / 100 = ci → p ∈ l.map (fun q => (q.1, q.2.1))) (hz : ∀ f, f ∈ zZT → f / 100 = ci → nb (zI κ f w)) : zOk κ w ci := by
  refine ⟨fun f t h1 h2 => ?_, hz⟩
  obtain ⟨q, h3, h4⟩ := List.mem_map.mp (hc (f, t) (d_lk h1) h2)
  obtain ⟨r1, r2, r3, r4, r5, r6⟩ := H q h3
  have e1 : q.1 = f := congrArg Prod.fst h4
  have e2 : q.2.1 = t := congrArg Prod.snd h4
  rw [← e1, ← e2, r1]
  exact ⟨r2, fun _ => r4⟩
/-- Web's rows -/
def lWe9 (m : Nat) : List (Nat × Nat × Nat × Nat) := [(weHeap, 20, m + 13, 0), (wePath, 20, m + 12, 0), (weCursor, 20, m + 11, 0), (weLow, 20, m + 10, 0), (weSeen, 20, m + 9, 0), (weOrder, 20, m + 8, 0), (weKnotOf, 20, m + 7, 0), (weKnotFirsts, 20, m + 6, 1), (weOpen, 23, m + 5, 0), (weEdges, 20, m + 4, 64), (weSources, 20, m + 3, 64), (weBackFirsts, 20, m + 2, 1), (weTargets, 20, m + 1, 64), (weFirsts, 20, m, 1)]
def lHo9 (m : Nat) : List (Nat × Nat × Nat × Nat) := [(hoPool, 20, m + 2, 16), (hoTable, 20, m + 1, 0), (hoStarts, 20, m, 1)]
theorem lWe_z9 {m : Nat} : ∀ p ∈ zRT, p.1 / 100 = 14 → p ∈ (lWe9 m).map (fun q => (q.1, q.2.1)) := by
  show ∀ p ∈ zRT, p.1 / 100 = 14 → p ∈ [(weHeap, 20), (wePath, 20), (weCursor, 20), (weLow, 20), (weSeen, 20), (weOrder, 20), (weKnotOf, 20), (weKnotFirsts, 20), (weOpen, 23), (weEdges, 20), (weSources, 20), (weBackFirsts, 20), (weTargets, 20), (weFirsts, 20)]
  decide +kernel
theorem lHo_z9 {m : Nat} : ∀ p ∈ zRT, p.1 / 100 = 6 → p ∈ (lHo9 m).map (fun q => (q.1, q.2.1)) := by
  show ∀ p ∈ zRT, p.1 / 100 = 6 → p ∈ [(hoPool, 20), (hoTable, 20), (hoStarts, 20)]
  decide +kernel

end
section
set_option maxHeartbeats 1600000
/-! the class: rows behind the simple constructors -/
theorem rwK_c9 {κ : zS} {f a t n m : Nat} {l : List (Nat × Nat × Nat × Nat)} (H : rwK9 κ a l) (e : zn κ = m) (hf : f ∉ l.map (fun q => q.1)) : rwK9 (mkr9 κ f a t n) a ((f, t, m, n) :: l) := by
  subst e
  exact rwK_s9 H (fun q hq z => hf (List.mem_map.mpr ⟨q, hq, z⟩))
def iTa9 (κ : zS) (a : Nat) : zS := (mkr9 (mkr9 (mkr9 (mkr9 κ taBytes a 21 240) taKinds a 20 64) taPlaces a 20 64) taLengths a 20 64)
def rTa9 (m : Nat) : List (Nat × Nat × Nat × Nat) := [(taLengths, 20, m + 3, 64), (taPlaces, 20, m + 2, 64), (taKinds, 20, m + 1, 64), (taBytes, 21, m, 240)]
theorem Ta_r9 {κ : zS} {a : Nat} : rwK9 (iTa9 κ a) a (rTa9 (zn κ)) :=
  rwK_c9 (rwK_c9 (rwK_c9 (rwK_c9 (κ := κ) rwK_09 rfl (by decide)) rfl (show taKinds ∉ [taBytes] by decide)) rfl (show taPlaces ∉ [taKinds, taBytes] by decide)) rfl (show taLengths ∉ [taPlaces, taKinds, taBytes] by decide)
theorem Ta_z9 {m : Nat} : ∀ p ∈ zRT, p.1 / 100 = 13 ∧ 20 ≤ p.2 → p ∈ (rTa9 m).map (fun q => (q.1, q.2.1)) := by
  show ∀ p ∈ zRT, p.1 / 100 = 13 ∧ 20 ≤ p.2 → p ∈ [(taLengths, 20), (taPlaces, 20), (taKinds, 20), (taBytes, 21)]
  decide +kernel
def iCo9 (κ : zS) (a : Nat) : zS := (mkr9 (mkr9 (mkr9 (mkr9 (mkr9 (mkr9 (mkr9 (mkr9 (mkr9 κ coVarStarts a 20 10) coArrayBases a 20 3) coArraySizes a 20 3) coFirstStatements a 20 10) coNameCounts a 20 10) coOwnCounts a 20 10) coRows a 20 88) coOps a 20 64) coArgs a 20 64)
def rCo9 (m : Nat) : List (Nat × Nat × Nat × Nat) := [(coArgs, 20, m + 8, 64), (coOps, 20, m + 7, 64), (coRows, 20, m + 6, 88), (coOwnCounts, 20, m + 5, 10), (coNameCounts, 20, m + 4, 10), (coFirstStatements, 20, m + 3, 10), (coArraySizes, 20, m + 2, 3), (coArrayBases, 20, m + 1, 3), (coVarStarts, 20, m, 10)]
theorem Co_r9 {κ : zS} {a : Nat} : rwK9 (iCo9 κ a) a (rCo9 (zn κ)) :=
  rwK_c9 (rwK_c9 (rwK_c9 (rwK_c9 (rwK_c9 (rwK_c9 (rwK_c9 (rwK_c9 (rwK_c9 (κ := κ) rwK_09 rfl (by decide)) rfl (show coArrayBases ∉ [coVarStarts] by decide)) rfl (show coArraySizes ∉ [coArrayBases, coVarStarts] by decide)) rfl (show coFirstStatements ∉ [coArraySizes, coArrayBases, coVarStarts] by decide)) rfl (show coNameCounts ∉ [coFirstStatements, coArraySizes, coArrayBases, coVarStarts] by decide)) rfl (show coOwnCounts ∉ [coNameCounts, coFirstStatements, coArraySizes, coArrayBases, coVarStarts] by decide)) rfl (show coRows ∉ [coOwnCounts, coNameCounts, coFirstStatements, coArraySizes, coArrayBases, coVarStarts] by decide)) rfl (show coOps ∉ [coRows, coOwnCounts, coNameCounts, coFirstStatements, coArraySizes, coArrayBases, coVarStarts] by decide)) rfl (show coArgs ∉ [coOps, coRows, coOwnCounts, coNameCounts, coFirstStatements, coArraySizes, coArrayBases, coVarStarts] by decide)
theorem Co_z9 {m : Nat} : ∀ p ∈ zRT, p.1 / 100 = 5 ∧ 20 ≤ p.2 → p ∈ (rCo9 m).map (fun q => (q.1, q.2.1)) := by
  show ∀ p ∈ zRT, p.1 / 100 = 5 ∧ 20 ≤ p.2 → p ∈ [(coArgs, 20), (coOps, 20), (coRows, 20), (coOwnCounts, 20), (coNameCounts, 20), (coFirstStatements, 20), (coArraySizes, 20), (coArrayBases, 20), (coVarStarts, 20)]
  decide +kernel
def iPa9 (κ : zS) (a : Nat) (p q : Nat) : zS := (mkr9 (mkr9 (mkr9 (mkr9 (mkr9 (mkr9 (mkr9 (mkr9 (ur (ur κ paTape a p) paCode a q) paVarNames a 20 10) paArrayNames a 20 3) paFunctionNames a 20 10) paOwnNames a 20 8) paOwners a 20 41) paLasts a 20 41) paElses a 23 41) paWaiting a 20 16)
def rPa9 (m : Nat) : List (Nat × Nat × Nat × Nat) := [(paWaiting, 20, m + 7, 16), (paElses, 23, m + 6, 41), (paLasts, 20, m + 5, 41), (paOwners, 20, m + 4, 41), (paOwnNames, 20, m + 3, 8), (paFunctionNames, 20, m + 2, 10), (paArrayNames, 20, m + 1, 3), (paVarNames, 20, m, 10)]
theorem Pa_r9 {κ : zS} {a : Nat} {p q : Nat} : rwK9 (iPa9 κ a p q) a (rPa9 (zn κ)) :=
  rwK_c9 (rwK_c9 (rwK_c9 (rwK_c9 (rwK_c9 (rwK_c9 (rwK_c9 (rwK_c9 (κ := (ur (ur κ paTape a p) paCode a q)) rwK_09 rfl (by decide)) rfl (show paArrayNames ∉ [paVarNames] by decide)) rfl (show paFunctionNames ∉ [paArrayNames, paVarNames] by decide)) rfl (show paOwnNames ∉ [paFunctionNames, paArrayNames, paVarNames] by decide)) rfl (show paOwners ∉ [paOwnNames, paFunctionNames, paArrayNames, paVarNames] by decide)) rfl (show paLasts ∉ [paOwners, paOwnNames, paFunctionNames, paArrayNames, paVarNames] by decide)) rfl (show paElses ∉ [paLasts, paOwners, paOwnNames, paFunctionNames, paArrayNames, paVarNames] by decide)) rfl (show paWaiting ∉ [paElses, paLasts, paOwners, paOwnNames, paFunctionNames, paArrayNames, paVarNames] by decide)
theorem Pa_z9 {m : Nat} : ∀ p ∈ zRT, p.1 / 100 = 10 ∧ 20 ≤ p.2 → p ∈ (rPa9 m).map (fun q => (q.1, q.2.1)) := by
  show ∀ p ∈ zRT, p.1 / 100 = 10 ∧ 20 ≤ p.2 → p ∈ [(paWaiting, 20), (paElses, 23), (paLasts, 20), (paOwners, 20), (paOwnNames, 20), (paFunctionNames, 20), (paArrayNames, 20), (paVarNames, 20)]
  decide +kernel
def iHo9 (κ : zS) (a : Nat) (x y z : Int32) : zS := (mkr9 (mkr9 (mkr9 (ui (ui (ui κ hoMost a x) hoWidest a y) hoSlots a z) hoStarts a 20 1) hoTable a 20 0) hoPool a 20 16)
def rHo9 (m : Nat) : List (Nat × Nat × Nat × Nat) := [(hoPool, 20, m + 2, 16), (hoTable, 20, m + 1, 0), (hoStarts, 20, m, 1)]
theorem Ho_r9 {κ : zS} {a : Nat} {x y z : Int32} : rwK9 (iHo9 κ a x y z) a (rHo9 (zn κ)) :=
  rwK_c9 (rwK_c9 (rwK_c9 (κ := (ui (ui (ui κ hoMost a x) hoWidest a y) hoSlots a z)) rwK_09 rfl (by decide)) rfl (show hoTable ∉ [hoStarts] by decide)) rfl (show hoPool ∉ [hoTable, hoStarts] by decide)
theorem Ho_z9 {m : Nat} : ∀ p ∈ zRT, p.1 / 100 = 6 ∧ 20 ≤ p.2 → p ∈ (rHo9 m).map (fun q => (q.1, q.2.1)) := by
  show ∀ p ∈ zRT, p.1 / 100 = 6 ∧ 20 ≤ p.2 → p ∈ [(hoPool, 20), (hoTable, 20), (hoStarts, 20)]
  decide +kernel
def iWe9 (κ : zS) (a : Nat) : zS := (mkr9 (mkr9 (mkr9 (mkr9 (mkr9 (mkr9 (mkr9 (mkr9 (mkr9 (mkr9 (mkr9 (mkr9 (mkr9 (mkr9 κ weFirsts a 20 1) weTargets a 20 64) weBackFirsts a 20 1) weSources a 20 64) weEdges a 20 64) weOpen a 23 0) weKnotFirsts a 20 1) weKnotOf a 20 0) weOrder a 20 0) weSeen a 20 0) weLow a 20 0) weCursor a 20 0) wePath a 20 0) weHeap a 20 0)
def rWe9 (m : Nat) : List (Nat × Nat × Nat × Nat) := [(weHeap, 20, m + 13, 0), (wePath, 20, m + 12, 0), (weCursor, 20, m + 11, 0), (weLow, 20, m + 10, 0), (weSeen, 20, m + 9, 0), (weOrder, 20, m + 8, 0), (weKnotOf, 20, m + 7, 0), (weKnotFirsts, 20, m + 6, 1), (weOpen, 23, m + 5, 0), (weEdges, 20, m + 4, 64), (weSources, 20, m + 3, 64), (weBackFirsts, 20, m + 2, 1), (weTargets, 20, m + 1, 64), (weFirsts, 20, m, 1)]
theorem We_r9 {κ : zS} {a : Nat} : rwK9 (iWe9 κ a) a (rWe9 (zn κ)) :=
  rwK_c9 (rwK_c9 (rwK_c9 (rwK_c9 (rwK_c9 (rwK_c9 (rwK_c9 (rwK_c9 (rwK_c9 (rwK_c9 (rwK_c9 (rwK_c9 (rwK_c9 (rwK_c9 (κ := κ) rwK_09 rfl (by decide)) rfl (show weTargets ∉ [weFirsts] by decide)) rfl (show weBackFirsts ∉ [weTargets, weFirsts] by decide)) rfl (show weSources ∉ [weBackFirsts, weTargets, weFirsts] by decide)) rfl (show weEdges ∉ [weSources, weBackFirsts, weTargets, weFirsts] by decide)) rfl (show weOpen ∉ [weEdges, weSources, weBackFirsts, weTargets, weFirsts] by decide)) rfl (show weKnotFirsts ∉ [weOpen, weEdges, weSources, weBackFirsts, weTargets, weFirsts] by decide)) rfl (show weKnotOf ∉ [weKnotFirsts, weOpen, weEdges, weSources, weBackFirsts, weTargets, weFirsts] by decide)) rfl (show weOrder ∉ [weKnotOf, weKnotFirsts, weOpen, weEdges, weSources, weBackFirsts, weTargets, weFirsts] by decide)) rfl (show weSeen ∉ [weOrder, weKnotOf, weKnotFirsts, weOpen, weEdges, weSources, weBackFirsts, weTargets, weFirsts] by decide)) rfl (show weLow ∉ [weSeen, weOrder, weKnotOf, weKnotFirsts, weOpen, weEdges, weSources, weBackFirsts, weTargets, weFirsts] by decide)) rfl (show weCursor ∉ [weLow, weSeen, weOrder, weKnotOf, weKnotFirsts, weOpen, weEdges, weSources, weBackFirsts, weTargets, weFirsts] by decide)) rfl (show wePath ∉ [weCursor, weLow, weSeen, weOrder, weKnotOf, weKnotFirsts, weOpen, weEdges, weSources, weBackFirsts, weTargets, weFirsts] by decide)) rfl (show weHeap ∉ [wePath, weCursor, weLow, weSeen, weOrder, weKnotOf, weKnotFirsts, weOpen, weEdges, weSources, weBackFirsts, weTargets, weFirsts] by decide)
theorem We_z9 {m : Nat} : ∀ p ∈ zRT, p.1 / 100 = 14 ∧ 20 ≤ p.2 → p ∈ (rWe9 m).map (fun q => (q.1, q.2.1)) := by
  show ∀ p ∈ zRT, p.1 / 100 = 14 ∧ 20 ≤ p.2 → p ∈ [(weHeap, 20), (wePath, 20), (weCursor, 20), (weLow, 20), (weSeen, 20), (weOrder, 20), (weKnotOf, 20), (weKnotFirsts, 20), (weOpen, 23), (weEdges, 20), (weSources, 20), (weBackFirsts, 20), (weTargets, 20), (weFirsts, 20)]
  decide +kernel
def iMa9 (κ : zS) (a : Nat) (p : Nat) : zS := (mkr9 (mkr9 (mkr9 (mkr9 (mkr9 (ur κ maCode a p) maMemory a 20 142) maStack a 20 256) maWorked a 20 16) maValues a 20 64) maWeights a 20 64)
def rMa9 (m : Nat) : List (Nat × Nat × Nat × Nat) := [(maWeights, 20, m + 4, 64), (maValues, 20, m + 3, 64), (maWorked, 20, m + 2, 16), (maStack, 20, m + 1, 256), (maMemory, 20, m, 142)]
theorem Ma_r9 {κ : zS} {a : Nat} {p : Nat} : rwK9 (iMa9 κ a p) a (rMa9 (zn κ)) :=
  rwK_c9 (rwK_c9 (rwK_c9 (rwK_c9 (rwK_c9 (κ := (ur κ maCode a p)) rwK_09 rfl (by decide)) rfl (show maStack ∉ [maMemory] by decide)) rfl (show maWorked ∉ [maStack, maMemory] by decide)) rfl (show maValues ∉ [maWorked, maStack, maMemory] by decide)) rfl (show maWeights ∉ [maValues, maWorked, maStack, maMemory] by decide)
theorem Ma_z9 {m : Nat} : ∀ p ∈ zRT, p.1 / 100 = 7 ∧ 20 ≤ p.2 → p ∈ (rMa9 m).map (fun q => (q.1, q.2.1)) := by
  show ∀ p ∈ zRT, p.1 / 100 = 7 ∧ 20 ≤ p.2 → p ∈ [(maWeights, 20), (maValues, 20), (maWorked, 20), (maStack, 20), (maMemory, 20)]
  decide +kernel

end
section
set_option maxHeartbeats 1600000
/-! the class: Atlas's and Odds' constructors, exactly -/
theorem zOk_we9 {κ κ2 : zS} {w : Nat} (e : κ2 = (mkr9 (mkr9 (mkr9 (mkr9 (mkr9 (mkr9 (mkr9 (mkr9 (mkr9 (mkr9 (mkr9 (mkr9 (mkr9 (mkr9 κ weFirsts w 20 ((1 : Int32)).toNatClampNeg) weTargets w 20 ((64 : Int32)).toNatClampNeg) weBackFirsts w 20 ((1 : Int32)).toNatClampNeg) weSources w 20 ((64 : Int32)).toNatClampNeg) weEdges w 20 ((64 : Int32)).toNatClampNeg) weOpen w 23 ((0 : Int32)).toNatClampNeg) weKnotFirsts w 20 ((1 : Int32)).toNatClampNeg) weKnotOf w 20 ((0 : Int32)).toNatClampNeg) weOrder w 20 ((0 : Int32)).toNatClampNeg) weSeen w 20 ((0 : Int32)).toNatClampNeg) weLow w 20 ((0 : Int32)).toNatClampNeg) weCursor w 20 ((0 : Int32)).toNatClampNeg) wePath w 20 ((0 : Int32)).toNatClampNeg) weHeap w 20 ((0 : Int32)).toNatClampNeg)) : zOk κ2 w 14 := by
  rw [e]
  show zOk (iWe9 κ w) w 14
  exact zOk_r9 We_r9 (fun p h1 h2 => We_z9 p h1 ⟨h2, (by decide +kernel : ∀ p ∈ zRT, p.1 / 100 = 14 → 20 ≤ p.2) p h1 h2⟩) (fun f h1 h2 => absurd h2 ((by decide : ∀ f ∈ zZT, f / 100 ≠ 14) f h1))
theorem zOk_ho9 {κ κ2 : zS} {w : Nat} {x y z : Int32} (e : κ2 = (mkr9 (mkr9 (mkr9 (ui (ui (ui κ hoMost w x) hoWidest w y) hoSlots w z) hoStarts w 20 ((1 : Int32)).toNatClampNeg) hoTable w 20 ((0 : Int32)).toNatClampNeg) hoPool w 20 ((16 : Int32)).toNatClampNeg)) : zOk κ2 w 6 := by
  rw [e]
  show zOk (iHo9 κ w x y z) w 6
  exact zOk_r9 Ho_r9 (fun p h1 h2 => Ho_z9 p h1 ⟨h2, (by decide +kernel : ∀ p ∈ zRT, p.1 / 100 = 6 → 20 ≤ p.2) p h1 h2⟩) (fun f h1 h2 => absurd h2 ((by decide : ∀ f ∈ zZT, f / 100 ≠ 6) f h1))
def mkW9 (κ : zS) (f a : Nat) : zS := ur (nff (iWe9 (noo κ 14) (zn κ)) (zn κ)) f a (zn κ)
def mkH9 (κ : zS) (x y z : Int32) (f a : Nat) : zS := ur (nff (iHo9 (noo κ 6) (zn κ) x y z) (zn κ)) f a (zn κ)
def iAt9 (κ : zS) (a p q : Nat) : zS := (mkr9 (mkr9 (mkr9 (mkr9 (mkr9 (mkr9 (mkr9 (mkr9 (mkr9 (mkH9 (mkH9 (mkW9 (ur (ur κ atMachine a p) atCode a q) atWeb a) 1000 142 2048 atStates a) 1000 35 2048 atEndings a) atFirsts a 20 1) atTotals a 20 0) atGains a 20 0) atPlan a 20 0) atChooses a 23 0) atHopeless a 23 0) atSorts a 20 64) atNumbers a 20 64) atWeights a 20 64)
def iOd9 (κ : zS) (a p q r : Nat) : zS := (mkr9 (mkr9 (mkr9 (mkr9 (mkr9 (mkr9 (mkr9 (mkr9 (mkr9 (mkH9 (mkn9 (ur (ur (ur κ odAtlas a p) odSolver a q) odCalc a r) 4 odHeld a) 3000 3 8192 odGroups a) odKey a 20 3) odLefts a 20 0) odRights a 20 0) odBases a 20 0) odRanks a 20 0) odCellOf a 20 0) odHeads a 20 0) odLinks a 20 0) odEdges a 24 0)
theorem At_init_c {C : zC} {n0 : Nat} {a0 : Nat} {a1 : Nat} {a2 : Nat} {κ : zS} {Q : zS → Prop} (W : zW C n0 κ) (Ta0 : zT κ a0 = 43) (Ta1 : zT κ a1 = 7) (Ta2 : zT κ a2 = 5)  (h : ∀ (κ' : zS), (κ' = iAt9 κ a0 a1 a2) → Q κ') : zRun C 2 mAt_init [.ref a0, .ref a1, .ref a2] κ (oV Q noX) := by
  refine At_init_run W Ta0 Ta1 Ta2 ?_
  replace W := W.lo (Nat.le_trans W.1.2.1 W.1.2.2) (Nat.le_refl (zn κ))
  unfold w_At_init_0
  intro κ_1 hκ_1
  intro W2
  intro κ_3 hκ_3
  intro W4
  intro κ_5 hκ_5
  intro W6
  intro T7
  refine We_init_c W6 T7  (fun κ_8 q9 => ?_)
  intro W10
  intro M11
  refine ⟨?_, ?_⟩
  · exact zOk_we9 q9  -- b1
  intro κ_12 hκ_12
  intro W13
  intro κ_14 hκ_14
  intro W15
  intro κ_16 hκ_16
  intro W17
  intro T18
  refine Ho_init_c W17 T18  (fun κ_19 q20 => ?_)
  intro W21
  intro M22
  refine ⟨?_, ?_⟩
  · exact zOk_ho9 q20  -- b2
  intro κ_23 hκ_23
  intro W24
  intro κ_25 hκ_25
  intro W26
  intro κ_27 hκ_27
  intro W28
  intro T29
  refine Ho_init_c W28 T29  (fun κ_30 q31 => ?_)
  intro W32
  intro M33
  refine ⟨?_, ?_⟩
  · exact zOk_ho9 q31  -- b3
  intro κ_34 hκ_34
  intro W35
  intro κ_36 hκ_36
  intro W37
  refine ⟨?_, ?_⟩
  · exact ⟨by decide, by decide⟩  -- b4
  intro κ_38 hκ_38
  intro W39
  refine ⟨?_, ?_⟩
  · rw [hκ_38]; exact if_pos rfl  -- b5
  intro κ_40 hκ_40
  intro W41
  refine ⟨?_, ?_⟩
  · exact ⟨by decide, by decide⟩  -- b6
  intro κ_42 hκ_42
  intro W43
  refine ⟨?_, ?_⟩
  · rw [hκ_42]; exact if_pos rfl  -- b7
  intro κ_44 hκ_44
  intro W45
  refine ⟨?_, ?_⟩
  · exact ⟨by decide, by decide⟩  -- b8
  intro κ_46 hκ_46
  intro W47
  refine ⟨?_, ?_⟩
  · rw [hκ_46]; exact if_pos rfl  -- b9
  intro κ_48 hκ_48
  intro W49
  refine ⟨?_, ?_⟩
  · exact ⟨by decide, by decide⟩  -- b10
  intro κ_50 hκ_50
  intro W51
  refine ⟨?_, ?_⟩
  · rw [hκ_50]; exact if_pos rfl  -- b11
  intro κ_52 hκ_52
  intro W53
  refine ⟨?_, ?_⟩
  · exact ⟨by decide, by decide⟩  -- b12
  intro κ_54 hκ_54
  intro W55
  refine ⟨?_, ?_⟩
  · rw [hκ_54]; exact if_pos rfl  -- b13
  intro κ_56 hκ_56
  intro W57
  refine ⟨?_, ?_⟩
  · exact ⟨by decide, by decide⟩  -- b14
  intro κ_58 hκ_58
  intro W59
  refine ⟨?_, ?_⟩
  · rw [hκ_58]; exact if_pos rfl  -- b15
  intro κ_60 hκ_60
  intro W61
  refine ⟨?_, ?_⟩
  · exact ⟨by decide, by decide⟩  -- b16
  intro κ_62 hκ_62
  intro W63
  refine ⟨?_, ?_⟩
  · rw [hκ_62]; exact if_pos rfl  -- b17
  intro κ_64 hκ_64
  intro W65
  refine ⟨?_, ?_⟩
  · exact ⟨by decide, by decide⟩  -- b18
  intro κ_66 hκ_66
  intro W67
  refine ⟨?_, ?_⟩
  · rw [hκ_66]; exact if_pos rfl  -- b19
  intro κ_68 hκ_68
  intro W69
  refine ⟨?_, ?_⟩
  · exact ⟨by decide, by decide⟩  -- b20
  intro κ_70 hκ_70
  intro W71
  refine ⟨?_, ?_⟩
  · rw [hκ_70]; exact if_pos rfl  -- b21
  intro κ_72 hκ_72
  intro W73
  refine h _ ?_
  · have s0 : κ_3 = ur (ur κ atMachine a0 a1) atCode a0 a2 := by rw [hκ_3, hκ_1]
    have w1 : κ_14 = mkW9 κ_3 atWeb a0 := by rw [hκ_14, hκ_12, q9, hκ_5]; rfl
    have w2 : κ_25 = mkH9 κ_14 1000 142 2048 atStates a0 := by rw [hκ_25, hκ_23, q20, hκ_16]; rfl
    have w3 : κ_36 = mkH9 κ_25 1000 35 2048 atEndings a0 := by rw [hκ_36, hκ_34, q31, hκ_27]; rfl
    have r91 : κ_40 = mkr9 κ_36 atFirsts a0 20 1 := by rw [hκ_40, hκ_38]; rfl
    have r92 : κ_44 = mkr9 κ_40 atTotals a0 20 0 := by rw [hκ_44, hκ_42]; rfl
    have r93 : κ_48 = mkr9 κ_44 atGains a0 20 0 := by rw [hκ_48, hκ_46]; rfl
    have r94 : κ_52 = mkr9 κ_48 atPlan a0 20 0 := by rw [hκ_52, hκ_50]; rfl
    have r95 : κ_56 = mkr9 κ_52 atChooses a0 23 0 := by rw [hκ_56, hκ_54]; rfl
    have r96 : κ_60 = mkr9 κ_56 atHopeless a0 23 0 := by rw [hκ_60, hκ_58]; rfl
    have r97 : κ_64 = mkr9 κ_60 atSorts a0 20 64 := by rw [hκ_64, hκ_62]; rfl
    have r98 : κ_68 = mkr9 κ_64 atNumbers a0 20 64 := by rw [hκ_68, hκ_66]; rfl
    have r99 : κ_72 = mkr9 κ_68 atWeights a0 20 64 := by rw [hκ_72, hκ_70]; rfl
    unfold iAt9
    rw [r99, r98, r97, r96, r95, r94, r93, r92, r91, w3, w2, w1, s0]

end
section
set_option maxHeartbeats 1600000
/-! the class: Odds' constructor, exactly -/
theorem Od_init_c {C : zC} {n0 : Nat} {a0 : Nat} {a1 : Nat} {a2 : Nat} {a3 : Nat} {κ : zS} {Q : zS → Prop} (W : zW C n0 κ) (Ta0 : zT κ a0 = 49) (Ta1 : zT κ a1 = 3) (Ta2 : zT κ a2 = 12) (Ta3 : zT κ a3 = 4)  (h : ∀ (κ' : zS), (κ' = iOd9 κ a0 a1 a2 a3) → Q κ') : zRun C 2 mOd_init [.ref a0, .ref a1, .ref a2, .ref a3] κ (oV Q noX) := by
  refine Od_init_run W Ta0 Ta1 Ta2 Ta3 ?_
  replace W := W.lo (Nat.le_trans W.1.2.1 W.1.2.2) (Nat.le_refl (zn κ))
  unfold w_Od_init_0
  intro κ_1 hκ_1
  intro W2
  intro κ_3 hκ_3
  intro W4
  intro κ_5 hκ_5
  intro W6
  intro κ_7 hκ_7
  intro W8
  intro T9
  refine Nu_init_c W8 T9  ?_ (fun κ_10 q11 => ?_)
  · decide  -- p1
  intro W12
  intro M13
  refine ⟨?_, ?_⟩
  · exact zOk_n9 q11  -- b2
  intro κ_14 hκ_14
  intro W15
  intro κ_16 hκ_16
  intro W17
  intro κ_18 hκ_18
  intro W19
  intro T20
  refine Ho_init_c W19 T20  (fun κ_21 q22 => ?_)
  intro W23
  intro M24
  refine ⟨?_, ?_⟩
  · exact zOk_ho9 q22  -- b3
  intro κ_25 hκ_25
  intro W26
  intro κ_27 hκ_27
  intro W28
  refine ⟨?_, ?_⟩
  · exact ⟨by decide, by decide⟩  -- b4
  intro κ_29 hκ_29
  intro W30
  refine ⟨?_, ?_⟩
  · rw [hκ_29]; exact if_pos rfl  -- b5
  intro κ_31 hκ_31
  intro W32
  refine ⟨?_, ?_⟩
  · exact ⟨by decide, by decide⟩  -- b6
  intro κ_33 hκ_33
  intro W34
  refine ⟨?_, ?_⟩
  · rw [hκ_33]; exact if_pos rfl  -- b7
  intro κ_35 hκ_35
  intro W36
  refine ⟨?_, ?_⟩
  · exact ⟨by decide, by decide⟩  -- b8
  intro κ_37 hκ_37
  intro W38
  refine ⟨?_, ?_⟩
  · rw [hκ_37]; exact if_pos rfl  -- b9
  intro κ_39 hκ_39
  intro W40
  refine ⟨?_, ?_⟩
  · exact ⟨by decide, by decide⟩  -- b10
  intro κ_41 hκ_41
  intro W42
  refine ⟨?_, ?_⟩
  · rw [hκ_41]; exact if_pos rfl  -- b11
  intro κ_43 hκ_43
  intro W44
  refine ⟨?_, ?_⟩
  · exact ⟨by decide, by decide⟩  -- b12
  intro κ_45 hκ_45
  intro W46
  refine ⟨?_, ?_⟩
  · rw [hκ_45]; exact if_pos rfl  -- b13
  intro κ_47 hκ_47
  intro W48
  refine ⟨?_, ?_⟩
  · exact ⟨by decide, by decide⟩  -- b14
  intro κ_49 hκ_49
  intro W50
  refine ⟨?_, ?_⟩
  · rw [hκ_49]; exact if_pos rfl  -- b15
  intro κ_51 hκ_51
  intro W52
  refine ⟨?_, ?_⟩
  · exact ⟨by decide, by decide⟩  -- b16
  intro κ_53 hκ_53
  intro W54
  refine ⟨?_, ?_⟩
  · rw [hκ_53]; exact if_pos rfl  -- b17
  intro κ_55 hκ_55
  intro W56
  refine ⟨?_, ?_⟩
  · exact ⟨by decide, by decide⟩  -- b18
  intro κ_57 hκ_57
  intro W58
  refine ⟨?_, ?_⟩
  · rw [hκ_57]; exact if_pos rfl  -- b19
  intro κ_59 hκ_59
  intro W60
  refine ⟨?_, ?_⟩
  · exact ⟨by decide, by decide⟩  -- b20
  intro κ_61 hκ_61
  intro W62
  refine ⟨?_, ?_⟩
  · rw [hκ_61]; exact if_pos rfl  -- b21
  intro κ_63 hκ_63
  intro W64
  refine h _ ?_
  · have s0 : κ_5 = ur (ur (ur κ odAtlas a0 a1) odSolver a0 a2) odCalc a0 a3 := by rw [hκ_5, hκ_3, hκ_1]
    have w1 : κ_16 = mkn9 κ_5 4 odHeld a0 := by rw [hκ_16, hκ_14, q11, hκ_7]; rfl
    have w2 : κ_27 = mkH9 κ_16 3000 3 8192 odGroups a0 := by rw [hκ_27, hκ_25, q22, hκ_18]; rfl
    have r91 : κ_31 = mkr9 κ_27 odKey a0 20 3 := by rw [hκ_31, hκ_29]; rfl
    have r92 : κ_35 = mkr9 κ_31 odLefts a0 20 0 := by rw [hκ_35, hκ_33]; rfl
    have r93 : κ_39 = mkr9 κ_35 odRights a0 20 0 := by rw [hκ_39, hκ_37]; rfl
    have r94 : κ_43 = mkr9 κ_39 odBases a0 20 0 := by rw [hκ_43, hκ_41]; rfl
    have r95 : κ_47 = mkr9 κ_43 odRanks a0 20 0 := by rw [hκ_47, hκ_45]; rfl
    have r96 : κ_51 = mkr9 κ_47 odCellOf a0 20 0 := by rw [hκ_51, hκ_49]; rfl
    have r97 : κ_55 = mkr9 κ_51 odHeads a0 20 0 := by rw [hκ_55, hκ_53]; rfl
    have r98 : κ_59 = mkr9 κ_55 odLinks a0 20 0 := by rw [hκ_59, hκ_57]; rfl
    have r99 : κ_63 = mkr9 κ_59 odEdges a0 24 0 := by rw [hκ_63, hκ_61]; rfl
    unfold iOd9
    rw [r99, r98, r97, r96, r95, r94, r93, r92, r91, w2, w1, s0]

end
section
set_option maxHeartbeats 1600000
/-! the class: Ratio's constructor, exactly -/
theorem Nu_put_c3 {C : zC} {n0 : Nat} {a0 : Nat} {a1 : Int64} {κ : zS} {Q : zS → Prop} (W : zW C n0 κ) (Ta0 : zT κ a0 = 8)  (hp : a1 = 1 ∧ 2 ≤ (zN κ (zR κ nuLimbs a0))) (h : ∀ (κ' : zS), (κ' = ui (ua (ua κ (zR κ nuLimbs a0) 0 1) (zR κ nuLimbs a0) 1 0) nuLength a0 1) → Q κ') : zRun C 0 mNu_put [.ref a0, .long a1] κ (oV Q noX) := by
  refine Nu_put_run W Ta0 ?_
  replace W := W.lo (Nat.le_trans W.1.2.1 W.1.2.2) (Nat.le_refl (zn κ))
  unfold w_Nu_put_0
  obtain ⟨e1, p2⟩ := hp
  subst e1
  refine ⟨?_, ?_⟩
  · rw [inb_iff, t0i]; omega  -- b1
  intro κ_1 hκ_1
  intro W2
  have z1 : zR κ_1 = zR κ := by rw [hκ_1]; rfl
  have n1 : zN κ_1 = zN κ := by rw [hκ_1]; rfl
  have x1 : κ_1 = ua κ (zR κ nuLimbs a0) 0 1 := by
    rw [hκ_1]
    exact congrArg (ua κ (zR κ nuLimbs a0) 0) (by decide)
  refine ⟨?_, ?_⟩
  · rw [z1, n1, inb_iff, t1i]; omega  -- b2
  intro κ_3 hκ_3
  intro W4
  have z3 : zR κ_3 = zR κ := by rw [hκ_3]; exact z1
  have n3 : zN κ_3 = zN κ := by rw [hκ_3]; exact n1
  have x3 : κ_3 = ua κ_1 (zR κ nuLimbs a0) 1 0 := by
    rw [hκ_3, z1]
    exact congrArg (ua κ_1 (zR κ nuLimbs a0) 1) (by decide)
  have L1 : zA κ_3 (zR κ nuLimbs a0) 1 = 0 := by
    rw [x3]
    exact (congrFun (if_pos rfl) 1).trans (if_pos rfl)
  have L0 : zA κ_3 (zR κ nuLimbs a0) 0 = 1 := by
    rw [x3, x1]
    refine (congrFun (if_pos rfl) 0).trans ?_
    refine (if_neg (by decide)).trans ?_
    exact (congrFun (if_pos rfl) 0).trans (if_pos rfl)
  refine ⟨?_, ?_⟩
  · rw [z3, n3, inb_iff, t1i]; omega  -- b3
  refine ⟨fun c5 => ?_, fun c5 => ?_⟩
  · skip
    refine ⟨?_, ?_⟩
    · rw [z3, n3, inb_iff, t0i]; omega  -- b4
    refine ⟨fun c6 => ?_, fun c6 => ?_⟩
    · skip
      intro κ_7 hκ_7
      intro W8
      refine h _ ?_
      · exfalso
        rw [z3] at c6
        exact absurd (L0.symm.trans c6) (by decide)
    · skip
      intro κ_9 hκ_9
      intro W10
      refine h _ ?_
      · rw [hκ_9, x3, x1]  -- q6
  · skip
    intro κ_11 hκ_11
    intro W12
    refine h _ ?_
    · rw [z3] at c5
      exact absurd L1 c5

end
section
set_option maxHeartbeats 1600000
/-! the class: Ratio's constructor, exactly -/
def pu9 (κ : zS) (x : Nat) : zS := ui (ua (ua κ (zR κ nuLimbs x) 0 1) (zR κ nuLimbs x) 1 0) nuLength x 1
def iRa9 (κ : zS) (a : Nat) (m : Int32) : zS := pu9 (mkn9 (mkn9 κ m raTop a) m raBottom a) (zR (mkn9 (mkn9 κ m raTop a) m raBottom a) raBottom a)
theorem Ra_init_c3 {C : zC} {n0 : Nat} {a0 : Nat} {a1 : Int32} {κ : zS} {Q : zS → Prop} (W : zW C n0 κ) (Ta0 : zT κ a0 = 51)  (hp : a1.toInt ≤ 10000) (h : ∀ (κ' : zS), (κ' = iRa9 κ a0 a1) → Q κ') : zRun C 2 mRa_init [.ref a0, .int a1] κ (oV Q noX) := by
  refine Ra_init_run W Ta0 ?_
  replace W := W.lo (Nat.le_trans W.1.2.1 W.1.2.2) (Nat.le_refl (zn κ))
  unfold w_Ra_init_0
  intro κ_1 hκ_1
  intro W2
  intro T3
  refine Nu_init_c W2 T3  ?_ (fun κ_4 q5 => ?_)
  · exact hp  -- p1
  intro W6
  intro M7
  refine ⟨?_, ?_⟩
  · exact zOk_n9 q5  -- b2
  intro κ_8 hκ_8
  intro W9
  intro κ_10 hκ_10
  intro W11
  intro κ_12 hκ_12
  intro W13
  intro T14
  refine Nu_init_c W13 T14  ?_ (fun κ_15 q16 => ?_)
  · exact hp  -- p3
  intro W17
  intro M18
  refine ⟨?_, ?_⟩
  · exact zOk_n9 q16  -- b4
  intro κ_19 hκ_19
  intro W20
  intro κ_21 hκ_21
  intro W22
  have B := mk_Nu9 (κ6 := nff κ_15 (zn κ_10)) W11 hκ_12 q16 rfl
  rw [← hκ_19] at B
  have e21 : zR κ_21 raBottom a0 = zn κ_10 := by rw [hκ_21]; exact if_pos ⟨rfl, rfl⟩
  have t21 : ∀ b, zT κ_21 b = zT κ_19 b := fun b => by rw [hκ_21]; rfl
  refine ⟨?_, ?_⟩
  · rw [e21, t21]; exact B.2.1.1  -- b5
  intro T23
  refine Nu_put_c3 W22 T23  ?_ (fun κ_24 q25 => ?_)
  · rw [e21]
    refine ⟨rfl, ?_⟩
    have q : zR κ_21 nuLimbs (zn κ_10) = zn κ_10 + 1 := by rw [hκ_21]; exact B.2.1.2.1
    have n : zN κ_21 (zn κ_10 + 1) = (if a1 < (2 : Int32) then (2 : Int32) else a1).toNatClampNeg := by rw [hκ_21]; exact B.2.1.2.2.1
    rw [q, n]
    exact (mx_9 hp).1
  intro W26
  intro M27
  refine h _ ?_
  · have w1 : κ_10 = mkn9 κ a1 raTop a0 := by rw [hκ_10, hκ_8, q5, hκ_1]; rfl
    have w2 : κ_21 = mkn9 κ_10 a1 raBottom a0 := by rw [hκ_21, hκ_19, q16, hκ_12]; rfl
    rw [q25, w2, w1]
    rfl

end
section
set_option maxHeartbeats 1600000
/-! the class: Solver's constructor, exactly -/
theorem mkn_t9 {κ : zS} {m : Int32} {f a : Nat} : zT (mkn9 κ m f a) (zn κ) = 8 ∧ (∀ b, b < zn κ → zT (mkn9 κ m f a) b = zT κ b) ∧ zn (mkn9 κ m f a) = zn κ + 2 := by
  refine ⟨?_, fun b hb => ?_, rfl⟩
  · show (if zn κ = zn κ then (if zn κ = zn κ + 1 then 20 else if zn κ = zn κ then 48 else κ.1 (zn κ)) - 40 else _) = 8
    rw [if_pos rfl, if_neg (by omega), if_pos rfl]
  · show (if b = zn κ then _ else if b = zn κ + 1 then 20 else if b = zn κ then 48 else κ.1 b) = κ.1 b
    rw [if_neg (by omega), if_neg (by omega), if_neg (by omega)]
theorem mkn_r9 {κ : zS} {m : Int32} {f a : Nat} : zR (mkn9 κ m f a) f a = zn κ ∧ ∀ g b, b < zn κ → ¬ (g = f ∧ b = a) → zR (mkn9 κ m f a) g b = zR κ g b := by
  refine ⟨if_pos ⟨rfl, rfl⟩, fun g b hb h => ?_⟩
  show (if g = f ∧ b = a then _ else if g = nuLimbs ∧ b = zn κ then _ else if b = zn κ then 0 else κ.2.2.2.1 g b) = κ.2.2.2.1 g b
  rw [if_neg h, if_neg (by omega), if_neg (by omega)]
theorem zOk_ra9 {κ κ2 : zS} {w : Nat} {m : Int32} (hw : w < zn κ) (e : κ2 = iRa9 κ w m) : zOk κ2 w 11 := by
  have t1 := mkn_t9 (κ := κ) (m := m) (f := raTop) (a := w)
  have t2 := mkn_t9 (κ := mkn9 κ m raTop w) (m := m) (f := raBottom) (a := w)
  have r1 := mkn_r9 (κ := κ) (m := m) (f := raTop) (a := w)
  have r2 := mkn_r9 (κ := mkn9 κ m raTop w) (m := m) (f := raBottom) (a := w)
  have q1 : zR (mkn9 (mkn9 κ m raTop w) m raBottom w) raTop w = zn κ := (r2.2 raTop w (by omega) (fun z => absurd z.1 (by decide))).trans r1.1
  have e1 : zR κ2 raTop w = zn κ := by rw [e]; exact q1
  have e2 : zR κ2 raBottom w = zn (mkn9 κ m raTop w) := by rw [e]; exact r2.1
  have e3 : ∀ b, zT κ2 b = zT (mkn9 (mkn9 κ m raTop w) m raBottom w) b := fun b => by rw [e]; rfl
  refine zOk_11 ?_ ?_
  · rw [e1, e3, t2.2.1 _ (by omega)]
    exact t1.1
  · rw [e2, e3]
    exact t2.1
/-- a fraction made for a field -/
def mkR9 (κ : zS) (m : Int32) (f a : Nat) : zS := ur (nff (iRa9 (noo κ 11) (zn κ) m) (zn κ)) f a (zn κ)
def jSo9 (κ : zS) (a p q : Nat) : zS := ur (ur (ur κ soAtlas a p) soCalc a q) soWeb a (zR (ur (ur κ soAtlas a p) soCalc a q) atWeb p)
def iSo9 (κ : zS) (a p q : Nat) : zS := (mkr9 (mkr9 (mkr9 (mkn9 (mkn9 (mkn9 (mkn9 (mkn9 (mkR9 (mkn9 (mkr9 (mkr9 (jSo9 κ a p q) soVisits a 25 0) soWorths a 25 0) 4 soWhole a) 4 soPart a) 2 soFactor a) 4 soScaled a) 4 soTerm a) 4 soSum a) 4 soLess a) soCells a 24 0) soRows a 20 0) soTaken a 20 0)
theorem So_init_c {C : zC} {n0 : Nat} {a0 : Nat} {a1 : Nat} {a2 : Nat} {κ : zS} {Q : zS → Prop} (W : zW C n0 κ) (Ta0 : zT κ a0 = 52) (Ta1 : zT κ a1 = 3) (Ta2 : zT κ a2 = 4)  (h : ∀ (κ' : zS), (κ' = iSo9 κ a0 a1 a2) → Q κ') : zRun C 3 mSo_init [.ref a0, .ref a1, .ref a2] κ (oV Q noX) := by
  refine So_init_run W Ta0 Ta1 Ta2 ?_
  replace W := W.lo (Nat.le_trans W.1.2.1 W.1.2.2) (Nat.le_refl (zn κ))
  unfold w_So_init_0
  intro κ_1 hκ_1
  intro W2
  intro κ_3 hκ_3
  intro W4
  intro κ_5 hκ_5
  intro W6
  refine ⟨?_, ?_⟩
  · exact ⟨by decide, by decide⟩  -- b1
  intro κ_7 hκ_7
  intro W8
  refine ⟨?_, ?_⟩
  · rw [hκ_7]; exact if_pos rfl  -- b2
  intro κ_9 hκ_9
  intro W10
  refine ⟨?_, ?_⟩
  · exact ⟨by decide, by decide⟩  -- b3
  intro κ_11 hκ_11
  intro W12
  refine ⟨?_, ?_⟩
  · rw [hκ_11]; exact if_pos rfl  -- b4
  intro κ_13 hκ_13
  intro W14
  intro κ_15 hκ_15
  intro W16
  intro T17
  refine Nu_init_c W16 T17  ?_ (fun κ_18 q19 => ?_)
  · decide  -- p5
  intro W20
  intro M21
  refine ⟨?_, ?_⟩
  · exact zOk_n9 q19  -- b6
  intro κ_22 hκ_22
  intro W23
  intro κ_24 hκ_24
  intro W25
  intro κ_26 hκ_26
  intro W27
  intro T28
  refine Ra_init_c3 W27 T28  ?_ (fun κ_29 q30 => ?_)
  · decide  -- p7
  intro W31
  intro M32
  refine ⟨?_, ?_⟩
  · exact zOk_ra9 (by rw [hκ_26]; exact Nat.lt_succ_self _) q30  -- b8
  intro κ_33 hκ_33
  intro W34
  intro κ_35 hκ_35
  intro W36
  intro κ_37 hκ_37
  intro W38
  intro T39
  refine Nu_init_c W38 T39  ?_ (fun κ_40 q41 => ?_)
  · decide  -- p9
  intro W42
  intro M43
  refine ⟨?_, ?_⟩
  · exact zOk_n9 q41  -- b10
  intro κ_44 hκ_44
  intro W45
  intro κ_46 hκ_46
  intro W47
  intro κ_48 hκ_48
  intro W49
  intro T50
  refine Nu_init_c W49 T50  ?_ (fun κ_51 q52 => ?_)
  · decide  -- p11
  intro W53
  intro M54
  refine ⟨?_, ?_⟩
  · exact zOk_n9 q52  -- b12
  intro κ_55 hκ_55
  intro W56
  intro κ_57 hκ_57
  intro W58
  intro κ_59 hκ_59
  intro W60
  intro T61
  refine Nu_init_c W60 T61  ?_ (fun κ_62 q63 => ?_)
  · decide  -- p13
  intro W64
  intro M65
  refine ⟨?_, ?_⟩
  · exact zOk_n9 q63  -- b14
  intro κ_66 hκ_66
  intro W67
  intro κ_68 hκ_68
  intro W69
  intro κ_70 hκ_70
  intro W71
  intro T72
  refine Nu_init_c W71 T72  ?_ (fun κ_73 q74 => ?_)
  · decide  -- p15
  intro W75
  intro M76
  refine ⟨?_, ?_⟩
  · exact zOk_n9 q74  -- b16
  intro κ_77 hκ_77
  intro W78
  intro κ_79 hκ_79
  intro W80
  intro κ_81 hκ_81
  intro W82
  intro T83
  refine Nu_init_c W82 T83  ?_ (fun κ_84 q85 => ?_)
  · decide  -- p17
  intro W86
  intro M87
  refine ⟨?_, ?_⟩
  · exact zOk_n9 q85  -- b18
  intro κ_88 hκ_88
  intro W89
  intro κ_90 hκ_90
  intro W91
  refine ⟨?_, ?_⟩
  · exact ⟨by decide, by decide⟩  -- b19
  intro κ_92 hκ_92
  intro W93
  refine ⟨?_, ?_⟩
  · rw [hκ_92]; exact if_pos rfl  -- b20
  intro κ_94 hκ_94
  intro W95
  refine ⟨?_, ?_⟩
  · exact ⟨by decide, by decide⟩  -- b21
  intro κ_96 hκ_96
  intro W97
  refine ⟨?_, ?_⟩
  · rw [hκ_96]; exact if_pos rfl  -- b22
  intro κ_98 hκ_98
  intro W99
  refine ⟨?_, ?_⟩
  · exact ⟨by decide, by decide⟩  -- b23
  intro κ_100 hκ_100
  intro W101
  refine ⟨?_, ?_⟩
  · rw [hκ_100]; exact if_pos rfl  -- b24
  intro κ_102 hκ_102
  intro W103
  refine h _ ?_
  · have s0 : κ_5 = jSo9 κ a0 a1 a2 := by rw [hκ_5, hκ_3, hκ_1]; rfl
    have r1 : κ_9 = mkr9 κ_5 soVisits a0 25 0 := by rw [hκ_9, hκ_7]; rfl
    have r2 : κ_13 = mkr9 κ_9 soWorths a0 25 0 := by rw [hκ_13, hκ_11]; rfl
    have w1 : κ_24 = mkn9 κ_13 4 soWhole a0 := by rw [hκ_24, hκ_22, q19, hκ_15]; rfl
    have w2 : κ_35 = mkR9 κ_24 4 soPart a0 := by rw [hκ_35, hκ_33, q30, hκ_26]; rfl
    have w3 : κ_46 = mkn9 κ_35 2 soFactor a0 := by rw [hκ_46, hκ_44, q41, hκ_37]; rfl
    have w4 : κ_57 = mkn9 κ_46 4 soScaled a0 := by rw [hκ_57, hκ_55, q52, hκ_48]; rfl
    have w5 : κ_68 = mkn9 κ_57 4 soTerm a0 := by rw [hκ_68, hκ_66, q63, hκ_59]; rfl
    have w6 : κ_79 = mkn9 κ_68 4 soSum a0 := by rw [hκ_79, hκ_77, q74, hκ_70]; rfl
    have w7 : κ_90 = mkn9 κ_79 4 soLess a0 := by rw [hκ_90, hκ_88, q85, hκ_81]; rfl
    have r3 : κ_94 = mkr9 κ_90 soCells a0 24 0 := by rw [hκ_94, hκ_92]; rfl
    have r4 : κ_98 = mkr9 κ_94 soRows a0 20 0 := by rw [hκ_98, hκ_96]; rfl
    have r5 : κ_102 = mkr9 κ_98 soTaken a0 20 0 := by rw [hκ_102, hκ_100]; rfl
    unfold iSo9
    rw [r5, r4, r3, w7, w6, w5, w4, w3, w2, w1, r2, r1, s0]

end
section
set_option maxHeartbeats 1600000
/-! the class: what its constructors leave, by a log of steps (0: an object at i of type t; 1: finished; 2: a row at i; 3: a row becomes a field's; 4: a reference, 5: a number, 6: a row's number stored) -/
def lgT9 : List (Nat × Nat × Nat × Nat) → Nat → Nat
  | [], _ => 0
  | e :: L, b => if (e.1 = 0 ∨ e.1 = 2) ∧ b = e.2.1 then e.2.2.1 else if e.1 = 1 ∧ b = e.2.1 then lgT9 L b - 40 else lgT9 L b
def lgN9 : List (Nat × Nat × Nat × Nat) → Nat → Nat
  | [], _ => 0
  | e :: L, b => if (e.1 = 0 ∨ e.1 = 2) ∧ b = e.2.1 then e.2.2.2 else lgN9 L b
def lgI9 : List (Nat × Nat × Nat × Nat) → Nat → Nat → Nat
  | [], _, _ => 0
  | e :: L, f, b => if e.1 = 0 ∧ b = e.2.1 then 0 else if e.1 = 5 ∧ f = e.2.1 ∧ b = e.2.2.1 then e.2.2.2 else lgI9 L f b
def lgR9 : List (Nat × Nat × Nat × Nat) → Nat → Nat → Nat
  | [], _, _ => 0
  | e :: L, f, b => if e.1 = 0 ∧ b = e.2.1 then 0 else if (e.1 = 3 ∨ e.1 = 4) ∧ f = e.2.1 ∧ b = e.2.2.1 then e.2.2.2 else lgR9 L f b
def lgA9 : List (Nat × Nat × Nat × Nat) → Nat → Nat → Nat
  | [], _, _ => 0
  | e :: L, b, j => if e.1 = 2 ∧ b = e.2.1 then 0 else if e.1 = 6 ∧ b = e.2.1 ∧ j = e.2.2.1 then e.2.2.2 else lgA9 L b j
def lgO9 : List (Nat × Nat × Nat × Nat) → Nat → Nat × Nat
  | [], _ => (0, 0)
  | e :: L, b => if e.1 = 2 ∧ b = e.2.1 then (0, 0) else if e.1 = 3 ∧ b = e.2.2.2 then (e.2.1, e.2.2.1) else lgO9 L b
def lgS9 : List (Nat × Nat × Nat × Nat) → Nat
  | [] => 0
  | e :: L => lgS9 L + (if e.1 = 0 then nN (e.2.2.1 - 40) else if e.1 = 2 then e.2.2.2 else 0)
def upk9 (k r : Nat) : Nat := if r = 0 then 0 else k + r
/-- a state is the log's, its places moved by k -/
def lgH9 (k : Nat) (κ : zS) (n : Nat) (L : List (Nat × Nat × Nat × Nat)) : Prop := zn κ = k + n ∧ (∀ b, 0 < b → zT κ (k + b) = lgT9 L b) ∧ (∀ b, 0 < b → zN κ (k + b) = lgN9 L b) ∧ (∀ f b, 0 < b → zI κ f (k + b) = Int32.ofNat (lgI9 L f b)) ∧ (∀ f b, 0 < b → zR κ f (k + b) = upk9 k (lgR9 L f b)) ∧ (∀ b j, 0 < b → zA κ (k + b) j = Int32.ofNat (lgA9 L b j)) ∧ (∀ b j, 0 < b → zQ κ (k + b) j = none) ∧ (∀ b, 0 < b → zO κ (k + b) = ((lgO9 L b).1, upk9 k (lgO9 L b).2)) ∧ (∀ b, b ≤ k → zT κ b = 0) ∧ zc κ + 1 = n ∧ zs κ = lgS9 L
theorem lgT_e9 {e : Nat × Nat × Nat × Nat} {L : List (Nat × Nat × Nat × Nat)} {b : Nat} (h0 : ¬ ((e.1 = 0 ∨ e.1 = 2) ∧ b = e.2.1)) (h1 : ¬ (e.1 = 1 ∧ b = e.2.1)) : lgT9 (e :: L) b = lgT9 L b := (if_neg h0).trans (if_neg h1)
theorem lgN_e9 {e : Nat × Nat × Nat × Nat} {L : List (Nat × Nat × Nat × Nat)} {b : Nat} (h0 : ¬ ((e.1 = 0 ∨ e.1 = 2) ∧ b = e.2.1)) : lgN9 (e :: L) b = lgN9 L b := if_neg h0
theorem lgI_e9 {e : Nat × Nat × Nat × Nat} {L : List (Nat × Nat × Nat × Nat)} {f b : Nat} (h0 : ¬ (e.1 = 0 ∧ b = e.2.1)) (h1 : ¬ (e.1 = 5 ∧ f = e.2.1 ∧ b = e.2.2.1)) : lgI9 (e :: L) f b = lgI9 L f b := (if_neg h0).trans (if_neg h1)
theorem lgR_e9 {e : Nat × Nat × Nat × Nat} {L : List (Nat × Nat × Nat × Nat)} {f b : Nat} (h0 : ¬ (e.1 = 0 ∧ b = e.2.1)) (h1 : ¬ ((e.1 = 3 ∨ e.1 = 4) ∧ f = e.2.1 ∧ b = e.2.2.1)) : lgR9 (e :: L) f b = lgR9 L f b := (if_neg h0).trans (if_neg h1)
theorem lgA_e9 {e : Nat × Nat × Nat × Nat} {L : List (Nat × Nat × Nat × Nat)} {b j : Nat} (h0 : ¬ (e.1 = 2 ∧ b = e.2.1)) (h1 : ¬ (e.1 = 6 ∧ b = e.2.1 ∧ j = e.2.2.1)) : lgA9 (e :: L) b j = lgA9 L b j := (if_neg h0).trans (if_neg h1)
theorem lgO_e9 {e : Nat × Nat × Nat × Nat} {L : List (Nat × Nat × Nat × Nat)} {b : Nat} (h0 : ¬ (e.1 = 2 ∧ b = e.2.1)) (h1 : ¬ (e.1 = 3 ∧ b = e.2.2.2)) : lgO9 (e :: L) b = lgO9 L b := (if_neg h0).trans (if_neg h1)
theorem lg_no9 {k n ci : Nat} {κ : zS} {L : List (Nat × Nat × Nat × Nat)} (H : lgH9 k κ n L) : lgH9 k (noo κ ci) (n + 1) ((0, n, 40 + ci, 0) :: L) := by
  obtain ⟨h1, h2, h3, h4, h5, h6, h7, h8, h9, h10, h11⟩ := H
  have nz : ∀ b, b ≠ n → k + b ≠ zn κ := fun b hb => by omega
  have c1 : ¬ ((0 : Nat) = 1) := by decide
  refine ⟨?_, fun b hb => ?_, fun b hb => ?_, fun f b hb => ?_, fun f b hb => ?_, fun b j hb => ?_, h7, fun b hb => ?_, fun b hb => ?_, ?_, ?_⟩
  · show zn κ + 1 = k + (n + 1)
    omega
  · show (if k + b = zn κ then 40 + ci else zT κ (k + b)) = _
    by_cases e : b = n
    · rw [if_pos (by omega)]
      exact (if_pos ⟨Or.inl rfl, e⟩).symm
    · rw [if_neg (nz b e), h2 b hb]
      exact (lgT_e9 (fun z => e z.2) (fun z => e z.2)).symm
  · show (if k + b = zn κ then 0 else zN κ (k + b)) = _
    by_cases e : b = n
    · rw [if_pos (by omega)]
      exact (if_pos ⟨Or.inl rfl, e⟩).symm
    · rw [if_neg (nz b e), h3 b hb]
      exact (lgN_e9 (fun z => e z.2)).symm
  · show (if k + b = zn κ then 0 else zI κ f (k + b)) = _
    by_cases e : b = n
    · have q : lgI9 ((0, n, 40 + ci, 0) :: L) f b = 0 := if_pos ⟨rfl, e⟩
      rw [if_pos (by omega), q]
      rfl
    · rw [if_neg (nz b e), h4 f b hb]
      exact congrArg Int32.ofNat (lgI_e9 (fun z => e z.2) (fun z => by have y := z.1; dsimp only at y; omega)).symm
  · show (if k + b = zn κ then 0 else zR κ f (k + b)) = _
    by_cases e : b = n
    · have q : lgR9 ((0, n, 40 + ci, 0) :: L) f b = 0 := if_pos ⟨rfl, e⟩
      rw [if_pos (by omega), q]
      rfl
    · rw [if_neg (nz b e), h5 f b hb]
      exact congrArg (upk9 k) (lgR_e9 (fun z => e z.2) (fun z => by have y := z.1; dsimp only at y; omega)).symm
  · exact (h6 b j hb).trans (congrArg Int32.ofNat (lgA_e9 (fun z => by have y := z.1; dsimp only at y; omega) (fun z => by have y := z.1; dsimp only at y; omega)).symm)
  · rw [lgO_e9 (L := L) (b := b) (fun z => by have y := z.1; dsimp only at y; omega) (fun z => by have y := z.1; dsimp only at y; omega)]
    exact h8 b hb
  · show (if b = zn κ then 40 + ci else zT κ b) = 0
    rw [if_neg (by omega)]
    exact h9 b hb
  · show zc κ + 1 + 1 = n + 1
    omega
  · show zs κ + nN ci = lgS9 L + nN (40 + ci - 40)
    rw [h11, Nat.add_sub_cancel_left]
theorem lg_na9 {k n t m : Nat} {κ : zS} {L : List (Nat × Nat × Nat × Nat)} (H : lgH9 k κ n L) : lgH9 k (na κ t m) (n + 1) ((2, n, t, m) :: L) := by
  obtain ⟨h1, h2, h3, h4, h5, h6, h7, h8, h9, h10, h11⟩ := H
  have nz : ∀ b, b ≠ n → k + b ≠ zn κ := fun b hb => by omega
  refine ⟨?_, fun b hb => ?_, fun b hb => ?_, fun f b hb => ?_, fun f b hb => ?_, fun b j hb => ?_, fun b j hb => ?_, fun b hb => ?_, fun b hb => ?_, ?_, ?_⟩
  · show zn κ + 1 = k + (n + 1)
    omega
  · show (if k + b = zn κ then t else zT κ (k + b)) = _
    by_cases e : b = n
    · rw [if_pos (by omega)]
      exact (if_pos ⟨Or.inr rfl, e⟩).symm
    · rw [if_neg (nz b e), h2 b hb]
      exact (lgT_e9 (fun z => e z.2) (fun z => e z.2)).symm
  · show (if k + b = zn κ then m else zN κ (k + b)) = _
    by_cases e : b = n
    · rw [if_pos (by omega)]
      exact (if_pos ⟨Or.inr rfl, e⟩).symm
    · rw [if_neg (nz b e), h3 b hb]
      exact (lgN_e9 (fun z => e z.2)).symm
  · exact (h4 f b hb).trans (congrArg Int32.ofNat (lgI_e9 (fun z => by have y := z.1; dsimp only at y; omega) (fun z => by have y := z.1; dsimp only at y; omega)).symm)
  · exact (h5 f b hb).trans (congrArg (upk9 k) (lgR_e9 (fun z => by have y := z.1; dsimp only at y; omega) (fun z => by have y := z.1; dsimp only at y; omega)).symm)
  · show (if k + b = zn κ then fun _ => 0 else zA κ (k + b)) j = _
    by_cases e : b = n
    · have q : lgA9 ((2, n, t, m) :: L) b j = 0 := if_pos ⟨rfl, e⟩
      rw [if_pos (by omega), q]
      rfl
    · rw [if_neg (nz b e), h6 b j hb]
      exact congrArg Int32.ofNat (lgA_e9 (fun z => e z.2) (fun z => by have y := z.1; dsimp only at y; omega)).symm
  · show (if k + b = zn κ then fun _ => none else zQ κ (k + b)) j = none
    by_cases e : b = n
    · rw [if_pos (by omega)]
    · rw [if_neg (nz b e)]
      exact h7 b j hb
  · show (if k + b = zn κ then (0, 0) else zO κ (k + b)) = _
    by_cases e : b = n
    · have q : lgO9 ((2, n, t, m) :: L) b = (0, 0) := if_pos ⟨rfl, e⟩
      rw [if_pos (by omega), q]
      rfl
    · rw [if_neg (nz b e), h8 b hb, lgO_e9 (L := L) (b := b) (e := (2, n, t, m)) (fun z => e z.2) (fun z => by have y := z.1; dsimp only at y; omega)]
  · show (if b = zn κ then t else zT κ b) = 0
    rw [if_neg (by omega)]
    exact h9 b hb
  · show zc κ + 1 + 1 = n + 1
    omega
  · show zs κ + m = lgS9 L + m
    rw [h11]
theorem lg_nf9 {k n w : Nat} {κ : zS} {L : List (Nat × Nat × Nat × Nat)} (hw : 0 < w) (H : lgH9 k κ n L) : lgH9 k (nff κ (k + w)) n ((1, w, 0, 0) :: L) := by
  obtain ⟨h1, h2, h3, h4, h5, h6, h7, h8, h9, h10, h11⟩ := H
  refine ⟨h1, fun b hb => ?_, fun b hb => ?_, fun f b hb => ?_, fun f b hb => ?_, fun b j hb => ?_, h7, fun b hb => ?_, fun b hb => ?_, h10, ?_⟩
  · show (if k + b = k + w then zT κ (k + w) - 40 else zT κ (k + b)) = _
    by_cases e : b = w
    · rw [if_pos (by omega), h2 w hw]
      refine Eq.trans ?_ (Eq.trans (if_neg (fun z => by have y := z.1; dsimp only at y; omega)) (if_pos ⟨rfl, e⟩)).symm
      rw [e]
    · rw [if_neg (by omega), h2 b hb]
      exact (lgT_e9 (fun z => e z.2) (fun z => e z.2)).symm
  · exact (h3 b hb).trans (lgN_e9 (fun z => by have y := z.1; dsimp only at y; omega)).symm
  · exact (h4 f b hb).trans (congrArg Int32.ofNat (lgI_e9 (fun z => by have y := z.1; dsimp only at y; omega) (fun z => by have y := z.1; dsimp only at y; omega)).symm)
  · exact (h5 f b hb).trans (congrArg (upk9 k) (lgR_e9 (fun z => by have y := z.1; dsimp only at y; omega) (fun z => by have y := z.1; dsimp only at y; omega)).symm)
  · exact (h6 b j hb).trans (congrArg Int32.ofNat (lgA_e9 (fun z => by have y := z.1; dsimp only at y; omega) (fun z => by have y := z.1; dsimp only at y; omega)).symm)
  · rw [lgO_e9 (L := L) (b := b) (fun z => by have y := z.1; dsimp only at y; omega) (fun z => by have y := z.1; dsimp only at y; omega)]
    exact h8 b hb
  · show (if b = k + w then zT κ (k + w) - 40 else zT κ b) = 0
    rw [if_neg (by omega)]
    exact h9 b hb
  · exact h11
theorem lg_ur9 {k n f a v : Nat} {κ : zS} {L : List (Nat × Nat × Nat × Nat)} (hv : 0 < v) (H : lgH9 k κ n L) : lgH9 k (ur κ f (k + a) (k + v)) n ((4, f, a, v) :: L) := by
  obtain ⟨h1, h2, h3, h4, h5, h6, h7, h8, h9, h10, h11⟩ := H
  refine ⟨h1, fun b hb => ?_, fun b hb => ?_, fun g b hb => ?_, fun g b hb => ?_, fun b j hb => ?_, h7, fun b hb => ?_, h9, h10, h11⟩
  · exact (h2 b hb).trans (lgT_e9 (fun z => by have y := z.1; dsimp only at y; omega) (fun z => by have y := z.1; dsimp only at y; omega)).symm
  · exact (h3 b hb).trans (lgN_e9 (fun z => by have y := z.1; dsimp only at y; omega)).symm
  · exact (h4 g b hb).trans (congrArg Int32.ofNat (lgI_e9 (fun z => by have y := z.1; dsimp only at y; omega) (fun z => by have y := z.1; dsimp only at y; omega)).symm)
  · show (if g = f ∧ k + b = k + a then k + v else zR κ g (k + b)) = _
    by_cases e : g = f ∧ b = a
    · have q : lgR9 ((4, f, a, v) :: L) g b = v := (if_neg (fun z => by have y := z.1; dsimp only at y; omega)).trans (if_pos ⟨Or.inr rfl, e⟩)
      rw [if_pos ⟨e.1, by omega⟩, q]
      unfold upk9
      rw [if_neg (by omega)]
    · rw [if_neg (fun z => e ⟨z.1, by omega⟩), h5 g b hb]
      exact congrArg (upk9 k) (lgR_e9 (fun z => by have y := z.1; dsimp only at y; omega) (fun z => e z.2)).symm
  · exact (h6 b j hb).trans (congrArg Int32.ofNat (lgA_e9 (fun z => by have y := z.1; dsimp only at y; omega) (fun z => by have y := z.1; dsimp only at y; omega)).symm)
  · rw [lgO_e9 (L := L) (b := b) (fun z => by have y := z.1; dsimp only at y; omega) (fun z => by have y := z.1; dsimp only at y; omega)]
    exact h8 b hb
theorem lg_uo9 {k n f a r : Nat} {κ : zS} {L : List (Nat × Nat × Nat × Nat)} (ha : 0 < a) (hr : 0 < r) (H : lgH9 k κ n L) : lgH9 k (uo κ f (k + a) (k + r)) n ((3, f, a, r) :: L) := by
  obtain ⟨h1, h2, h3, h4, h5, h6, h7, h8, h9, h10, h11⟩ := H
  refine ⟨h1, fun b hb => ?_, fun b hb => ?_, fun g b hb => ?_, fun g b hb => ?_, fun b j hb => ?_, h7, fun b hb => ?_, h9, h10, h11⟩
  · exact (h2 b hb).trans (lgT_e9 (fun z => by have y := z.1; dsimp only at y; omega) (fun z => by have y := z.1; dsimp only at y; omega)).symm
  · exact (h3 b hb).trans (lgN_e9 (fun z => by have y := z.1; dsimp only at y; omega)).symm
  · exact (h4 g b hb).trans (congrArg Int32.ofNat (lgI_e9 (fun z => by have y := z.1; dsimp only at y; omega) (fun z => by have y := z.1; dsimp only at y; omega)).symm)
  · show (if g = f ∧ k + b = k + a then k + r else zR κ g (k + b)) = _
    by_cases e : g = f ∧ b = a
    · have q : lgR9 ((3, f, a, r) :: L) g b = r := (if_neg (fun z => by have y := z.1; dsimp only at y; omega)).trans (if_pos ⟨Or.inl rfl, e⟩)
      rw [if_pos ⟨e.1, by omega⟩, q]
      unfold upk9
      rw [if_neg (by omega)]
    · rw [if_neg (fun z => e ⟨z.1, by omega⟩), h5 g b hb]
      exact congrArg (upk9 k) (lgR_e9 (fun z => by have y := z.1; dsimp only at y; omega) (fun z => e z.2)).symm
  · exact (h6 b j hb).trans (congrArg Int32.ofNat (lgA_e9 (fun z => by have y := z.1; dsimp only at y; omega) (fun z => by have y := z.1; dsimp only at y; omega)).symm)
  · show (if k + b = k + r then (f, k + a) else zO κ (k + b)) = _
    by_cases e : b = r
    · have q : lgO9 ((3, f, a, r) :: L) b = (f, a) := (if_neg (fun z => by have y := z.1; dsimp only at y; omega)).trans (if_pos ⟨rfl, e⟩)
      rw [if_pos (by omega), q]
      unfold upk9
      rw [if_neg (show ¬ a = 0 by omega)]
    · rw [if_neg (by omega), h8 b hb, lgO_e9 (L := L) (b := b) (e := (3, f, a, r)) (fun z => by have y := z.1; dsimp only at y; omega) (fun z => e z.2)]
theorem lg_ui9 {k n f a x : Nat} {κ : zS} {L : List (Nat × Nat × Nat × Nat)} (H : lgH9 k κ n L) : lgH9 k (ui κ f (k + a) (Int32.ofNat x)) n ((5, f, a, x) :: L) := by
  obtain ⟨h1, h2, h3, h4, h5, h6, h7, h8, h9, h10, h11⟩ := H
  refine ⟨h1, fun b hb => ?_, fun b hb => ?_, fun g b hb => ?_, fun g b hb => ?_, fun b j hb => ?_, h7, fun b hb => ?_, h9, h10, h11⟩
  · exact (h2 b hb).trans (lgT_e9 (fun z => by have y := z.1; dsimp only at y; omega) (fun z => by have y := z.1; dsimp only at y; omega)).symm
  · exact (h3 b hb).trans (lgN_e9 (fun z => by have y := z.1; dsimp only at y; omega)).symm
  · show (if g = f ∧ k + b = k + a then Int32.ofNat x else zI κ g (k + b)) = _
    by_cases e : g = f ∧ b = a
    · have q : lgI9 ((5, f, a, x) :: L) g b = x := (if_neg (fun z => by have y := z.1; dsimp only at y; omega)).trans (if_pos ⟨rfl, e⟩)
      rw [if_pos ⟨e.1, by omega⟩, q]
    · rw [if_neg (fun z => e ⟨z.1, by omega⟩), h4 g b hb]
      exact congrArg Int32.ofNat (lgI_e9 (fun z => by have y := z.1; dsimp only at y; omega) (fun z => e z.2)).symm
  · exact (h5 g b hb).trans (congrArg (upk9 k) (lgR_e9 (fun z => by have y := z.1; dsimp only at y; omega) (fun z => by have y := z.1; dsimp only at y; omega)).symm)
  · exact (h6 b j hb).trans (congrArg Int32.ofNat (lgA_e9 (fun z => by have y := z.1; dsimp only at y; omega) (fun z => by have y := z.1; dsimp only at y; omega)).symm)
  · rw [lgO_e9 (L := L) (b := b) (fun z => by have y := z.1; dsimp only at y; omega) (fun z => by have y := z.1; dsimp only at y; omega)]
    exact h8 b hb
theorem lg_ua9 {k n r j x : Nat} {κ : zS} {L : List (Nat × Nat × Nat × Nat)} (H : lgH9 k κ n L) : lgH9 k (ua κ (k + r) j (Int32.ofNat x)) n ((6, r, j, x) :: L) := by
  obtain ⟨h1, h2, h3, h4, h5, h6, h7, h8, h9, h10, h11⟩ := H
  refine ⟨h1, fun b hb => ?_, fun b hb => ?_, fun g b hb => ?_, fun g b hb => ?_, fun b i hb => ?_, h7, fun b hb => ?_, h9, h10, h11⟩
  · exact (h2 b hb).trans (lgT_e9 (fun z => by have y := z.1; dsimp only at y; omega) (fun z => by have y := z.1; dsimp only at y; omega)).symm
  · exact (h3 b hb).trans (lgN_e9 (fun z => by have y := z.1; dsimp only at y; omega)).symm
  · exact (h4 g b hb).trans (congrArg Int32.ofNat (lgI_e9 (fun z => by have y := z.1; dsimp only at y; omega) (fun z => by have y := z.1; dsimp only at y; omega)).symm)
  · exact (h5 g b hb).trans (congrArg (upk9 k) (lgR_e9 (fun z => by have y := z.1; dsimp only at y; omega) (fun z => by have y := z.1; dsimp only at y; omega)).symm)
  · show (if k + b = k + r then upd (zA κ (k + r)) j (Int32.ofNat x) else zA κ (k + b)) i = _
    by_cases e : b = r
    · rw [if_pos (by omega)]
      show (if i = j then Int32.ofNat x else zA κ (k + r) i) = _
      by_cases y : i = j
      · have q : lgA9 ((6, r, j, x) :: L) b i = x := (if_neg (fun z => by have y := z.1; dsimp only at y; omega)).trans (if_pos ⟨rfl, e, y⟩)
        rw [if_pos y, q]
      · rw [if_neg y, ← e, h6 b i hb]
        exact congrArg Int32.ofNat (lgA_e9 (fun z => by have y := z.1; dsimp only at y; omega) (fun z => y z.2.2)).symm
    · rw [if_neg (by omega), h6 b i hb]
      exact congrArg Int32.ofNat (lgA_e9 (fun z => by have y := z.1; dsimp only at y; omega) (fun z => e z.2.1)).symm
  · rw [lgO_e9 (L := L) (b := b) (fun z => by have y := z.1; dsimp only at y; omega) (fun z => by have y := z.1; dsimp only at y; omega)]
    exact h8 b hb
/-- a row, a number, a fraction, a hoard, a web made for a field -/
theorem lg_mr9 {k n f a t m : Nat} {κ : zS} {L : List (Nat × Nat × Nat × Nat)} (ha : 0 < a) (hn : 0 < n) (H : lgH9 k κ n L) : lgH9 k (mkr9 κ f (k + a) t m) (n + 1) ((3, f, a, n) :: (2, n, t, m) :: L) := by
  have q := lg_uo9 (f := f) ha hn (lg_na9 (t := t) (m := m) H)
  rw [← H.1] at q
  exact q
theorem lg_mn9 {k n f a l : Nat} {m : Int32} {κ : zS} {L : List (Nat × Nat × Nat × Nat)} (hl : (if m < (2 : Int32) then (2 : Int32) else m).toNatClampNeg = l) (hn : 0 < n) (H : lgH9 k κ n L) : lgH9 k (mkn9 κ m f (k + a)) (n + 2) ((4, f, a, n) :: (1, n, 0, 0) :: (3, nuLimbs, n, n + 1) :: (2, n + 1, 20, l) :: (0, n, 48, 0) :: L) := by
  have h1 := lg_no9 (ci := 8) H
  have h2 := lg_mr9 (f := nuLimbs) (t := 20) (m := l) hn (Nat.succ_pos n) h1
  have h3 := lg_ur9 (f := f) (a := a) hn (lg_nf9 hn h2)
  rw [← H.1] at h3
  unfold mkn9
  rw [hl]
  exact h3
theorem lg_pu9 {k n x r : Nat} {κ : zS} {L : List (Nat × Nat × Nat × Nat)} (hr : lgR9 L nuLimbs x = r) (h0 : 0 < r) (hx : 0 < x) (H : lgH9 k κ n L) : lgH9 k (pu9 κ (k + x)) n ((5, nuLength, x, 1) :: (6, r, 1, 0) :: (6, r, 0, 1) :: L) := by
  have e : zR κ nuLimbs (k + x) = k + r := by
    rw [H.2.2.2.2.1 nuLimbs x hx, hr]
    exact if_neg (by omega)
  have q := lg_ui9 (f := nuLength) (a := x) (x := 1) (lg_ua9 (r := r) (j := 1) (x := 0) (lg_ua9 (r := r) (j := 0) (x := 1) H))
  unfold pu9
  rw [e]
  exact q
theorem lg_mR9 {k n f a l : Nat} {m : Int32} {κ : zS} {L : List (Nat × Nat × Nat × Nat)} (hl : (if m < (2 : Int32) then (2 : Int32) else m).toNatClampNeg = l) (hn : 0 < n) (H : lgH9 k κ n L) : lgH9 k (mkR9 κ m f (k + a)) (n + 5) ((4, f, a, n) :: (1, n, 0, 0) :: (5, nuLength, n + 3, 1) :: (6, n + 4, 1, 0) :: (6, n + 4, 0, 1) :: (4, raBottom, n, n + 3) :: (1, n + 3, 0, 0) :: (3, nuLimbs, n + 3, n + 4) :: (2, n + 4, 20, l) :: (0, n + 3, 48, 0) :: (4, raTop, n, n + 1) :: (1, n + 1, 0, 0) :: (3, nuLimbs, n + 1, n + 2) :: (2, n + 2, 20, l) :: (0, n + 1, 48, 0) :: (0, n, 51, 0) :: L) := by
  have h1 := lg_no9 (ci := 11) H
  have h2 := lg_mn9 (f := raTop) (a := n) hl (Nat.succ_pos n) h1
  have h3 := lg_mn9 (f := raBottom) (a := n) hl (Nat.succ_pos (n + 2)) h2
  have e : zR (mkn9 (mkn9 (noo κ 11) m raTop (k + n)) m raBottom (k + n)) raBottom (k + n) = k + (n + 3) := by
    rw [h3.2.2.2.2.1 raBottom n hn]
    have q : lgR9 ((4, raBottom, n, n + 1 + 2) :: (1, n + 1 + 2, 0, 0) :: (3, nuLimbs, n + 1 + 2, n + 1 + 2 + 1) :: (2, n + 1 + 2 + 1, 20, l) :: (0, n + 1 + 2, 48, 0) :: (4, raTop, n, n + 1) :: (1, n + 1, 0, 0) :: (3, nuLimbs, n + 1, n + 1 + 1) :: (2, n + 1 + 1, 20, l) :: (0, n + 1, 48, 0) :: (0, n, 51, 0) :: L) raBottom n = n + 3 := (if_neg (fun z => by have y := z.1; dsimp only at y; omega)).trans (if_pos ⟨Or.inr rfl, rfl, rfl⟩)
    rw [q]
    exact if_neg (by omega)
  have h4 := lg_pu9 (x := n + 3) (r := n + 4) (by
    refine (lgR_e9 (fun z => by have y := z.1; dsimp only at y; omega) (fun z => by have y := z.2.1; dsimp only at y; exact absurd y (by decide))).trans ?_
    refine (lgR_e9 (fun z => by have y := z.1; dsimp only at y; omega) (fun z => by have y := z.1; dsimp only at y; omega)).trans ?_
    exact (if_neg (fun z => by have y := z.1; dsimp only at y; omega)).trans (if_pos ⟨Or.inl rfl, rfl, rfl⟩)) (by omega) (by omega) h3
  have h5 := lg_ur9 (f := f) (a := a) hn (lg_nf9 hn h4)
  unfold mkR9 iRa9
  rw [H.1, e]
  exact h5
theorem lg_ok9 {k n w ci : Nat} {κ : zS} {L : List (Nat × Nat × Nat × Nat)} (H : lgH9 k κ n L) (hw : 0 < w) (h : ∀ p ∈ zRT, p.1 / 100 = ci → 0 < lgR9 L p.1 w ∧ lgT9 L (lgR9 L p.1 w) = p.2 ∧ (20 ≤ p.2 → lgO9 L (lgR9 L p.1 w) = (p.1, w))) (hz : ∀ f ∈ zZT, f / 100 = ci → lgI9 L f w = 0) : zOk κ (k + w) ci := by
  refine ⟨fun f t h1 h2 => ?_, fun f h1 h2 => ?_⟩
  · obtain ⟨g1, g2, g3⟩ := h (f, t) (d_lk h1) h2
    have e : zR κ f (k + w) = k + lgR9 L f w := by
      rw [H.2.2.2.2.1 f w hw]
      exact if_neg (fun z => absurd g1 (by show ¬ 0 < lgR9 L f w; omega))
    rw [e, H.2.1 _ g1]
    refine ⟨g2, fun h20 => ?_⟩
    rw [H.2.2.2.2.2.2.2.1 _ g1, g3 h20]
    show (f, upk9 k w) = (f, k + w)
    unfold upk9
    rw [if_neg (by omega)]
  · rw [H.2.2.2.1 f w hw, hz f h1 h2]
    exact nb_0
theorem lg_t9 {k n w f r t : Nat} {κ : zS} {L : List (Nat × Nat × Nat × Nat)} (H : lgH9 k κ n L) (hw : 0 < w) (h : lgR9 L f w = r ∧ 0 < r ∧ lgT9 L r = t) : zR κ f (k + w) = k + r ∧ zT κ (zR κ f (k + w)) = t := by
  have e : zR κ f (k + w) = k + r := by
    rw [H.2.2.2.2.1 f w hw, h.1]
    exact if_neg (by omega)
  rw [e, H.2.1 _ h.2.1]
  exact ⟨rfl, h.2.2⟩

end
