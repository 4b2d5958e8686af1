set_option maxHeartbeats 1600000
/-! program: class and reference answer alike and leave alike -/
theorem by_r9 {x : Int32} (h : fits .byte (.int x) = true) : -128 ≤ x.toInt ∧ x.toInt ≤ 127 := by
  have h2 : (decide (-128 ≤ x) && decide (x ≤ 127)) = true := h
  rw [Bool.and_eq_true] at h2
  have a := of_decide_eq_true h2.1
  have b := of_decide_eq_true h2.2
  have t1 : (-128 : Int32).toInt = -128 := rfl
  have t2 : (127 : Int32).toInt = 127 := rfl
  rw [lei, t1] at a
  rw [lei, t2] at b
  exact ⟨a, b⟩
theorem pg_e9 {C : zC} {n0 a : Nat} {L : Int} {ρ : Nat → Nat} {κ κ' : zS} {σ σ2 : rS} {v v2 : Int32} (W : zW C n0 κ) (T : zT κ a = 15) (I : chI9 ρ κ a L) (J : 0 ≤ σ.1 2 ∧ σ.1 2 ≤ 65536) (ht : oR9 σ = oC9 κ a) (hC : pgC9 κ a v κ') (hQ : pQ9 σ v2 σ2) (ho : oR9 σ2 = ((fun _ => 0, 0, σ2.1 53) : Ob9)) : v2 = v ∧ oR9 σ2 = oC9 κ' a := by
  obtain ⟨τ, t2, t1, t53, k0, k1⟩ := hQ
  obtain ⟨e0, ie, h⟩ := hC
  obtain ⟨m1, m2, m3⟩ := mk_e9 ht
  have tt := ty_chTape W T
  have tb := ty_taBytes W tt
  have B := I.1.1.1.1
  have t65 : (65536 : Int32).toInt = 65536 := rfl
  have j0 := J.1
  have j1 := J.2
  rw [lei, t0i] at j0
  rw [lei, t65] at j1
  have okU : okU5 (up5 κ (zR κ chTape a)) := ⟨B.1, B.2.1, W.n tb⟩
  have hr : ∀ j, -128 ≤ ((up5 κ (zR κ chTape a)).1 j).toInt ∧ ((up5 κ (zR κ chTape a)).1 j).toInt ≤ 127 := fun j => by_r9 (W.2.2.2.2.2.2.2.1 _ j tb)
  have okS : okS5 τ := by
    unfold okS5
    rw [t2]
    exact ⟨j0, j1⟩
  have S := rp_5 (U := up5 κ (zR κ chTape a)) (e0 := e0) (σ := τ) (n := (zI κ taLength (zR κ chTape a)).toInt.toNat) okU hr okS (fun j hj => by
    show zA κ (zR κ taBytes (zR κ chTape a)) j &&& 255 = τ.2.2.1 1 j &&& 255
    rw [t1, m3 j (by rw [m1]; exact hj)]) rfl (by
    unfold nS5
    rw [t2, m1]) ie
  rcases S with S | ⟨e1, u, S, T9, X9, Bk, N, Z, s, aa, V9, W9, LR, G, s150, vs, ws⟩ | ⟨f, p, f0, s1, s2, S⟩
  · rcases h with ⟨e1, r, _⟩ | ⟨f, p, r, nz, _⟩
    · rw [S] at r; cases r
    · rw [S] at r
      exact absurd (Prod.mk.inj (Sum.inr.inj r)).1.symm nz
  · rcases h with ⟨e2, r, hv, oc⟩ | ⟨f, p, r, nz, _⟩
    · rw [S] at r
      have ee : e1 = e2 := (Prod.mk.inj (Sum.inl.inj r)).1
      have z11 := LR.2.2.2.1.1
      have c1 : e1.1 coStatements = Int32.ofNat s := (congrArg (fun V : V5 => vst5 V) LR.2.1.1).trans vs
      have c2 : (g5_tellProgram τ).1 19 = Int32.ofNat s := (congrArg (fun W : W5 => wst5 W) LR.2.1.2).trans ws
      refine ⟨?_, ?_⟩
      · rw [k0 z11, c2, hv, ← ee, c1]
      · rw [ho, oc, t53, z11]
    · rw [S] at r; cases r
  · rcases h with ⟨e2, r, hv, oc⟩ | ⟨f', p', r, nz, hv, oc⟩
    · rw [S] at r; cases r
    · rw [S] at r
      obtain ⟨ef, ep⟩ := Prod.mk.inj (Sum.inr.inj r)
      refine ⟨?_, ?_⟩
      · rw [k1 (by rw [s1]; exact f0), s2, hv, ep]
      · rw [ho, oc, t53, s1, ef]
/-- fault, by what it answers -/
theorem Ch_fault_c9 {C : zC} {n0 : Nat} {a0 : Nat} {κ : zS} {Q : Int32 → zS → Prop} (W : zW C n0 κ) (Ta0 : zT κ a0 = 15) (h : Q (zI κ chFaultCode a0) κ) : zRun C 0 mCh_fault [.ref a0] κ (oI Q noX) := by
  refine Ch_fault_run W Ta0 ?_
  unfold w_Ch_fault_0
  exact h
