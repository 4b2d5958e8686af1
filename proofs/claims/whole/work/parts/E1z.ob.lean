section
set_option maxHeartbeats 1600000
/-! what is seen of the class's tape and fault -/
def oC9 (κ : zS) (a : Nat) : Ob9 := mkO9 (zA κ (zR κ taBytes (zR κ chTape a))) (zI κ taLength (zR κ chTape a)) (zI κ chFaultCode a)
theorem oC_u9 {C : zC} {n0 a : Nat} {F : Nat → Nat → Prop} {κ τ : zS} (W : zW C n0 κ) (T : zT κ a = 15) (Z : zF F κ τ) (n1 : ¬ F chTape a) (n2 : ¬ F chFaultCode a) (n3 : ¬ F taLength (zR κ chTape a)) (n4 : ¬ F taBytes (zR κ chTape a)) : oC9 τ a = oC9 κ a := by
  have A := (Z.row W (show zr taBytes = some 21 by decide +kernel) (by decide) (ty_chTape W T) n4).1
  unfold oC9
  rw [Z.r n1, A, Z.i n3, Z.i n2]
theorem oC_v9 {C : zC} {n0 a : Nat} {F : Nat → Nat → Prop} {κ τ : zS} (W : zW C n0 κ) (T : zT κ a = 15) (Z : zF F κ τ) (h1 : un9 F a 15) (h2 : un9 F (zR κ chTape a) 13) : oC9 τ a = oC9 κ a := oC_u9 W T Z (h1 _ (by decide)) (h1 _ (by decide)) (h2 _ (by decide)) (h2 _ (by decide))
/-- the class's code stays -/
def tC21 (κ : zS) (a : Nat) : Int32 × (Nat → Int32) := (zI κ chTolds a, zA κ (zR κ chTold a))
theorem tC_z21 {C : zC} {n0 a : Nat} {F : Nat → Nat → Prop} {κ τ : zS} (W : zW C n0 κ) (T : zT κ a = 15) (Z : zF F κ τ) (n4 : ¬ F chTolds a) (n5 : ¬ F chTold a) : tC21 τ a = tC21 κ a := by
  unfold tC21
  rw [Z.i n4, (Z.row W (show zr chTold = some 20 by decide +kernel) (by decide) (T.trans (by decide)) n5).1]
def kD7 (κ κ' : zS) (a : Nat) : Prop := zI κ' chReady a = zI κ chReady a ∧ cu7 κ' (zR κ' chCode a) = cu7 κ (zR κ chCode a)
def pq23 (κ : zS) (a : Nat) : Int32 × (Nat → Int64) × (Nat → Int32) := (zI κ chPlayMade a, zJ κ (zR κ chRecord a), zA κ (zR κ chLastShared a))
theorem pq_z23 {C : zC} {n0 a : Nat} {F : Nat → Nat → Prop} {κ τ : zS} (W : zW C n0 κ) (T : zT κ a = 15) (Z : zF F κ τ) (n1 : ¬ F chPlayMade a) (n2 : ¬ F chRecord a) (n3 : ¬ F chLastShared a) : pq23 τ a = pq23 κ a := by
  unfold pq23
  rw [Z.i n1, (Z.row W (show zr chRecord = some 22 by decide +kernel) (by decide) (T.trans (by decide)) n2).2.1, (Z.row W (show zr chLastShared = some 20 by decide +kernel) (by decide) (T.trans (by decide)) n3).1]
def kC6 (κ κ' : zS) (a : Nat) : Prop := zI κ' chReady a = zI κ chReady a ∧ cu7 κ' (zR κ' chCode a) = cu7 κ (zR κ chCode a) ∧ tC21 κ' a = tC21 κ a
def kC7 (κ κ' : zS) (a : Nat) : Prop := zI κ' chReady a = zI κ chReady a ∧ cu7 κ' (zR κ' chCode a) = cu7 κ (zR κ chCode a) ∧ tC21 κ' a = tC21 κ a ∧ pq23 κ' a = pq23 κ a
theorem kC_d7 {κ κ' : zS} {a : Nat} (h : kC7 κ κ' a) : kD7 κ κ' a := ⟨h.1, h.2.1⟩
def pC7 (κ κ' : zS) (a : Nat) : Prop := oC9 κ' a = oC9 κ a ∧ kC7 κ κ' a
theorem kD_z7 {C : zC} {n0 a : Nat} {F : Nat → Nat → Prop} {κ τ : zS} (W : zW C n0 κ) (T : zT κ a = 15) (Z : zF F κ τ) (n1 : ¬ F chReady a) (n2 : ¬ F chCode a) (h3 : un9 F (zR κ chCode a) 5) : kD7 κ τ a := ⟨Z.i n1, by rw [Z.r n2]; exact cu_f7 W (ty_chCode W T) Z h3⟩
theorem kC_z6 {C : zC} {n0 a : Nat} {F : Nat → Nat → Prop} {κ τ : zS} (W : zW C n0 κ) (T : zT κ a = 15) (Z : zF F κ τ) (n1 : ¬ F chReady a) (n2 : ¬ F chCode a) (n4 : ¬ F chTolds a) (n5 : ¬ F chTold a) (h3 : un9 F (zR κ chCode a) 5) : kC6 κ τ a := ⟨(kD_z7 W T Z n1 n2 h3).1, (kD_z7 W T Z n1 n2 h3).2, tC_z21 W T Z n4 n5⟩
theorem kC_z7 {C : zC} {n0 a : Nat} {F : Nat → Nat → Prop} {κ τ : zS} (W : zW C n0 κ) (T : zT κ a = 15) (Z : zF F κ τ) (n1 : ¬ F chReady a) (n2 : ¬ F chCode a) (n4 : ¬ F chTolds a) (n5 : ¬ F chTold a) (n6 : ¬ F chPlayMade a) (n7 : ¬ F chRecord a) (n8 : ¬ F chLastShared a) (h3 : un9 F (zR κ chCode a) 5) : kC7 κ τ a := ⟨(kD_z7 W T Z n1 n2 h3).1, (kD_z7 W T Z n1 n2 h3).2, tC_z21 W T Z n4 n5, pq_z23 W T Z n6 n7 n8⟩
theorem pC_v7 {C : zC} {n0 a : Nat} {F : Nat → Nat → Prop} {κ τ : zS} (W : zW C n0 κ) (T : zT κ a = 15) (Z : zF F κ τ) (h1 : un9 F a 15) (h2 : un9 F (zR κ chTape a) 13) (h3 : un9 F (zR κ chCode a) 5) : pC7 κ τ a := ⟨oC_v9 W T Z h1 h2, kC_z7 W T Z (h1 _ (by decide)) (h1 _ (by decide)) (h1 _ (by decide)) (h1 _ (by decide)) (h1 _ (by decide)) (h1 _ (by decide)) (h1 _ (by decide)) h3⟩
theorem kC_t7 {κ τ υ : zS} {a : Nat} (h : kC7 κ τ a) (g : kC7 τ υ a) : kC7 κ υ a := ⟨g.1.trans h.1, g.2.1.trans h.2.1, g.2.2.1.trans h.2.2.1, g.2.2.2.trans h.2.2.2⟩
theorem pC_t7 {κ τ υ : zS} {a : Nat} (h : pC7 κ τ a) (g : pC7 τ υ a) : pC7 κ υ a := ⟨g.1.trans h.1, kC_t7 h.2 g.2⟩
/-- what holds of both sides between calls -/
def RC7 (κ : zS) (a : Nat) (σ : rS) : Prop := oR9 σ = oC9 κ a ∧ (σ.1 14 = 0 ↔ zI κ chReady a = 0) ∧ (σ.1 14 ≠ 0 → ∃ nv s w, CR7 nv s w (cu7 κ (zR κ chCode a)) σ)
theorem rk_d7 {κ κ' : zS} {a : Nat} {σ σ' : rS} (k : kR7 σ σ') (h : RC7 κ a σ) (c : kD7 κ κ' a) (o : oR9 σ' = oC9 κ' a) : RC7 κ' a σ' := by
  have e14 : σ'.1 14 = σ.1 14 := k.1 14 (by decide)
  refine ⟨o, by rw [e14, c.1]; exact h.2.1, fun z => ?_⟩
  rw [e14] at z
  obtain ⟨nv, s, w, g⟩ := h.2.2 z
  refine ⟨nv, s, w, ?_⟩
  rw [c.2]
  exact CR_k7 g k
theorem rk_7 {κ κ' : zS} {a : Nat} {σ σ' : rS} (k : kR7 σ σ') (h : RC7 κ a σ) (c : kC7 κ κ' a) (o : oR9 σ' = oC9 κ' a) : RC7 κ' a σ' := rk_d7 k h (kC_d7 c) o
theorem re_7 {κ κ' : zS} {a : Nat} {σ σ' : rS} (k : pR7 σ σ') (h : RC7 κ a σ) (c : pC7 κ κ' a) : RC7 κ' a σ' := rk_7 k.2 h c.2 (k.1.trans (h.1.trans c.1.symm))
/-- what the class has explored stays -/
def plC8 (κ : zS) (a : Nat) : Nat → Int32 := zA κ (zR κ atPlan (zR κ chAtlas a))
/-- the same, the plan aside -/
def hs21 (κ : zS) (a : Nat) : Nat × (Nat → Int32) := (zR κ atStates (zR κ chAtlas a), zA κ (zR κ hoTable (zR κ atStates (zR κ chAtlas a))))
def kB8 (κ κ' : zS) (a : Nat) : Prop := zI κ' atExplored (zR κ' chAtlas a) = zI κ atExplored (zR κ chAtlas a) ∧ av8 κ' (zR κ' chAtlas a) = av8 κ (zR κ chAtlas a) ∧ zR κ' chAtlas a = zR κ chAtlas a ∧ hs21 κ' a = hs21 κ a
def kA7 (κ κ' : zS) (a : Nat) : Prop := zI κ' atExplored (zR κ' chAtlas a) = zI κ atExplored (zR κ chAtlas a) ∧ (av8 κ' (zR κ' chAtlas a), plC8 κ' a, zR κ' chAtlas a, hs21 κ' a) = (av8 κ (zR κ chAtlas a), plC8 κ a, zR κ chAtlas a, hs21 κ a)
/-- the same, and visits, worths, what is shown, what was drawn -/
def kA8 (κ κ' : zS) (a : Nat) : Prop := kA7 κ κ' a ∧ kA16 κ κ' a
theorem kA_b7 {κ κ' : zS} {a : Nat} (h : kA7 κ κ' a) : kB8 κ κ' a := ⟨h.1, (Prod.mk.inj h.2).1, (Prod.mk.inj (Prod.mk.inj (Prod.mk.inj h.2).2).2).1, (Prod.mk.inj (Prod.mk.inj (Prod.mk.inj h.2).2).2).2⟩
theorem kA_b8 {κ κ' : zS} {a : Nat} (h : kA8 κ κ' a) : kB8 κ κ' a := kA_b7 h.1
def pB8 (κ κ' : zS) (a : Nat) : Prop := pC7 κ κ' a ∧ kB8 κ κ' a
def pC8 (κ κ' : zS) (a : Nat) : Prop := pC7 κ κ' a ∧ kA8 κ κ' a
def pA8 (κ κ' : zS) (a : Nat) : Prop := pC7 κ κ' a ∧ kA7 κ κ' a
theorem kB_z8 {C : zC} {n0 a : Nat} {F : Nat → Nat → Prop} {κ τ : zS} (W : zW C n0 κ) (T : zT κ a = 15) (Z : zF F κ τ) (n1 : ¬ F chAtlas a) (h : ∀ f, f / 100 = 3 → f ≠ atPlan → ¬ F f (zR κ chAtlas a)) (h1 : un9 F (zR κ atStates (zR κ chAtlas a)) 6) (h2 : un9 F (zR κ atEndings (zR κ chAtlas a)) 6) : kB8 κ τ a := by
  have tA := ty_chAtlas W T
  have r1 : zR τ chAtlas a = zR κ chAtlas a := Z.r n1
  have r2 : zR τ atStates (zR κ chAtlas a) = zR κ atStates (zR κ chAtlas a) := Z.r (h _ (by decide) (by decide))
  have h5 := (Z.row W (show zr hoTable = some 20 by decide +kernel) (by decide) (ty_atStates W tA) (h1 hoTable (by decide))).1
  unfold kB8 hs21
  rw [r1, r2, h5]
  exact ⟨Z.i (h _ (by decide) (by decide)), av_f8 W tA Z h h1 h2, rfl, rfl⟩
theorem kA_z7 {C : zC} {n0 a : Nat} {F : Nat → Nat → Prop} {κ τ : zS} (W : zW C n0 κ) (T : zT κ a = 15) (Z : zF F κ τ) (n1 : ¬ F chAtlas a) (h : ∀ f, f / 100 = 3 → True → ¬ F f (zR κ chAtlas a)) (h1 : un9 F (zR κ atStates (zR κ chAtlas a)) 6) (h2 : un9 F (zR κ atEndings (zR κ chAtlas a)) 6) : kA7 κ τ a := by
  have b := kB_z8 W T Z n1 (fun f hf _ => h f hf trivial) h1 h2
  refine ⟨b.1, ?_⟩
  have p : plC8 τ a = plC8 κ a := by
    unfold plC8
    rw [Z.r n1]
    exact (Z.row W (show zr atPlan = some 20 by decide +kernel) (by decide) (ty_chAtlas W T) (h atPlan (by decide) trivial)).1
  rw [b.2.1, p, b.2.2.1, b.2.2.2]
theorem kA_t7 {κ τ υ : zS} {a : Nat} (h : kA7 κ τ a) (g : kA7 τ υ a) : kA7 κ υ a := ⟨g.1.trans h.1, g.2.trans h.2⟩
theorem kA_t8 {κ τ υ : zS} {a : Nat} (h : kA8 κ τ a) (g : kA8 τ υ a) : kA8 κ υ a := ⟨kA_t7 h.1 g.1, kA_t16 h.2 g.2⟩
theorem kS_t16 {κ τ υ : zS} {a : Nat} (h : kS16 κ τ a) (g : kS16 τ υ a) : kS16 κ υ a := fun q z => g q (h q z)
theorem kD_t16 {κ τ υ : zS} {a : Nat} (h : kD16 κ τ a) (g : kD16 τ υ a) : kD16 κ υ a := ⟨g.1.trans h.1, g.2.1.trans h.2.1, g.2.2.trans h.2.2⟩
theorem pC_t8 {κ τ υ : zS} {a : Nat} (h : pC8 κ τ a) (g : pC8 τ υ a) : pC8 κ υ a := ⟨pC_t7 h.1 g.1, kA_t8 h.2 g.2⟩
/-- draws told, of both sides -/
def RT21 (κ : zS) (a : Nat) (σ : rS) : Prop := σ.1 104 = zI κ chTolds a ∧ ∀ j, j < (zI κ chTolds a).toNatClampNeg → zA κ (zR κ chTold a) j = σ.2.2.1 105 j

theorem RT_k21 {κ κ' : zS} {a : Nat} {σ σ' : rS} (h : RT21 κ a σ) (c : tC21 κ' a = tC21 κ a) (k : kD20 σ σ') : RT21 κ' a σ' := by
  have c1 : zI κ' chTolds a = zI κ chTolds a := (Prod.mk.inj c).1
  have c2 : zA κ' (zR κ' chTold a) = zA κ (zR κ chTold a) := (Prod.mk.inj c).2
  unfold RT21
  rw [c1, c2, k.1, k.2]
  exact h
/-- the last play's record, of both sides -/
def RP23 (κ : zS) (a : Nat) (σ : rS) : Prop := (zI κ chPlayMade a = 0 ↔ σ.1 106 = -1) ∧ (σ.1 106 ≠ -1 → (zJ κ (zR κ chRecord a) 0 = (σ.1 106).toInt64 ∧ zJ κ (zR κ chRecord a) 1 = (σ.1 107).toInt64 ∧ zJ κ (zR κ chRecord a) 2 = (σ.1 108).toInt64 ∧ zJ κ (zR κ chRecord a) 3 = (σ.1 109).toInt64 ∧ zJ κ (zR κ chRecord a) 4 = σ.2.1 110) ∧ ∀ i : Nat, (i : Int) < ((cu7 κ (zR κ chCode a)).1 coVars).toInt + ((cu7 κ (zR κ chCode a)).1 coCells).toInt → zA κ (zR κ chLastShared a) i = σ.2.2.1 111 i)
theorem RP_k23 {κ κ' : zS} {a : Nat} {σ σ' : rS} (h : RP23 κ a σ) (c : cu7 κ' (zR κ' chCode a) = cu7 κ (zR κ chCode a)) (p : pq23 κ' a = pq23 κ a) (k : kP23 σ σ') : RP23 κ' a σ' := by
  have c1 : zI κ' chPlayMade a = zI κ chPlayMade a := (Prod.mk.inj p).1
  have c2 : zJ κ' (zR κ' chRecord a) = zJ κ (zR κ chRecord a) := (Prod.mk.inj (Prod.mk.inj p).2).1
  have c3 : zA κ' (zR κ' chLastShared a) = zA κ (zR κ chLastShared a) := (Prod.mk.inj (Prod.mk.inj p).2).2
  unfold RP23
  rw [c1, c2, c3, c, k.1 106 (by decide), k.1 107 (by decide), k.1 108 (by decide), k.1 109 (by decide), k.2.1, k.2.2]
  exact h
/-- the states' store, of both sides; states that choose have as many nexts as ways -/
def TX21 (κ : zS) (a : Nat) (σ : rS) : Prop := ∃ nv s w, CR7 nv s w (cu7 κ (zR κ chCode a)) σ ∧ (∃ n, SH6 κ (zR κ atStates (zR κ chAtlas a)) w s n σ ∧ σ.1 70 = Int32.ofNat n ∧ HT6 n σ) ∧ TW21 nv s w (cu7 κ (zR κ chCode a)) σ
theorem s150_21 {nv s w : Nat} {e : E5} {σ : rS} (c : CR7 nv s w e σ) : s ≤ 150 := by
  obtain ⟨T, X, Bk, N, Z, na, f, _, F, _⟩ := c
  exact F.1.2.2.2.1.2
theorem SH_w21 {κ τ : zS} {h w s n : Nat} {σ σ' : rS} (H : HS6 κ τ h) (k : SH6 κ h w s n σ) (hs : s ≤ 150) (h30 : ∀ i, i < 150 → σ'.2.2.1 30 i = σ.2.2.1 30 i) (h73 : σ'.2.2.1 73 = σ.2.2.1 73) : SH6 τ h w s n σ' := by
  obtain ⟨k1, k2, k3, k4⟩ := k
  refine ⟨hoU_h6 H k1, H.2.2.2.trans k2, k3, fun g hg => ?_⟩
  obtain ⟨d, K, ⟨a1, a2, a3, a4, a5, a6, a7, a8⟩, b⟩ := k4 g hg
  rw [h73]
  refine ⟨d, K, ⟨a1, a2, a3, a4, a5, a6, fun c hc => ?_, a8⟩, hkS_h6 H b⟩
  obtain ⟨j, j1, j2, j3⟩ := a7 c hc
  exact ⟨j, j1, j2, by rw [h30 j (by omega)]; exact j3⟩
theorem TW_k21 {nv s w : Nat} {cu : E5} {σ σ' : rS} (h : TW21 nv s w cu σ) (k : kT7 σ σ') : TW21 nv s w cu σ' := by
  unfold TW21
  rw [k.1 70 (by decide), k.2 81 (by decide), k.2 73 (by decide), k.2 76 (by decide)]
  exact h
theorem TX_k21 {κ κ' : zS} {a : Nat} {σ σ' : rS} (h : TX21 κ a σ) (k : kR7 σ σ') (k2 : kT7 σ σ') (c : cu7 κ' (zR κ' chCode a) = cu7 κ (zR κ chCode a)) (c2 : kB8 κ κ' a) : TX21 κ' a σ' := by
  obtain ⟨nv, s, w, g1, ⟨n, g2, g3, g4⟩, g5⟩ := h
  obtain ⟨_, b1, b2, b3⟩ := c2
  have r3 : zR κ' atStates (zR κ' chAtlas a) = zR κ atStates (zR κ chAtlas a) := (Prod.mk.inj b3).1
  have t3 : zA κ' (zR κ' hoTable (zR κ' atStates (zR κ' chAtlas a))) = zA κ (zR κ hoTable (zR κ atStates (zR κ chAtlas a))) := (Prod.mk.inj b3).2
  have u0 : zI κ' hoTotal (zR κ' atStates (zR κ' chAtlas a)) = zI κ hoTotal (zR κ atStates (zR κ chAtlas a)) := congrArg (fun v : Av8 => v.1 0) b1
  have u1 : zA κ' (zR κ' hoStarts (zR κ' atStates (zR κ' chAtlas a))) = zA κ (zR κ hoStarts (zR κ atStates (zR κ chAtlas a))) := congrArg (fun v : Av8 => v.2 0) b1
  have u2 : zA κ' (zR κ' hoPool (zR κ' atStates (zR κ' chAtlas a))) = zA κ (zR κ hoPool (zR κ atStates (zR κ chAtlas a))) := congrArg (fun v : Av8 => v.2 1) b1
  rw [r3] at t3 u0 u1 u2
  have H : HS6 κ κ' (zR κ atStates (zR κ chAtlas a)) := ⟨u1, u2, t3, u0⟩
  refine ⟨nv, s, w, by rw [c]; exact CR_k7 g1 k, ⟨n, ?_, by rw [k2.1 70 (by decide)]; exact g3, fun j hj => ?_⟩, by rw [c]; exact TW_k21 g5 k2⟩
  · rw [r3]
    exact SH_w21 H g2 (s150_21 g1) (fun i hi => k.2.1 (30, 157, 150) (by decide) i hi) (k2.2 73 (by decide))
  · rw [k2.2 74 (by decide), k2.2 73 (by decide)]
    exact g4 j hj
def RA8 (κ : zS) (a : Nat) (σ : rS) : Prop := (σ.1 69 = 0 ↔ zI κ atExplored (zR κ chAtlas a) = 0) ∧ (σ.1 69 ≠ 0 → (∃ nv s w, CR7 nv s w (cu7 κ (zR κ chCode a)) σ ∧ AT8 w s (av8 κ (zR κ chAtlas a)) σ) ∧ HQ8 (av8 κ (zR κ chAtlas a)) σ ∧ RQ8 (av8 κ (zR κ chAtlas a)) σ ∧ ZQ8 σ ∧ PL8 (plC8 κ a) σ ∧ TX21 κ a σ ∧ UZ16 σ) ∧ (σ.1 69 = 0 → no8 σ) ∧ RT21 κ a σ ∧ RP23 κ a σ ∧ RK16 κ a σ
def RC8 (κ : zS) (a : Nat) (σ : rS) : Prop := RC7 κ a σ ∧ RA8 κ a σ
theorem rc_21 {κ κ' : zS} {a : Nat} {σ σ' : rS} (k : kR7 σ σ') (k2 : kT7 σ σ') (h : RA8 κ a σ) (c : kD7 κ κ' a) (c2 : kB8 κ κ' a) (p : σ.1 69 ≠ 0 → PL8 (plC8 κ a) σ → PL8 (plC8 κ' a) σ') (t : RT21 κ' a σ' ∧ RP23 κ' a σ' ∧ RK16 κ' a σ') : RA8 κ' a σ' := by
  have e69 : σ'.1 69 = σ.1 69 := k2.1 69 (by decide)
  refine ⟨by rw [e69, c2.1]; exact h.1, fun z => ?_, fun z => no_k8 (h.2.2.1 (by rw [← e69]; exact z)) k2, t⟩
  rw [e69] at z
  obtain ⟨⟨nv, s, w, g1, g2⟩, g3, g4, g5, g6, g7, g8⟩ := h.2.1 z
  refine ⟨⟨nv, s, w, ?_, ?_⟩, by rw [c2.2.1]; exact ⟨HQ_k8 g3 k2, RQ_k8 g4 k2, ZQ_k8 g5 k2, p z g6, TX_k21 g7 k k2 c.2 c2, UZ_k16 g8 k2⟩⟩
  · rw [c.2]
    exact CR_k7 g1 k
  · rw [c2.2.1]
    exact AT_k8 g2 (fun g q => k2.1 g (by rcases q with q | q | q <;> rw [q] <;> decide)) (fun g q => k2.2 g ((by decide : ∀ g, g ∈ kt8 → g ∈ ky7) g q))
theorem rc_8 {κ κ' : zS} {a : Nat} {σ σ' : rS} (k : kR7 σ σ') (k2 : kT8 σ σ') (h : RA8 κ a σ) (c : kC7 κ κ' a) (c2 : kB8 κ κ' a) (rk : RK16 κ' a σ') (p : σ.1 69 ≠ 0 → PL8 (plC8 κ a) σ → PL8 (plC8 κ' a) σ') : RA8 κ' a σ' := rc_21 k (kT_7 k2) h (kC_d7 c) c2 p ⟨RT_k21 h.2.2.2.1 c.2.2.1 ⟨k2.1 104 (by decide), k2.2.1 105 (by decide)⟩, RP_k23 h.2.2.2.2.1 c.2.1 c.2.2.2 (kP_t23 k2), rk⟩
theorem pl_21 {κ κ' : zS} {a : Nat} {σ σ' : rS} (k2 : kX7 σ σ') (c2 : kA7 κ κ' a) : σ.1 69 ≠ 0 → PL8 (plC8 κ a) σ → PL8 (plC8 κ' a) σ' := fun _ g j hj => by
  rw [k2.1 70 (by decide)] at hj
  rw [show plC8 κ' a = plC8 κ a from (Prod.mk.inj (Prod.mk.inj c2.2).2).1, k2.2 83 (by decide)]
  exact g j hj
theorem ra_8 {κ κ' : zS} {a : Nat} {σ σ' : rS} (k : kR7 σ σ') (k2 : kS8 σ σ') (h : RA8 κ a σ) (c : kC7 κ κ' a) (c2 : kA8 κ κ' a) : RA8 κ' a σ' := rc_8 k (kS_t8 k2) h c (kA_b8 c2) (RK_k16 h.2.2.2.2.2 c2.2 k2) (fun _ g j hj => by
  rw [k2.1 70 (by decide)] at hj
  rw [show plC8 κ' a = plC8 κ a from (Prod.mk.inj (Prod.mk.inj c2.1.2).2).1, k2.2.1 83 (by decide)]
  exact g j hj)
theorem re_8 {κ κ' : zS} {a : Nat} {σ σ' : rS} (k : pR8 σ σ') (h : RC8 κ a σ) (c : pC8 κ κ' a) : RC8 κ' a σ' := ⟨re_7 k.1 h.1 c.1, ra_8 k.1.2 k.2 h.2 c.1.2 c.2⟩
theorem pC_w8 {κ τ : zS} {a : Nat} {P Q : Prop} (h : kA8 κ τ a) (g : P ∧ Q ∧ pC7 κ τ a) : P ∧ Q ∧ pC8 κ τ a := ⟨g.1, g.2.1, g.2.2, h⟩
theorem pB_w8 {κ τ : zS} {a : Nat} {P Q : Prop} (h : kB8 κ τ a) (g : P ∧ Q ∧ pC7 κ τ a) : P ∧ Q ∧ pB8 κ τ a := ⟨g.1, g.2.1, g.2.2, h⟩
theorem pA_b8 {κ τ : zS} {a : Nat} {P Q : Prop} (h : kA7 κ τ a) (g : P ∧ Q ∧ pB8 κ τ a) : P ∧ Q ∧ pA8 κ τ a := ⟨g.1, g.2.1, g.2.2.1, h⟩
theorem pC_b8 {κ τ : zS} {a : Nat} {P Q : Prop} (h : kA8 κ τ a) (g : P ∧ Q ∧ pB8 κ τ a) : P ∧ Q ∧ pC8 κ τ a := ⟨g.1, g.2.1, g.2.2.1, h⟩
/-- decide: visits go, all else of it stays -/
def dD16 (κ κ' : zS) (a : Nat) (σ : rS) (k c : Int32) : Prop := (dc8 σ k c → zI κ' soSolved (zR κ' chSolver a) = 0) ∧ (¬ dc8 σ k c → kV16 κ κ' a) ∧ kW16 κ κ' a ∧ kS16 κ κ' a ∧ kD16 κ κ' a
theorem dD_r16 {κ : zS} {a : Nat} {σ : rS} {k c : Int32} (h : ¬ dc8 σ k c) : dD16 κ κ a σ k c := ⟨fun z => absurd z h, fun _ => kA_r16.1, kA_r16.2⟩
/-- decide, best: what they leave -/
def pDc8 (κ κ' : zS) (a : Nat) (σ : rS) (k c : Int32) : Prop := pB8 κ κ' a ∧ (dc8 σ k c → plC8 κ' a = upd (plC8 κ a) k.toNatClampNeg c) ∧ (¬ dc8 σ k c → plC8 κ' a = plC8 κ a) ∧ dD16 κ κ' a σ k c
theorem rkd_16 {κ κ' : zS} {a : Nat} {σ σ' : rS} {x y : Int32} (h : RK16 κ a σ) (k : pD8 x y σ σ') (c : pDc8 κ κ' a σ x y) : RK16 κ' a σ' := by
  obtain ⟨⟨_, k2, ⟨b1, b2, b3⟩⟩, u, xf, f114, rr⟩ := k
  obtain ⟨_, _, _, d1, d2, d3, d4, d5⟩ := c
  obtain ⟨h1, h2, h3, h4⟩ := h
  refine ⟨?_, RW_x16 h2 d3 (kT_7 k2) ⟨f114, rr⟩, RH_k16 h3 d4 b1 (nM_515 b3), RD_k16 h4 d5 (k2.1 106 (by decide)) (k2.1 109 (by decide)) (nM_716 b3)⟩
  by_cases z : dc8 σ x y
  · exact ⟨⟨fun _ => xf.1 z, fun _ => d1 z⟩, fun q => absurd (xf.1 z) q⟩
  · refine RS_k16 h1 (d2 z) (fun g q => ?_) (fun g g0 g1 g2 => ?_) b2
    · rcases q with q | q | q <;> rw [q]
      · exact k2.1 69 (by decide)
      · exact k2.1 70 (by decide)
      · exact xf.2 z
    · by_cases e : g = 83
      · rw [e]; exact u.2 z
      · exact (kT_7 k2).2 g (by
          have : g = 76 ∨ g = 77 ∨ g = 78 ∨ g = 79 ∨ g = 80 ∨ g = 81 := by omega
          rcases this with q | q | q | q | q | q <;> rw [q] <;> decide)
theorem rd_8 {κ κ' : zS} {a : Nat} {σ σ' : rS} {x y : Int32} (k : pD8 x y σ σ') (ht : RC8 κ a σ) (c : pDc8 κ κ' a σ x y) : RC8 κ' a σ' := ⟨re_7 k.1.1 ht.1 c.1.1, rc_8 k.1.1.2 k.1.2.1 ht.2 c.1.1.2 c.1.2 (rkd_16 ht.2.2.2.2.2.2 k c) (fun _ g j hj => by
  rw [k.1.2.1.1 70 (by decide)] at hj
  by_cases z : dc8 σ x y
  · rw [c.2.1 z, k.2.1.1 z]
    by_cases e : j = x.toNatClampNeg
    · rw [e, upd_eq, upd_eq]
    · rw [upd_ne e, upd_ne e]
      exact g j hj
  · rw [c.2.2.1 z, k.2.1.2 z]
    exact g j hj)⟩
def bp9 (κ κ' : zS) (t : Nat) (σ : rS) : Prop := (bv8 σ = 0 → ∀ k, k < (σ.1 70).toNatClampNeg → zA κ' (zR κ' atPlan t) k = pbW8 σ k) ∧ (bv8 σ ≠ 0 → zA κ' (zR κ' atPlan t) = zA κ (zR κ atPlan t))
/-- what best leaves of worths and visits -/
def BK16 (κ κ' : zS) (a : Nat) (σ : rS) : Prop := (kS16 κ κ' a ∧ kD16 κ κ' a) ∧ (bv8 σ = 0 → (zI κ' soSolved (zR κ' chSolver a) = 0 ∧ zI κ' soPlanned (zR κ' chSolver a) = 1) ∧ ∀ k, k < (σ.1 70).toNatClampNeg → fr16 κ' (wU9 κ' (zR κ' chSolver a) k) (wbW8 σ k)) ∧ (bv8 σ ≠ 0 → kV16 κ κ' a ∧ zI κ' soPlanned (zR κ' chSolver a) = zI κ soPlanned (zR κ chSolver a) ∧ (bv8 σ = -2 → kW16 κ κ' a))
def BB9 (κ κ' : zS) (a : Nat) (σ : rS) : Prop := pB8 κ κ' a ∧ (bc8 σ → bp9 κ κ' (zR κ chAtlas a) σ ∧ BK16 κ κ' a σ) ∧ (¬ bc8 σ → kA16 κ κ' a)
theorem rkb_16 {κ κ' : zS} {a : Nat} {σ σ' : rS} {v : Int32} (ht : RC8 κ a σ) (k : pT8 σ σ') (X : XB8 σ σ' v) (c : BB9 κ κ' a σ) : RK16 κ' a σ' := by
  obtain ⟨_, k2, ⟨b1, b2, b3⟩⟩ := k
  obtain ⟨_, c1, c2⟩ := c
  obtain ⟨h1, h2, h3, h4⟩ := ht.2.2.2.2.2.2
  have SS : bkW8 σ σ' → kV16 κ κ' a → RS16 κ' a σ' := fun bk kv => RS_k16 h1 kv (fun g q => by
    rcases q with q | q | q <;> rw [q]
    · exact k2.1 69 (by decide)
    · exact k2.1 70 (by decide)
    · exact bk.2.1) (fun g g0 g1 g2 => by
    by_cases e : g = 83
    · rw [e]; exact bk.1 83 (by decide)
    · exact (kT_7 k2).2 g (by
        have : g = 76 ∨ g = 77 ∨ g = 78 ∨ g = 79 ∨ g = 80 ∨ g = 81 := by omega
        rcases this with q | q | q | q | q | q <;> rw [q] <;> decide)) b2
  have WW : bkW8 σ σ' → kW16 κ κ' a → RW16 κ' a σ' := fun bk kw => RW_x16 h2 kw (kT_7 k2) ⟨bk.2.2, fun g q => bk.1 g (Or.inr q)⟩
  have HD : kS16 κ κ' a ∧ kD16 κ κ' a → RH16 κ' a σ' ∧ RD16 κ' a σ' := fun z => ⟨RH_k16 h3 z.1 b1 (nM_515 b3), RD_k16 h4 z.2 (k2.1 106 (by decide)) (k2.1 109 (by decide)) (nM_716 b3)⟩
  rcases X with ⟨z, _, bk⟩ | ⟨ex, _, X⟩
  · have K := c2 (fun y => y z)
    exact ⟨SS bk K.1, WW bk K.2.1, (HD K.2.2).1, (HD K.2.2).2⟩
  · obtain ⟨⟨cs, cd⟩, c3, c4⟩ := (c1 ex).2
    refine ⟨?_, ?_, (HD ⟨cs, cd⟩).1, (HD ⟨cs, cd⟩).2⟩
    · rcases X with ⟨x1, _, bk⟩ | ⟨x1, ⟨_, x3, bk⟩ | ⟨_, x3, x4, x5⟩⟩
      · exact SS bk (c4 (by rw [bv_28 x1]; decide)).1
      · exact SS bk (c4 (by rw [bv_38 x1 x3]; decide)).1
      · exact ⟨⟨fun _ => x4, fun _ => (c3 (bv_08 x1 (fun k hk => (x3 k hk).2.1))).1.1⟩, fun q => absurd x4 q⟩
    · rcases X with ⟨x1, _, bk⟩ | ⟨x1, ⟨_, x3, bk⟩ | ⟨_, x3, x4, x5⟩⟩
      · exact WW bk ((c4 (by rw [bv_28 x1]; decide)).2.2 (bv_28 x1))
      · refine ⟨by rw [(c4 (by rw [bv_38 x1 x3]; decide)).2.1, bk.2.2]; exact h2.1, fun z => ?_⟩
        rw [bk.2.2] at z
        obtain ⟨k, q1, q2⟩ := x3
        exact absurd ((h2.2 z).2 k q1).2.2 q2
      · obtain ⟨⟨_, d1⟩, d2⟩ := c3 (bv_08 x1 (fun k hk => (x3 k hk).2.1))
        have e69 : σ'.1 69 = σ.1 69 := k2.1 69 (by decide)
        have e70 : σ'.1 70 = σ.1 70 := k2.1 70 (by decide)
        obtain ⟨_, _, _, zq, _⟩ := ht.2.2.1 ex
        have eb : wbW8 σ' = wbW8 σ := wb_k16 e70 (fun g g0 g1 => (kT_7 k2).2 g (by
          have : g = 76 ∨ g = 77 ∨ g = 78 ∨ g = 79 ∨ g = 80 ∨ g = 81 ∨ g = 82 := by omega
          rcases this with q | q | q | q | q | q | q <;> rw [q] <;> decide))
        refine ⟨⟨fun z => absurd (d1.symm.trans z) (by decide), fun z => absurd z x5⟩, fun _ => ?_⟩
        rw [e69, e70, eb]
        refine ⟨⟨ex, n7_q8 zq.1⟩, fun k hk => ?_⟩
        have ew : wr16 σ' k = wbW8 σ k := (x3 k hk).1.2.2
        rw [ew]
        exact ⟨d2 k hk, rfl, (x3 k hk).2.1⟩
theorem rb_8 {κ κ' : zS} {a : Nat} {σ σ' : rS} {v : Int32} (ht : RC8 κ a σ) (k : pT8 σ σ') (X : XB8 σ σ' v) (c : BB9 κ κ' a σ) : RC8 κ' a σ' := by
  refine ⟨re_7 k.1 ht.1 c.1.1, rc_8 k.1.2 k.2.1 ht.2 c.1.1.2 c.1.2 (rkb_16 ht k X c) (fun ex g j hj => ?_)⟩
  obtain ⟨b0, b1⟩ := (c.2.1 ex).1
  rw [k.2.1.1 70 (by decide)] at hj
  have gj : zA κ (zR κ atPlan (zR κ chAtlas a)) j = σ.2.2.1 83 j := g j hj
  show zA κ' (zR κ' atPlan (zR κ' chAtlas a)) j = _
  rw [c.1.2.2.2.1]
  rcases X with ⟨z, _⟩ | ⟨_, _, X⟩
  · exact absurd z ex
  · rcases X with ⟨h1, h2, bk⟩ | ⟨h1, ⟨h2, h3, bk⟩ | ⟨h2, h3, _⟩⟩
    · rw [b1 (by rw [bv_28 h1]; decide), bk.1 83 (Or.inl rfl)]; exact gj
    · rw [b1 (by rw [bv_38 h1 h3]; decide), bk.1 83 (Or.inl rfl)]; exact gj
    · rw [b0 (bv_08 h1 (fun k hk => (h3 k hk).2.1)) j hj]; exact (h3 j hj).2.2.symm
/-- tell, forget: what they leave -/
def TL21 (κ κ' : zS) (a : Nat) (p : Int32) : Prop := (oC9 κ' a = oC9 κ a ∧ kD7 κ κ' a ∧ pq23 κ' a = pq23 κ a) ∧ kA8 κ κ' a ∧ ((zI κ chTolds a < 200 ∧ zI κ' chTolds a = zI κ chTolds a + 1 ∧ zA κ' (zR κ' chTold a) = upd (zA κ (zR κ chTold a)) (zI κ chTolds a).toNatClampNeg p) ∨ (¬ zI κ chTolds a < 200 ∧ tC21 κ' a = tC21 κ a))
def FG21 (κ κ' : zS) (a : Nat) : Prop := (oC9 κ' a = oC9 κ a ∧ kD7 κ κ' a ∧ pq23 κ' a = pq23 κ a) ∧ kA8 κ κ' a ∧ zI κ' chTolds a = 0
theorem tlk_21 {κ κ' : zS} {a : Nat} {σ σ' : rS} {p : Int32} (ht : RC8 κ a σ) (b : 0 ≤ (zI κ chTolds a).toInt ∧ (zI κ chTolds a).toInt ≤ 200) (k : pL21 p σ σ' ∧ kP23 σ σ' ∧ kN16 σ σ') (c : TL21 κ κ' a p) : RC8 κ' a σ' := by
  obtain ⟨⟨⟨k1, k2⟩, k3, k4, k5⟩, kp, kn⟩ := k
  obtain ⟨⟨c1, c2, c5⟩, c3, c4⟩ := c
  refine ⟨rk_d7 k2 ht.1 c2 (k1.trans (ht.1.1.trans c1.symm)), rc_21 k2 (kX_7 k3) ht.2 c2 (kA_b8 c3) (pl_21 k3 c3.1) ⟨?_, RP_k23 ht.2.2.2.2.2.1 c2.2 c5 kp, RK_x16 ht.2.2.2.2.2.2 c3.2 k3 (kp.1 106 (by decide)) (kp.1 109 (by decide)) kn⟩⟩
  obtain ⟨r1, r2⟩ := ht.2.2.2.2.1
  have l200 : (200 : Int32).toInt = 200 := rfl
  rcases c4 with ⟨z1, z2, z3⟩ | ⟨z1, z2⟩
  · have n200 : σ.1 104 ≠ 200 := fun e => by rw [← r1, e] at z1; exact absurd z1 (by decide)
    obtain ⟨q1, q2⟩ := k5 n200
    rw [lti, l200] at z1
    have cn := cnk b.1
    refine ⟨by rw [q1, z2, r1], fun j hj => ?_⟩
    rw [z2, (cn1 b.1 (by omega)).1] at hj
    rw [z3, q2, r1]
    by_cases e : j = (zI κ chTolds a).toNatClampNeg
    · rw [e, upd_eq, upd_eq]
    · rw [upd_ne e, upd_ne e]
      exact r2 j (by omega)
  · have e : σ.1 104 = 200 := by
      rw [lti, l200] at z1
      rw [r1]
      exact Int32.toInt_inj.mp (by rw [l200]; omega)
    obtain ⟨q1, q2⟩ := k4 e
    exact RT_k21 ⟨r1, r2⟩ z2 ⟨by rw [q1, e], q2⟩
theorem fgk_21 {κ κ' : zS} {a : Nat} {σ σ' : rS} (ht : RC8 κ a σ) (k : pO21 σ σ' ∧ kP23 σ σ' ∧ kN16 σ σ') (c : FG21 κ κ' a) : RC8 κ' a σ' := by
  obtain ⟨⟨⟨k1, k2⟩, k3, k4⟩, kp, kn⟩ := k
  obtain ⟨⟨c1, c2, c5⟩, c3, c4⟩ := c
  refine ⟨rk_d7 k2 ht.1 c2 (k1.trans (ht.1.1.trans c1.symm)), rc_21 k2 (kX_7 k3) ht.2 c2 (kA_b8 c3) (pl_21 k3 c3.1) ⟨⟨k4.trans c4.symm, fun j hj => ?_⟩, RP_k23 ht.2.2.2.2.2.1 c2.2 c5 kp, RK_x16 ht.2.2.2.2.2.2 c3.2 k3 (kp.1 106 (by decide)) (kp.1 109 (by decide)) kn⟩⟩
  rw [c4] at hj
  exact absurd hj (Nat.not_lt_zero _)
/-- explored states' store out of what exploring leaves -/
theorem SX_21 {u s w l t : Nat} {κ : zS} {σ : rS} (h : DX6 u s w l κ t σ) : ∃ n, SH6 κ (zR κ atStates t) w s n σ ∧ σ.1 70 = Int32.ofNat n ∧ HT6 n σ := by
  obtain ⟨_, _, ⟨n2, m, x, SH, EH, ⟨f1, _⟩, _, HT, _⟩, _⟩ := h
  exact ⟨n2, SH, f1, HT⟩
/-- play, walk: what they leave -/
def PY23 (κ κ' : zS) (a : Nat) (m : Int32) (σ σ9 : rS) : Prop := (oC9 κ' a = oC9 κ a ∧ kC6 κ κ' a) ∧ (kA7 κ κ' a ∧ kV16 κ κ' a ∧ kW16 κ κ' a ∧ kS16 κ κ' a) ∧ (cy21 σ m = 0 → ∃ w : Nat, ((w : Int) = ((cu7 κ (zR κ chCode a)).1 coVars).toInt + ((cu7 κ (zR κ chCode a)).1 coCells).toInt ∧ w ≤ 34) ∧ ∀ N tr v', TRF21 m σ9 N tr v' → RN23 κ' a (tr N).1 v' w ∧ PP16 κ' a ((tr N).1.1 109) (tr N).1) ∧ (cy21 σ m ≠ 0 → pq23 κ' a = pq23 κ a ∧ kD16 κ κ' a)
theorem py_23 {κ κ' : zS} {a : Nat} {σ σ9 σ' : rS} {m v : Int32} (ht : RC8 κ a σ) (k : pY23 m σ σ9 σ' v) (c : PY23 κ κ' a m σ σ9) : RC8 κ' a σ' := by
  obtain ⟨⟨k1, k2⟩, ⟨k3, k4, y1, y2, y3, y4⟩, cy, k5, k6, G⟩ := k
  obtain ⟨⟨c1, c2⟩, ⟨c3, cv, cw9, cs⟩, c4, c5⟩ := c
  have cd : kD7 κ κ' a := ⟨c2.1, c2.2.1⟩
  refine ⟨rk_d7 k2 ht.1 cd (k1.trans (ht.1.1.trans c1.symm)), rc_21 k2 (kX_7 k3) ht.2 cd (kA_b7 c3) (pl_21 k3 c3) ⟨RT_k21 ht.2.2.2.2.1 c2.2.2 k4, ?_, ?_⟩⟩
  rotate_left
  · obtain ⟨h1, h2, h3, h4⟩ := ht.2.2.2.2.2.2
    refine ⟨RS_k16 h1 cv (fun g q => ?_) (fun g g0 g1 _ => k3.2 g (kX_i16 (by omega) g1)) (fun g q => y2 g (by rcases q with q | q <;> rw [q] <;> decide)), RW_x16 h2 cw9 (kX_7 k3) ⟨y1 114 (by decide), fun g q => y2 g (by rcases q with q | q <;> rw [q] <;> decide)⟩, RH_k16 h3 cs (y1 103 (by decide)) y3, ?_⟩
    · rcases q with q | q | q <;> rw [q]
      · exact k3.1 69 (by decide)
      · exact k3.1 70 (by decide)
      · exact y1 94 (by decide)
    · rcases G with ⟨g1, g2, _⟩ | ⟨g1, _, τ0, h0, ⟨σ0, r0, N, tr, b1, b2, b3⟩, fi, d1, d2, d3, d4, d5, d6, _⟩
      · have e2 : σ'.2.2 = σ.2.2 := by rw [g2, si2]; exact k6.2
        refine RD_k16 h4 (c5 (by rw [← cy]; exact g1)).2 ?_ ?_ (nM_716 (nM_r16 (by rw [e2]) (by rw [e2])))
        · rw [g2, si1, if_neg (by decide)]; exact k5 106 (by decide)
        · rw [g2, si1, if_neg (by decide)]; exact k5 109 (by decide)
      · obtain ⟨w, _, cw⟩ := c4 (by rw [← cy]; exact g1)
        have P := (cw N tr v ⟨⟨σ0, r0, b1, b2⟩, by rw [b3]; exact fi⟩).2
        rw [b3] at P
        refine fun z => ⟨y4 z, ?_, ?_⟩
        · rw [d1 109 (by decide) (by decide)]
          exact pr_k16 P.1 (d5 90 (by decide)) (d5 91 (by decide))
        · rw [d1 109 (by decide) (by decide)]
          exact P.2
  rcases G with ⟨g1, g2, _⟩ | ⟨g1, _, τ0, h0, ⟨σ0, r0, N, tr, b1, b2, b3⟩, fi, d1, d2, d3, d4, d5, d6, _⟩
  · refine RP_k23 ht.2.2.2.2.2.1 c2.2.1 (c5 (by rw [← cy]; exact g1)).1 ⟨fun g q => ?_, ?_, ?_⟩
    · rw [g2, si1, if_neg ((by decide : ∀ g, g ∈ kp23 → g ≠ 0) g q), k5 g ((by decide : ∀ g, g ∈ kp23 → g ≠ 113) g q)]
    · rw [g2, si2]; exact k6.1
    · rw [g2, si2, k6.2]
  · obtain ⟨w, ⟨w1, w2⟩, cw⟩ := c4 (by rw [← cy]; exact g1)
    obtain ⟨v4, n1, ⟨n2, n3, n4, n5, n6⟩, n7⟩ := (cw N tr v ⟨⟨σ0, r0, b1, b2⟩, by rw [b3]; exact fi⟩).1
    rw [b3] at n3 n4 n5 n6 n7
    have vm : v ≠ -1 := by rcases v4 with q | q | q | q <;> rw [q] <;> decide
    refine ⟨⟨fun z => absurd (n1.symm.trans z) (by decide), fun z => absurd (d2.symm.trans z) vm⟩, fun _ => ⟨⟨by rw [n2, d2], by rw [n3, d3], by rw [n4, d1 108 (by decide) (by decide)], by rw [n5, d1 109 (by decide) (by decide)], by rw [n6, d4]⟩, fun i hi => ?_⟩⟩
    rw [c2.2.1] at hi
    rw [n7 i (by omega), d6 i (by omega)]
/-- explore, of the class: neither visits nor worths behind it -/
def pX16 (κ κ' : zS) (a : Nat) : Prop := pC7 κ κ' a ∧ (zI κ' soSolved (zR κ' chSolver a) = 0 ∧ zI κ' soPlanned (zR κ' chSolver a) = 0) ∧ kS16 κ κ' a ∧ kD16 κ κ' a
/-- program, of the class: a sound one -/
def pS16 (κ κ' : zS) (a : Nat) : Prop := (zI κ' soSolved (zR κ' chSolver a) = 0 ∧ zI κ' soPlanned (zR κ' chSolver a) = 0) ∧ kS16 κ κ' a
theorem RS_016 {κ : zS} {a : Nat} {σ : rS} (h : zI κ soSolved (zR κ chSolver a) = 0) (g : σ.1 94 = 0) : RS16 κ a σ := ⟨⟨fun _ => g, fun _ => h⟩, fun z => absurd g z⟩
theorem RW_016 {κ : zS} {a : Nat} {σ : rS} (h : zI κ soPlanned (zR κ chSolver a) = 0) (g : σ.1 114 = 0) : RW16 κ a σ := ⟨⟨fun _ => g, fun _ => h⟩, fun z => absurd g z⟩
/-- a fraction whose parts aren't touched -/
theorem rq_o16 {C : zC} {n0 u : Nat} {ρ : Nat → Nat} {F : Nat → Nat → Prop} {κ τ : zS} {q : Rat} (W : zW C n0 κ) (N : nmI ρ κ) (Z : zF F κ τ) (hr : raR (ρ u)) (h11 : ∀ f, ¬ F f u) (h8 : ∀ f b, zT κ b = 8 → ρ b = ρ u + 1 ∨ ρ b = ρ u + 2 → ¬ F f b) (H : fr16 κ u q) : fr16 τ u q := by
  obtain ⟨T, R1, R2⟩ := N.2 u hr
  have tt := ty_raTop W T
  have tb := ty_raBottom W T
  refine ⟨Z.t T (by decide), ?_⟩
  have y := H.2
  unfold rqW8 at y ⊢
  rw [Z.i (h11 _), Z.r (h11 _), Z.r (h11 _), (nuB_z (c := 0) W tt Z (h8 _ _ tt (Or.inl R1)) (h8 _ _ tt (Or.inl R1))).2.2.1, (nuB_z (c := 0) W tb Z (h8 _ _ tb (Or.inr R2)) (h8 _ _ tb (Or.inr R2))).2.2.1]
  exact y

end
section
set_option maxHeartbeats 1600000
/-! the class: ChanceWorks between calls -/
/-- tape, codes, parser -/
def chA9 (κ : zS) (a : Nat) : Prop := (taI κ (zR κ chTape a) ∧ tokI κ (zR κ chTape a)) ∧ ((coI κ (zR κ chCode a) ∧ coI κ (zR κ chSpare a)) ∧ zR κ chCode a ≠ zR κ chSpare a) ∧ ((paL κ (zR κ chParser a) ∧ paC κ (zR κ chParser a)) ∧ zR κ paTape (zR κ chParser a) = zR κ chTape a)
/-- atlas and machine -/
def chB9 (κ : zS) (a : Nat) : Prop := atI κ (zR κ chAtlas a) ∧ zR κ atMachine (zR κ chAtlas a) = zR κ chMachine a ∧ (zI κ atExplored (zR κ chAtlas a) ≠ 0 → (zR κ atCode (zR κ chAtlas a) = zR κ chCode a ∧ 0 ≤ (zI κ atNexts (zR κ chAtlas a)).toInt) ∧ ((zI κ hoTotal (zR κ atStates (zR κ chAtlas a))).toInt = 0 → enZ9 κ (zR κ chAtlas a)))
/-- solver -/
def chC9 (ρ : Nat → Nat) (κ : zS) (a : Nat) : Prop := soR9 ρ κ (zR κ chSolver a) ∧ ((zN κ (zR κ soTaken (zR κ chSolver a))) = 0 ∨ (zN κ (zR κ soTaken (zR κ chSolver a))) = 1000) ∧ (zR κ soAtlas (zR κ chSolver a) = zR κ chAtlas a ∧ zR κ soWeb (zR κ chSolver a) = zR κ atWeb (zR κ chAtlas a)) ∧ ρ (zR κ chShown a) = 30
/-- what is solved, what is planned -/
def chS9 (ρ : Nat → Nat) (κ : zS) (a : Nat) : Prop := (zI κ soSolved (zR κ chSolver a) ≠ 0 → zI κ atExplored (zR κ chAtlas a) ≠ 0 ∧ ∃ P, (0 < P ∧ P < pB9 1490) ∧ ∀ n, atW κ (zR κ chAtlas a) n → vsI9 ρ κ (zR κ chSolver a) n P ∧ n ≤ (zN κ (zR κ soVisits (zR κ chSolver a)))) ∧ (zI κ soPlanned (zR κ chSolver a) ≠ 0 → zI κ atExplored (zR κ chAtlas a) ≠ 0 ∧ ∀ n, atW κ (zR κ chAtlas a) n → n ≤ (zN κ (zR κ soWorths (zR κ chSolver a))) ∧ ∀ k, k < n → ∃ u, zQ κ (zR κ soWorths (zR κ chSolver a)) k = some u)
/-- odds -/
def chD9 (ρ : Nat → Nat) (κ : zS) (a : Nat) : Prop := (zR κ odAtlas (zR κ chOdds a) = zR κ chAtlas a ∧ zR κ odSolver (zR κ chOdds a) = zR κ chSolver a ∧ zR κ odCalc (zR κ chOdds a) = zR κ soCalc (zR κ chSolver a)) ∧ ρ (zR κ odHeld (zR κ chOdds a)) = 15 ∧ ((odU9 κ (zR κ chOdds a) ∨ tbL9 κ (zR κ chOdds a)) ∧ (zN κ (zR κ odLinks (zR κ chOdds a))) ≤ 20000) ∧ (hoI κ (zR κ odGroups (zR κ chOdds a)) 3000 3 8192 ∧ (zN κ (zR κ odKey (zR κ chOdds a))) = 3) ∧ (∀ j u, j < 31 → zQ κ (zR κ odEdges (zR κ chOdds a)) j = some u → ρ u = 2000000 + j) ∧ (zR κ atStates (zR κ chAtlas a) ≠ zR κ odGroups (zR κ chOdds a) ∧ zR κ atEndings (zR κ chAtlas a) ≠ zR κ odGroups (zR κ chOdds a))
/-- its own rows -/
def chE9 (κ : zS) (a : Nat) : Prop := ((zN κ (zR κ chTold a)) = 200 ∧ 0 ≤ (zI κ chTolds a).toInt ∧ (zI κ chTolds a).toInt ≤ 200) ∧ ((zN κ (zR κ chRecord a)) = 5 ∧ (zN κ (zR κ chLastShared a)) = 34) ∧ dwI9 κ a
/-- how many numbers and fractions there are: those of the constructors, and those in places of rows -/
def cK9 (κ : zS) (a : Nat) : Prop := nT9 8 κ ≤ 17 + (nn9 κ (zR κ soCells (zR κ chSolver a)) + nn9 κ (zR κ odEdges (zR κ chOdds a)) + 2 * zV9 κ (zR κ chSolver a)) ∧ nT9 11 κ ≤ 2 + zV9 κ (zR κ chSolver a)
theorem cK_z9 {C : zC} {n0 a : Nat} {F : Nat → Nat → Prop} {κ τ : zS} (W : zW C n0 κ) (T : zT κ a = 15) (Z : zF F κ τ) (hs : zR τ chSolver a = zR κ chSolver a) (ho : zR τ chOdds a = zR κ chOdds a) (h : ∀ b, zn κ ≤ b → ¬ F 0 b) (nS : ∀ f, f = soCells ∨ f = soVisits ∨ f = soWorths → ¬ F f (zR κ chSolver a)) (he : nn9 κ (zR κ odEdges (zR κ chOdds a)) ≤ nn9 τ (zR τ odEdges (zR κ chOdds a))) (K : cK9 κ a) : cK9 τ a := by
  have tS := ty_chSolver W T
  have v := zV_z9 W tS Z (nS _ (Or.inr (Or.inl rfl))) (nS _ (Or.inr (Or.inr rfl)))
  have c := nC_z9 W tS Z (nS _ (Or.inl rfl))
  have n8 := nT_z9 W Z h (t := 8) (by decide)
  have n11 := nT_z9 W Z h (t := 11) (by decide)
  obtain ⟨k1, k2⟩ := K
  unfold cK9
  rw [hs, ho, v, c]
  exact ⟨by omega, by omega⟩
theorem cK_k9 {C : zC} {n0 a : Nat} {F : Nat → Nat → Prop} {κ τ : zS} (W : zW C n0 κ) (T : zT κ a = 15) (Z : zF F κ τ) (hs : zR τ chSolver a = zR κ chSolver a) (ho : zR τ chOdds a = zR κ chOdds a) (ne : ¬ F odEdges (zR κ chOdds a)) (kz : zK9 κ τ (zR κ chSolver a)) (K : cK9 κ a) : cK9 τ a := by
  have e := nE_z9 W (ty_chOdds W T) Z ne
  obtain ⟨k1, k2⟩ := K
  obtain ⟨z1, z2⟩ := kz
  unfold cK9
  rw [hs, ho, e]
  exact ⟨by omega, by omega⟩
theorem cK_e9 {C : zC} {n0 a : Nat} {F : Nat → Nat → Prop} {κ τ : zS} (W : zW C n0 κ) (T : zT κ a = 15) (Z : zF F κ τ) (hs : zR τ chSolver a = zR κ chSolver a) (ho : zR τ chOdds a = zR κ chOdds a) (nS : ∀ f, f = soCells ∨ f = soVisits ∨ f = soWorths → ¬ F f (zR κ chSolver a)) (ke : zE9 κ τ (zR κ chOdds a)) (K : cK9 κ a) : cK9 τ a := by
  have tS := ty_chSolver W T
  have v := zV_z9 W tS Z (nS _ (Or.inr (Or.inl rfl))) (nS _ (Or.inr (Or.inr rfl)))
  have c := nC_z9 W tS Z (nS _ (Or.inl rfl))
  obtain ⟨k1, k2⟩ := K
  obtain ⟨z1, z2⟩ := ke
  unfold cK9
  rw [hs, ho, v, c]
  exact ⟨by omega, by omega⟩
theorem zT_o9 {C : zC} {n0 x : Nat} {κ : zS} (W : zW C n0 κ) (h : zn κ ≤ x) : zT κ x = 0 := by
  by_cases z : zT κ x = 0
  · exact z
  · have y := (W.2.1 x z).2
    omega
def chI9 (ρ : Nat → Nat) (κ : zS) (a : Nat) (L : Int) : Prop := chA9 κ a ∧ chB9 κ a ∧ chC9 ρ κ a ∧ chS9 ρ κ a ∧ chD9 ρ κ a ∧ chE9 κ a ∧ (zI κ taLength (zR κ chTape a)).toInt ≤ L ∧ cK9 κ a
theorem un_t9 {F : Nat → Nat → Prop} {κ : zS} {x K : Nat} (h : ∀ f x, F f x → zT κ x = 7 ∨ zT κ x = 13 ∨ zT κ x = 15) (T : zT κ x = K) (hK : K ≠ 7 ∧ K ≠ 13 ∧ K ≠ 15) : ∀ f, ¬ F f x := fun f z => by
  have y := h f x z
  rw [T] at y
  rcases y with y | y | y
  · exact hK.1 y
  · exact hK.2.1 y
  · exact hK.2.2 y
theorem odd_u9 {C : zC} {n0 b : Nat} {F : Nat → Nat → Prop} {κ τ : zS} (Z : zF F κ τ) (W : zW C n0 κ) (T : zT κ b = 9) (n : un9 F b 9) : (∀ f, f / 100 = 9 → zR τ f b = zR κ f b) ∧ (odU9 κ b ∨ tbL9 κ b → odU9 τ b ∨ tbL9 τ b) ∧ (zN τ (zR τ odLinks b)) = (zN κ (zR κ odLinks b)) ∧ (zN τ (zR τ odKey b)) = (zN κ (zR κ odKey b)) ∧ zQ τ (zR τ odEdges b) = zQ κ (zR κ odEdges b) := by
  have r : ∀ f, f / 100 = 9 → zR τ f b = zR κ f b := fun f hf => Z.r (n f hf)
  have e1 : zN τ (zR τ odLefts b) = zN κ (zR κ odLefts b) := by rw [r _ (by decide)]; exact Z.l (ty_odLefts W T)
  have e2 : zN τ (zR τ odRights b) = zN κ (zR κ odRights b) := by rw [r _ (by decide)]; exact Z.l (ty_odRights W T)
  have e3 : zN τ (zR τ odBases b) = zN κ (zR κ odBases b) := by rw [r _ (by decide)]; exact Z.l (ty_odBases W T)
  have e4 : zN τ (zR τ odRanks b) = zN κ (zR κ odRanks b) := by rw [r _ (by decide)]; exact Z.l (ty_odRanks W T)
  have e5 : zN τ (zR τ odCellOf b) = zN κ (zR κ odCellOf b) := by rw [r _ (by decide)]; exact Z.l (ty_odCellOf W T)
  have e6 : zN τ (zR τ odHeads b) = zN κ (zR κ odHeads b) := by rw [r _ (by decide)]; exact Z.l (ty_odHeads W T)
  have e7 : zN τ (zR τ odEdges b) = zN κ (zR κ odEdges b) := by rw [r _ (by decide)]; exact Z.l (ty_odEdges W T)
  refine ⟨r, fun h => ?_, by rw [r _ (by decide)]; exact Z.l (ty_odLinks W T), by rw [r _ (by decide)]; exact Z.l (ty_odKey W T), (Z.row W (show zr odEdges = some 24 by decide +kernel) (by decide) (T.trans (by decide)) (n _ (by decide))).2.2⟩
  unfold odU9 tbL9
  rw [e1, e2, e3, e4, e5, e6, e7]
  exact h
/-- the atlas, where neither it nor its hoards nor its web nor the code are touched -/
theorem chB_u9 {C : zC} {n0 a : Nat} {F : Nat → Nat → Prop} {κ τ : zS} (W : zW C n0 κ) (T : zT κ a = 15) (Z : zF F κ τ) (hO : ∀ f, f / 100 = 15 → f ≠ chDrawnWeights → f ≠ chDrawnTotals → zR τ f a = zR κ f a) (n3 : un9 F (zR κ chAtlas a) 3) (ns : un9 F (zR κ atStates (zR κ chAtlas a)) 6) (ne : un9 F (zR κ atEndings (zR κ chAtlas a)) 6) (nw : un9 F (zR κ atWeb (zR κ chAtlas a)) 14) (nc : zI κ atExplored (zR κ chAtlas a) ≠ 0 → un9 F (zR κ atCode (zR κ chAtlas a)) 5) (hm : maL τ (zR κ chMachine a)) (B : chB9 κ a) : chB9 τ a ∧ (∀ n, atW τ (zR κ chAtlas a) n ↔ atW κ (zR κ chAtlas a) n) ∧ (zI τ atExplored (zR κ chAtlas a) = zI κ atExplored (zR κ chAtlas a)) ∧ (∀ f, f / 100 = 3 → zR τ f (zR κ chAtlas a) = zR κ f (zR κ chAtlas a)) := by
  have tA := ty_chAtlas W T
  have g := at_u9 Z W tA (fun f hf _ => n3 f hf) (Z.r (n3 atPlan (by decide)))
  obtain ⟨⟨⟨b1, b2, b3, b4⟩, b5, ⟨b6, b7⟩, b8, b9⟩, c1, c2⟩ := B
  have M := atM_u9 g
  have S := ho_u9 (M := 1000) (D := 142) (S := 2048) Z W (ty_atStates W tA) ns
  have E := ho_u9 (M := 1000) (D := 35) (S := 2048) Z W (ty_atEndings W tA) ne
  have V := we_u9 Z W (ty_atWeb W tA) nw
  have ex : zI τ atExplored (zR κ chAtlas a) = zI κ atExplored (zR κ chAtlas a) := Z.i (n3 _ (by decide))
  have Wn : ∀ n, atW τ (zR κ chAtlas a) n ↔ atW κ (zR κ chAtlas a) n := fun n => atW_u9 g (Z.i (n3 _ (by decide))) S.2.2 E.2.2
  have r := g.1
  refine ⟨?_, Wn, ex, r⟩
  unfold chB9 atI
  rw [hO chAtlas (by decide) (by decide) (by decide), hO chMachine (by decide) (by decide) (by decide), hO chCode (by decide) (by decide) (by decide), r atMachine (by decide), r atWeb (by decide), r atStates (by decide), r atEndings (by decide), r atCode (by decide), ex, S.2.2]
  refine ⟨⟨⟨b1.elim (fun z => Or.inl (M.2.1 z)) (fun z => Or.inr (M.1 z)), M.2.2 b2, ⟨?_, ?_⟩, b4⟩, by rw [c1]; exact hm, ⟨b6.elim (fun z => Or.inl (V.2.1 z)) (fun z => Or.inr (V.1 z)), V.2.2 b7⟩, b8, fun z => ?_⟩, c1, fun z => ⟨⟨(c2 z).1.1, by rw [Z.i (n3 atNexts (by decide))]; exact (c2 z).1.2⟩, fun y => ?_⟩⟩
  · rw [r atStates (by decide)]; exact S.1 b3.1
  · rw [r atEndings (by decide)]; exact E.1 b3.2
  · obtain ⟨n, hn⟩ := b9 z
    exact ⟨n, (Wn n).mpr hn⟩
  · have K := co_u9 Z W (ty_atCode W tA) (nc z)
    intro i hi
    rw [r atCode (by decide), K.2.1, K.2.2] at hi
    rw [r atEndings (by decide), E.2.1]
    exact (c2 z).2 y i hi
/-- a call that touches the tape, the machine and own fields alone -/
theorem chI_s9 {C : zC} {n0 a : Nat} {L L' : Int} {ρ : Nat → Nat} {F : Nat → Nat → Prop} {κ τ : zS} (W : zW C n0 κ) (T : zT κ a = 15) (Z : zF F κ τ) (hT : ∀ f x, F f x → zT κ x = 7 ∨ zT κ x = 13 ∨ zT κ x = 15) (hO : ∀ f, f / 100 = 15 → f ≠ chDrawnWeights → f ≠ chDrawnTotals → zR τ f a = zR κ f a) (hta : taI τ (zR κ chTape a) ∧ tokI τ (zR κ chTape a)) (hma : maL τ (zR κ chMachine a)) (hE : chE9 τ a) (hL : (zI τ taLength (zR κ chTape a)).toInt ≤ L') (I : chI9 ρ κ a L) : chI9 ρ τ a L' := by
  obtain ⟨⟨A1, ⟨⟨A2, A3⟩, A4⟩, A5, A6⟩, B, ⟨C1, C2, C3, C4⟩, ⟨S1, S2⟩, ⟨D1, D2, D3, ⟨D4, D5⟩, D6, D7⟩, _, _, K0⟩ := I
  have tA := ty_chAtlas W T
  have tS := ty_chSolver W T
  have tO := ty_chOdds W T
  have o := fun f h1 h2 h3 => hO f h1 h2 h3
  have hB := chB_u9 W T Z hO (fun f _ => un_t9 hT tA (by decide) f) (fun f _ => un_t9 hT (ty_atStates W tA) (by decide) f) (fun f _ => un_t9 hT (ty_atEndings W tA) (by decide) f) (fun f _ => un_t9 hT (ty_atWeb W tA) (by decide) f) (fun _ f _ => un_t9 hT (ty_atCode W tA) (by decide) f) hma B
  have hS := rs_h9 W tS C1 Z (fun f w y => un_t9 hT y (by decide) f) (fun f w y => un_t9 hT y (by decide) f) (fun f w y => un_t9 hT y (by decide) f) (fun f _ _ => un_t9 hT tS (by decide) f)
  have nS : ∀ f, ¬ F f (zR κ chSolver a) := un_t9 hT tS (by decide)
  have nO : ∀ f, ¬ F f (zR κ chOdds a) := un_t9 hT tO (by decide)
  have P := pa_u9 Z W (ty_chParser W T) (fun f _ => un_t9 hT (ty_chParser W T) (by decide) f) A5
  have K1 := co_u9 Z W (ty_chCode W T) (fun f _ => un_t9 hT (ty_chCode W T) (by decide) f)
  have K2 := co_u9 Z W (ty_chSpare W T) (fun f _ => un_t9 hT (ty_chSpare W T) (by decide) f)
  have G := odd_u9 Z W tO (fun f _ => nO f)
  have H := ho_u9 (M := 3000) (D := 3) (S := 8192) Z W (ty_odGroups W tO) (fun f _ => un_t9 hT (ty_odGroups W tO) (by decide) f)
  have sv : zQ τ (zR κ soVisits (zR κ chSolver a)) = zQ κ (zR κ soVisits (zR κ chSolver a)) ∧ zN τ (zR κ soVisits (zR κ chSolver a)) = zN κ (zR κ soVisits (zR κ chSolver a)) := by
    have q := (Z.row W (show zr soVisits = some 25 by decide +kernel) (by decide) (tS.trans (by decide)) (nS _)).2.2
    rw [Z.r (nS _)] at q
    exact ⟨q, Z.l (ty_soVisits W tS)⟩
  have sw : zQ τ (zR κ soWorths (zR κ chSolver a)) = zQ κ (zR κ soWorths (zR κ chSolver a)) ∧ zN τ (zR κ soWorths (zR κ chSolver a)) = zN κ (zR κ soWorths (zR κ chSolver a)) := by
    have q := (Z.row W (show zr soWorths = some 25 by decide +kernel) (by decide) (tS.trans (by decide)) (nS _)).2.2
    rw [Z.r (nS _)] at q
    exact ⟨q, Z.l (ty_soWorths W tS)⟩
  have rS : ∀ f, zR τ f (zR κ chSolver a) = zR κ f (zR κ chSolver a) := fun f => Z.r (nS f)
  have iS : ∀ f, zI τ f (zR κ chSolver a) = zI κ f (zR κ chSolver a) := fun f => Z.i (nS f)
  refine ⟨⟨?_, ?_, ?_⟩, hB.1, ?_, ?_, ?_, hE, ?_, ?_⟩
  · rw [o chTape (by decide) (by decide) (by decide)]; exact hta
  · rw [o chCode (by decide) (by decide) (by decide), o chSpare (by decide) (by decide) (by decide)]
    exact ⟨⟨K1.1 A2, K2.1 A3⟩, A4⟩
  · rw [o chParser (by decide) (by decide) (by decide), o chTape (by decide) (by decide) (by decide)]
    exact ⟨P.1, P.2.trans A6⟩
  · unfold chC9
    rw [o chSolver (by decide) (by decide) (by decide), o chAtlas (by decide) (by decide) (by decide), o chShown (by decide) (by decide) (by decide), rS, rS, rS, Z.l (ty_soTaken W tS), hB.2.2.2 atWeb (by decide)]
    exact ⟨hS.1, C2, C3, C4⟩
  · unfold chS9
    rw [o chSolver (by decide) (by decide) (by decide), o chAtlas (by decide) (by decide) (by decide), iS, iS, rS, rS, sv.2, sw.1, sw.2, hB.2.2.1]
    refine ⟨fun z => ?_, fun z => ?_⟩
    · obtain ⟨x1, P9, x2, x3⟩ := S1 z
      refine ⟨x1, P9, x2, fun n hn => ?_⟩
      have y := x3 n ((hB.2.1 n).mp hn)
      exact ⟨vs_h9 W tS Z (fun f w y => un_t9 hT y (by decide) f) (fun f w y => un_t9 hT y (by decide) f) (fun f w y => un_t9 hT y (by decide) f) nS y.1, y.2⟩
    · obtain ⟨x1, x3⟩ := S2 z
      exact ⟨x1, fun n hn => x3 n ((hB.2.1 n).mp hn)⟩
  · unfold chD9
    rw [o chSolver (by decide) (by decide) (by decide), o chAtlas (by decide) (by decide) (by decide), o chOdds (by decide) (by decide) (by decide), G.2.2.2.2, G.2.2.1, G.2.2.2.1, G.1 odAtlas (by decide), G.1 odSolver (by decide), G.1 odCalc (by decide), G.1 odHeld (by decide), G.1 odGroups (by decide), rS, hB.2.2.2 atStates (by decide), hB.2.2.2 atEndings (by decide)]
    exact ⟨D1, D2, ⟨G.2.1 D3.1, D3.2⟩, ⟨H.1 D4, D5⟩, D6, D7⟩
  · rw [o chTape (by decide) (by decide) (by decide)]; exact hL
  · exact cK_z9 W T Z (o chSolver (by decide) (by decide) (by decide)) (o chOdds (by decide) (by decide) (by decide)) (fun b hb => un_t9 hT (zT_o9 W hb) (by decide) 0) (fun f _ => nS f) (Nat.le_of_eq (nE_z9 W tO Z (nO _)).symm) K0

end
section
set_option maxHeartbeats 1600000
/-! the class: ChanceWorks' calls that touch the tape and its own fields alone -/
/-- the tape's bytes and their number -/
def twF9 (t : Nat) : Nat → Nat → Prop := fun f b => b = t ∧ (f = taLength ∨ f = taBytes)
theorem Ta_widen_c2 {C : zC} {n0 : Nat} {a0 : Nat} {a1 : Int32} {κ : zS} {Q : zS → Prop} (W : zW C n0 κ) (Ta0 : zT κ a0 = 13)  (hp : taI κ a0 ∧ 0 ≤ a1.toInt ∧ a1.toInt ≤ 10240) (h : ∀ (κ' : zS), (zF (oneF taBytes a0) κ κ' ∧ taI κ' a0 ∧ zI κ' = zI κ ∧ a1.toInt ≤ (zN κ' (zR κ' taBytes a0)) ∧ (zN κ (zR κ taBytes a0)) ≤ (zN κ' (zR κ' taBytes a0)) ∧ (∀ j, j < zN κ (zR κ taBytes a0) → zA κ' (zR κ' taBytes a0) j = zA κ (zR κ taBytes a0) j)) → Q κ') : zRun C 2 mTa_widen [.ref a0, .int a1] κ (oV Q noX) := by
  refine Ta_widen_run W Ta0 ?_
  replace W := W.lo (Nat.le_trans W.1.2.1 W.1.2.2) (Nat.le_refl (zn κ))
  unfold w_Ta_widen_0
  obtain ⟨H, p0, p1⟩ := hp
  have B := H.1
  have bN := W.n (ty_taBytes W Ta0)
  refine ⟨fun c1 => ?_, fun c1 => ?_⟩
  · skip
    refine h _ ?_
    · rw [lei, ofn_i bN] at c1
      exact ⟨zF.rf, H, rfl, c1, Nat.le_refl _, fun _ _ => rfl⟩
  · skip
    intro T2
    have c9 : (zN κ (zR κ taBytes a0) : Int) < a1.toInt := by rw [lei, ofn_i bN] at c1; omega
    have e2 : (a1 * 2).toInt = a1.toInt * 2 := by rw [mul_i (by rw [t2i]; omega) (by rw [t2i]; omega), t2i]
    have kn := cnk (x := a1 * 2) (by omega)
    refine Ar_copyOfB_c W T2  ?_ (fun r3 κ_4 q5 => ?_)
    · exact ⟨⟨by rw [lei, t0i]; omega, by omega⟩, fun e => by
        have e9 := congrArg Int32.toInt e
        rw [ofn_i bN] at e9
        omega⟩
    intro W6
    intro M7
    intro T8
    refine ⟨?_, ?_⟩
    · rw [q5.1]; exact q5.2.2.1  -- b3
    intro κ_9 hκ_9
    intro W10
    refine h _ ?_
    · have h9 : κ_9 = uo κ_4 taBytes a0 (zn κ) := by rw [hκ_9, q5.1]
      obtain ⟨F9, u1, u2, u3, u4, u5, -⟩ := gr_f (f := taBytes) W (by decide +kernel) (by decide) Ta0 (by decide) q5.2 h9 (by omega) (by omega)
      refine ⟨F9, ?_, u1, ?_, ?_, fun j hj => ?_⟩
      · unfold taI
        rw [u1, u3, u4, u2 taKinds a0 (fun z => absurd z.1 (by decide)), u2 taPlaces a0 (fun z => absurd z.1 (by decide)), u2 taLengths a0 (fun z => absurd z.1 (by decide)), (u5 _ _ (ty_taKinds W Ta0)).1, (u5 _ _ (ty_taPlaces W Ta0)).1, (u5 _ _ (ty_taLengths W Ta0)).1]
        exact ⟨⟨H.1.1, by omega, by omega, by omega⟩, H.2⟩
      · rw [u3, u4]; omega
      · rw [u3, u4]; omega
      · rw [u3, h9]
        exact q5.2.2.2.1 j (by omega) hj

/-- bytes written of a word -/
def adI9 (κ : zS) (a0 : Nat) (w : Int32) (k : Int) (τ : zS) : Prop := (∀ j, j < (zI κ taLength a0).toInt.toNat → zA τ (zR τ taBytes a0) j = zA κ (zR κ taBytes a0) j) ∧ (∀ i : Nat, (i : Int) < k → zA τ (zR τ taBytes a0) ((zI κ taLength a0).toInt.toNat + i) = bw9 w i)
theorem ad_09 {κ : zS} {a0 : Nat} {w : Int32} : adI9 κ a0 w ((24 - (24 : Int32).toInt) / 8) κ := ⟨fun _ _ => rfl, fun i hi => absurd hi (by show ¬ (i : Int) < 0; omega)⟩
theorem ua_99 {κ : zS} {r i j : Nat} {x : Int32} : zA (ua κ r i x) r j = if j = i then x else zA κ r j := by
  show (if r = r then upd (κ.2.2.2.2.1 r) i x else κ.2.2.2.2.1 r) j = _
  rw [if_pos rfl]
  unfold upd
  rfl
theorem bw_99 {w l : Int32} {i : Nat} (h0 : 0 ≤ l.toInt) (h1 : l.toInt ≤ 24) (h2 : l.toInt % 8 = 0) (hi : (i : Int) = (24 - l.toInt) / 8) : vp_nar .byte (Int8.toInt32 (Int32.toInt8 (w >>> (l &&& 31)))) = bw9 w i := by
  have e : l = (24 : Int32) - 8 * Int32.ofNat i := by
    have k : l.toInt = 24 ∨ l.toInt = 16 ∨ l.toInt = 8 ∨ l.toInt = 0 := by omega
    rcases k with k | k | k | k
    · have q : i = 0 := by omega
      rw [q]; exact Int32.toInt_inj.mp (k.trans rfl)
    · have q : i = 1 := by omega
      rw [q]; exact Int32.toInt_inj.mp (k.trans rfl)
    · have q : i = 2 := by omega
      rw [q]; exact Int32.toInt_inj.mp (k.trans rfl)
    · have q : i = 3 := by omega
      rw [q]; exact Int32.toInt_inj.mp (k.trans rfl)
  unfold bw9
  rw [← e]
theorem ad_s9 {κ τ υ : zS} {a0 : Nat} {w l : Int32} (hl : 0 ≤ (zI κ taLength a0).toInt) (h1 : l.toInt ≤ 24) (h0 : ¬ l.toInt < 0) (h2 : l.toInt % 8 = 0) (hN : (zI τ taLength a0).toInt ≤ 67108864) (ml : (zI τ taLength a0).toInt * 8 = (zI κ taLength a0).toInt * 8 + (24 - l.toInt)) (mR : zR τ = zR κ) (h : adI9 κ a0 w ((24 - l.toInt) / 8) τ) (hu : ∀ j, zA υ (zR υ taBytes a0) j = if j = (zI τ taLength a0).toNatClampNeg then vp_nar .byte (Int8.toInt32 (Int32.toInt8 (w >>> (l &&& 31)))) else zA τ (zR τ taBytes a0) j) : adI9 κ a0 w ((24 - (l.toInt - 8)) / 8) υ := by
  have ci : (zI τ taLength a0).toNatClampNeg = (zI κ taLength a0).toInt.toNat + ((24 - l.toInt) / 8).toNat := by
    have z := cnk (x := zI τ taLength a0) (by omega)
    omega
  refine ⟨fun j hj => ?_, fun i hi => ?_⟩
  · rw [hu, if_neg (by omega)]
    exact h.1 j hj
  · rw [hu]
    by_cases q : (i : Int) = (24 - l.toInt) / 8
    · rw [if_pos (by omega)]
      exact bw_99 (by omega) h1 h2 q
    · rw [if_neg (by omega)]
      exact h.2 i (by omega)
theorem Ta_addWord_c2 {C : zC} {n0 : Nat} {a0 : Nat} {a1 : Int32} {κ : zS} {Q : zS → Prop} (W : zW C n0 κ) (Ta0 : zT κ a0 = 13)  (hp : taI κ a0 ∧ (zI κ taLength a0).toInt + 4 ≤ (zN κ (zR κ taBytes a0))) (h : ∀ (κ' : zS), (zF (twF9 a0) κ κ' ∧ taI κ' a0 ∧ zR κ' = zR κ ∧ zN κ' = zN κ ∧ (zI κ' taLength a0).toInt = (zI κ taLength a0).toInt + 4 ∧ (∀ f, f ≠ taLength → zI κ' f a0 = zI κ f a0) ∧ adI9 κ a0 a1 4 κ') → Q κ') : zRun C 0 mTa_addWord [.ref a0, .int a1] κ (oV Q noX) := by
  refine Ta_addWord_run W Ta0 ?_
  replace W := W.lo (Nat.le_trans W.1.2.1 W.1.2.2) (Nat.le_refl (zn κ))
  unfold w_Ta_addWord_0
  obtain ⟨H, p0⟩ := hp
  have B := H.1
  have bN := W.n (ty_taBytes W Ta0)
  unfold w_Ta_addWord_3
  refine ⟨fun n l0 l1 l2 τ => n = (l2.toInt + 8).toNat ∧ (a0 = l0 ∧ a1 = l1 ∧ (-8 ≤ l2.toInt ∧ l2.toInt ≤ 24 ∧ l2.toInt % 8 = 0) ∧ zF (twF9 a0) κ τ ∧ zR τ = zR κ ∧ zN τ = zN κ ∧ (∀ f, f ≠ taLength → zI τ f a0 = zI κ f a0) ∧ (zI τ taLength a0).toInt * 8 = (zI κ taLength a0).toInt * 8 + (24 - l2.toInt) ∧ adI9 κ a0 a1 ((24 - l2.toInt) / 8) τ), ⟨_, rfl, ?_⟩, ?_⟩
  · exact ⟨rfl, rfl, by decide, zF.rf, rfl, rfl, fun _ _ => rfl, by show _ = _ + ((24 : Int) - 24); omega, ad_09⟩  -- j1
  rintro n3 _ _ x3_2 κ3 W3 T3_0 ⟨hn3, rfl, rfl, i3⟩
  obtain ⟨⟨m0, m1, m2⟩, F, mR, mN, mI, ml, mA⟩ := i3
  refine ⟨fun c1 => ?_, fun c1 => ?_⟩
  · skip
    refine h _ ?_
    · rw [lti, t0i] at c1
      have e : (zI κ3 taLength a0).toInt = (zI κ taLength a0).toInt + 4 := by omega
      have e8 : x3_2.toInt = -8 := by omega
      rw [e8, show ((24 : Int) - -8) / 8 = 4 by decide] at mA
      refine ⟨F, ?_, mR, mN, e, mI, mA⟩
      unfold taI
      rw [mR, mN, e, mI taTotal (by decide)]
      exact ⟨⟨by omega, by omega, H.1.2.2⟩, H.2⟩
  · skip
    refine ⟨fun c2 => ?_, fun c2 => ?_⟩
    · skip
      refine h _ ?_
      · exfalso
        rw [lti, t0i] at c1
        rw [mR, mN, lei, ofn_i bN] at c2
        omega
    · skip
      refine ⟨?_, ?_⟩
      · rw [lti, t0i] at c1
        rw [mR, mN, lei, ofn_i bN] at c2
        rw [mR, mN, inb_iff]
        omega
      intro κ_3 hκ_3
      intro W4
      intro κ_5 hκ_5
      intro W6
      intro x7 hx7
      rw [lti, t0i] at c1
      have f8 : (-8 : Int32).toInt = -8 := rfl
      have e7 : x7.toInt = x3_2.toInt - 8 := by rw [hx7, add_i (by rw [f8]; omega) (by rw [f8]; omega), f8]; omega
      refine ⟨_, ?_, rfl, ?_⟩
      · rw [hn3, e7]; omega  -- d5
      · have f1 : zF (twF9 a0) κ3 κ_3 := by rw [hκ_3]; exact zF_ua (by rw [ow_taBytes W3 T3_0]; exact ⟨rfl, Or.inr rfl⟩)
        have f2 : zF (twF9 a0) κ_3 κ_5 := by rw [hκ_5]; exact zF_ui ⟨rfl, Or.inl rfl⟩
        have i3 : zI κ_3 = zI κ3 := by rw [hκ_3]; rfl
        have is : zI κ_5 taLength a0 = zI κ3 taLength a0 + 1 := by
          rw [hκ_5]
          refine (if_pos ⟨rfl, rfl⟩).trans ?_
          rw [i3]
        have ts : (zI κ_5 taLength a0).toInt = (zI κ3 taLength a0).toInt + 1 := by rw [is, add_i (by rw [t1i]; omega) (by rw [t1i]; omega), t1i]
        refine ⟨rfl, rfl, ⟨by omega, by omega, by omega⟩, (F.tr f1).tr f2, by rw [hκ_5, hκ_3]; exact mR, by rw [hκ_5, hκ_3]; exact mN, fun f hf => ?_, by rw [ts]; omega, ?_⟩
        · rw [hκ_5]
          exact (if_neg (fun z => hf z.1)).trans ((congrFun (congrFun i3 f) a0).trans (mI f hf))
        · rw [e7]
          exact ad_s9 (by omega) m1 c1 m2 (by omega) ml mR mA (fun j => by rw [hκ_5, hκ_3]; exact ua_99)


theorem tw_9 {C : zC} {n0 t : Nat} {κ τ : zS} (W : zW C n0 κ) (T : zT κ t = 13) (Z : zF (twF9 t) κ τ) (h : (zN κ (zR κ taBytes t)) ≤ (zN τ (zR τ taBytes t))) (H : tokI κ t) : tokI τ t := by
  have n : ∀ f, f ≠ taLength → f ≠ taBytes → ¬ twF9 t f t := fun f h1 h2 z => z.2.elim h1 h2
  have p := (Z.row W (show zr taPlaces = some 20 by decide +kernel) (by decide) T (n taPlaces (by decide) (by decide))).1
  have l := (Z.row W (show zr taLengths = some 20 by decide +kernel) (by decide) T (n taLengths (by decide) (by decide))).1
  unfold tokI
  rw [p, l, Z.r (n taKinds (by decide) (by decide)), Z.l (ty_taKinds W T)]
  intro i hi
  have y := H i hi
  exact ⟨y.1, y.2.1, by omega⟩
theorem chE_u9 {C : zC} {n0 a : Nat} {F : Nat → Nat → Prop} {κ τ : zS} (W : zW C n0 κ) (T : zT κ a = 15) (Z : zF F κ τ) (n : un9 F a 15) (E : chE9 κ a) : chE9 τ a ∧ (∀ f, f / 100 = 15 → zR τ f a = zR κ f a) ∧ zI τ chTolds a = zI κ chTolds a := by
  have r : ∀ f, f / 100 = 15 → zR τ f a = zR κ f a := fun f hf => Z.r (n f hf)
  have i : zI τ chTolds a = zI κ chTolds a := Z.i (n _ (by decide))
  refine ⟨?_, r, i⟩
  unfold chE9 dwI9
  rw [r chTold (by decide), r chRecord (by decide), r chLastShared (by decide), r chDrawnWeights (by decide), r chDrawnTotals (by decide), i, Z.l (ty_chTold W T), Z.l (ty_chRecord W T), Z.l (ty_chLastShared W T), Z.l (ty_chDrawnWeights W T), Z.l (ty_chDrawnTotals W T)]
  exact E
/-- a call that touches the tape's bytes alone -/
theorem chI_t9 {C : zC} {n0 a : Nat} {L L' : Int} {ρ : Nat → Nat} {κ τ : zS} (W : zW C n0 κ) (T : zT κ a = 15) (Z : zF (twF9 (zR κ chTape a)) κ τ) (h : (zN κ (zR κ taBytes (zR κ chTape a))) ≤ (zN τ (zR τ taBytes (zR κ chTape a)))) (hta : taI τ (zR κ chTape a)) (hL : (zI τ taLength (zR κ chTape a)).toInt ≤ L') (I : chI9 ρ κ a L) : chI9 ρ τ a L' ∧ zI τ chTolds a = zI κ chTolds a := by
  have tt := ty_chTape W T
  have tm := ty_chMachine W T
  have un : ∀ x K, zT κ x = K → K ≠ 13 → un9 (twF9 (zR κ chTape a)) x K := fun x K h1 h2 f _ z => by
    rw [z.1, tt] at h1
    exact h2 h1.symm
  have E := chE_u9 W T Z (un a 15 T (by decide)) I.2.2.2.2.2.1
  have ma : maL κ (zR κ chMachine a) := by
    have y := I.2.1.1.2.1
    rw [I.2.1.2.1] at y
    exact y
  refine ⟨chI_s9 W T Z (fun f x z => Or.inr (Or.inl (by rw [z.1]; exact tt))) (fun f hf _ _ => E.2.1 f hf) ⟨hta, tw_9 W tt Z h I.1.1.2⟩ (ma_u9 Z W tm (un _ 7 tm (by decide)) ma) E.1 hL I, E.2.2⟩
/-- on the way of feed -/
def fdI9 (G : Nat → Int32) (κ τ : zS) (t : Nat) (k : Int) : Prop := ((∀ j, j < (zI κ taLength t).toInt.toNat → zA τ (zR τ taBytes t) j = zA κ (zR κ taBytes t) j) ∧ (∀ i : Nat, (i : Int) < k → zA τ (zR τ taBytes t) ((zI κ taLength t).toInt.toNat + i) = G i)) ∧ zF (twF9 t) κ τ ∧ taI τ t ∧ (zI τ taLength t).toInt = (zI κ taLength t).toInt + k ∧ ((zI κ taLength t).toInt + 20 ≤ (zN τ (zR τ taBytes t)) ∧ (zN κ (zR κ taBytes t)) ≤ (zN τ (zR τ taBytes t)))
theorem fd_s9 {G : Nat → Int32} {w : Int32} {κ τ σ : zS} {t : Nat} {k m : Int} (hl : 0 ≤ (zI κ taLength t).toInt) (hk : 0 ≤ k) (hG : ∀ i, i < 4 → G (k.toNat + i) = bw9 w i) (I : fdI9 G κ τ t k) (hm : m = k + 4) (q : zF (twF9 t) τ σ ∧ taI σ t ∧ zR σ = zR τ ∧ zN σ = zN τ ∧ (zI σ taLength t).toInt = (zI τ taLength t).toInt + 4 ∧ (∀ f, f ≠ taLength → zI σ f t = zI τ f t) ∧ adI9 τ t w 4 σ) : fdI9 G κ σ t m := by
  obtain ⟨⟨y1, y2⟩, Z, A, l, b1, b2⟩ := I
  have qa := q.2.2.2.2.2.2
  have yb : (∀ j, j < (zI κ taLength t).toInt.toNat → zA σ (zR σ taBytes t) j = zA κ (zR κ taBytes t) j) ∧ (∀ i : Nat, (i : Int) < m → zA σ (zR σ taBytes t) ((zI κ taLength t).toInt.toNat + i) = G i) := by
    refine ⟨fun j hj => (qa.1 j (by omega)).trans (y1 j hj), fun i hi => ?_⟩
    by_cases c : (i : Int) < k
    · exact (qa.1 _ (by omega)).trans (y2 i c)
    · have z := qa.2 (i - k.toNat) (by omega)
      have z2 := hG (i - k.toNat) (by omega)
      rw [show (zI τ taLength t).toInt.toNat + (i - k.toNat) = (zI κ taLength t).toInt.toNat + i by omega] at z
      rw [show k.toNat + (i - k.toNat) = i by omega] at z2
      exact z.trans z2.symm
  refine ⟨yb, Z.tr q.1, q.2.1, by rw [q.2.2.2.2.1]; omega, ?_⟩
  rw [q.2.2.1, q.2.2.2.1]
  exact ⟨b1, b2⟩
theorem tw_r9 {κ τ : zS} {t a : Nat} (Z : zF (twF9 t) κ τ) : zR τ chTape a = zR κ chTape a := Z.r (fun z => z.2.elim (fun y => absurd y (by decide)) (fun y => absurd y (by decide)))
theorem by9_0 {a1 a2 a3 a4 a5 : Int32} {i : Nat} (hi : i < 4) : by9 a1 a2 a3 a4 a5 ((0 : Int).toNat + i) = bw9 a1 i := by
  have k : i = 0 ∨ i = 1 ∨ i = 2 ∨ i = 3 := by omega
  rcases k with rfl | rfl | rfl | rfl <;> rfl
theorem by9_1 {a1 a2 a3 a4 a5 : Int32} {i : Nat} (hi : i < 4) : by9 a1 a2 a3 a4 a5 ((4 : Int).toNat + i) = bw9 a2 i := by
  have k : i = 0 ∨ i = 1 ∨ i = 2 ∨ i = 3 := by omega
  rcases k with rfl | rfl | rfl | rfl <;> rfl
theorem by9_2 {a1 a2 a3 a4 a5 : Int32} {i : Nat} (hi : i < 4) : by9 a1 a2 a3 a4 a5 ((8 : Int).toNat + i) = bw9 a3 i := by
  have k : i = 0 ∨ i = 1 ∨ i = 2 ∨ i = 3 := by omega
  rcases k with rfl | rfl | rfl | rfl <;> rfl
theorem by9_3 {a1 a2 a3 a4 a5 : Int32} {i : Nat} (hi : i < 4) : by9 a1 a2 a3 a4 a5 ((12 : Int).toNat + i) = bw9 a4 i := by
  have k : i = 0 ∨ i = 1 ∨ i = 2 ∨ i = 3 := by omega
  rcases k with rfl | rfl | rfl | rfl <;> rfl
theorem by9_4 {a1 a2 a3 a4 a5 : Int32} {i : Nat} (hi : i < 4) : by9 a1 a2 a3 a4 a5 ((16 : Int).toNat + i) = bw9 a5 i := by
  have k : i = 0 ∨ i = 1 ∨ i = 2 ∨ i = 3 := by omega
  rcases k with rfl | rfl | rfl | rfl <;> rfl
theorem Ch_feed_c {C : zC} {n0 : Nat} {a0 : Nat} {a1 : Int32} {a2 : Int32} {a3 : Int32} {a4 : Int32} {a5 : Int32} {κ : zS} {Q : Int32 → zS → Prop} {X : zXp} (W : zW C n0 κ) (Ta0 : zT κ a0 = 15) (ρ : Nat → Nat) (L9 : Int) (hp : chI9 ρ κ a0 L9 ∧ L9 ≤ 10220) (h : ∀ (v : Int32) (κ' : zS), (chI9 ρ κ' a0 (L9 + 20) ∧ (∃ F, zF F κ κ') ∧ ((oC9 κ' a0 = fdO9 (oC9 κ a0) (by9 a1 a2 a3 a4 a5) ∧ kC7 κ κ' a0) ∧ kA8 κ κ' a0)) → Q v κ') (hx : ∀ (cls : String) (κ' : zS), (False) → X cls κ') : zRun C 8 mCh_feed [.ref a0, .int a1, .int a2, .int a3, .int a4, .int a5] κ (oI Q X) := by
  refine Ch_feed_run W Ta0 ?_
  replace W := W.lo (Nat.le_trans W.1.2.1 W.1.2.2) (Nat.le_refl (zn κ))
  unfold w_Ch_feed_0
  obtain ⟨I, l9⟩ := hp
  have A := I.1.1
  have B := A.1.1
  have hl := I.2.2.2.2.2.2.1
  have e20 : (20 : Int32).toInt = 20 := rfl
  have el : (zI κ taLength (zR κ chTape a0) + 20).toInt = (zI κ taLength (zR κ chTape a0)).toInt + 20 := by rw [add_i (by rw [e20]; omega) (by rw [e20]; omega), e20]
  refine ⟨fun c1 => ?_, fun c1 => ?_⟩
  · skip
    intro T2
    refine Ta_widen_c2 W T2  ?_ (fun κ_3 q4 => ?_)
    · exact ⟨A.1, by omega, by omega⟩  -- p1
    intro W5
    intro M6
    intro T7
    have J0 : fdI9 (by9 a1 a2 a3 a4 a5) κ κ_3 (zR κ chTape a0) 0 := ⟨⟨fun j hj => q4.2.2.2.2.2 j (by omega), fun i hi => absurd hi (by omega)⟩, q4.1.mono (fun f b z => ⟨z.2, Or.inr z.1⟩), q4.2.1, by rw [q4.2.2.1]; omega, by have y := q4.2.2.2.1; omega, q4.2.2.2.2.1⟩
    rw [tw_r9 J0.2.1] at T7 ⊢
    refine Ta_addWord_c2 W5 T7  ?_ (fun κ_8 q9 => ?_)
    · exact ⟨J0.2.2.1, by have y := J0.2.2.2; omega⟩  -- p2
    intro W10
    intro M11
    intro T12
    have J1 := fd_s9 (m := 4) (w := a1) (by omega) (by omega) (fun i hi => by9_0 hi) J0 (by omega) q9
    rw [tw_r9 J1.2.1] at T12 ⊢
    refine Ta_addWord_c2 W10 T12  ?_ (fun κ_13 q14 => ?_)
    · exact ⟨J1.2.2.1, by have y := J1.2.2.2; omega⟩  -- p3
    intro W15
    intro M16
    intro T17
    have J2 := fd_s9 (m := 8) (w := a2) (by omega) (by omega) (fun i hi => by9_1 hi) J1 (by omega) q14
    rw [tw_r9 J2.2.1] at T17 ⊢
    refine Ta_addWord_c2 W15 T17  ?_ (fun κ_18 q19 => ?_)
    · exact ⟨J2.2.2.1, by have y := J2.2.2.2; omega⟩  -- p4
    intro W20
    intro M21
    intro T22
    have J3 := fd_s9 (m := 12) (w := a3) (by omega) (by omega) (fun i hi => by9_2 hi) J2 (by omega) q19
    rw [tw_r9 J3.2.1] at T22 ⊢
    refine Ta_addWord_c2 W20 T22  ?_ (fun κ_23 q24 => ?_)
    · exact ⟨J3.2.2.1, by have y := J3.2.2.2; omega⟩  -- p5
    intro W25
    intro M26
    intro T27
    have J4 := fd_s9 (m := 16) (w := a4) (by omega) (by omega) (fun i hi => by9_3 hi) J3 (by omega) q24
    rw [tw_r9 J4.2.1] at T27 ⊢
    refine Ta_addWord_c2 W25 T27  ?_ (fun κ_28 q29 => ?_)
    · exact ⟨J4.2.2.1, by have y := J4.2.2.2; omega⟩  -- p6
    intro W30
    intro M31
    refine h _ _ ?_
    · have J5 := fd_s9 (m := 20) (w := a5) (by omega) (by omega) (fun i hi => by9_4 hi) J4 (by omega) q29
      have R := chI_t9 (L' := L9 + 20) W Ta0 J5.2.1 J5.2.2.2.2.2 J5.2.2.1 (by have y := J5.2.2.2.1; omega) I
      refine ⟨R.1, ⟨_, J5.2.1⟩, ⟨?_, kC_z7 W Ta0 J5.2.1 (fun z => z.2.elim (fun y => absurd y (by decide)) (fun y => absurd y (by decide))) (fun z => z.2.elim (fun y => absurd y (by decide)) (fun y => absurd y (by decide))) (fun z => z.2.elim (fun y => absurd y (by decide)) (fun y => absurd y (by decide))) (fun z => z.2.elim (fun y => absurd y (by decide)) (fun y => absurd y (by decide))) (fun z => z.2.elim (fun y => absurd y (by decide)) (fun y => absurd y (by decide))) (fun z => z.2.elim (fun y => absurd y (by decide)) (fun y => absurd y (by decide))) (fun z => z.2.elim (fun y => absurd y (by decide)) (fun y => absurd y (by decide))) (fun f hf z => z.2.elim (fun y => absurd hf (by rw [y]; decide)) (fun y => absurd hf (by rw [y]; decide)))⟩, ⟨kA_z7 W Ta0 J5.2.1 (fun z => z.2.elim (fun y => absurd y (by decide)) (fun y => absurd y (by decide))) (fun f hf _ z => z.2.elim (fun y => absurd hf (by rw [y]; decide)) (fun y => absurd hf (by rw [y]; decide))) (fun f hf z => z.2.elim (fun y => absurd hf (by rw [y]; decide)) (fun y => absurd hf (by rw [y]; decide))) (fun f hf z => z.2.elim (fun y => absurd hf (by rw [y]; decide)) (fun y => absurd hf (by rw [y]; decide))), kA_u16 W Ta0 J5.2.1 (fun f x z => by rw [z.1, ty_chTape W Ta0]; decide) (fun f q z => by rcases q with q | q | q | q <;> rw [q] at z <;> exact z.2.elim (fun y => absurd y (by decide)) (fun y => absurd y (by decide)))⟩⟩
      have l5 : zI κ_28 taLength (zR κ chTape a0) = zI κ taLength (zR κ chTape a0) + 20 := Int32.toInt_inj.mp (by rw [el]; exact J5.2.2.2.1)
      have fc : zI κ_28 chFaultCode a0 = zI κ chFaultCode a0 := J5.2.1.i (fun z => z.2.elim (fun y => absurd y (by decide)) (fun y => absurd y (by decide)))
      unfold oC9
      rw [tw_r9 J5.2.1, l5, fc]
      exact fd_m9 (by omega) (by omega) rfl J5.1.1 (fun i hi => J5.1.2 i (by omega))
  · skip
    intro κ_32 hκ_32
    refine hx _ _ ?_
    · have e65 : (65536 : Int32).toInt = 65536 := rfl
      rw [lei, el, e65] at c1
      omega

theorem Ch_end_c {C : zC} {n0 : Nat} {a0 : Nat} {a1 : Int32} {κ : zS} {Q : zS → Prop} {X : zXp} (W : zW C n0 κ) (Ta0 : zT κ a0 = 15) (ρ : Nat → Nat) (L9 : Int) (hp : chI9 ρ κ a0 L9) (h : ∀ (κ' : zS), (chI9 ρ κ' a0 L9 ∧ (∃ F, zF F κ κ') ∧ ((oC9 κ' a0 = trO9 (oC9 κ a0) a1 ∧ kC7 κ κ' a0) ∧ kA8 κ κ' a0)) → Q κ') (hx : ∀ (cls : String) (κ' : zS), (cls = "java/lang/IllegalArgumentException" ∧ κ' = ut κ ∧ trO9 (oC9 κ a0) a1 = oC9 κ a0) → X cls κ') : zRun C 8 mCh_end [.ref a0, .int a1] κ (oV Q X) := by
  refine Ch_end_run W Ta0 ?_
  replace W := W.lo (Nat.le_trans W.1.2.1 W.1.2.2) (Nat.le_refl (zn κ))
  unfold w_Ch_end_0
  refine ⟨fun c1 => ?_, fun c1 => ?_⟩
  · skip
    intro κ_2 hκ_2
    refine hx _ _ ?_
    · refine ⟨rfl, hκ_2, tr_n9 (fun z => ?_)⟩
      have z1 := z.1
      rw [lti, t0i] at c1
      rw [lei, t0i] at z1
      omega
  · skip
    refine ⟨fun c3 => ?_, fun c3 => ?_⟩
    · skip
      intro κ_4 hκ_4
      intro W5
      refine h _ ?_
      · have Z : zF (twF9 (zR κ chTape a0)) κ κ_4 := by rw [hκ_4]; exact zF_ui ⟨rfl, Or.inl rfl⟩
        have R4 : zR κ_4 = zR κ := by rw [hκ_4]; rfl
        have N4 : zN κ_4 = zN κ := by rw [hκ_4]; rfl
        have i4 : zI κ_4 taLength (zR κ chTape a0) = a1 := by rw [hκ_4]; exact if_pos ⟨rfl, rfl⟩
        have i5 : zI κ_4 taTotal (zR κ chTape a0) = zI κ taTotal (zR κ chTape a0) := by rw [hκ_4]; rfl
        have B := hp.1.1.1
        have B1 := B.1
        have cc : 0 ≤ a1 ∧ a1 ≤ zI κ taLength (zR κ chTape a0) := ⟨by rw [lti, t0i] at c1; rw [lei, t0i]; omega, c3⟩
        rw [lti, t0i] at c1
        rw [lei] at c3
        have hl := hp.2.2.2.2.2.2
        have R := chI_t9 (L' := L9) W Ta0 Z (by rw [R4, N4]; exact Nat.le_refl _) (by
          unfold taI
          rw [R4, N4, i4, i5]
          exact ⟨⟨by omega, by omega, B.1.2.2⟩, B.2⟩) (by rw [i4]; omega) hp
        refine ⟨R.1, ⟨_, Z⟩, ⟨?_, by rw [hκ_4]; rfl, by rw [hκ_4]; exact cu_f7 W (ty_chCode W Ta0) (zF_ui (F := fun f b => f = taLength) rfl) (fun f hf z => absurd hf (by rw [z]; decide)), by rw [hκ_4]; rfl, by rw [hκ_4]; rfl⟩, ⟨kA_z7 (F := fun f b => f = taLength) W Ta0 (by rw [hκ_4]; exact zF_ui rfl) (by decide) (fun f hf _ z => absurd hf (by rw [z]; decide)) (fun f hf z => absurd hf (by rw [z]; decide)) (fun f hf z => absurd hf (by rw [z]; decide)), kA_u16 W Ta0 Z (fun f x z => by rw [z.1, ty_chTape W Ta0]; decide) (fun f q z => by rcases q with q | q | q | q <;> rw [q] at z <;> exact z.2.elim (fun y => absurd y (by decide)) (fun y => absurd y (by decide)))⟩⟩
        have A4 : zA κ_4 = zA κ := by rw [hκ_4]; rfl
        have f4 : zI κ_4 chFaultCode a0 = zI κ chFaultCode a0 := by rw [hκ_4]; rfl
        unfold oC9
        rw [tr_m9 cc, R4, A4, i4, f4]
    · skip
      intro κ_6 hκ_6
      refine hx _ _ ?_
      · exact ⟨rfl, hκ_6, tr_n9 (fun z => c3 z.2)⟩

theorem chI_o9 {C : zC} {n0 a : Nat} {L : Int} {ρ : Nat → Nat} {F : Nat → Nat → Prop} {κ τ : zS} (W : zW C n0 κ) (T : zT κ a = 15) (Z : zF F κ τ) (hF : ∀ f x, F f x → x = a) (hO : ∀ f, f / 100 = 15 → f ≠ chDrawnWeights → f ≠ chDrawnTotals → zR τ f a = zR κ f a) (hE : chE9 τ a) (I : chI9 ρ κ a L) : chI9 ρ τ a L := by
  have tt := ty_chTape W T
  have tm := ty_chMachine W T
  have un : ∀ x K, zT κ x = K → K ≠ 15 → un9 F x K := fun x K h1 h2 f _ z => by
    rw [hF f x z, T] at h1
    exact h2 h1.symm
  have ma : maL κ (zR κ chMachine a) := by
    have y := I.2.1.1.2.1
    rw [I.2.1.2.1] at y
    exact y
  have A := ta_u9 Z W tt (un _ 13 tt (by decide)) I.1.1
  exact chI_s9 W T Z (fun f x z => Or.inr (Or.inr (by rw [hF f x z]; exact T))) hO A.1 (ma_u9 Z W tm (un _ 7 tm (by decide)) ma) hE (by rw [A.2]; exact I.2.2.2.2.2.2.1) I
theorem Ch_tell_c {C : zC} {n0 : Nat} {a0 : Nat} {a1 : Int32} {κ : zS} {Q : Int32 → zS → Prop} {X : zXp} (W : zW C n0 κ) (Ta0 : zT κ a0 = 15) (ρ : Nat → Nat) (L9 : Int) (hp : chI9 ρ κ a0 L9) (h : ∀ (v : Int32) (κ' : zS), (chI9 ρ κ' a0 L9 ∧ (∃ F, zF F κ κ') ∧ TL21 κ κ' a0 a1) → Q v κ') (hx : ∀ (cls : String) (κ' : zS), (cls = "java/lang/UnsupportedOperationException" ∧ κ' = ut κ ∧ ¬ zI κ chTolds a0 < 200) → X cls κ') : zRun C 8 mCh_tell [.ref a0, .int a1] κ (oI Q X) := by
  refine Ch_tell_run W Ta0 ?_
  replace W := W.lo (Nat.le_trans W.1.2.1 W.1.2.2) (Nat.le_refl (zn κ))
  unfold w_Ch_tell_0
  have E := hp.2.2.2.2.2.1
  have e200 : (200 : Int32).toInt = 200 := rfl
  refine ⟨fun c1 => ?_, fun c1 => ?_⟩
  · skip
    refine ⟨?_, ?_⟩
    · rw [lti, e200] at c1
      rw [inb_iff, E.1.1]
      have y := E.1.2
      omega
    intro κ_2 hκ_2
    intro W3
    intro κ_4 hκ_4
    intro W5
    refine h _ _ ?_
    · have o := W.o (show zr chTold = some 20 by decide +kernel) (by decide) (Ta0.trans (by decide))
      have Z : zF (fun f b => b = a0 ∧ (f = chTold ∨ f = chTolds)) κ κ_4 := zF.tr (κ1 := κ_2) (by
        rw [hκ_2]
        exact zF_ua (by rw [o]; exact ⟨rfl, Or.inl rfl⟩)) (by
        rw [hκ_4]
        exact zF_ui ⟨rfl, Or.inr rfl⟩)
      have R4 : zR κ_4 = zR κ := by rw [hκ_4, hκ_2]; rfl
      have N4 : zN κ_4 = zN κ := by rw [hκ_4, hκ_2]; rfl
      have i2 : zI κ_2 chTolds a0 = zI κ chTolds a0 := by rw [hκ_2]; rfl
      have i4 : zI κ_4 chTolds a0 = zI κ chTolds a0 + 1 := by
        rw [← i2, hκ_4]
        exact if_pos ⟨rfl, rfl⟩
      have c1' := c1
      rw [lti, e200] at c1'
      have y := E.1.2
      have ix := cn1 (x := zI κ chTolds a0) y.1 (by omega)
      refine ⟨chI_o9 W Ta0 Z (fun f x z => z.1) (fun f _ _ _ => by rw [R4]) ?_ hp, ⟨_, Z⟩, ⟨⟨oC_u9 W Ta0 Z (fun z => z.2.elim (fun y => absurd y (by decide)) (fun y => absurd y (by decide))) (fun z => z.2.elim (fun y => absurd y (by decide)) (fun y => absurd y (by decide))) (fun z => z.2.elim (fun y => absurd y (by decide)) (fun y => absurd y (by decide))) (fun z => z.2.elim (fun y => absurd y (by decide)) (fun y => absurd y (by decide))), kD_z7 W Ta0 Z (fun z => z.2.elim (fun y => absurd y (by decide)) (fun y => absurd y (by decide))) (fun z => z.2.elim (fun y => absurd y (by decide)) (fun y => absurd y (by decide))) (fun f hf z => z.2.elim (fun y => absurd hf (by rw [y]; decide)) (fun y => absurd hf (by rw [y]; decide))), pq_z23 W Ta0 Z (fun z => z.2.elim (fun y => absurd y (by decide)) (fun y => absurd y (by decide))) (fun z => z.2.elim (fun y => absurd y (by decide)) (fun y => absurd y (by decide))) (fun z => z.2.elim (fun y => absurd y (by decide)) (fun y => absurd y (by decide)))⟩, ⟨kA_z7 W Ta0 Z (fun z => z.2.elim (fun y => absurd y (by decide)) (fun y => absurd y (by decide))) (fun f hf _ z => z.2.elim (fun y => absurd hf (by rw [y]; decide)) (fun y => absurd hf (by rw [y]; decide))) (fun f hf z => z.2.elim (fun y => absurd hf (by rw [y]; decide)) (fun y => absurd hf (by rw [y]; decide))) (fun f hf z => z.2.elim (fun y => absurd hf (by rw [y]; decide)) (fun y => absurd hf (by rw [y]; decide))), kA_u16 W Ta0 Z (fun f x z => by rw [z.1, Ta0]; decide) (fun f q z => by rcases q with q | q | q | q <;> rw [q] at z <;> exact z.2.elim (fun y => absurd y (by decide)) (fun y => absurd y (by decide)))⟩, Or.inl ⟨c1, i4, ?_⟩⟩⟩
      rotate_left
      · rw [R4]
        have o2 : zA κ_4 (zR κ chTold a0) = zA κ_2 (zR κ chTold a0) := by rw [hκ_4]; rfl
        rw [o2, hκ_2]
        exact if_pos rfl
      unfold chE9 dwI9
      rw [R4, N4, i4, ix.2]
      exact ⟨⟨E.1.1, by omega, by omega⟩, E.2⟩
  · skip
    intro κ_6 hκ_6
    refine hx _ _ ?_
    · exact ⟨rfl, hκ_6, c1⟩  -- x3

theorem Ch_forget_c {C : zC} {n0 : Nat} {a0 : Nat} {κ : zS} {Q : Int32 → zS → Prop} (W : zW C n0 κ) (Ta0 : zT κ a0 = 15) (ρ : Nat → Nat) (L9 : Int) (hp : chI9 ρ κ a0 L9) (h : ∀ (v : Int32) (κ' : zS), (chI9 ρ κ' a0 L9 ∧ (∃ F, zF F κ κ') ∧ FG21 κ κ' a0) → Q v κ') : zRun C 0 mCh_forget [.ref a0] κ (oI Q noX) := by
  refine Ch_forget_run W Ta0 ?_
  replace W := W.lo (Nat.le_trans W.1.2.1 W.1.2.2) (Nat.le_refl (zn κ))
  unfold w_Ch_forget_0
  intro x1 hx1
  intro κ_2 hκ_2
  intro W3
  refine h _ _ ?_
  · have E := hp.2.2.2.2.2.1
    have Z : zF (fun f b => b = a0 ∧ f = chTolds) κ κ_2 := by rw [hκ_2]; exact zF_ui ⟨rfl, rfl⟩
    have R4 : zR κ_2 = zR κ := by rw [hκ_2]; rfl
    have N4 : zN κ_2 = zN κ := by rw [hκ_2]; rfl
    have i4 : zI κ_2 chTolds a0 = 0 := by rw [hκ_2]; exact if_pos ⟨rfl, rfl⟩
    refine ⟨chI_o9 W Ta0 Z (fun f x z => z.1) (fun f _ _ _ => by rw [R4]) ?_ hp, ⟨_, Z⟩, ⟨⟨oC_u9 W Ta0 Z (fun z => absurd z.2 (by decide)) (fun z => absurd z.2 (by decide)) (fun z => absurd z.2 (by decide)) (fun z => absurd z.2 (by decide)), kD_z7 W Ta0 Z (fun z => absurd z.2 (by decide)) (fun z => absurd z.2 (by decide)) (fun f hf z => absurd hf (by rw [z.2]; decide)), pq_z23 W Ta0 Z (fun z => absurd z.2 (by decide)) (fun z => absurd z.2 (by decide)) (fun z => absurd z.2 (by decide))⟩, ⟨kA_z7 W Ta0 Z (fun z => absurd z.2 (by decide)) (fun f hf _ z => absurd hf (by rw [z.2]; decide)) (fun f hf z => absurd hf (by rw [z.2]; decide)) (fun f hf z => absurd hf (by rw [z.2]; decide)), kA_u16 W Ta0 Z (fun f x z => by rw [z.1, Ta0]; decide) (fun f q z => by rcases q with q | q | q | q <;> rw [q] at z <;> exact absurd z.2 (by decide))⟩, i4⟩⟩
    unfold chE9 dwI9
    rw [R4, N4, i4]
    exact ⟨⟨E.1.1, by decide, by decide⟩, E.2⟩

/-- a play keeps all -/
theorem pf_q9 {C : zC} {n0 a : Nat} {L : Int} {ρ : Nat → Nat} {κ τ : zS} (W : zW C n0 κ) (T : zT κ a = 15) (I : chI9 ρ κ a L) (q : zF (pfF9 (zR κ chMachine a) a) κ τ ∧ (∀ f, f ≠ chDrawnWeights → f ≠ chDrawnTotals → zR τ f a = zR κ f a) ∧ mkI τ (zR κ chMachine a) ∧ dwI9 τ a) : chI9 ρ τ a L ∧ (∃ F, zF F κ τ) ∧ (oC9 τ a = oC9 κ a ∧ kC6 κ τ a) ∧ (kA7 κ τ a ∧ kV16 κ τ a ∧ kW16 κ τ a ∧ kS16 κ τ a) := by
  obtain ⟨Z, R, K, D⟩ := q
  have tt := ty_chTape W T
  have tm := ty_chMachine W T
  have am := ch_m9 W T
  have hT : ∀ f x, pfF9 (zR κ chMachine a) a f x → zT κ x = 7 ∨ zT κ x = 15 := fun f x z => by
    rcases z with z | z
    · left; rw [z]; exact tm
    · right; rw [z.1]; exact T
  have it : zI τ chTolds a = zI κ chTolds a := Z.i (fun z => by
    rcases z with z | ⟨_, z | z | z | z | z⟩
    · exact am.1 z
    all_goals exact absurd z (by decide))
  have A := ta_u9 Z W tt (fun f _ z => by rcases hT f _ z with y | y <;> rw [tt] at y <;> exact absurd y (by decide)) I.1.1
  have E := I.2.2.2.2.2.1
  refine ⟨chI_s9 W T Z (fun f x z => (hT f x z).elim Or.inl (fun y => Or.inr (Or.inr y))) (fun f _ h2 h3 => R f h2 h3) A.1 K.1 ?_ (by rw [A.2]; exact I.2.2.2.2.2.2.1) I, ⟨_, Z⟩, ⟨⟨oC_u9 W T Z (fun z => by
    rcases z with z | ⟨_, z | z | z | z | z⟩
    · exact am.1 z
    all_goals exact absurd z (by decide)) (fun z => by
    rcases z with z | ⟨_, z | z | z | z | z⟩
    · exact am.1 z
    all_goals exact absurd z (by decide)) (fun z => by rcases hT _ _ z with y | y <;> rw [tt] at y <;> exact absurd y (by decide)) (fun z => by rcases hT _ _ z with y | y <;> rw [tt] at y <;> exact absurd y (by decide)), kC_z6 W T Z (fun z => by
    rcases z with z | ⟨_, z | z | z | z | z⟩
    · exact am.1 z
    all_goals exact absurd z (by decide)) (fun z => by
    rcases z with z | ⟨_, z | z | z | z | z⟩
    · exact am.1 z
    all_goals exact absurd z (by decide)) (fun z => by
    rcases z with z | ⟨_, z | z | z | z | z⟩
    · exact am.1 z
    all_goals exact absurd z (by decide)) (fun z => by
    rcases z with z | ⟨_, z | z | z | z | z⟩
    · exact am.1 z
    all_goals exact absurd z (by decide)) (fun f _ z => by have tc := ty_chCode W T; rcases hT _ _ z with y | y <;> rw [tc] at y <;> exact absurd y (by decide))⟩, ⟨kA_z7 W T Z (fun z => by
    rcases z with z | ⟨_, z | z | z | z | z⟩
    · exact am.1 z
    all_goals exact absurd z (by decide)) (fun f _ _ z => by have tc := ty_chAtlas W T; rcases hT _ _ z with y | y <;> rw [tc] at y <;> exact absurd y (by decide)) (fun f _ z => by have tc := ty_atStates W (ty_chAtlas W T); rcases hT _ _ z with y | y <;> rw [tc] at y <;> exact absurd y (by decide)) (fun f _ z => by have tc := ty_atEndings W (ty_chAtlas W T); rcases hT _ _ z with y | y <;> rw [tc] at y <;> exact absurd y (by decide)), kV_z16 W T Z (fun f w e z => by rcases hT _ _ z with y | y <;> rw [e] at y <;> exact absurd y (by decide)) (fun f w e z => by rcases hT _ _ z with y | y <;> rw [e] at y <;> exact absurd y (by decide)) (fun z => by
    rcases z with z | ⟨_, z | z | z | z | z⟩
    · exact am.1 z
    all_goals exact absurd z (by decide)) (fun z => by have tc := ty_chSolver W T; rcases hT _ _ z with y | y <;> rw [tc] at y <;> exact absurd y (by decide)) (fun z => by have tc := ty_chSolver W T; rcases hT _ _ z with y | y <;> rw [tc] at y <;> exact absurd y (by decide)), kW_z16 W T Z (fun f w e z => by rcases hT _ _ z with y | y <;> rw [e] at y <;> exact absurd y (by decide)) (fun f w e z => by rcases hT _ _ z with y | y <;> rw [e] at y <;> exact absurd y (by decide)) (fun z => by
    rcases z with z | ⟨_, z | z | z | z | z⟩
    · exact am.1 z
    all_goals exact absurd z (by decide)) (fun z => by have tc := ty_chSolver W T; rcases hT _ _ z with y | y <;> rw [tc] at y <;> exact absurd y (by decide)) (fun z => by have tc := ty_chSolver W T; rcases hT _ _ z with y | y <;> rw [tc] at y <;> exact absurd y (by decide)), kS_z16 W Z (fun f w e z => by rcases hT _ _ z with y | y <;> rw [e] at y <;> exact absurd y (by decide)) (fun f w e z => by rcases hT _ _ z with y | y <;> rw [e] at y <;> exact absurd y (by decide)) (fun z => by
    rcases z with z | ⟨_, z | z | z | z | z⟩
    · exact am.1 z
    all_goals exact absurd z (by decide))⟩⟩⟩
  refine ⟨?_, ?_, D⟩
  · rw [R chTold (by decide) (by decide), it, Z.l (ty_chTold W T)]
    exact E.1
  · rw [R chRecord (by decide) (by decide), R chLastShared (by decide) (by decide), Z.l (ty_chRecord W T), Z.l (ty_chLastShared W T)]
    exact E.2.1
theorem pf_p9 {a : Nat} {L : Int} {ρ : Nat → Nat} {κ : zS} {x : Int32} (I : chI9 ρ κ a L) (hx : x.toInt ≤ 2000) : maL κ (zR κ chMachine a) ∧ coI κ (zR κ chCode a) ∧ dwI9 κ a ∧ ((zN κ (zR κ chRecord a)) = 5 ∧ (zN κ (zR κ chLastShared a)) = 34 ∧ (zN κ (zR κ chTold a)) = 200 ∧ (zI κ chTolds a).toInt ≤ 200) ∧ atH κ (zR κ chAtlas a) ∧ (zI κ atExplored (zR κ chAtlas a) ≠ 0 → atM κ (zR κ chAtlas a)) ∧ x.toInt ≤ 2000 := by
  have ma := I.2.1.1.2.1
  rw [I.2.1.2.1] at ma
  have E := I.2.2.2.2.2.1
  refine ⟨ma, I.1.2.1.1.1, E.2.2, ⟨E.2.1.1, E.2.1.2, E.1.1, E.1.2.2⟩, I.2.1.1.1.2.2.1, fun z => ?_, hx⟩
  obtain ⟨n, hn⟩ := I.2.1.1.2.2.2.2 z
  exact hn.1

end
section
set_option maxHeartbeats 1600000
/-! the class: ChanceWorks' calls that change nothing -/
theorem ch_x9 {a : Nat} {L : Int} {ρ : Nat → Nat} {κ : zS} (I : chI9 ρ κ a L) (ex : zI κ atExplored (zR κ chAtlas a) ≠ 0) : (∃ n, atW κ (zR κ chAtlas a) n) ∧ atG κ (zR κ chAtlas a) := by
  refine ⟨I.2.1.1.2.2.2.2 ex, I.2.1.1.1.2.2.1, ?_⟩
  rw [(I.2.1.2.2 ex).1.1]
  exact I.1.2.1.1.1
/-- a state that is held -/
theorem ch_h9 {a : Nat} {L : Int} {ρ : Nat → Nat} {κ : zS} {r x : Int32} (I : chI9 ρ κ a L) (q : nb r ∧ (r ≠ 0 → zI κ atExplored (zR κ chAtlas a) ≠ 0 ∧ 0 ≤ x.toInt ∧ x.toInt < (zI κ hoTotal (zR κ atStates (zR κ chAtlas a))).toInt)) (hr : ¬ r = 0) : atG κ (zR κ chAtlas a) ∧ atM κ (zR κ chAtlas a) ∧ (0 ≤ x.toInt ∧ x.toInt < 1000) ∧ atL κ (zR κ chAtlas a) ∧ ((zI κ atNexts (zR κ chAtlas a)).toInt ≤ (zN κ (zR κ atNumbers (zR κ chAtlas a))) ∧ exK κ (zR κ chAtlas a) x.toNatClampNeg) := by
  obtain ⟨ex, x0, x1⟩ := q.2 hr
  obtain ⟨⟨n, A1, A2, A3, A4, A5, A6⟩, G⟩ := ch_x9 I ex
  have k := cnk x0
  exact ⟨G, A1, ⟨x0, by omega⟩, A2, A5, A6 _ (by omega)⟩
theorem ch_n9 {a : Nat} {L : Int} {ρ : Nat → Nat} {κ : zS} (I : chI9 ρ κ a L) : raJ κ (zR κ chShown a) 6500 := by
  have N := I.2.2.1.1.1.1
  have h30 := I.2.2.1.2.2.2
  have q := N.2 _ (show raR (ρ (zR κ chShown a)) by rw [h30]; exact Or.inr (Or.inl rfl))
  rw [h30] at q
  have t := nm_g N q.2.1 (show nmR (30 + 1) from Or.inr (Or.inr (Or.inr (Or.inl rfl)))) (by decide)
  have b := nm_g N q.2.2 (show nmR (30 + 2) from Or.inr (Or.inr (Or.inr (Or.inr (Or.inl rfl))))) (by decide)
  exact ⟨t.1, b.1, ro_n q.2.1 q.2.2 (by decide)⟩
theorem Ch_fault_c {C : zC} {n0 : Nat} {a0 : Nat} {κ : zS} {Q : Int32 → zS → Prop} (W : zW C n0 κ) (Ta0 : zT κ a0 = 15)  (h : ∀ (v : Int32) (κ' : zS), (κ = κ') → Q v κ') : zRun C 0 mCh_fault [.ref a0] κ (oI Q noX) := by
  refine Ch_fault_run W Ta0 ?_
  replace W := W.lo (Nat.le_trans W.1.2.1 W.1.2.2) (Nat.le_refl (zn κ))
  unfold w_Ch_fault_0
  refine h _ _ ?_
  · exact rfl  -- q1

theorem Ch_count_c {C : zC} {n0 : Nat} {a0 : Nat} {a1 : Int32} {κ : zS} {Q : Int32 → zS → Prop} {X : zXp} (W : zW C n0 κ) (Ta0 : zT κ a0 = 15)  (h : ∀ (v : Int32) (κ' : zS), (κ = κ') → Q v κ') (hx : ∀ (cls : String) (κ' : zS), (cls = "java/lang/IndexOutOfBoundsException" ∧ κ' = ut κ) → X cls κ') : zRun C 8 mCh_count [.ref a0, .int a1] κ (oI Q X) := by
  refine Ch_count_run W Ta0 ?_
  replace W := W.lo (Nat.le_trans W.1.2.1 W.1.2.2) (Nat.le_refl (zn κ))
  unfold w_Ch_count_0
  refine ⟨fun c1 => ?_, fun c1 => ?_⟩
  · skip
    intro κ_2 hκ_2
    refine hx _ _ ?_
    · exact ⟨rfl, hκ_2⟩  -- x1
  · skip
    refine ⟨fun c3 => ?_, fun c3 => ?_⟩
    · skip
      refine ⟨fun c4 => ?_, fun c4 => ?_⟩
      · skip
        refine ⟨fun c5 => ?_, fun c5 => ?_⟩
        · skip
          refine ⟨fun c6 => ?_, fun c6 => ?_⟩
          · skip
            refine h _ _ ?_
            · exact rfl  -- q2
          · skip
            intro T7
            refine At_howMany_c W T7  (fun r8 q10 => ?_)
            intro W11
            intro M12
            refine h _ _ ?_
            · exact rfl  -- q3
        · skip
          refine ⟨fun c13 => ?_, fun c13 => ?_⟩
          · skip
            refine h _ _ ?_
            · exact rfl  -- q4
          · skip
            intro T14
            refine Co_howMany_c W T14  (fun r15 q17 => ?_)
            intro W18
            intro M19
            refine h _ _ ?_
            · exact rfl  -- q5
      · skip
        refine h _ _ ?_
        · exact rfl  -- q6
    · skip
      intro κ_20 hκ_20
      refine hx _ _ ?_
      · exact ⟨rfl, hκ_20⟩  -- x7

theorem Ch_state_c {C : zC} {n0 : Nat} {a0 : Nat} {a1 : Int32} {a2 : Int32} {κ : zS} {Q : Int32 → zS → Prop} {X : zXp} (W : zW C n0 κ) (Ta0 : zT κ a0 = 15) (ρ : Nat → Nat) (L9 : Int) (hp : chI9 ρ κ a0 L9) (h : ∀ (v : Int32) (κ' : zS), (κ = κ') → Q v κ') (hx : ∀ (cls : String) (κ' : zS), (cls = "java/lang/IndexOutOfBoundsException" ∧ κ' = ut κ) → X cls κ') : zRun C 8 mCh_state [.ref a0, .int a1, .int a2] κ (oI Q X) := by
  refine Ch_state_run W Ta0 ?_
  replace W := W.lo (Nat.le_trans W.1.2.1 W.1.2.2) (Nat.le_refl (zn κ))
  unfold w_Ch_state_0
  intro T1
  refine At_holds_c W T1  (fun r2 q4 => ?_)
  intro W5
  intro M6
  refine ⟨fun c7 => ?_, fun c7 => ?_⟩
  · skip
    intro κ_8 hκ_8
    refine hx _ _ ?_
    · exact ⟨rfl, hκ_8⟩  -- x1
  · skip
    refine ⟨fun c9 => ?_, fun c9 => ?_⟩
    · skip
      intro κ_10 hκ_10
      refine hx _ _ ?_
      · exact ⟨rfl, hκ_10⟩  -- x2
    · skip
      refine ⟨fun c11 => ?_, fun c11 => ?_⟩
      · skip
        refine ⟨fun c12 => ?_, fun c12 => ?_, fun c12 => ?_, fun c12 => ?_, fun c12 => ?_, fun c12 => ?_⟩
        · skip
          refine ⟨?_, ?_⟩
          · have H := ch_h9 hp q4 c7
            rw [inb_iff, H.2.1.2.1]
            have y := H.2.2.1
            omega
          refine h _ _ ?_
          · exact rfl  -- q4
        · skip
          intro T13
          refine At_callsOf_c W5 T13  ?_ (fun r14 q16 => ?_)
          · exact (ch_h9 hp q4 c7).1  -- p5
          intro W17
          intro M18
          intro T19
          refine At_statementOf_c W17 T19  ?_ (fun r20 q22 => ?_)
          · exact (ch_h9 hp q4 c7).1  -- p6
          intro W23
          intro M24
          refine h _ _ ?_
          · exact rfl  -- q7
        · skip
          intro T25
          refine At_callsOf_c W5 T25  ?_ (fun r26 q28 => ?_)
          · exact (ch_h9 hp q4 c7).1  -- p8
          intro W29
          intro M30
          refine h _ _ ?_
          · exact rfl  -- q9
        · skip
          intro T31
          refine At_waysOf_c W5 T31  ?_ (fun r32 q34 => ?_)
          · have H := ch_h9 hp q4 c7
            exact ⟨H.2.1.1, H.2.2.1⟩
          intro W35
          intro M36
          refine h _ _ ?_
          · exact rfl  -- q11
        · skip
          refine ⟨?_, ?_⟩
          · have H := ch_h9 hp q4 c7
            rw [inb_iff, H.2.1.2.2.2.2.1]
            have y := H.2.2.1
            omega
          refine ⟨fun c37 => ?_, fun c37 => ?_⟩
          · skip
            refine h _ _ ?_
            · exact rfl  -- q13
          · skip
            refine h _ _ ?_
            · exact rfl  -- q14
        · skip
          refine ⟨?_, ?_⟩
          · have H := ch_h9 hp q4 c7
            rw [inb_iff, H.2.1.2.2.2.2.2]
            have y := H.2.2.1
            omega
          refine ⟨fun c38 => ?_, fun c38 => ?_⟩
          · skip
            refine h _ _ ?_
            · exact rfl  -- q16
          · skip
            refine h _ _ ?_
            · exact rfl  -- q17
      · skip
        intro κ_39 hκ_39
        refine hx _ _ ?_
        · exact ⟨rfl, hκ_39⟩  -- x18

theorem Ch_value_c {C : zC} {n0 : Nat} {a0 : Nat} {a1 : Int32} {a2 : Int32} {a3 : Int32} {κ : zS} {Q : Int32 → zS → Prop} {X : zXp} (W : zW C n0 κ) (Ta0 : zT κ a0 = 15) (ρ : Nat → Nat) (L9 : Int) (hp : chI9 ρ κ a0 L9) (h : ∀ (v : Int32) (κ' : zS), (κ = κ') → Q v κ') (hx : ∀ (cls : String) (κ' : zS), (cls = "java/lang/IndexOutOfBoundsException" ∧ κ' = ut κ) → X cls κ') : zRun C 8 mCh_value [.ref a0, .int a1, .int a2, .int a3] κ (oI Q X) := by
  refine Ch_value_run W Ta0 ?_
  replace W := W.lo (Nat.le_trans W.1.2.1 W.1.2.2) (Nat.le_refl (zn κ))
  unfold w_Ch_value_0
  intro T1
  refine At_holds_c W T1  (fun r2 q4 => ?_)
  intro W5
  intro M6
  refine ⟨fun c7 => ?_, fun c7 => ?_⟩
  · skip
    intro κ_8 hκ_8
    refine hx _ _ ?_
    · exact ⟨rfl, hκ_8⟩  -- x1
  · skip
    intro T9
    refine At_hasVariable_c W5 T9  ?_ (fun r10 q12 => ?_)
    · exact (ch_h9 hp q4 c7).1  -- p2
    intro W13
    intro M14
    refine ⟨fun c15 => ?_, fun c15 => ?_⟩
    · skip
      intro T16
      refine At_variableOf_c W13 T16  ?_ (fun r17 q19 => ?_)
      · exact (ch_h9 hp q4 c7).1  -- p3
      intro W20
      intro M21
      refine h _ _ ?_
      · exact rfl  -- q4
    · skip
      intro κ_22 hκ_22
      refine hx _ _ ?_
      · exact ⟨rfl, hκ_22⟩  -- x5

theorem Ch_next_c {C : zC} {n0 : Nat} {a0 : Nat} {a1 : Int32} {a2 : Int32} {a3 : Int32} {κ : zS} {Q : Int32 → zS → Prop} {X : zXp} (W : zW C n0 κ) (Ta0 : zT κ a0 = 15) (ρ : Nat → Nat) (L9 : Int) (hp : chI9 ρ κ a0 L9) (h : ∀ (v : Int32) (κ' : zS), (κ = κ') → Q v κ') (hx : ∀ (cls : String) (κ' : zS), (cls = "java/lang/IndexOutOfBoundsException" ∧ κ' = ut κ) → X cls κ') : zRun C 8 mCh_next [.ref a0, .int a1, .int a2, .int a3] κ (oI Q X) := by
  refine Ch_next_run W Ta0 ?_
  replace W := W.lo (Nat.le_trans W.1.2.1 W.1.2.2) (Nat.le_refl (zn κ))
  unfold w_Ch_next_0
  intro T1
  refine At_holds_c W T1  (fun r2 q4 => ?_)
  intro W5
  intro M6
  refine ⟨fun c7 => ?_, fun c7 => ?_⟩
  · skip
    intro κ_8 hκ_8
    refine hx _ _ ?_
    · exact ⟨rfl, hκ_8⟩  -- x1
  · skip
    refine ⟨fun c9 => ?_, fun c9 => ?_⟩
    · skip
      intro κ_10 hκ_10
      refine hx _ _ ?_
      · exact ⟨rfl, hκ_10⟩  -- x2
    · skip
      intro T11
      refine At_waysOf_c W5 T11  ?_ (fun r12 q14 => ?_)
      · have H := ch_h9 hp q4 c7
        exact ⟨H.2.1.1, H.2.2.1⟩
      intro W15
      intro M16
      refine ⟨fun c17 => ?_, fun c17 => ?_⟩
      · skip
        intro κ_18 hκ_18
        refine hx _ _ ?_
        · exact ⟨rfl, hκ_18⟩  -- x4
      · skip
        refine ⟨fun c19 => ?_, fun c19 => ?_⟩
        · skip
          intro κ_20 hκ_20
          refine hx _ _ ?_
          · exact ⟨rfl, hκ_20⟩  -- x5
        · skip
          refine ⟨fun c21 => ?_, fun c21 => ?_⟩
          · skip
            refine ⟨?_, ?_⟩
            · have H := ch_h9 hp q4 c7
              rw [inb_iff, H.2.1.1]
              have y := H.2.2.1
              omega
            intro x22 hx22
            have H := ch_h9 hp q4 c7
            have K := H.2.2.2.2.2.1
            have lw := H.2.2.2.1
            have l20 := lw.2
            have nx := H.2.2.2.2.1
            have xb : 0 ≤ x22.toInt ∧ x22.toInt < (zN κ (zR κ atNumbers (zR κ chAtlas a0))) := by
              rw [lti, t0i] at c9
              rw [lei, q14, sub_i (by omega) (by omega)] at c17
              rw [hx22, add_i (by omega) (by omega)]
              omega
            refine ⟨fun c23 => ?_, fun c23 => ?_⟩
            · skip
              refine ⟨fun c24 => ?_, fun c24 => ?_⟩
              · skip
                refine ⟨?_, ?_⟩
                · rw [inb_iff, lw.1.2]; exact xb  -- b7
                refine h _ _ ?_
                · exact rfl  -- q8
              · skip
                refine ⟨?_, ?_⟩
                · rw [inb_iff]; exact xb  -- b9
                refine h _ _ ?_
                · exact rfl  -- q10
            · skip
              refine ⟨?_, ?_⟩
              · rw [inb_iff, lw.1.1]; exact xb  -- b11
              refine h _ _ ?_
              · exact rfl  -- q12
          · skip
            intro κ_25 hκ_25
            refine hx _ _ ?_
            · exact ⟨rfl, hκ_25⟩  -- x13

theorem Ch_ending_c {C : zC} {n0 : Nat} {a0 : Nat} {a1 : Int32} {a2 : Int32} {κ : zS} {Q : Int32 → zS → Prop} {X : zXp} (W : zW C n0 κ) (Ta0 : zT κ a0 = 15) (ρ : Nat → Nat) (L9 : Int) (hp : chI9 ρ κ a0 L9) (h : ∀ (v : Int32) (κ' : zS), (κ = κ') → Q v κ') (hx : ∀ (cls : String) (κ' : zS), (cls = "java/lang/IndexOutOfBoundsException" ∧ κ' = ut κ) → X cls κ') : zRun C 8 mCh_ending [.ref a0, .int a1, .int a2] κ (oI Q X) := by
  refine Ch_ending_run W Ta0 ?_
  replace W := W.lo (Nat.le_trans W.1.2.1 W.1.2.2) (Nat.le_refl (zn κ))
  unfold w_Ch_ending_0
  intro T1
  refine At_holdsEnding_c W T1  (fun r2 q4 => ?_)
  intro W5
  intro M6
  refine ⟨fun c7 => ?_, fun c7 => ?_⟩
  · skip
    intro κ_8 hκ_8
    refine hx _ _ ?_
    · exact ⟨rfl, hκ_8⟩  -- x1
  · skip
    refine ⟨fun c9 => ?_, fun c9 => ?_⟩
    · skip
      intro κ_10 hκ_10
      refine hx _ _ ?_
      · exact ⟨rfl, hκ_10⟩  -- x2
    · skip
      intro T11
      refine Co_shared_c W5 T11  ?_ (fun r12 q14 => ?_)
      · exact hp.1.2.1.1.1  -- p3
      intro W15
      intro M16
      refine ⟨fun c17 => ?_, fun c17 => ?_⟩
      · skip
        refine ⟨fun c18 => ?_, fun c18 => ?_⟩
        · skip
          intro T19
          refine Ho_part_c W15 T19 1000 35 2048 ?_ (fun r20 q22 => ?_)
          · exact ⟨hp.2.1.1.1.2.2.1.2, Or.inr (Or.inl ⟨rfl, rfl, rfl⟩)⟩  -- p4
          intro W23
          intro M24
          refine h _ _ ?_
          · exact rfl  -- q5
        · skip
          intro T25
          refine Co_shared_c W15 T25  ?_ (fun r26 q28 => ?_)
          · exact hp.1.2.1.1.1  -- p6
          intro W29
          intro M30
          intro T31
          refine Ho_part_c W29 T31 1000 35 2048 ?_ (fun r32 q34 => ?_)
          · exact ⟨hp.2.1.1.1.2.2.1.2, Or.inr (Or.inl ⟨rfl, rfl, rfl⟩)⟩  -- p7
          intro W35
          intro M36
          refine h _ _ ?_
          · exact rfl  -- q8
      · skip
        intro κ_37 hκ_37
        refine hx _ _ ?_
        · exact ⟨rfl, hκ_37⟩  -- x9

theorem Ch_decided_c {C : zC} {n0 : Nat} {a0 : Nat} {a1 : Int32} {κ : zS} {Q : Int32 → zS → Prop} {X : zXp} (W : zW C n0 κ) (Ta0 : zT κ a0 = 15) (ρ : Nat → Nat) (L9 : Int) (hp : chI9 ρ κ a0 L9) (h : ∀ (v : Int32) (κ' : zS), (κ = κ') → Q v κ') (hx : ∀ (cls : String) (κ' : zS), (cls = "java/lang/IndexOutOfBoundsException" ∧ κ' = ut κ) → X cls κ') : zRun C 8 mCh_decided [.ref a0, .int a1] κ (oI Q X) := by
  refine Ch_decided_run W Ta0 ?_
  replace W := W.lo (Nat.le_trans W.1.2.1 W.1.2.2) (Nat.le_refl (zn κ))
  unfold w_Ch_decided_0
  intro T1
  refine At_holds_c W T1  (fun r2 q4 => ?_)
  intro W5
  intro M6
  refine ⟨fun c7 => ?_, fun c7 => ?_⟩
  · skip
    intro κ_8 hκ_8
    refine hx _ _ ?_
    · exact ⟨rfl, hκ_8⟩  -- x1
  · skip
    refine ⟨?_, ?_⟩
    · have H := ch_h9 hp q4 c7
      rw [inb_iff, H.2.1.2.2.2.2.1]
      have y := H.2.2.1
      omega
    refine ⟨fun c9 => ?_, fun c9 => ?_⟩
    · skip
      refine ⟨?_, ?_⟩
      · have H := ch_h9 hp q4 c7
        rw [inb_iff, H.2.1.2.2.2.1]
        have y := H.2.2.1
        omega
      refine h _ _ ?_
      · exact rfl  -- q4
    · skip
      intro κ_10 hκ_10
      refine hx _ _ ?_
      · exact ⟨rfl, hκ_10⟩  -- x5

theorem Ch_size_c {C : zC} {n0 : Nat} {a0 : Nat} {a1 : Int32} {κ : zS} {Q : Int32 → zS → Prop} {X : zXp} (W : zW C n0 κ) (Ta0 : zT κ a0 = 15) (ρ : Nat → Nat) (L9 : Int) (hp : chI9 ρ κ a0 L9) (h : ∀ (v : Int32) (κ' : zS), (κ = κ') → Q v κ') (hx : ∀ (cls : String) (κ' : zS), (cls = "java/lang/IndexOutOfBoundsException" ∧ κ' = ut κ) → X cls κ') : zRun C 8 mCh_size [.ref a0, .int a1] κ (oI Q X) := by
  refine Ch_size_run W Ta0 ?_
  replace W := W.lo (Nat.le_trans W.1.2.1 W.1.2.2) (Nat.le_refl (zn κ))
  unfold w_Ch_size_0
  refine ⟨fun c1 => ?_, fun c1 => ?_⟩
  · skip
    intro κ_2 hκ_2
    refine hx _ _ ?_
    · exact ⟨rfl, hκ_2⟩  -- x1
  · skip
    refine ⟨fun c3 => ?_, fun c3 => ?_⟩
    · skip
      refine ⟨fun c4 => ?_, fun c4 => ?_⟩
      · skip
        intro T5
        refine Nu_words_c W T5 6500 ?_ (fun r6 q8 => ?_)
        · exact ⟨(ch_n9 hp).2.1, by decide⟩  -- p2
        intro W9
        intro M10
        refine h _ _ ?_
        · exact rfl  -- q3
      · skip
        intro T11
        refine Nu_words_c W T11 6500 ?_ (fun r12 q14 => ?_)
        · exact ⟨(ch_n9 hp).1, by decide⟩  -- p4
        intro W15
        intro M16
        refine h _ _ ?_
        · exact rfl  -- q5
    · skip
      intro κ_17 hκ_17
      refine hx _ _ ?_
      · exact ⟨rfl, hκ_17⟩  -- x6

theorem Ch_limb_c {C : zC} {n0 : Nat} {a0 : Nat} {a1 : Int32} {a2 : Int32} {κ : zS} {Q : Int32 → zS → Prop} {X : zXp} (W : zW C n0 κ) (Ta0 : zT κ a0 = 15) (ρ : Nat → Nat) (L9 : Int) (hp : chI9 ρ κ a0 L9) (h : ∀ (v : Int32) (κ' : zS), (κ = κ') → Q v κ') (hx : ∀ (cls : String) (κ' : zS), (cls = "java/lang/IndexOutOfBoundsException" ∧ κ' = ut κ) → X cls κ') : zRun C 8 mCh_limb [.ref a0, .int a1, .int a2] κ (oI Q X) := by
  refine Ch_limb_run W Ta0 ?_
  replace W := W.lo (Nat.le_trans W.1.2.1 W.1.2.2) (Nat.le_refl (zn κ))
  unfold w_Ch_limb_0
  have hj41 : ∀ (l0 : Nat) (l2 : Int32) (s0 : Nat) (τ : zS), zW C (zn κ) τ → zT τ l0 = 15 → zT τ s0 = 8 → (κ = τ ∧ a0 = l0 ∧ a2 = l2 ∧ nuI κ s0 6500) → w_Ch_limb_41 C (zn κ) Q X  l0 l2 s0 τ := by
    rintro _ _ y41_s0 _ W41 T41_0 T41_1 ⟨rfl, rfl, rfl, j41⟩
    unfold w_Ch_limb_41
    refine ⟨fun c1 => ?_, fun c1 => ?_⟩
    · skip
      intro κ_2 hκ_2
      refine hx _ _ ?_
      · exact ⟨rfl, hκ_2⟩  -- x1
    · skip
      intro T3
      refine Nu_words_c W41 T3 6500 ?_ (fun r4 q6 => ?_)
      · exact ⟨j41, by decide⟩  -- p2
      intro W7
      intro M8
      refine ⟨fun c9 => ?_, fun c9 => ?_⟩
      · skip
        intro T10
        refine Nu_word_c W7 T10 6500 ?_ (fun r11 q13 => ?_)
        · exact j41.1  -- p3
        intro W14
        intro M15
        refine h _ _ ?_
        · exact rfl  -- q4
      · skip
        intro κ_16 hκ_16
        refine hx _ _ ?_
        · exact ⟨rfl, hκ_16⟩  -- x5
  refine ⟨fun c17 => ?_, fun c17 => ?_⟩
  · skip
    intro κ_18 hκ_18
    refine hx _ _ ?_
    · exact ⟨rfl, hκ_18⟩  -- x6
  · skip
    refine ⟨fun c19 => ?_, fun c19 => ?_⟩
    · skip
      refine ⟨fun c20 => ?_, fun c20 => ?_⟩
      · skip
        refine hj41 _ _ _ _ W ?_ ?_ ?_
        · exact Ta0  -- t7
        · exact ty_raBottom W (ty_chShown W Ta0)  -- t8
        · exact ⟨rfl, rfl, rfl, (ch_n9 hp).2.1⟩  -- k9
      · skip
        refine hj41 _ _ _ _ W ?_ ?_ ?_
        · exact Ta0  -- t10
        · exact ty_raTop W (ty_chShown W Ta0)  -- t11
        · exact ⟨rfl, rfl, rfl, (ch_n9 hp).1⟩  -- k12
    · skip
      intro κ_21 hκ_21
      refine hx _ _ ?_
      · exact ⟨rfl, hκ_21⟩  -- x13

theorem Ch_played_c {C : zC} {n0 : Nat} {a0 : Nat} {a1 : Int32} {κ : zS} {Q : Int64 → zS → Prop} {X : zXp} (W : zW C n0 κ) (Ta0 : zT κ a0 = 15) (ρ : Nat → Nat) (L9 : Int) (hp : chI9 ρ κ a0 L9) (h : ∀ (v : Int64) (κ' : zS), (κ = κ') → Q v κ') (hx : ∀ (cls : String) (κ' : zS), (cls = "java/lang/IndexOutOfBoundsException" ∧ κ' = ut κ) → X cls κ') : zRun C 8 mCh_played [.ref a0, .int a1] κ (oJ Q X) := by
  refine Ch_played_run W Ta0 ?_
  replace W := W.lo (Nat.le_trans W.1.2.1 W.1.2.2) (Nat.le_refl (zn κ))
  unfold w_Ch_played_0
  have E := hp.2.2.2.2.2.1
  have e5 : (5 : Int32).toInt = 5 := rfl
  have hj18 : ∀ (l0 : Nat) (l1 : Int32) (s0 : Int32) (τ : zS), zW C (zn κ) τ → zT τ l0 = 15 → (κ = τ ∧ a0 = l0 ∧ a1 = l1 ∧ 0 ≤ s0.toInt ∧ s0.toInt ≤ 34) → w_Ch_played_18 C (zn κ) Q X  l0 l1 s0 τ := by
    rintro _ _ y18_s0 _ W18 T18_0 ⟨rfl, rfl, rfl, j18⟩
    unfold w_Ch_played_18
    refine ⟨fun c1 => ?_, fun c1 => ?_⟩
    · skip
      intro κ_2 hκ_2
      refine hx _ _ ?_
      · exact ⟨rfl, hκ_2⟩  -- x1
    · skip
      refine ⟨fun c3 => ?_, fun c3 => ?_⟩
      · skip
        refine ⟨fun c4 => ?_, fun c4 => ?_⟩
        · skip
          refine ⟨fun c5 => ?_, fun c5 => ?_⟩
          · skip
            refine ⟨?_, ?_⟩
            · have s5 : ((5 : Int32) + y18_s0).toInt = 5 + y18_s0.toInt := by rw [add_i (by rw [e5]; omega) (by rw [e5]; omega), e5]
              rw [lti, s5] at c3
              rw [lei, e5] at c5
              rw [inb_iff, E.2.1.2, sub_i (by rw [e5]; omega) (by rw [e5]; omega), e5]
              omega
            refine h _ _ ?_
            · exact rfl  -- q3
          · skip
            refine ⟨?_, ?_⟩
            · rw [lti, t0i] at c1
              rw [lei, e5] at c5
              rw [inb_iff, E.2.1.1]
              omega
            refine h _ _ ?_
            · exact rfl  -- q5
        · skip
          refine h _ _ ?_
          · exact rfl  -- q6
      · skip
        intro κ_6 hκ_6
        refine hx _ _ ?_
        · exact ⟨rfl, hκ_6⟩  -- x7
  refine ⟨fun c7 => ?_, fun c7 => ?_⟩
  · skip
    refine hj18 _ _ _ _ W ?_ ?_
    · exact Ta0  -- t8
    · exact ⟨rfl, rfl, rfl, by decide, by decide⟩  -- k9
  · skip
    intro T8
    refine Co_shared_c W T8  ?_ (fun r9 q11 => ?_)
    · exact hp.1.2.1.1.1  -- p10
    intro W12
    intro M13
    refine hj18 _ _ _ _ W12 ?_ ?_
    · exact Ta0  -- t11
    · obtain ⟨-, hv, ha, hc, -⟩ := hp.1.2.1.1.1
      exact ⟨rfl, rfl, rfl, by omega, by omega⟩

end
