set_option maxHeartbeats 1600000
/-! the reference: the visits within a ring -/
/-- slots that are kept -/
def kpH (D : Nat → Prop) (σ τ : rS) : Prop := ∀ s q, D s → hL σ s q → hL τ s q
theorem kpH_refl {D : Nat → Prop} {σ : rS} : kpH D σ σ := fun _ _ _ h => h
theorem kpH_tr {D : Nat → Prop} {σ τ υ : rS} (h : kpH D σ τ) (g : kpH D τ υ) : kpH D σ υ := fun s q d z => g s q d (h s q d z)
theorem kpH_K {D : Nat → Prop} {l : List Nat} {σ τ : rS} {s : Nat} (f : frK l (260 * s) (260 * s + 260) σ τ) (hD : ∀ r, D r → r ≠ s) : kpH D σ τ := fun r q d z => hL_K f (by have := hD r d; omega) z
theorem kpH_e {D : Nat → Prop} {σ τ : rS} (h : τ.2.2.1 93 = σ.2.2.1 93) : kpH D σ τ := fun _ _ _ z => hL_e (fun _ _ _ => by rw [h]) z
/-- all slots but the row on the way and the results of a -/
def dOf (a : Nat) (s : Nat) : Prop := s < 1088 ∨ (1120 ≤ s ∧ (s < 1152 + 32 * a ∨ 1152 + 32 * a + 32 ≤ s))
theorem fdJ_kp {a m k : Nat} {σ τ : rS} {P : Nat → Nat → Rat} {F : Nat → Nat → Nat} (hm : m ≤ 32) (h : kpH (dOf a) σ τ) (J : fdJ σ P m F k) : fdJ τ P m F k := ⟨fun i j hi hj => h _ _ (Or.inl (by omega)) (J.1 i j hi hj), fun i hi => h _ _ (Or.inl (by omega)) (J.2.1 i hi), fun l h1 h2 => h _ _ (Or.inl (by omega)) (J.2.2 l h1 h2)⟩
/-- the row on the way: stages by a function -/
def xrJ (τ : rS) (P : Nat → Nat → Rat) (m a : Nat) (F : Nat → Nat) : Prop := ∀ j, j < m → hL τ (1088 + j) (elX P m (dl a) (F j) j)
def xsF (m n t : Nat) : Nat → Nat := fun j => if j < t then n + 1 else min n (m - 1 - j)
theorem ixr {c a b : Int32} (c0 : 0 ≤ c) (c1 : c ≤ 1152) (a0 : 0 ≤ a) (a1 : a < 32) (b0 : 0 ≤ b) (b1 : b < 32) : (0 ≤ c + 32 * a + b ∧ c + 32 * a + b < 2176) ∧ (c + 32 * a + b).toNatClampNeg = c.toNatClampNeg + 32 * a.toNatClampNeg + b.toNatClampNeg := by
  have s := ixs a0 a1 b0 b1
  have x := t0 c0
  have y := ti c1
  rw [show (1152 : Int32).toInt = 1152 from rfl] at y
  have k1 := cn_int c0
  have k2 := cn_int s.1.1
  have f := i_add c0 s.1.1 (by omega)
  have q : 0 ≤ c + (32 * a + b) := Int32.le_iff_toInt_le.mpr (by rw [f, Int32.toInt_zero]; omega)
  have k3 := cn_int q
  rw [Int32.add_assoc]
  exact ⟨⟨q, Int32.lt_iff_toInt_lt.mpr (by rw [f, show (2176 : Int32).toInt = 2176 from rfl]; omega)⟩, by omega⟩
theorem vs_ex {P : Nat → Nat → Rat} {m a : Nat} (M : Mk P m m) : ∀ {t : Nat}, t ≤ m → ∃ v : Nat → Rat, ∀ k, k < t → v k * elS (elN P m (m - 1 - k)) m k = smQ (fun r => v r * elN P m (m - 1 - k) r k) k + elX P m (dl a) (m - 1 - k) k
  | 0, _ => ⟨fun _ => 0, fun k hk => absurd hk (Nat.not_lt_zero k)⟩
  | t + 1, ht => by
    obtain ⟨v, hv⟩ := vs_ex (a := a) M (t := t) (by omega)
    have Q := Mk_n M (n := m - 1 - t) (by omega)
    rw [show m - (m - 1 - t) = t + 1 by omega] at Q
    have S := (Mk_S Q).1
    have i := inv_s (S := elS (elN P m (m - 1 - t)) m t) (by grind)
    refine ⟨fun r => if r = t then (smQ (fun r => v r * elN P m (m - 1 - t) r t) t + elX P m (dl a) (m - 1 - t) t) * (elS (elN P m (m - 1 - t)) m t)⁻¹ else v r, fun k hk => ?_⟩
    have e : smQ (fun r => (if r = t then (smQ (fun r => v r * elN P m (m - 1 - t) r t) t + elX P m (dl a) (m - 1 - t) t) * (elS (elN P m (m - 1 - t)) m t)⁻¹ else v r) * elN P m (m - 1 - k) r k) k = smQ (fun r => v r * elN P m (m - 1 - k) r k) k := smQ_c (fun r hr => by rw [if_neg (by omega)])
    rw [e]
    by_cases q : k = t
    · rw [q]
      show (if t = t then _ else _) * _ = _
      rw [if_pos rfl]
      generalize elS (elN P m (m - 1 - t)) m t = U at i ⊢
      generalize smQ (fun r => v r * elN P m (m - 1 - t) r t) t + elX P m (dl a) (m - 1 - t) t = A
      grind
    · show (if k = t then _ else v k) * _ = _
      rw [if_neg q]
      exact hv k (by omega)
theorem fd_v {k s : Int32} (k0 : 0 ≤ k) (h : ¬ s ≤ k) (n1 : s ≤ 32) : 0 ≤ k + 1 ∧ k + 1 ≤ s ∧ 0 ≤ s - (k + 1) ∧ s - (k + 1) < s - k ∧ k < 32 ∧ k < 1000000 ∧ k < s := by grind
theorem fd_w {s : Int32} (h0 : 0 < s) (h1 : s ≤ 32) : 0 ≤ s - 1 ∧ s - 1 < s ∧ s < 1000000 := by grind
theorem fd_x {k s : Int32} (h : ¬ k ≤ 0) (k0 : 0 ≤ k) (h1 : k < s) (s1 : s ≤ 32) : 0 ≤ k + -1 ∧ k + -1 < k ∧ k + -1 < s ∧ k < 32 ∧ k - 1 = k + -1 ∧ 0 < k ∧ k < 1000000 := by grind
theorem el_xt {P : Nat → Nat → Rat} {m k j : Nat} {x : Nat → Rat} (hk : k < m) : elX P m x (m - 1 - k + 1) j = elX P m x (m - 1 - k) j + elX P m x (m - 1 - k) k * elN P m (m - 1 - k) k j * (elS (elN P m (m - 1 - k)) m k)⁻¹ := by
  have e : elX P m x (m - 1 - k + 1) j = elX P m x (m - 1 - k) j + elX P m x (m - 1 - k) (m - 1 - (m - 1 - k)) * elN P m (m - 1 - k) (m - 1 - (m - 1 - k)) j * (elS (elN P m (m - 1 - k)) m (m - 1 - (m - 1 - k)))⁻¹ := rfl
  rwa [show m - 1 - (m - 1 - k) = k by omega] at e
theorem xsF_e {m k l j : Nat} (hk : k = l + 1) (km : k < m) (hj : j < m) : xsF m (m - 1 - k) k j = xsF m (m - 1 - l) 0 j := by
  unfold xsF
  rw [if_neg (Nat.not_lt_zero j)]
  by_cases e : j < k
  · rw [if_pos e]; omega
  · rw [if_neg e]; omega
theorem xsF_o {m n t j : Nat} (h : ¬ j = t) : xsF m n t j = xsF m n (t + 1) j := by
  unfold xsF
  by_cases e : j < t
  · rw [if_pos e, if_pos (by omega)]
  · rw [if_neg e, if_neg (by omega)]
theorem visitFrom_c {C : rCx} (hC : cOK C) {P : Nat → Nat → Rat} {T : Nat → Nat} {K : Nat → Nat → Int} {m : Nat} {σ : rS} {a1 : Int32} {Q : rS → Prop} (hp : 0 < σ.1 100 ∧ σ.1 100 ≤ 32 ∧ m = (σ.1 100).toNatClampNeg ∧ Mk P m m ∧ whl P m T K ∧ fdJ σ P m (stF m m) 0 ∧ 0 ≤ a1 ∧ a1 < σ.1 100) (h : ∀ (σ' : rS), (frK [0, 1, 2, 3, 4, 5, 6, 7, 8, 9, 10, 11, 12, 13, 14] (260 * 1088) (260 * 2176) σ σ' ∧ kpH (dOf a1.toNatClampNeg) σ σ' ∧ ∃ v, vsI P m a1.toNatClampNeg v ∧ ∀ k, k < m → hL σ' (1152 + 32 * a1.toNatClampNeg + k) (v k)) → Q σ') : cV C 6 m_visitFrom [.ref (co C), .int a1] σ Q := by
  refine m_visitFrom_run hC ?_
  unfold w_visitFrom_0
  obtain ⟨h0, h1, hm, M, hw, J0, b0, b1⟩ := hp
  have hm2 : m ≤ 32 := by rw [hm]; exact cn_le (y := 32) rfl h1
  have s0 : 0 ≤ σ.1 100 := Int32.le_of_lt h0
  have a32 : a1 < 32 := Int32.lt_of_lt_of_le b1 h1
  have am : a1.toNatClampNeg < m := by rw [hm]; exact cn_lt b0 b1
  obtain ⟨v, hv⟩ := vs_ex (a := a1.toNatClampNeg) M (Nat.le_refl m)
  unfold w_visitFrom_2
  refine ⟨fun n l1 l2 τ => n = (σ.1 100 - l2).toNatClampNeg ∧ (l1 = a1 ∧ frK [0, 1, 2, 3, 4, 5, 6, 7, 8, 9, 10, 11, 12, 13, 14] (260 * 1088) (260 * 2176) σ τ ∧ kpH (dOf a1.toNatClampNeg) σ τ ∧ 0 ≤ l2 ∧ l2 ≤ σ.1 100 ∧ ∀ j, j < l2.toNatClampNeg → hL τ (1088 + j) (dl a1.toNatClampNeg j)), ⟨_, rfl, ?_⟩, ?_⟩
  · clear h; exact ⟨rfl, frK_refl, kpH_refl, by decide, s0, fun j hj => absurd hj (Nat.not_lt_zero j)⟩  -- j1
  rintro n2 x2_1 x2_2 σ2 ⟨hn2, i2⟩
  have hj26 : ∀ (l1 : Int32) (l2 : Int32) (s1 : Int32) (s2 : Int64) (τ : rS), (l1 = a1 ∧ τ = σ2 ∧ l2 = x2_2 ∧ ¬ σ.1 100 ≤ x2_2 ∧ s1 = 1088 + x2_2 ∧ 0 ≤ s2 ∧ mkRat s2.toInt 1 = dl a1.toNatClampNeg x2_2.toNatClampNeg) → w_visitFrom_26 C Q (fun l1' l2' τ => ∃ k < n2, (fun n l1 l2 τ => n = (σ.1 100 - l2).toNatClampNeg ∧ (l1 = a1 ∧ frK [0, 1, 2, 3, 4, 5, 6, 7, 8, 9, 10, 11, 12, 13, 14] (260 * 1088) (260 * 2176) σ τ ∧ kpH (dOf a1.toNatClampNeg) σ τ ∧ 0 ≤ l2 ∧ l2 ≤ σ.1 100 ∧ ∀ j, j < l2.toNatClampNeg → hL τ (1088 + j) (dl a1.toNatClampNeg j))) k l1' l2' τ) l1 l2 s1 s2 τ := by
    rintro y26_1 y26_2 y26_s1 y26_s2 τ26 j26
    unfold w_visitFrom_26
    obtain ⟨e1, F, kp, l0, l1, X⟩ := i2
    obtain ⟨f1, ft, f2, fk, fs, g0, gv⟩ := j26
    have u := fd_v l0 fk h1
    have o := ixc (c := 1088) (by decide) (by decide) l0 u.2.2.2.2.1
    have o2 : (1088 + x2_2).toNatClampNeg = 1088 + x2_2.toNatClampNeg := o.2.1
    have o3 := o.2.2
    refine keepSmall_c hC  ?_ (fun σ_1 q2 => ?_)
    · clear h; rw [fs]; exact ⟨o.1.1, o.1.2, g0, by decide⟩  -- p2
    rw [fs, o2, show (1 : Int64).toInt.toNat = 1 from rfl, gv, ft] at q2
    intro x3 hx3
    refine ⟨_, cn_lt2 hn2 ?_ ?_, rfl, ?_⟩
    · clear h; rw [hx3, f2]; exact u.2.2.1  -- d3
    · clear h; rw [hx3, f2]; exact u.2.2.2.1  -- d4
    · clear h; refine ⟨f1, frK_tr F (frK_w q2.1 (sub_of rfl) (by omega) (by omega)), kpH_tr kp (kpH_K q2.1 (fun r d => by unfold dOf at d; omega)), by rw [hx3, f2]; exact u.1, by rw [hx3, f2]; exact u.2.1, fun j hj => ?_⟩
      rw [hx3, f2, cn_succ l0 u.2.2.2.2.2.1] at hj
      by_cases e : j = x2_2.toNatClampNeg
      · rw [e]; exact q2.2
      · exact hL_K q2.1 (by omega) (X j (by omega))
  obtain ⟨e1, F, kp, l0, l1, X⟩ := i2
  have e100 : σ2.1 100 = σ.1 100 := F.1 100 (by decide)
  refine ⟨fun c4 => ?_, fun c4 => ?_⟩
  · skip
    intro x5 hx5
    unfold w_visitFrom_43
    refine ⟨fun n l1 l2 τ => n = (l2).toNatClampNeg ∧ (l1 = a1 ∧ frK [0, 1, 2, 3, 4, 5, 6, 7, 8, 9, 10, 11, 12, 13, 14] (260 * 1088) (260 * 2176) σ τ ∧ kpH (dOf a1.toNatClampNeg) σ τ ∧ 0 ≤ l2 ∧ l2 < σ.1 100 ∧ xrJ τ P m a1.toNatClampNeg (xsF m (m - 1 - l2.toNatClampNeg) 0)), ⟨_, rfl, ?_⟩, ?_⟩
    · clear h; rw [e100] at c4 hx5
      have ek : x2_2 = σ.1 100 := Int32.le_antisymm l1 c4
      have pw := fd_w h0 h1
      have cp := cn_pred h0 pw.2.2
      rw [ek, ← hm] at X
      rw [hx5]
      refine ⟨e1, F, kp, pw.1, pw.2.1, fun j hj => ?_⟩
      have z := X j hj
      unfold xsF
      rw [if_neg (by omega), show min (m - 1 - (σ.1 100 - 1).toNatClampNeg) (m - 1 - j) = 0 by omega]
      exact z
    rintro n43 x43_1 x43_2 σ43 ⟨hn43, i43⟩
    obtain ⟨f1, G, kq, r0, r1, XR⟩ := i43
    have km : x43_2.toNatClampNeg < m := by rw [hm]; exact cn_lt r0 r1
    refine ⟨fun c6 => ?_, fun c6 => ?_⟩
    · skip
      unfold w_visitFrom_93
      refine ⟨fun n l1 l2 τ => n = (σ.1 100 - l2).toNatClampNeg ∧ (l1 = a1 ∧ frK [0, 1, 2, 3, 4, 5, 6, 7, 8, 9, 10, 11, 12, 13, 14] (260 * 1088) (260 * 2176) σ τ ∧ kpH (dOf a1.toNatClampNeg) σ τ ∧ 0 ≤ l2 ∧ l2 ≤ σ.1 100 ∧ (∀ j, l2.toNatClampNeg ≤ j → j < m → hL τ (1088 + j) (elX P m (dl a1.toNatClampNeg) (m - 1 - j) j)) ∧ ∀ j, j < l2.toNatClampNeg → hL τ (1152 + 32 * a1.toNatClampNeg + j) (v j)), ⟨_, rfl, ?_⟩, ?_⟩
      · clear h; have k0 := cn_zero c6
        refine ⟨f1, G, kq, by decide, s0, fun j _ hj => ?_, fun j hj => absurd hj (Nat.not_lt_zero j)⟩
        have z := XR j hj
        unfold xsF at z
        rwa [if_neg (by omega), k0, show min (m - 1 - 0) (m - 1 - j) = m - 1 - j by omega] at z
      rintro n93 x93_1 x93_2 σ93 ⟨hn93, i93⟩
      obtain ⟨g1, G9, kr, t2, t1, YR, VR⟩ := i93
      have e100 : σ93.1 100 = σ.1 100 := G9.1 100 (by decide)
      refine ⟨fun c7 => ?_, fun c7 => ?_⟩
      · skip
        refine h _ ?_
        · clear h; rw [e100] at c7
          have ek : x93_2 = σ.1 100 := Int32.le_antisymm t1 c7
          rw [ek, ← hm] at VR
          exact ⟨G9, kr, v, hv, VR⟩
      · skip
        rw [e100] at c7
        have u := fd_v t2 c7 h1
        have k9 : x93_2.toNatClampNeg < m := by rw [hm]; exact cn_lt t2 u.2.2.2.2.2.2
        unfold w_visitFrom_103
        refine ⟨fun n l1 l2 l3 τ => n = (l2 - l3).toNatClampNeg ∧ (l1 = a1 ∧ l2 = x93_2 ∧ frK [0, 1, 2, 3, 4, 5, 6, 7, 8, 9, 10, 11, 12, 13, 14] (260 * 1088) (260 * 2176) σ τ ∧ kpH (dOf a1.toNatClampNeg) σ τ ∧ 0 ≤ l3 ∧ l3 ≤ l2 ∧ (∀ j, x93_2.toNatClampNeg + 1 ≤ j → j < m → hL τ (1088 + j) (elX P m (dl a1.toNatClampNeg) (m - 1 - j) j)) ∧ hL τ (1088 + x93_2.toNatClampNeg) (elX P m (dl a1.toNatClampNeg) (m - 1 - x93_2.toNatClampNeg) x93_2.toNatClampNeg + smQ (fun r => v r * elN P m (m - 1 - x93_2.toNatClampNeg) r x93_2.toNatClampNeg) l3.toNatClampNeg) ∧ ∀ j, j < x93_2.toNatClampNeg → hL τ (1152 + 32 * a1.toNatClampNeg + j) (v j)), ⟨_, rfl, ?_⟩, ?_⟩
        · clear h; refine ⟨g1, rfl, G9, kr, by decide, t2, fun j z1 z2 => YR j (by omega) z2, ?_, VR⟩
          show hL σ93 _ (_ + 0)
          rw [Rat.add_zero]
          exact YR _ (Nat.le_refl _) k9
        rintro n103 x103_1 x103_2 x103_3 σ103 ⟨hn103, i103⟩
        obtain ⟨y1, y2, H, ky, w0, w1, YT, XK, VT⟩ := i103
        have o := ixc (c := 1088) (by decide) (by decide) t2 u.2.2.2.2.1
        have o2 : (1088 + x93_2).toNatClampNeg = 1088 + x93_2.toNatClampNeg := o.2.1
        have oS := ixc (c := 1056) (by decide) (by decide) t2 u.2.2.2.2.1
        have oS2 : (1056 + x93_2).toNatClampNeg = 1056 + x93_2.toNatClampNeg := oS.2.1
        have JF := fdJ_kp hm2 ky J0
        have AS := JF.2.2 x93_2.toNatClampNeg (Nat.zero_le _) k9
        have Q1 := Mk_n M (n := m - 1 - x93_2.toNatClampNeg) (by omega)
        rw [show m - (m - 1 - x93_2.toNatClampNeg) = x93_2.toNatClampNeg + 1 by omega] at Q1
        have Sp := (Mk_S Q1).1
        have ir := ixr (c := 1152) (by decide) (by decide) b0 a32 t2 u.2.2.2.2.1
        have ir2 : (1152 + 32 * a1 + x93_2).toNatClampNeg = 1152 + 32 * a1.toNatClampNeg + x93_2.toNatClampNeg := ir.2
        have k32 := o.2.2
        have A32 : a1.toNatClampNeg < 32 := by omega
        refine ⟨fun c8 => ?_, fun c8 => ?_⟩
        · skip
          refine load_c hC  ?_ (fun σ_9 q10 => ?_)
          · clear h; rw [y2]; exact ⟨o.1.1, o.1.2, by decide, by decide, by decide, by decide, by decide, by rw [o2]; exact XK.1, by rw [o2]; exact XK.2.1⟩  -- p10
          rw [y2, o2] at q10
          simp only [kn] at q10
          have BS := hL_N q10.1 AS
          have XX := hR_of XK q10.2.1 q10.2.2.1 q10.2.2.2.1 q10.2.2.2.2.1
          refine load_c hC  ?_ (fun σ_11 q12 => ?_)
          · clear h; rw [y2]; exact ⟨oS.1.1, oS.1.2, by decide, by decide, by decide, by decide, by decide, by rw [oS2]; exact BS.1, by rw [oS2]; exact BS.2.1⟩  -- p11
          rw [y2, oS2] at q12
          simp only [kn] at q12
          have Y := hR_of BS q12.2.1 q12.2.2.1 q12.2.2.2.1 q12.2.2.2.2.1
          have y11 : 0 < nV σ_11 11 := Nat.pos_of_ne_zero (fun z => by
            have z2 : elS (elN P m (m - 1 - x93_2.toNatClampNeg)) m x93_2.toNatClampNeg = 0 := Rat.num_eq_zero.mp (by rw [← Y.2.2.1, z]; rfl)
            rw [z2] at Sp
            exact absurd Sp (by decide))
          have G6 := nV_fr q12.1 (k := 6) (by decide) q10.2.1
          have G7 := nV_fr q12.1 (k := 7) (by decide) q10.2.2.1
          have L1 := q10.2.2.2.2.2.1
          have L2 := q10.2.2.2.2.2.2
          have L3 := q12.2.2.2.2.2.1
          have L4 := q12.2.2.2.2.2.2
          refine times_c hC  ?_ (fun σ_13 q14 => ?_)
          · clear h; simp only [kn]
            exact ⟨by decide, by decide, by decide, by decide, by decide, by decide, by decide, by decide, G6.1, q12.2.2.1, by omega⟩
          simp only [kn] at q14
          have H7 := nV_fr q14.1 (k := 7) (by decide) G7.1
          have H11 := nV_fr q14.1 (k := 11) (by decide) q12.2.1
          have L5 := q14.2.2.2
          refine times_c hC  ?_ (fun σ_15 q16 => ?_)
          · clear h; simp only [kn]
            exact ⟨by decide, by decide, by decide, by decide, by decide, by decide, by decide, by decide, H7.1, H11.1, by omega⟩
          simp only [kn] at q16
          have I13 := nV_fr q16.1 (k := 13) (by decide) q14.2.1
          have L6 := q16.2.2.2
          refine copy_v hC  ?_ (fun σ_17 q18 => ?_)
          · clear h; simp only [kn]
            exact ⟨by decide, by decide, by decide, by decide, by decide, I13.1⟩
          simp only [kn] at q18
          have J14 := nV_fr q18.1 (k := 14) (by decide) q16.2.1
          have L7 := q18.2.2.2
          refine copy_v hC  ?_ (fun σ_19 q20 => ?_)
          · clear h; simp only [kn]
            exact ⟨by decide, by decide, by decide, by decide, by decide, J14.1⟩
          simp only [kn] at q20
          have K6 := nV_fr q20.1 (k := 6) (by decide) q18.2.1
          have L8 := q20.2.2.2
          have w6 : nV σ_19 6 = nV σ_9 6 * nV σ_11 12 := by rw [K6.2.1, q18.2.2.1, I13.2.1, q14.2.2.1, G6.2.1]
          have w7 : nV σ_19 7 = nV σ_9 7 * nV σ_11 11 := by rw [q20.2.2.1, J14.2.1, q16.2.2.1, H7.2.1, G7.2.1, H11.2.1]
          have z7 : 0 < nV σ_19 7 := by rw [w7]; exact Nat.mul_pos (hR_q XX).2 y11
          have ek : x103_3 = x93_2 := by rw [← y2]; exact Int32.le_antisymm w1 c8
          have vk : fQ σ_19 6 7 = v x93_2.toNatClampNeg := by
            have e := fQ_mul w6 w7
            rw [mk_inv] at e
            have e2 : mkRat (nV σ_11 11 : Int) (nV σ_11 12) = elS (elN P m (m - 1 - x93_2.toNatClampNeg)) m x93_2.toNatClampNeg := (hR_q Y).1
            rw [e2, (hR_q XX).1, ek] at e
            have r := hv x93_2.toNatClampNeg k9
            have iv := inv_s (S := elS (elN P m (m - 1 - x93_2.toNatClampNeg)) m x93_2.toNatClampNeg) (by grind)
            rw [e]
            generalize elS (elN P m (m - 1 - x93_2.toNatClampNeg)) m x93_2.toNatClampNeg = U at r iv ⊢
            generalize smQ (fun r => v r * elN P m (m - 1 - x93_2.toNatClampNeg) r x93_2.toNatClampNeg) x93_2.toNatClampNeg = B at r ⊢
            grind
          refine reduce_c hC  ?_ (fun σ_21 q22 => ?_)
          · clear h; simp only [kn]
            exact ⟨by decide, by decide, by decide, by decide, by decide, K6.1, q20.2.1, z7, by omega, by omega⟩
          simp only [kn] at q22
          have R := hR_red q22.2.1 q22.2.2.1 z7 q22.2.2.2.1 q22.2.2.2.2
          rw [vk] at R
          have FT := fit_L R (F5f M hw hm2 hv k9)
          refine keepIn_c hC  ?_ (fun σ_23 q24 => ?_)
          · clear h; rw [y1, y2]
            simp only [kn]
            exact ⟨ir.1.1, ir.1.2, by decide, by decide, by decide, by decide, R.1, R.2.1, FT.1, FT.2⟩
          rw [y1, y2, ir2] at q24
          simp only [kn] at q24
          have FN : frN [0, 1, 2, 3, 4, 5, 6, 7, 8, 9, 10, 11, 12, 13, 14] σ103 σ_21 := frN_tr (frN_mono q10.1 (sub_of rfl)) (frN_tr (frN_mono q12.1 (sub_of rfl)) (frN_tr (frN_mono q14.1 (sub_of rfl)) (frN_tr (frN_mono q16.1 (sub_of rfl)) (frN_tr (frN_mono q18.1 (sub_of rfl)) (frN_tr (frN_mono q20.1 (sub_of rfl)) (frN_mono q22.1 (sub_of rfl)))))))
          have FK := frK_R (m := [0, 1, 2, 3, 4, 5, 6, 7, 8, 9, 10, 11, 12, 13, 14]) q24.1
          intro x25 hx25
          refine ⟨_, cn_lt2 hn93 ?_ ?_, rfl, ?_⟩
          · clear h; rw [hx25, y2]; exact u.2.2.1  -- d18
          · clear h; rw [hx25, y2]; exact u.2.2.2.1  -- d19
          · clear h; rw [hx25, y2]
            refine ⟨y1, frK_tr H (frK_tr (frK_N FN (sub_of rfl)) (frK_w FK (fun k hk => hk) (by omega) (by omega))), kpH_tr ky (kpH_tr (kpH_e (FN.2.2.1 93 (by decide) (by decide))) (kpH_K FK (fun r d => by unfold dOf at d; omega))), u.1, u.2.1, fun j z1 z2 => ?_, fun j hj => ?_⟩
            · rw [cn_succ t2 u.2.2.2.2.2.1] at z1
              exact hL_K FK (by omega) (hL_N FN (YT j z1 z2))
            · rw [cn_succ t2 u.2.2.2.2.2.1] at hj
              by_cases e : j = x93_2.toNatClampNeg
              · rw [e]; exact hL_of R q24.2.1 q24.2.2.1 q24.2.2.2.1 q24.2.2.2.2
              · exact hL_K FK (by omega) (hL_N FN (VT j (by omega)))
        · skip
          rw [y2] at c8
          have y := fd_u w0 c8 u.2.2.2.2.1
          have ju : x103_3.toNatClampNeg < x93_2.toNatClampNeg := cn_lt w0 y.2.2.2.2.2.2
          have irj := ixr (c := 1152) (by decide) (by decide) b0 a32 w0 y.2.2.2.2.1
          have irj2 : (1152 + 32 * a1 + x103_3).toNatClampNeg = 1152 + 32 * a1.toNatClampNeg + x103_3.toNatClampNeg := irj.2
          have xjk := ixs w0 y.2.2.2.2.1 t2 u.2.2.2.2.1
          have Ajk : hL σ103 (32 * x103_3.toNatClampNeg + x93_2.toNatClampNeg) (elN P m (m - 1 - x93_2.toNatClampNeg) x103_3.toNatClampNeg x93_2.toNatClampNeg) := by
            have z := JF.1 x103_3.toNatClampNeg x93_2.toNatClampNeg (by omega) k9
            rwa [show stF m m x103_3.toNatClampNeg x93_2.toNatClampNeg = m - 1 - x93_2.toNatClampNeg by unfold stF; rw [if_neg (by omega)]; omega] at z
          have Vj := VT x103_3.toNatClampNeg ju
          have zq : ziq σ103 (-1) = 1 := if_pos rfl
          have st : elX P m (dl a1.toNatClampNeg) (m - 1 - x93_2.toNatClampNeg) x93_2.toNatClampNeg + smQ (fun r => v r * elN P m (m - 1 - x93_2.toNatClampNeg) r x93_2.toNatClampNeg) x103_3.toNatClampNeg + v x103_3.toNatClampNeg * elN P m (m - 1 - x93_2.toNatClampNeg) x103_3.toNatClampNeg x93_2.toNatClampNeg * 1 = elX P m (dl a1.toNatClampNeg) (m - 1 - x93_2.toNatClampNeg) x93_2.toNatClampNeg + smQ (fun r => v r * elN P m (m - 1 - x93_2.toNatClampNeg) r x93_2.toNatClampNeg) (x103_3.toNatClampNeg + 1) := by rw [smQ_s, Rat.mul_one, Rat.add_assoc]
          refine addProduct_c hC  ?_ (fun σ_26 q27 => ?_)
          · clear h; rw [y1, y2, zq, o2, irj2, xjk.2.1, hL_q XK, hL_q Vj, hL_q Ajk, st]
            exact ⟨o.1.1, o.1.2, irj.1.1, irj.1.2, xjk.1.1, xjk.1.2, Or.inl rfl, XK, Vj, Ajk, F4 M hw hm2 hv k9 (by omega)⟩
          rw [y1, y2, zq, o2, irj2, xjk.2.1, hL_q XK, hL_q Vj, hL_q Ajk, st] at q27
          intro x28 hx28
          refine ⟨_, cn_lt2 hn103 ?_ ?_, rfl, ?_⟩
          · clear h; rw [hx28, y2]; exact y.2.2.1  -- d22
          · clear h; rw [hx28, y2]; exact y.2.2.2.1  -- d23
          · clear h; rw [hx28, y2, cn_succ w0 y.2.2.2.2.2.1]
            exact ⟨y1, rfl, frK_tr H (frK_w q27.1 (fun k hk => hk) (by omega) (by omega)), kpH_tr ky (kpH_K q27.1 (fun r d => by unfold dOf at d; omega)), y.1, y.2.1, fun j z1 z2 => hL_K q27.1 (by omega) (YT j z1 z2), q27.2, fun j hj => hL_K q27.1 (by omega) (VT j hj)⟩
    · skip
      have xk := fd_x c6 r0 r1 h1
      have cpk := cn_pred xk.2.2.2.2.2.1 xk.2.2.2.2.2.2
      rw [xk.2.2.2.2.1] at cpk
      have o := ixc (c := 1088) (by decide) (by decide) r0 xk.2.2.2.1
      have o2 : (1088 + x43_2).toNatClampNeg = 1088 + x43_2.toNatClampNeg := o.2.1
      have oS := ixc (c := 1056) (by decide) (by decide) r0 xk.2.2.2.1
      have oS2 : (1056 + x43_2).toNatClampNeg = 1056 + x43_2.toNatClampNeg := oS.2.1
      have k32 := o.2.2
      unfold w_visitFrom_49
      refine ⟨fun n l1 l2 l3 τ => n = (l2 - l3).toNatClampNeg ∧ (l1 = a1 ∧ l2 = x43_2 ∧ frK [0, 1, 2, 3, 4, 5, 6, 7, 8, 9, 10, 11, 12, 13, 14] (260 * 1088) (260 * 2176) σ τ ∧ kpH (dOf a1.toNatClampNeg) σ τ ∧ 0 ≤ l3 ∧ l3 ≤ l2 ∧ xrJ τ P m a1.toNatClampNeg (xsF m (m - 1 - x43_2.toNatClampNeg) l3.toNatClampNeg)), ⟨_, rfl, ?_⟩, ?_⟩
      · clear h; exact ⟨f1, rfl, G, kq, by decide, r0, XR⟩  -- j25
      rintro n49 x49_1 x49_2 x49_3 σ49 ⟨hn49, i49⟩
      obtain ⟨y1, y2, H, ky, w0, w1, XT⟩ := i49
      refine ⟨fun c29 => ?_, fun c29 => ?_⟩
      · skip
        intro x30 hx30
        refine ⟨_, cn_lt2 hn43 ?_ ?_, rfl, ?_⟩
        · clear h; rw [hx30, y2]; exact xk.1  -- d26
        · clear h; rw [hx30, y2]; exact xk.2.1  -- d27
        · clear h; have ek : x49_3 = x43_2 := by rw [← y2]; exact Int32.le_antisymm w1 c29
          rw [ek] at XT
          rw [hx30, y2]
          refine ⟨y1, H, ky, xk.1, xk.2.2.1, fun j hj => ?_⟩
          have z := XT j hj
          have e := xsF_e (j := j) cpk km hj
          rwa [e] at z
      · skip
        rw [y2] at c29
        have y := fd_u w0 c29 xk.2.2.2.1
        have ju : x49_3.toNatClampNeg < x43_2.toNatClampNeg := cn_lt w0 y.2.2.2.2.2.2
        have oj := ixc (c := 1088) (by decide) (by decide) w0 y.2.2.2.2.1
        have oj2 : (1088 + x49_3).toNatClampNeg = 1088 + x49_3.toNatClampNeg := oj.2.1
        have xkj := ixs r0 xk.2.2.2.1 w0 y.2.2.2.2.1
        have JF := fdJ_kp hm2 ky J0
        have AS := JF.2.2 x43_2.toNatClampNeg (Nat.zero_le _) km
        have Q1 := Mk_n M (n := m - 1 - x43_2.toNatClampNeg) (by omega)
        rw [show m - (m - 1 - x43_2.toNatClampNeg) = x43_2.toNatClampNeg + 1 by omega] at Q1
        have Sp := (Mk_S Q1).1
        have Sn : elS (elN P m (m - 1 - x43_2.toNatClampNeg)) m x43_2.toNatClampNeg ≠ 0 := by grind
        have Akj : hL σ49 (32 * x43_2.toNatClampNeg + x49_3.toNatClampNeg) (elN P m (m - 1 - x43_2.toNatClampNeg) x43_2.toNatClampNeg x49_3.toNatClampNeg) := by
          have z := JF.1 x43_2.toNatClampNeg x49_3.toNatClampNeg km (by omega)
          rwa [show stF m m x43_2.toNatClampNeg x49_3.toNatClampNeg = m - 1 - x43_2.toNatClampNeg by unfold stF; rw [if_neg (by omega)]; omega] at z
        have Xj : hL σ49 (1088 + x49_3.toNatClampNeg) (elX P m (dl a1.toNatClampNeg) (m - 1 - x43_2.toNatClampNeg) x49_3.toNatClampNeg) := by
          have z := XT x49_3.toNatClampNeg (by omega)
          rwa [show xsF m (m - 1 - x43_2.toNatClampNeg) x49_3.toNatClampNeg x49_3.toNatClampNeg = m - 1 - x43_2.toNatClampNeg by unfold xsF; rw [if_neg (by omega)]; omega] at z
        have Xk : hL σ49 (1088 + x43_2.toNatClampNeg) (elX P m (dl a1.toNatClampNeg) (m - 1 - x43_2.toNatClampNeg) x43_2.toNatClampNeg) := by
          have z := XT x43_2.toNatClampNeg km
          rwa [show xsF m (m - 1 - x43_2.toNatClampNeg) x49_3.toNatClampNeg x43_2.toNatClampNeg = m - 1 - x43_2.toNatClampNeg by unfold xsF; rw [if_neg (by omega)]; omega] at z
        refine addProduct_c hC  ?_ (fun σ_31 q32 => ?_)
        · clear h; rw [y2, ziq_p oS.1.1, oj2, o2, xkj.2.1, oS2, hL_q Xj, hL_q Xk, hL_q Akj, hL_q AS, ← el_xt km]
          exact ⟨oj.1.1, oj.1.2, o.1.1, o.1.2, xkj.1.1, xkj.1.2, Or.inr ⟨oS.1.1, oS.1.2, AS, Sn⟩, Xj, Xk, Akj, F3 M hw hm2 (by omega)⟩
        rw [y2, ziq_p oS.1.1, oj2, o2, xkj.2.1, oS2, hL_q Xj, hL_q Xk, hL_q Akj, hL_q AS, ← el_xt km] at q32
        intro x33 hx33
        refine ⟨_, cn_lt2 hn49 ?_ ?_, rfl, ?_⟩
        · clear h; rw [hx33, y2]; exact y.2.2.1  -- d30
        · clear h; rw [hx33, y2]; exact y.2.2.2.1  -- d31
        · clear h; rw [hx33, y2, cn_succ w0 y.2.2.2.2.2.1]
          refine ⟨y1, rfl, frK_tr H (frK_w q32.1 (fun k hk => hk) (by omega) (by omega)), kpH_tr ky (kpH_K q32.1 (fun r d => by unfold dOf at d; omega)), y.1, y.2.1, fun j hj => ?_⟩
          by_cases e : j = x49_3.toNatClampNeg
          · rw [e, show xsF m (m - 1 - x43_2.toNatClampNeg) (x49_3.toNatClampNeg + 1) x49_3.toNatClampNeg = m - 1 - x43_2.toNatClampNeg + 1 by unfold xsF; rw [if_pos (by omega)]]
            exact q32.2
          · have z := XT j hj
            rw [show xsF m (m - 1 - x43_2.toNatClampNeg) x49_3.toNatClampNeg j = xsF m (m - 1 - x43_2.toNatClampNeg) (x49_3.toNatClampNeg + 1) j from xsF_o e] at z
            exact hL_K q32.1 (by omega) z
  · skip
    refine ⟨fun c34 => ?_, fun c34 => ?_⟩
    · skip
      refine hj26 _ _ _ _ _ ?_
      · clear h; rw [e100] at c4
        refine ⟨e1, rfl, rfl, c4, rfl, by decide, ?_⟩
        unfold dl
        rw [if_neg (fun z => c34 (by rw [e1]; exact (cn_inj l0 b0 z.symm)))]
        rfl
    · skip
      refine hj26 _ _ _ _ _ ?_
      · clear h; rw [e100] at c4
        refine ⟨e1, rfl, rfl, c4, rfl, by decide, ?_⟩
        unfold dl
        rw [c34, e1, if_pos rfl]
        rfl
