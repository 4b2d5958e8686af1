set_option maxHeartbeats 1600000
/-! the reference: the chain of a ring -/
def mN (σ : rS) (a : Nat) : Nat := (σ.2.2.1 99 a).toNatClampNeg
/-- the members of a ring: states, and no two alike -/
def mbO (σ : rS) (m : Nat) : Prop := (∀ a, a < m → 0 ≤ σ.2.2.1 99 a ∧ σ.2.2.1 99 a < σ.1 70) ∧ ∀ a b, a < m → b < m → σ.2.2.1 99 a = σ.2.2.1 99 b → a = b
def riT (σ : rS) (r : Nat) : Nat := (tTI σ (mN σ r)).toNat
def rK (σ : rS) (m r j : Nat) : Int := if j = m then tTI σ (mN σ r) - sI (fun b => wKI σ (mN σ r) (σ.2.2.1 99 b)) m else wKI σ (mN σ r) (σ.2.2.1 99 j)
def rP (σ : rS) (m r j : Nat) : Rat := mkRat (rK σ m r j) (riT σ r)
/-- from state s the end can come -/
def cnE (σ : rS) (s : Nat) : Prop := endN σ 1 s ∨ ∃ t, t < (σ.1 70).toNatClampNeg ∧ Tr (edN σ 1 95 1) s t ∧ endN σ 1 t
theorem mk_d {a : Int} {b : Nat} : mkRat a b = (a : Rat) * (b : Rat)⁻¹ := by rw [Rat.mkRat_eq_div, Rat.div_def]
theorem nq0 {b : Nat} (h : 0 < b) : (0 : Rat) < (b : Rat) := Rat.natCast_pos.mpr h
theorem mk_t {a : Int} {b : Nat} (h : 0 < b) : (a : Rat) = (b : Rat) * mkRat a b := by
  have e := inv_s (S := (b : Rat)) (by have := nq0 h; grind)
  rw [mk_d]
  grind
theorem riT_b {σ : rS} {m r : Nat} (h : pOK σ) (hM : mbO σ m) (hr : r < m) : 0 < riT σ r ∧ riT σ r ≤ 8000000 ∧ (riT σ r : Int) = tTI σ (mN σ r) := by
  have b := tT_b h (hM.1 r hr).1 (hM.1 r hr).2
  unfold riT mN
  omega
theorem rK_b {σ : rS} {m r j : Nat} (h : pOK σ) (hM : mbO σ m) (hr : r < m) (hj : j < m ∨ j = m) : 0 ≤ rK σ m r j ∧ rK σ m r j ≤ (riT σ r : Int) := by
  have b := riT_b h hM hr
  have k := hM.1 r hr
  have s := (wK_m (M := σ.2.2.1 99) (m := m) hM.2 h k.1 k.2).1
  have nn : 0 ≤ sI (fun b => wKI σ (mN σ r) (σ.2.2.1 99 b)) m := sI_nn (fun i _ => (wp_b h k.1 k.2 (Nat.le_refl _)).1)
  rw [b.2.2]
  unfold rK
  split
  · unfold mN at *
    omega
  · exact wp_b h k.1 k.2 (Nat.le_refl _)
theorem rP_whl {σ : rS} {m : Nat} (h : pOK σ) (hM : mbO σ m) : whl (rP σ m) m (riT σ) (rK σ m) := by
  refine ⟨fun r hr => ⟨(riT_b h hM hr).1, Nat.le_trans (riT_b h hM hr).2.1 (by decide)⟩, fun r j hr hj => ?_⟩
  have b := riT_b h hM hr
  exact ⟨mk_t b.1, rK_b h hM hr hj⟩
theorem rP_pos {σ : rS} {m r j : Nat} (h : pOK σ) (hM : mbO σ m) (hr : r < m) (hk : 0 < rK σ m r j) : 0 < rP σ m r j := by
  have b := riT_b h hM hr
  have t := nq0 b.1
  have i := Rat.inv_pos.mpr t
  have k : (0 : Rat) < (rK σ m r j : Rat) := Rat.intCast_pos.mpr hk
  unfold rP
  rw [mk_d]
  exact Rat.mul_pos k i
theorem rP_nn {σ : rS} {m r j : Nat} (h : pOK σ) (hM : mbO σ m) (hr : r < m) (hj : j < m ∨ j = m) : 0 ≤ rP σ m r j := by
  have k := (rK_b h hM hr hj).1
  by_cases e : rK σ m r j = 0
  · unfold rP
    rw [e, Rat.zero_mkRat]
    exact Rat.le_refl
  · exact Rat.le_of_lt (rP_pos h hM hr (by omega))
theorem rP_1 {σ : rS} {m r : Nat} (h : pOK σ) (hM : mbO σ m) (hr : r < m) : rP σ m r m + smQ (rP σ m r) m = 1 := by
  have b := riT_b h hM hr
  have e := inv_s (S := (riT σ r : Rat)) (by have := nq0 b.1; grind)
  have s : smQ (rP σ m r) m = ((sI (fun b => wKI σ (mN σ r) (σ.2.2.1 99 b)) m : Int) : Rat) * (riT σ r : Rat)⁻¹ := by
    rw [sI_cast, ← smQ_mul]
    exact smQ_c (fun i hi => by
      unfold rP rK
      rw [mk_d, if_neg (by omega)])
  have z : rP σ m r m = ((tTI σ (mN σ r) - sI (fun b => wKI σ (mN σ r) (σ.2.2.1 99 b)) m : Int) : Rat) * (riT σ r : Rat)⁻¹ := by
    unfold rP rK
    rw [mk_d, if_pos rfl]
  rw [s, z, ← Rat.add_mul, ← Rat.intCast_add, Int.sub_add_cancel, ← b.2.2]
  exact e
/-- a next that is taken weighs something -/
theorem tw_pos {σ : rS} {j i : Int32} (h : pOK σ) (j0 : 0 ≤ j) (j1 : j < σ.1 70) (i0 : σ.2.2.1 76 j.toNatClampNeg ≤ i) (i1 : i < σ.2.2.1 76 (j.toNatClampNeg + 1)) (ht : σ.2.2.1 81 j.toNatClampNeg = 0 ∨ i = σ.2.2.1 76 j.toNatClampNeg + σ.2.2.1 83 j.toNatClampNeg) : 0 < twI σ j.toNatClampNeg i.toNatClampNeg := by
  have s := h.1.2.2.2.1 j j0 j1
  have st := ex_st h.1 j0 j1
  unfold twI
  by_cases e : σ.2.2.1 81 j.toNatClampNeg = 0
  · rw [if_pos e]
    have z := s.2.2.1 i.toNatClampNeg (cn_l i0 st.1.1) (by rw [rd, st.2.2.2.1]; exact cn_lt (Int32.le_trans st.1.1 i0) i1)
    have z2 := Int32.le_iff_toInt_le.mp z
    rw [show (1 : Int32).toInt = 1 from rfl] at z2
    omega
  · rcases ht with z | z
    · exact absurd z e
    · rw [if_neg e, if_pos (by rw [z])]
      decide
theorem rP_out {σ : rS} {m r : Nat} {i : Int32} (h : pOK σ) (hM : mbO σ m) (hr : r < m) (i0 : σ.2.2.1 76 (mN σ r) ≤ i) (i1 : i < σ.2.2.1 76 (mN σ r + 1)) (ht : σ.2.2.1 81 (mN σ r) = 0 ∨ i = σ.2.2.1 76 (mN σ r) + σ.2.2.1 83 (mN σ r)) (hn : σ.2.2.1 77 i.toNatClampNeg ≠ 0 ∨ ∀ b, b < m → σ.2.2.1 78 i.toNatClampNeg ≠ σ.2.2.1 99 b) : 0 < rP σ m r m := by
  have k := hM.1 r hr
  refine rP_pos h hM hr ?_
  unfold rK
  rw [if_pos rfl]
  have z := (wK_m (M := σ.2.2.1 99) (m := m) hM.2 h k.1 k.2).2 i i0 i1 (tw_pos h k.1 k.2 i0 i1 ht) hn
  unfold mN
  omega
theorem rP_in {σ : rS} {m r c : Nat} {i : Int32} (h : pOK σ) (hM : mbO σ m) (hr : r < m) (hc : c < m) (i0 : σ.2.2.1 76 (mN σ r) ≤ i) (i1 : i < σ.2.2.1 76 (mN σ r + 1)) (ht : σ.2.2.1 81 (mN σ r) = 0 ∨ i = σ.2.2.1 76 (mN σ r) + σ.2.2.1 83 (mN σ r)) (h77 : σ.2.2.1 77 i.toNatClampNeg = 0) (h78 : σ.2.2.1 78 i.toNatClampNeg = σ.2.2.1 99 c) : 0 < rP σ m r c := by
  have k := hM.1 r hr
  have st := ex_st h.1 k.1 k.2
  refine rP_pos h hM hr ?_
  unfold rK
  rw [if_neg (by omega)]
  unfold wKI wpI
  have l := cn_l i0 st.1.1
  have u := cn_lt (Int32.le_trans st.1.1 i0) i1
  have w := tw_pos h k.1 k.2 i0 i1 ht
  have z := sI_lt (f := fun _ => 0) (g := fun d => wcI σ (mN σ r) (σ.2.2.1 99 c) (loN σ (mN σ r) + d)) (j := i.toNatClampNeg - loN σ (mN σ r)) (n := leN σ (mN σ r)) (fun i hi => (wc_b h k.1 k.2 hi).1) (by unfold leN loN mN at *; omega) (by
    rw [show loN σ (mN σ r) + (i.toNatClampNeg - loN σ (mN σ r)) = i.toNatClampNeg by unfold loN mN at *; omega]
    unfold wcI
    rw [if_pos ⟨h77, h78⟩]
    exact w)
  rwa [sI_z] at z
theorem rP_end {σ : rS} {m r : Nat} (h : pOK σ) (hM : mbO σ m) (hr : r < m) (he : endN σ 1 (mN σ r)) : 0 < rP σ m r m := by
  obtain ⟨i, i0, i1, h1, h2⟩ := he
  exact rP_out h hM hr i0 i1 (h2.resolve_left (by decide)) (Or.inl h1)
theorem cx_path {σ : rS} {m t : Nat} (h : pOK σ) (hM : mbO σ m) (he : endN σ 1 t) : ∀ {k r : Nat}, r < m → pth (edN σ 1 95 1) k (mN σ r) t → ∃ n, cEx (rP σ m) m m n r
  | 0, r, hr, hp => by
    obtain ⟨i, i0, i1, e1, e2, e3, -⟩ := hp
    have ht := e3.resolve_left (by decide)
    by_cases e : ∃ b, b < m ∧ σ.2.2.1 78 i.toNatClampNeg = σ.2.2.1 99 b
    · obtain ⟨b, hb, eb⟩ := e
      rw [rd, eb] at e2
      exact ⟨1, b, hb, rP_in h hM hr hb i0 i1 ht e1 eb, rP_end h hM hb (by unfold mN; rw [e2]; exact he)⟩
    · exact ⟨0, rP_out h hM hr i0 i1 ht (Or.inr (fun b hb z => e ⟨b, hb, z⟩))⟩
  | k + 1, r, hr, hp => by
    obtain ⟨c, ⟨i, i0, i1, e1, e2, e3, -⟩, g⟩ := hp
    have ht := e3.resolve_left (by decide)
    by_cases e : ∃ b, b < m ∧ σ.2.2.1 78 i.toNatClampNeg = σ.2.2.1 99 b
    · obtain ⟨b, hb, eb⟩ := e
      rw [rd, eb] at e2
      obtain ⟨n, hn⟩ := cx_path (k := k) h hM he hb (by unfold mN; rw [e2]; exact g)
      exact ⟨n + 1, b, hb, rP_in h hM hr hb i0 i1 ht e1 eb, hn⟩
    · exact ⟨0, rP_out h hM hr i0 i1 ht (Or.inr (fun b hb z => e ⟨b, hb, z⟩))⟩
theorem rP_Mk {σ : rS} {m : Nat} (h : pOK σ) (hM : mbO σ m) (hc : ∀ r, r < m → cnE σ (mN σ r)) : Mk (rP σ m) m m := by
  refine ⟨fun i j hi hj => rP_nn h hM hi hj, fun i hi => rP_1 h hM hi, fun i hi => ?_⟩
  rcases hc i hi with z | ⟨t, _, ⟨k, z1⟩, z2⟩
  · exact ⟨0, rP_end h hM hi z⟩
  · exact cx_path h hM z2 hi z1
