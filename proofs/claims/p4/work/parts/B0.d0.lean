set_option maxHeartbeats 1600000
/-! the class: rows of java.util.Arrays -/
theorem ofn_i {n : Nat} (h : n ≤ 67108864) : (Int32.ofNat n).toInt = n := Int32.toInt_ofNat_of_lt (Nat.lt_of_le_of_lt h (by decide))
theorem ofn_0 {n : Nat} (h : n ≤ 67108864) : 0 ≤ Int32.ofNat n := Int32.le_iff_toInt_le.mpr (by rw [ofn_i h]; exact Int.natCast_nonneg n)
theorem ofn_c {n : Nat} (h : n ≤ 67108864) : (Int32.ofNat n).toNatClampNeg = n := by
  show (Int32.ofNat n).toInt.toNat = n
  rw [ofn_i h]
  rfl
theorem cn_i {x : Int32} (h : 0 ≤ x) : x.toInt = x.toNatClampNeg := by
  have h1 : (0 : Int32).toInt ≤ x.toInt := Int32.le_iff_toInt_le.mp h
  have e : (0 : Int32).toInt = 0 := rfl
  show x.toInt = ((x.toInt.toNat : Nat) : Int)
  rw [e] at h1
  omega
theorem le_ofn {x : Int32} {n : Nat} (h : n ≤ 67108864) (h0 : 0 ≤ x) : x ≤ Int32.ofNat n ↔ x.toNatClampNeg ≤ n := by
  rw [Int32.le_iff_toInt_le, ofn_i h, cn_i h0]
  omega
theorem ofn_le {x : Int32} {n : Nat} (h : n ≤ 67108864) (h0 : 0 ≤ x) : Int32.ofNat n ≤ x ↔ n ≤ x.toNatClampNeg := by
  rw [Int32.le_iff_toInt_le, ofn_i h, cn_i h0]
  omega
theorem le_cn {x y : Int32} (h0 : 0 ≤ x) (h1 : 0 ≤ y) : x ≤ y ↔ x.toNatClampNeg ≤ y.toNatClampNeg := by
  rw [Int32.le_iff_toInt_le, cn_i h0, cn_i h1]
  omega
theorem lt_cn {x y : Int32} (h0 : 0 ≤ x) (h1 : 0 ≤ y) : x < y ↔ x.toNatClampNeg < y.toNatClampNeg := by
  rw [Int32.lt_iff_toInt_lt, cn_i h0, cn_i h1]
  omega
theorem n_lt {x y : Int32} (h : ¬ x ≤ y) : y < x := by grind
theorem n_le {x y : Int32} (h : ¬ x < y) : y ≤ x := by grind
theorem zW.n {C : zC} {n0 : Nat} {κ : zS} {a c : Nat} (W : zW C n0 κ) (h : zT κ a = c + 1) : zN κ a ≤ 67108864 := (W.2.1 a (by omega)).1.2
/-- a row that has been copied -/
def cpR (κ κ' : zS) (s t n : Nat) : Prop := (zT κ' = zT (na κ t n) ∧ zN κ' = zN (na κ t n) ∧ zI κ' = zI κ ∧ zR κ' = zR κ ∧ (∀ b, b ≠ zn κ → zA κ' b = zA κ b ∧ zJ κ' b = zJ κ b ∧ zQ κ' b = zQ κ b ∧ zO κ' b = zO κ b) ∧ zn κ' = zn κ + 1 ∧ zc κ' = zc κ + 1 ∧ zs κ' = zs κ + n) ∧ zO κ' (zn κ) = (0, 0) ∧ (∀ i, i < n → i < zN κ s → zA κ' (zn κ) i = zA κ s i) ∧ ∀ i, zN κ s ≤ i → zA κ' (zn κ) i = 0
theorem mn_c {x : Int32} {n : Nat} (h : n ≤ 67108864) (h0 : 0 ≤ x) : 0 ≤ (if x < Int32.ofNat n then x else Int32.ofNat n) ∧ (if x < Int32.ofNat n then x else Int32.ofNat n).toNatClampNeg = min x.toNatClampNeg n := by
  have e := lt_cn h0 (ofn_0 h)
  rw [ofn_c h] at e
  by_cases z : x < Int32.ofNat n
  · rw [if_pos z]
    have := e.mp z
    exact ⟨h0, by omega⟩
  · rw [if_neg z, ofn_c h]
    have : ¬ x.toNatClampNeg < n := fun q => z (e.mpr q)
    exact ⟨ofn_0 h, by omega⟩
theorem cpR_of {C : zC} {n0 : Nat} {κ : zS} {s t n m : Nat} (W : zW C n0 κ) (hs : zT κ s ≠ 0) (hm : m = min n (zN κ s)) : cpR κ (uc (na κ t n) s (zn κ) 0 0 m) s t n := by
  have hf := W.fr
  have hne : s ≠ zn κ := fun e => by rw [e, hf] at hs; exact hs rfl
  have ea : zA (uc (na κ t n) s (zn κ) 0 0 m) (zn κ) = va_cpy (zA κ s) (fun _ => 0) 0 0 m := by
    show (if zn κ = zn κ then va_cpy (zA (na κ t n) s) (zA (na κ t n) (zn κ)) 0 0 m else _) = _
    rw [if_pos rfl]
    have e1 : zA (na κ t n) s = zA κ s := if_neg hne
    have e2 : zA (na κ t n) (zn κ) = fun _ => 0 := if_pos rfl
    rw [e1, e2]
  refine ⟨⟨rfl, rfl, rfl, rfl, fun b hb => ⟨(if_neg hb).trans (if_neg hb), if_neg hb, if_neg hb, if_neg hb⟩, rfl, rfl, rfl⟩, if_pos rfl, fun i h1 h2 => ?_, fun i h1 => ?_⟩
  · rw [ea]
    show (if 0 ≤ i ∧ i < 0 + m then zA κ s (0 + (i - 0)) else 0) = _
    rw [if_pos ⟨Nat.zero_le _, by omega⟩]
    congr 1
    omega
  · rw [ea]
    show (if 0 ≤ i ∧ i < 0 + m then zA κ s (0 + (i - 0)) else 0) = _
    rw [if_neg (by omega)]
/-- a row filled from a place to a place -/
def uff (κ : zS) (r i j : Nat) (x : Int32) : zS := (κ.1, κ.2.1, κ.2.2.1, κ.2.2.2.1, fun b => if b = r then (fun k => if i ≤ k ∧ k < j then x else κ.2.2.2.2.1 r k) else κ.2.2.2.2.1 b, κ.2.2.2.2.2)
theorem uf_0 {κ : zS} {r i : Nat} {x : Int32} : uff κ r i i x = κ := by
  have e : (fun b => if b = r then (fun k => if i ≤ k ∧ k < i then x else zA κ r k) else zA κ b) = zA κ := by
    funext b
    by_cases z : b = r
    · rw [if_pos z, z]
      funext k
      rw [if_neg (by omega)]
    · rw [if_neg z]
  show (κ.1, κ.2.1, κ.2.2.1, κ.2.2.2.1, (fun b => if b = r then (fun k => if i ≤ k ∧ k < i then x else zA κ r k) else zA κ b), κ.2.2.2.2.2) = κ
  rw [e]
theorem uf_s {κ : zS} {r i j : Nat} {x : Int32} (h : i ≤ j) : ua (uff κ r i j x) r j x = uff κ r i (j + 1) x := by
  have e : (fun b => if b = r then upd ((fun b => if b = r then (fun k => if i ≤ k ∧ k < j then x else zA κ r k) else zA κ b) r) j x else (fun b => if b = r then (fun k => if i ≤ k ∧ k < j then x else zA κ r k) else zA κ b) b) = fun b => if b = r then (fun k => if i ≤ k ∧ k < j + 1 then x else zA κ r k) else zA κ b := by
    funext b
    by_cases z : b = r
    · rw [if_pos z, if_pos z]
      funext k
      show (if k = j then x else (if r = r then (fun k => if i ≤ k ∧ k < j then x else zA κ r k) else zA κ r) k) = _
      rw [if_pos rfl]
      by_cases q : k = j
      · rw [if_pos q, if_pos (by omega)]
      · rw [if_neg q]
        by_cases q2 : i ≤ k ∧ k < j
        · rw [if_pos q2, if_pos (by omega)]
        · rw [if_neg q2, if_neg (by omega)]
    · rw [if_neg z, if_neg z]
      exact if_neg z
  exact congrArg (fun g => ((κ.1, κ.2.1, κ.2.2.1, κ.2.2.2.1, g, κ.2.2.2.2.2) : zS)) e
theorem zF_uf {F : Nat → Nat → Prop} {κ : zS} {r i j : Nat} {x : Int32} (hF : F (zO κ r).1 (zO κ r).2) : zF F κ (uff κ r i j x) :=
  ⟨fun _ _ _ => ⟨rfl, rfl⟩, fun y _ z => ⟨if_neg (fun e => z (by rw [e]; exact hF)), rfl, rfl, rfl⟩, fun _ _ _ => rfl, zRn.of rfl rfl rfl rfl rfl (fun _ _ _ => rfl), zM.of rfl rfl rfl⟩
theorem dn_c {x y : Int32} (h0 : 0 ≤ x) (h : x < y) : 0 ≤ y - (x + 1) ∧ y - (x + 1) < y - x ∧ (x + 1).toNatClampNeg = x.toNatClampNeg + 1 ∧ 0 ≤ x + 1 ∧ x + 1 ≤ y ∧ x ≤ x + 1 := by
  refine ⟨by grind, by grind, ?_, by grind, by grind, by grind⟩
  have a : 0 ≤ x + 1 := by grind
  have e := cn_i a
  have e2 := cn_i h0
  have e3 : (x + 1).toInt = x.toInt + 1 := by
    have h1 : x.toInt < y.toInt := Int32.lt_iff_toInt_lt.mp h
    have h2 := Int32.toInt_lt y
    have h3 := Int32.le_toInt x
    rw [Int32.toInt_add]
    have e4 : (1 : Int32).toInt = 1 := rfl
    rw [e4]
    exact Int.bmod_eq_of_le (by omega) (by omega)
  omega
theorem Ar_copyOf_c {C : zC} {n0 : Nat} {a0 : Nat} {a1 : Int32} {κ : zS} {Q : Nat → zS → Prop} (W : zW C n0 κ) (Ta0 : zT κ a0 = 20)  (hp : nsz a1 ∧ a1 ≠ Int32.ofNat (zN κ a0)) (h : ∀ (v : Nat) (κ' : zS), (v = zn κ ∧ cpR κ κ' a0 20 a1.toNatClampNeg) → Q v κ') : zRun C 1 mAr_copyOf [.ref a0, .int a1] κ (oR 20 Q noX) := by
  refine Ar_copyOf_run W Ta0 ?_
  replace W := W.lo (Nat.le_trans W.1.2.1 W.1.2.2) (Nat.le_refl (zn κ))
  unfold w_Ar_copyOf_0
  obtain ⟨hn, hne⟩ := hp
  have m := mn_c (W.n Ta0) hn.1
  have e0 : zN (na κ 20 a1.toNatClampNeg) a0 = zN κ a0 := if_neg (W.nw Ta0)
  have e1 : zN (na κ 20 a1.toNatClampNeg) (zn κ) = a1.toNatClampNeg := if_pos rfl
  have z0 : (0 : Int32).toNatClampNeg = 0 := rfl
  refine ⟨fun c1 => ?_, fun c1 => ?_⟩
  · skip
    refine ⟨?_, ?_⟩
    · exact hn  -- b1
    intro κ_2 hκ_2
    intro W3
    intro x4 hx4
    refine ⟨?_, ?_⟩
    · rw [hx4, hκ_2]
      unfold cpo
      rw [e0, e1, z0, m.2]
      exact ⟨by decide, by decide, m.1, by omega, by omega⟩
    intro κ_5 hκ_5
    intro W6
    refine h _ _ ?_
    · refine ⟨hx4, ?_⟩
      rw [hκ_5, hx4, hκ_2, e0, z0]
      exact cpR_of W (by omega) m.2
  · skip
    exfalso
    · exact hne c1  -- f4

theorem Ar_copyOfB_c {C : zC} {n0 : Nat} {a0 : Nat} {a1 : Int32} {κ : zS} {Q : Nat → zS → Prop} (W : zW C n0 κ) (Ta0 : zT κ a0 = 21)  (hp : nsz a1 ∧ a1 ≠ Int32.ofNat (zN κ a0)) (h : ∀ (v : Nat) (κ' : zS), (v = zn κ ∧ cpR κ κ' a0 21 a1.toNatClampNeg) → Q v κ') : zRun C 1 mAr_copyOfB [.ref a0, .int a1] κ (oR 21 Q noX) := by
  refine Ar_copyOfB_run W Ta0 ?_
  replace W := W.lo (Nat.le_trans W.1.2.1 W.1.2.2) (Nat.le_refl (zn κ))
  unfold w_Ar_copyOfB_0
  obtain ⟨hn, hne⟩ := hp
  have m := mn_c (W.n Ta0) hn.1
  have e0 : zN (na κ 21 a1.toNatClampNeg) a0 = zN κ a0 := if_neg (W.nw Ta0)
  have e1 : zN (na κ 21 a1.toNatClampNeg) (zn κ) = a1.toNatClampNeg := if_pos rfl
  have z0 : (0 : Int32).toNatClampNeg = 0 := rfl
  refine ⟨fun c1 => ?_, fun c1 => ?_⟩
  · skip
    refine ⟨?_, ?_⟩
    · exact hn  -- b1
    intro κ_2 hκ_2
    intro W3
    intro x4 hx4
    refine ⟨?_, ?_⟩
    · rw [hx4, hκ_2]
      unfold cpo
      rw [e0, e1, z0, m.2]
      exact ⟨by decide, by decide, m.1, by omega, by omega⟩
    intro κ_5 hκ_5
    intro W6
    refine h _ _ ?_
    · refine ⟨hx4, ?_⟩
      rw [hκ_5, hx4, hκ_2, e0, z0]
      exact cpR_of W (by omega) m.2
  · skip
    exfalso
    · exact hne c1  -- f4

theorem Ar_fill_c {C : zC} {n0 : Nat} {a0 : Nat} {a1 : Int32} {κ : zS} {Q : zS → Prop} (W : zW C n0 κ) (Ta0 : zT κ a0 = 20)  (h : ∀ (κ' : zS), (κ' = uff κ a0 0 (zN κ a0) a1) → Q κ') : zRun C 0 mAr_fill [.ref a0, .int a1] κ (oV Q noX) := by
  refine Ar_fill_run W Ta0 ?_
  replace W := W.lo (Nat.le_trans W.1.2.1 W.1.2.2) (Nat.le_refl (zn κ))
  unfold w_Ar_fill_0
  have hN := W.n Ta0
  intro x1 hx1
  unfold w_Ar_fill_5
  refine ⟨fun n l0 l1 l2 l3 τ => n = (l3 - l2).toNatClampNeg ∧ (a0 = l0 ∧ a1 = l1 ∧ l3 = Int32.ofNat (zN κ a0) ∧ 0 ≤ l2 ∧ l2 ≤ l3 ∧ τ = uff κ a0 0 l2.toNatClampNeg a1), ⟨_, rfl, ?_⟩, ?_⟩
  · exact ⟨rfl, rfl, hx1, by decide, by rw [hx1]; exact ofn_0 hN, uf_0.symm⟩  -- j1
  rintro n5 _ _ x5_2 x5_3 κ5 W5 T5_0 ⟨hn5, rfl, rfl, i5⟩
  obtain ⟨i3, j0, j1, ie⟩ := i5
  refine ⟨fun c2 => ?_, fun c2 => ?_⟩
  · skip
    refine h _ ?_
    · have e : x5_2 = x5_3 := Int32.le_antisymm j1 c2
      rw [ie, e, i3, ofn_c hN]
  · skip
    refine ⟨?_, ?_⟩
    · have l := n_lt c2
      have q := (lt_cn j0 (Int32.le_trans j0 j1)).mp l
      rw [i3, ofn_c hN] at q
      refine inb_z j0 ?_
      rw [ie]
      exact q
    intro κ_3 hκ_3
    intro W4
    intro x5 hx5
    refine ⟨_, cn_lt2 hn5 ?_ ?_, rfl, ?_⟩
    · rw [hx5]; exact (dn_c j0 (n_lt c2)).1  -- d4
    · rw [hx5]; exact (dn_c j0 (n_lt c2)).2.1  -- d5
    · have q := dn_c j0 (n_lt c2)
      refine ⟨rfl, rfl, i3, by rw [hx5]; exact q.2.2.2.1, by rw [hx5]; exact q.2.2.2.2.1, ?_⟩
      rw [hκ_3, ie, hx5, q.2.2.1]
      exact uf_s (Nat.zero_le _)

theorem Ar_rangeCheck_c {C : zC} {n0 : Nat} {a0 : Int32} {a1 : Int32} {a2 : Int32} {κ : zS} {Q : zS → Prop} (W : zW C n0 κ)   (hp : 0 ≤ a1 ∧ a1 ≤ a2 ∧ a2 ≤ a0) (h : ∀ (κ' : zS), (κ' = κ) → Q κ') : zRun C 0 mAr_rangeCheck [.int a0, .int a1, .int a2] κ (oV Q noX) := by
  refine Ar_rangeCheck_run W  ?_
  replace W := W.lo (Nat.le_trans W.1.2.1 W.1.2.2) (Nat.le_refl (zn κ))
  unfold w_Ar_rangeCheck_0
  refine ⟨fun c1 => ?_, fun c1 => ?_⟩
  · skip
    refine ⟨fun c2 => ?_, fun c2 => ?_⟩
    · skip
      refine ⟨fun c3 => ?_, fun c3 => ?_⟩
      · skip
        refine h _ ?_
        · rfl  -- q1
      · skip
        exfalso
        · exact c3 hp.2.2  -- f2
    · skip
      exfalso
      · exact c2 hp.1  -- f3
  · skip
    exfalso
    · exact c1 hp.2.1  -- f4

theorem Ar_fill4_c {C : zC} {n0 : Nat} {a0 : Nat} {a1 : Int32} {a2 : Int32} {a3 : Int32} {κ : zS} {Q : zS → Prop} (W : zW C n0 κ) (Ta0 : zT κ a0 = 20)  (hp : 0 ≤ a1 ∧ a1 ≤ a2 ∧ a2.toNatClampNeg ≤ zN κ a0) (h : ∀ (κ' : zS), (κ' = uff κ a0 a1.toNatClampNeg a2.toNatClampNeg a3) → Q κ') : zRun C 1 mAr_fill4 [.ref a0, .int a1, .int a2, .int a3] κ (oV Q noX) := by
  refine Ar_fill4_run W Ta0 ?_
  replace W := W.lo (Nat.le_trans W.1.2.1 W.1.2.2) (Nat.le_refl (zn κ))
  unfold w_Ar_fill4_0
  obtain ⟨p0, p1, p2⟩ := hp
  have hN := W.n Ta0
  refine Ar_rangeCheck_c W   ?_ (fun κ_1 q2 => ?_)
  · exact ⟨p0, p1, (le_ofn hN (Int32.le_trans p0 p1)).mpr p2⟩  -- p1
  intro W3
  intro M4
  unfold w_Ar_fill4_10
  refine ⟨fun n l0 l2 l3 l4 τ => n = (l2 - l4).toNatClampNeg ∧ (a0 = l0 ∧ a2 = l2 ∧ a3 = l3 ∧ a1 ≤ l4 ∧ l4 ≤ l2 ∧ τ = uff κ a0 a1.toNatClampNeg l4.toNatClampNeg a3), ⟨_, rfl, ?_⟩, ?_⟩
  · exact ⟨rfl, rfl, rfl, Int32.le_refl _, p1, by rw [q2]; exact uf_0.symm⟩  -- j2
  rintro n10 _ _ _ x10_4 κ10 W10 T10_0 ⟨hn10, rfl, rfl, rfl, i10⟩
  obtain ⟨j0, j1, ie⟩ := i10
  have k0 := Int32.le_trans p0 j0
  refine ⟨fun c5 => ?_, fun c5 => ?_⟩
  · skip
    refine h _ ?_
    · have e : x10_4 = a2 := Int32.le_antisymm j1 c5
      rw [ie, e]
  · skip
    refine ⟨?_, ?_⟩
    · have l := n_lt c5
      have q := (lt_cn k0 (Int32.le_trans k0 j1)).mp l
      refine inb_z k0 ?_
      rw [ie]
      exact Nat.lt_of_lt_of_le q p2
    intro κ_6 hκ_6
    intro W7
    intro x8 hx8
    refine ⟨_, cn_lt2 hn10 ?_ ?_, rfl, ?_⟩
    · rw [hx8]; exact (dn_c k0 (n_lt c5)).1  -- d5
    · rw [hx8]; exact (dn_c k0 (n_lt c5)).2.1  -- d6
    · have q := dn_c k0 (n_lt c5)
      refine ⟨rfl, rfl, rfl, by rw [hx8]; exact Int32.le_trans j0 q.2.2.2.2.2, by rw [hx8]; exact q.2.2.2.2.1, ?_⟩
      rw [hκ_6, ie, hx8, q.2.2.1]
      exact uf_s ((le_cn p0 k0).mp j0)
