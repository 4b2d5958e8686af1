set_option maxHeartbeats 1600000
/-! the reference: quotient and remainder -/
theorem dv_add {f : Nat → Int32} {o a : Nat} : ∀ {b : Nat}, dv f o (a + b) = dv f o a + 65536 ^ a * dv f (o + a) b
  | 0 => by
    show dv f o a = dv f o a + 65536 ^ a * 0
    omega
  | b + 1 => by
    rw [← Nat.add_assoc, dv_s, dv_s, dv_add (b := b), Nat.mul_add, Nat.pow_add, ← Nat.add_assoc, Nat.mul_left_comm, Nat.add_assoc o a b]
    exact Nat.add_assoc ..
theorem nV_ge {σ : rS} {s k : Nat} (hs : numO σ s) (h : nL σ s = k + 1) : 65536 ^ k ≤ nV σ s := by
  unfold nV
  rw [h, dv_s]
  rcases hs.2.2.2 with z | ⟨m, z1, z2⟩
  · omega
  · have e : m = k := by omega
    rw [e] at z2
    have := Nat.mul_le_mul_right (65536 ^ k) (Nat.one_le_iff_ne_zero.mpr z2)
    omega
theorem nV_up {σ : rS} {s : Nat} (hs : numO σ s) : nV σ s < 65536 ^ nL σ s := dv_lt hs.2.2.1
theorem nL_lt {σ : rS} {r k : Nat} (hr : numO σ r) (h : nV σ r < 65536 ^ k) : nL σ r ≤ k := by
  by_cases e : nL σ r ≤ k
  · exact e
  · have g := nV_ge hr (k := nL σ r - 1) (by omega)
    have p : 65536 ^ k ≤ 65536 ^ (nL σ r - 1) := Nat.pow_le_pow_right (by decide) (by omega)
    omega
theorem nL_mono {σ τ : rS} {r s : Nat} (hr : numO σ r) (hs : numO τ s) (h : nV σ r ≤ nV τ s) : nL σ r ≤ nL τ s := nL_lt hr (Nat.lt_of_le_of_lt h (nV_up hs))
theorem nL_z {σ : rS} {r : Nat} (hr : numO σ r) : nL σ r = 0 ↔ nV σ r = 0 := by
  constructor
  · intro h
    unfold nV
    rw [h]
    rfl
  · intro h
    by_cases e : nL σ r = 0
    · exact e
    · have g := nV_ge hr (k := nL σ r - 1) (by omega)
      have := Nat.pow_pos (n := nL σ r - 1) (show 0 < 65536 by decide)
      omega
theorem b15 {x : Nat} (h : x < 65536) (z : x &&& 32768 = 0) : x < 32768 := by
  by_cases e : x < 32768
  · exact e
  · have t : x.testBit 15 = true := Nat.testBit_of_two_pow_le_and_two_pow_add_one_gt (by omega) (by omega)
    have a := Nat.testBit_and x 32768 15
    rw [z, t, Nat.zero_testBit, show Nat.testBit 32768 15 = true by decide] at a
    exact absurd a (by decide)
/-- the search for the shift -/
theorem sh_step {t b : Int32} (ht : 0 ≤ t ∧ t < 65536) (tz : 0 < t.toNatClampNeg) (b0 : 0 ≤ b) (b1 : b ≤ 15) (h : t.toNatClampNeg * 2 ^ b.toNatClampNeg < 65536) (z : (t <<< (b &&& 31)) &&& 32768 = 0) : t.toNatClampNeg * 2 ^ (b.toNatClampNeg + 1) < 65536 ∧ b ≤ 14 := by
  have s := shl_n ht b0 (Int32.le_trans b1 (by decide))
  have n : t.toNatClampNeg * 2 ^ b.toNatClampNeg &&& 32768 = 0 := by
    have e := congrArg (fun x : Int32 => x.toBitVec.toNat) z
    simp only [Int32.toBitVec_and, BitVec.toNat_and] at e
    rw [s.1] at e
    exact e
  have l := b15 h n
  have l2 : t.toNatClampNeg * 2 ^ (b.toNatClampNeg + 1) < 65536 := by
    rw [Nat.pow_succ, ← Nat.mul_assoc]
    omega
  refine ⟨l2, ?_⟩
  rw [cn_li b0 (by decide), show (14 : Int32).toNatClampNeg = 14 from rfl]
  by_cases e : b.toNatClampNeg ≤ 14
  · exact e
  · have p : 2 ^ 15 ≤ 2 ^ b.toNatClampNeg := Nat.pow_le_pow_right (by decide) (by omega)
    have m : 1 * 2 ^ b.toNatClampNeg ≤ t.toNatClampNeg * 2 ^ b.toNatClampNeg := Nat.mul_le_mul_right _ tz
    omega
def dvI (υ τ : rS) (q r s J : Nat) : Prop := frN [q, r] υ τ ∧ τ.2.2.1 91 = υ.2.2.1 91 ∧ J ≤ nL υ r - nL υ s + 1 ∧ dgO (τ.2.2.1 90) (40000 * r) (nL υ r + 1) ∧ dgO (τ.2.2.1 90) (40000 * q + J) (nL υ r - nL υ s + 1 - J) ∧ dv (τ.2.2.1 90) (40000 * r) (nL υ r + 1) + nV υ s * 65536 ^ J * dv (τ.2.2.1 90) (40000 * q + J) (nL υ r - nL υ s + 1 - J) = nV υ r ∧ dv (τ.2.2.1 90) (40000 * r + J) (nL υ s) < nV υ s ∧ ∀ i, J + nL υ s ≤ i → i ≤ nL υ r → τ.2.2.1 90 (40000 * r + i) = 0
theorem dvI_0 {υ τ : rS} {q r s : Nat} (hr : numO υ r) (hs : numO υ s) (hz : 0 < nL υ s) (hl : nL υ s ≤ nL υ r) (hm : nL υ r < 40000) (hu : τ = riU υ 90 (40000 * r + nL υ r) 0) : dvI υ τ q r s (nL υ r - nL υ s + 1) := by
  have r90 : ∀ j, τ.2.2.1 90 j = if j = 40000 * r + nL υ r then 0 else υ.2.2.1 90 j := fun j => by rw [hu, ri4]
  have old : ∀ k, k ≤ nL υ r → dv (τ.2.2.1 90) (40000 * r) k = dv (υ.2.2.1 90) (40000 * r) k := fun k hk => dv_congr (fun i hi => by rw [r90, if_neg (by omega)])
  refine ⟨frN_mono (by rw [hu]; exact frN_90 hm) (fun k hk => List.mem_cons_of_mem _ hk), by rw [hu, ri3 (by decide)], Nat.le_refl _, fun i hi => ?_, fun i hi => absurd hi (by omega), ?_, ?_, fun i hi hi2 => absurd hi (by omega)⟩
  · rw [r90]
    by_cases e : i = nL υ r
    · rw [e, if_pos rfl]; exact ⟨by decide, by decide⟩
    · rw [if_neg (by omega)]; exact hr.2.2.1 i (by omega)
  · rw [dv_s, old _ (Nat.le_refl _), r90, if_pos rfl, Nat.sub_self]
    show nV υ r + 0 * _ + _ * 0 = _
    rw [Nat.zero_mul, Nat.mul_zero]
    rfl
  · obtain ⟨k, hk⟩ : ∃ k, nL υ s = k + 1 := ⟨nL υ s - 1, by omega⟩
    have g := nV_ge hs hk
    refine Nat.lt_of_lt_of_le ?_ g
    rw [hk, dv_s, r90, if_pos (by omega)]
    have l : dv (τ.2.2.1 90) (40000 * r + (nL υ r - (k + 1) + 1)) k < 65536 ^ k := dv_lt (fun i hi => by
      rw [r90, if_neg (by omega), Nat.add_assoc]
      exact hr.2.2.1 _ (by omega))
    show _ + 0 * _ < _
    rw [Nat.zero_mul]
    exact l
theorem ar_v {X Y S p v Q R M' : Nat} (h : X + S * (65536 * p) * Q = R) (hx : Y + p * M' = X + 0) (hm : M' = v * S) : Y + S * p * (v + 65536 * Q) = R := by
  have e : S * p * (v + 65536 * Q) = p * (v * S) + S * (65536 * p) * Q := by
    rw [Nat.mul_add, Nat.mul_comm S p, Nat.mul_assoc, Nat.mul_comm S v]
    congr 1
    rw [Nat.mul_assoc, ← Nat.mul_assoc S 65536 p, Nat.mul_comm S 65536, Nat.mul_assoc 65536, ← Nat.mul_assoc S 65536 Q, Nat.mul_comm S 65536]
    rw [Nat.mul_assoc 65536 (S * p) Q, Nat.mul_assoc 65536 S Q, Nat.mul_left_comm p 65536]
    rw [← Nat.mul_assoc p S Q, Nat.mul_comm p S]
  rw [hm] at hx
  omega
theorem dvI_s {υ τ ω ρ : rS} {q r s j : Nat} {v : Int32} (hqr : q ≠ r) (hl : nL υ s ≤ nL υ r) (hm : nL υ r < 40000) (h : dvI υ τ q r s (j + 1)) (f : frP (40000 * r + j) (nL υ s) τ ω) (hd : dgO (ω.2.2.1 90) (40000 * r + j) (nL υ s)) (h0 : ω.2.2.1 90 (40000 * r + j + nL υ s) = 0) (hv : 0 ≤ v ∧ v < 65536) (he : dv (ω.2.2.1 90) (40000 * r + j) (nL υ s) + v.toNatClampNeg * nV υ s = dv (τ.2.2.1 90) (40000 * r + j) (nL υ s + 1)) (hlt : dv (ω.2.2.1 90) (40000 * r + j) (nL υ s) < nV υ s) (hu : ρ = riU ω 90 (40000 * q + j) v) : dvI υ ρ q r s j := by
  obtain ⟨g1, g2, g3, g4, g5, g6, g7, g8⟩ := h
  have r90 : ∀ i, ρ.2.2.1 90 i = if i = 40000 * q + j then v else ω.2.2.1 90 i := fun i => by rw [hu, ri4]
  have rr : ∀ i, i < 40000 → ρ.2.2.1 90 (40000 * r + i) = ω.2.2.1 90 (40000 * r + i) := fun i hi => by rw [r90, if_neg (by omega)]
  have fo : ∀ i, i < 40000 → (i < j ∨ j + nL υ s < i) → ω.2.2.1 90 (40000 * r + i) = τ.2.2.1 90 (40000 * r + i) := fun i _ hi => f.2.2.2.2 _ (by omega)
  have dr : ∀ i, i < nL υ r + 1 → 0 ≤ ω.2.2.1 90 (40000 * r + i) ∧ ω.2.2.1 90 (40000 * r + i) < 65536 := fun i hi => by
    by_cases e : i < j ∨ j + nL υ s < i
    · rw [fo i (by omega) e]; exact g4 i hi
    · by_cases e2 : i = j + nL υ s
      · rw [e2, ← Nat.add_assoc, h0]; exact ⟨by decide, by decide⟩
      · have := hd (i - j) (by omega)
        rwa [show 40000 * r + j + (i - j) = 40000 * r + i by omega] at this
  have cl : nL υ r - nL υ s + 1 - j = 1 + (nL υ r - nL υ s + 1 - (j + 1)) := by omega
  refine ⟨⟨by rw [hu]; exact f.1.trans g1.1, by rw [hu]; exact f.2.1.trans g1.2.1, fun k z1 z2 => by rw [hu, ri3 z1]; exact (f.2.2.1 k z1).trans (g1.2.2.1 k z1 z2), by rw [hu]; exact f.2.2.2.1.trans g1.2.2.2.1, fun k hk => ?_⟩, by rw [hu, ri3 (by decide)]; exact (f.2.2.1 91 (by decide)).trans g2, by omega, fun i hi => by rw [rr i (by omega)]; exact dr i hi, fun i hi => ?_, ?_, ?_, fun i hi hi2 => ?_⟩
  · have nq : k ≠ q := fun e => hk (by rw [e]; exact List.mem_cons_self)
    have nr : k ≠ r := fun e => hk (by rw [e]; exact List.mem_cons_of_mem _ (List.mem_singleton.mpr rfl))
    have o := g1.2.2.2.2 k hk
    refine ⟨by rw [hu, ri3 (by decide), f.2.2.1 91 (by decide)]; exact o.1, fun i hi => ?_⟩
    rw [r90, if_neg (by omega), f.2.2.2.2 _ (by omega)]
    exact o.2 i hi
  · rw [r90]
    by_cases e : i = 0
    · rw [e, Nat.add_zero, if_pos rfl]; exact hv
    · rw [if_neg (by omega), f.2.2.2.2 _ (by omega)]
      have := g5 (i - 1) (by omega)
      rwa [show 40000 * q + (j + 1) + (i - 1) = 40000 * q + j + i by omega] at this
  · have q1 : dv (ρ.2.2.1 90) (40000 * q + j) (nL υ r - nL υ s + 1 - j) = v.toNatClampNeg + 65536 * dv (τ.2.2.1 90) (40000 * q + (j + 1)) (nL υ r - nL υ s + 1 - (j + 1)) := by
      rw [cl, dv_add, dv_s, r90, if_pos (Nat.add_zero _)]
      show 0 + v.toNatClampNeg * 1 + 65536 * _ = _
      rw [Nat.zero_add, Nat.mul_one, ← Nat.add_assoc]
      congr 2
      refine dv_congr (fun i hi => ?_)
      rw [r90, if_neg (by omega), f.2.2.2.2 _ (by omega)]
    have sp : nL υ r + 1 = j + ((nL υ s + 1) + (nL υ r - j - nL υ s)) := by omega
    have s3 : ∀ f : Nat → Int32, dv f (40000 * r) (nL υ r + 1) = dv f (40000 * r) j + 65536 ^ j * (dv f (40000 * r + j) (nL υ s + 1) + 65536 ^ (nL υ s + 1) * dv f (40000 * r + j + (nL υ s + 1)) (nL υ r - j - nL υ s)) := fun f => by rw [sp, dv_add (a := j), dv_add (a := nL υ s + 1)]
    have w1 : dv (ρ.2.2.1 90) (40000 * r) (nL υ r + 1) = dv (ω.2.2.1 90) (40000 * r) (nL υ r + 1) := dv_congr (fun i hi => rr i (by omega))
    have a1 : dv (ω.2.2.1 90) (40000 * r) j = dv (τ.2.2.1 90) (40000 * r) j := dv_congr (fun i hi => fo i (by omega) (by omega))
    have a2 : dv (ω.2.2.1 90) (40000 * r + j + (nL υ s + 1)) (nL υ r - j - nL υ s) = dv (τ.2.2.1 90) (40000 * r + j + (nL υ s + 1)) (nL υ r - j - nL υ s) := dv_congr (fun i hi => f.2.2.2.2 _ (by omega))
    have a3 : dv (ω.2.2.1 90) (40000 * r + j) (nL υ s + 1) = dv (ω.2.2.1 90) (40000 * r + j) (nL υ s) := by
      rw [dv_s, h0]
      show _ + 0 * _ = _
      rw [Nat.zero_mul]
      rfl
    have w2 : dv (ρ.2.2.1 90) (40000 * r) (nL υ r + 1) + 65536 ^ j * (v.toNatClampNeg * nV υ s) = dv (τ.2.2.1 90) (40000 * r) (nL υ r + 1) + 0 := by
      rw [w1, s3, s3, a1, a2, a3, ← he, Nat.mul_add, Nat.mul_add, Nat.mul_add]
      omega
    rw [pw_s] at g6
    rw [q1]
    exact ar_v g6 w2 rfl
  · have : dv (ρ.2.2.1 90) (40000 * r + j) (nL υ s) = dv (ω.2.2.1 90) (40000 * r + j) (nL υ s) := dv_congr (fun i hi => by rw [Nat.add_assoc, rr _ (by omega)])
    rw [this]
    exact hlt
  · rw [rr i (by omega)]
    by_cases e : i = j + nL υ s
    · rw [e, ← Nat.add_assoc]; exact h0
    · rw [fo i (by omega) (by omega)]
      exact g8 i (by omega) hi2
theorem dvI_b {υ τ : rS} {q r s j : Nat} (hl : nL υ s ≤ nL υ r) (h : dvI υ τ q r s (j + 1)) : dgO (τ.2.2.1 90) (40000 * r + j) (nL υ s + 1) ∧ dv (τ.2.2.1 90) (40000 * r + j) (nL υ s + 1) < 65536 * nV υ s := by
  obtain ⟨g1, g2, g3, g4, g5, g6, g7, g8⟩ := h
  refine ⟨fun i hi => by rw [Nat.add_assoc]; exact g4 _ (by omega), ?_⟩
  have d := (d_n (g4 j (by omega))).1
  rw [Nat.add_comm (nL υ s) 1, dv_add, dv_s]
  show 0 + (τ.2.2.1 90 (40000 * r + j)).toNatClampNeg * 1 + 65536 * dv (τ.2.2.1 90) (40000 * r + j + 1) (nL υ s) < _
  rw [Nat.add_assoc (40000 * r)]
  omega
theorem d_u {b : Int32} (h0 : 0 ≤ b) (h1 : b ≤ 14) : 0 ≤ b + 1 ∧ b + 1 ≤ 15 ∧ 0 ≤ 16 - (b + 1) ∧ 16 - (b + 1) < 16 - b ∧ b < 1000000 := by grind
theorem d_j {n m : Int32} (n0 : 0 ≤ n) (h : n ≤ m) (m1 : m ≤ 40000) : 0 ≤ m - n ∧ 0 ≤ m - n + 1 ∧ m - n + 1 ≤ 40001 ∧ (m - n).toNatClampNeg = m.toNatClampNeg - n.toNatClampNeg ∧ (m - n + 1).toNatClampNeg = m.toNatClampNeg - n.toNatClampNeg + 1 := by
  have m0 : 0 ≤ m := Int32.le_trans n0 h
  have g : 0 ≤ m - n ∧ 0 ≤ m - n + 1 ∧ m - n + 1 ≤ 40001 ∧ m - n < 1000000 := by grind
  have e := i_sub m0 n0
  have a := cn_int m0
  have b := cn_int n0
  have c := cn_int g.1
  have l := ti h
  have s := cn_succ g.1 g.2.2.2
  refine ⟨g.1, g.2.1, g.2.2.1, by omega, by omega⟩
theorem d_k {j : Int32} (h : ¬ j < 0) (h1 : j + 1 ≤ 40001) (h0 : 0 ≤ j + 1) : 0 ≤ j ∧ j ≤ 40000 ∧ j + -1 + 1 = j ∧ j < j + 1 ∧ j < 1000000 ∧ j + -1 + 1 < j + 1 ∧ 0 ≤ j + -1 + 1 ∧ j + -1 + 1 ≤ 40001 := by grind
theorem d_e {j : Int32} (h : j < 0) (h0 : 0 ≤ j + 1) (h1 : j + 1 ≤ 40001) : j + 1 = 0 := by grind
theorem dv_fin {R S q V W : Nat} (hz : 0 < S) (hq : 0 < q) (e : W + S * q * V = R * q) (l : W < S * q) : V = R / S ∧ W / q = R % S := by
  have u := (Nat.div_mod_unique (a := R * q) (b := S * q) (c := W) (d := V) (Nat.mul_pos hz hq)).mpr ⟨e, l⟩
  rw [Nat.mul_div_mul_right _ _ hq, Nat.mul_mod_mul_right] at u
  exact ⟨u.1.symm, by rw [← u.2]; exact Nat.mul_div_cancel _ hq⟩
theorem nm1 {a b : Nat} (h : a ≠ b) : a ∉ [b] := fun z => h (List.mem_singleton.mp z)
theorem nm2 {a b c : Nat} (h : a ≠ b) (g : a ≠ c) : a ∉ [b, c] := fun z => by
  rcases List.mem_cons.mp z with e | e
  · exact h e
  · exact nm1 g e
theorem numO_0 {σ : rS} {q : Nat} : numO (riU σ 91 q 0) q ∧ nV (riU σ 91 q 0) q = 0 := by
  have e : (riU σ 91 q 0).2.2.1 91 q = 0 := by rw [ri4, if_pos rfl]
  have l : nL (riU σ 91 q 0) q = 0 := by show ((riU σ 91 q 0).2.2.1 91 q).toNatClampNeg = 0; rw [e]; rfl
  refine ⟨⟨by rw [e]; decide, by rw [e]; decide, by rw [l]; exact fun i hi => absurd hi (Nat.not_lt_zero i), Or.inl l⟩, ?_⟩
  unfold nV
  rw [l]
  rfl
def upR (σ υ : rS) (r s b : Nat) : Prop := frN [r, s] σ υ ∧ numO υ r ∧ numO υ s ∧ nV υ r = nV σ r * 2 ^ b ∧ nV υ s = nV σ s * 2 ^ b ∧ nL υ r < 40000 ∧ nL υ s ≤ nL υ r ∧ 0 < nL υ s
theorem divide_c {C : rCx} (hC : cOK C)  {σ : rS} {a1 : Int32} {a2 : Int32} {a3 : Int32} {Q : rS → Prop} (hp : 0 ≤ a1 ∧ a1 < 30 ∧ 0 ≤ a2 ∧ a2 < 30 ∧ 0 ≤ a3 ∧ a3 < 30 ∧ a1 ≠ a2 ∧ a1 ≠ a3 ∧ a2 ≠ a3 ∧ numO σ a2.toNatClampNeg ∧ numO σ a3.toNatClampNeg ∧ 0 < nV σ a3.toNatClampNeg ∧ nL σ a2.toNatClampNeg + 1 < 40000) (h : ∀ (σ' : rS), (frN [a1.toNatClampNeg, a2.toNatClampNeg, a3.toNatClampNeg] σ σ' ∧ numO σ' a1.toNatClampNeg ∧ numO σ' a2.toNatClampNeg ∧ numO σ' a3.toNatClampNeg ∧ nV σ' a1.toNatClampNeg = nV σ a2.toNatClampNeg / nV σ a3.toNatClampNeg ∧ nV σ' a2.toNatClampNeg = nV σ a2.toNatClampNeg % nV σ a3.toNatClampNeg ∧ nV σ' a3.toNatClampNeg = nV σ a3.toNatClampNeg) → Q σ') : cV C 2 m_divide [.ref (co C), .int a1, .int a2, .int a3] σ Q := by
  refine m_divide_run hC ?_
  unfold w_divide_0
  obtain ⟨h0, h1, h2, h3, h4, h5, n12, n13, n23, hr, hs, hz, hl⟩ := hp
  have c12 : a1.toNatClampNeg ≠ a2.toNatClampNeg := fun e => n12 (cn_inj h0 h2 e)
  have c13 : a1.toNatClampNeg ≠ a3.toNatClampNeg := fun e => n13 (cn_inj h0 h4 e)
  have c23 : a2.toNatClampNeg ≠ a3.toNatClampNeg := fun e => n23 (cn_inj h2 h4 e)
  have sz : 0 < nL σ a3.toNatClampNeg := Nat.pos_of_ne_zero (fun e => by have := (nL_z hs).mp e; omega)
  refine compare_c hC  ?_ (fun r1 q3 => ?_)
  · clear h; exact ⟨h2, h3, h4, h5, hr, hs⟩  -- p1
  have np : ¬ σ.2.2.1 91 a3.toNatClampNeg ≤ 0 := fun z => by
    have z2 : nL σ a3.toNatClampNeg = 0 := cn_zero z
    omega
  have pm := pos_m np hs.2.1
  have cp : nL σ a3.toNatClampNeg = (σ.2.2.1 91 a3.toNatClampNeg - 1).toNatClampNeg + 1 := cn_pred pm.2.2.2.2.1 pm.2.2.2.2.2.1
  have bm := bx h4 h5 pm.1 pm.2.2.1
  have dt := hs.2.2.1 (σ.2.2.1 91 a3.toNatClampNeg - 1).toNatClampNeg (by omega)
  have tz : 0 < (σ.2.2.1 90 (40000 * a3.toNatClampNeg + (σ.2.2.1 91 a3.toNatClampNeg - 1).toNatClampNeg)).toNatClampNeg := by
    rcases hs.2.2.2 with z | ⟨m, z1, z2⟩
    · omega
    · rw [show (σ.2.2.1 91 a3.toNatClampNeg - 1).toNatClampNeg = m by omega]
      omega
  refine ⟨fun c4 => ?_, fun c4 => ?_⟩
  · skip
    unfold w_divide_20
    refine ⟨fun n l1 l2 l3 l4 τ => n = (16 - l4).toNatClampNeg ∧ (l1 = a1 ∧ l2 = a2 ∧ l3 = a3 ∧ τ = σ ∧ nV σ a3.toNatClampNeg ≤ nV σ a2.toNatClampNeg ∧ 0 ≤ l4 ∧ l4 ≤ 15 ∧ (σ.2.2.1 90 (40000 * a3.toNatClampNeg + (σ.2.2.1 91 a3.toNatClampNeg - 1).toNatClampNeg)).toNatClampNeg * 2 ^ l4.toNatClampNeg < 65536), ⟨_, rfl, ?_⟩, ?_⟩
    · clear h; refine ⟨rfl, rfl, rfl, rfl, ?_, by decide, by decide, ?_⟩
      · rcases q3 with z | z | z
        · omega
        · omega
        · rw [z.1] at c4
          exact absurd c4 (by decide)
      · show _ * 1 < _
        have := (d_n dt).1
        omega
    rintro n20 x20_1 x20_2 x20_3 x20_4 σ20 ⟨hn20, i20⟩
    obtain ⟨e1, e2, e3, et, le, g0, g1, g2⟩ := i20
    refine ⟨ib_30.mpr ?_, ?_⟩
    · clear h; rw [e3]; exact ⟨h4, h5⟩  -- b3
    refine ⟨ib_1200000.mpr ?_, ?_⟩
    · clear h; rw [e3, et, sb1]; exact ⟨bm.1, bm.2.2.1 pm.2.1⟩  -- b4
    have tp : σ20.2.2.1 90 (40000 * x20_3 + σ20.2.2.1 91 x20_3.toNatClampNeg - 1).toNatClampNeg = σ.2.2.1 90 (40000 * a3.toNatClampNeg + (σ.2.2.1 91 a3.toNatClampNeg - 1).toNatClampNeg) := by rw [e3, et, sb1, bm.2.1]
    have rl : nL σ a3.toNatClampNeg ≤ nL σ a2.toNatClampNeg := nL_mono hs hr le
    refine ⟨fun c5 => ?_, fun c5 => ?_⟩
    · skip
      refine shiftUp_c hC  ?_ (fun σ_6 q7 => ?_)
      · clear h; rw [e3, et]; exact ⟨h4, h5, g0, g1, hs, by omega⟩  -- p5
      rw [e3, et] at q7
      have r6 := nV_fr q7.1 (nm1 c23) hr
      refine shiftUp_c hC  ?_ (fun σ_8 q9 => ?_)
      · clear h; rw [e2]; exact ⟨h2, h3, g0, g1, r6.1, by omega⟩  -- p6
      rw [e2] at q9
      have s8 := nV_fr q9.1 (nm1 (Ne.symm c23)) q7.2.1
      have tb := Nat.two_pow_pos x20_4.toNatClampNeg
      have vr : nV σ_8 a2.toNatClampNeg = nV σ a2.toNatClampNeg * 2 ^ x20_4.toNatClampNeg := by rw [q9.2.2.1, r6.2.1]
      have vs : nV σ_8 a3.toNatClampNeg = nV σ a3.toNatClampNeg * 2 ^ x20_4.toNatClampNeg := by rw [s8.2.1, q7.2.2.1]
      have U : upR σ σ_8 a2.toNatClampNeg a3.toNatClampNeg x20_4.toNatClampNeg := ⟨frN_tr (frN_mono q7.1 (fun k hk => List.mem_cons_of_mem _ hk)) (frN_mono q9.1 (fun k hk => by rw [List.mem_singleton.mp hk]; exact List.mem_cons_self)), q9.2.1, s8.1, vr, vs, by have := q9.2.2.2; omega, nL_mono s8.1 q9.2.1 (by rw [vr, vs]; exact Nat.mul_le_mul_right _ le), Nat.pos_of_ne_zero (fun z => by have z2 := (nL_z s8.1).mp z; rw [vs] at z2; have := Nat.mul_pos hz tb; omega)⟩
      have m0 := q9.2.1.1
      have np8 := n1p m0 (le_of_n m0 U.2.2.2.2.2.1)
      have bn := bx h2 h3 m0 np8.2.2.2.1
      refine ⟨ib_30.mpr ?_, ?_⟩
      · clear h; rw [e3]; exact ⟨h4, h5⟩  -- b7
      intro x10 hx10
      refine ⟨ib_30.mpr ?_, ?_⟩
      · clear h; rw [e2]; exact ⟨h2, h3⟩  -- b8
      intro x11 hx11
      refine ⟨ib_1200000.mpr ?_, ?_⟩
      · clear h; rw [hx11, e2]; exact ⟨bn.1, bn.2.2.1 np8.2.2.1⟩  -- b9
      intro σ_12 hσ_12
      intro x13 hx13
      unfold w_divide_106
      refine ⟨fun n l1 l2 l3 l4 l5 l6 l7 τ => n = (l7 + 1).toNatClampNeg ∧ (l1 = a1 ∧ l2 = a2 ∧ l3 = a3 ∧ ∃ υ, upR σ υ a2.toNatClampNeg a3.toNatClampNeg x20_4.toNatClampNeg ∧ l4 = x20_4 ∧ l5 = υ.2.2.1 91 a3.toNatClampNeg ∧ l6 = υ.2.2.1 91 a2.toNatClampNeg ∧ 0 ≤ l7 + 1 ∧ l7 + 1 ≤ 40001 ∧ dvI υ τ a1.toNatClampNeg a2.toNatClampNeg a3.toNatClampNeg (l7 + 1).toNatClampNeg), ⟨_, rfl, ?_⟩, ?_⟩
      · clear h; rw [e3] at hx10
        rw [e2] at hx11 hσ_12
        have dj := d_j s8.1.1 ((cn_li s8.1.1 m0).mpr U.2.2.2.2.2.2.1) np8.2.2.2.1
        rw [hx11, hx10] at hx13
        rw [hx11, bn.2.1] at hσ_12
        refine ⟨e1, e2, e3, σ_8, U, rfl, hx10, hx11, by rw [hx13]; exact dj.2.1, by rw [hx13]; exact dj.2.2.1, ?_⟩
        rw [hx13, dj.2.2.2.2]
        exact dvI_0 U.2.1 U.2.2.1 U.2.2.2.2.2.2.2 U.2.2.2.2.2.2.1 U.2.2.2.2.2.1 hσ_12
      rintro n106 x106_1 x106_2 x106_3 x106_4 x106_5 x106_6 x106_7 σ106 ⟨hn106, i106⟩
      obtain ⟨k1, k2, k3, υ, U, k4, k5, k6, k7, k8, D⟩ := i106
      refine ⟨fun c14 => ?_, fun c14 => ?_⟩
      · skip
        refine ⟨ib_30.mpr ?_, ?_⟩
        · clear h; rw [k1]; exact ⟨h0, h1⟩  -- b11
        intro σ_15 hσ_15
        have ej := d_e c14 k7 k8
        rw [ej] at D
        have D0 : dvI υ σ106 a1.toNatClampNeg a2.toNatClampNeg a3.toNatClampNeg 0 := D
        have U5 := U.2.2.2.2.2.1
        have U6 := U.2.2.2.2.2.2.1
        have U7 := U.2.2.2.2.2.2.2
        have dj := d_j U.2.2.1.1 ((cn_li U.2.2.1.1 U.2.1.1).mpr U6) U.2.1.2.1
        rw [k1, k6, k5] at hσ_15
        have el : σ_15.2.2.1 91 a1.toNatClampNeg = υ.2.2.1 91 a2.toNatClampNeg - υ.2.2.1 91 a3.toNatClampNeg + 1 := by rw [hσ_15, ri4, if_pos rfl]
        have L15 : nL σ_15 a1.toNatClampNeg = nL υ a2.toNatClampNeg - nL υ a3.toNatClampNeg + 1 := by show (σ_15.2.2.1 91 a1.toNatClampNeg).toNatClampNeg = _; rw [el, dj.2.2.2.2]
        have r90 : σ_15.2.2.1 90 = σ106.2.2.1 90 := by rw [hσ_15, ri3 (by decide)]
        have F15 : frN [a1.toNatClampNeg] σ106 σ_15 := by rw [hσ_15]; exact frN_91
        refine trim_v hC  ?_ (fun σ_16 q17 => ?_)
        · clear h; rw [k1]
          refine ⟨h0, h1, by rw [rd, el]; exact dj.2.1, ?_, ?_⟩
          · rw [cn_li (by rw [rd, el]; exact dj.2.1) (by decide)]
            show nL σ_15 a1.toNatClampNeg ≤ 40000
            omega
          · have := D0.2.2.2.2.1
            rw [Nat.add_zero, Nat.sub_zero] at this
            rw [L15, r90]
            exact this
        rw [k1, L15, r90] at q17
        refine ⟨ib_30.mpr ?_, ?_⟩
        · clear h; rw [k2]; exact ⟨h2, h3⟩  -- b13
        intro σ_18 hσ_18
        rw [k2, k5] at hσ_18
        have el2 : σ_18.2.2.1 91 a2.toNatClampNeg = υ.2.2.1 91 a3.toNatClampNeg := by rw [hσ_18, ri4, if_pos rfl]
        have L18 : nL σ_18 a2.toNatClampNeg = nL υ a3.toNatClampNeg := by show (σ_18.2.2.1 91 a2.toNatClampNeg).toNatClampNeg = _; rw [el2]
        have r18 : ∀ i, i < 40000 → σ_18.2.2.1 90 (40000 * a2.toNatClampNeg + i) = σ106.2.2.1 90 (40000 * a2.toNatClampNeg + i) := fun i hi => by rw [hσ_18, ri3 (by decide), (q17.1.2.2.2.2 _ (nm1 (Ne.symm c12))).2 i hi, r90]
        have F18 : frN [a2.toNatClampNeg] σ_16 σ_18 := by rw [hσ_18]; exact frN_91
        refine trim_v hC  ?_ (fun σ_19 q20 => ?_)
        · clear h; rw [k2]
          refine ⟨h2, h3, by rw [rd, el2]; exact U.2.2.1.1, by rw [rd, el2]; exact U.2.2.1.2.1, fun i hi => ?_⟩
          rw [L18] at hi
          rw [r18 i (by omega)]
          exact D0.2.2.2.1 i (by omega)
        rw [k2, L18] at q20
        have mq : ∀ k, k ∈ [a1.toNatClampNeg] → k ∈ [a1.toNatClampNeg, a2.toNatClampNeg] := fun k hk => by rw [List.mem_singleton.mp hk]; exact List.mem_cons_self
        have mr : ∀ k, k ∈ [a2.toNatClampNeg] → k ∈ [a1.toNatClampNeg, a2.toNatClampNeg] := fun k hk => List.mem_cons_of_mem _ hk
        have F19 : frN [a1.toNatClampNeg, a2.toNatClampNeg] υ σ_19 := frN_tr D0.1 (frN_tr (frN_mono F15 mq) (frN_tr (frN_mono q17.1 mq) (frN_tr (frN_mono F18 mr) (frN_mono q20.1 mr))))
        refine shiftDown_c hC  ?_ (fun σ_21 q22 => ?_)
        · clear h; rw [k2, k4]; exact ⟨h2, h3, g0, g1, q20.2.1⟩  -- p15
        rw [k2, k4] at q22
        have F21 := frN_tr F19 (frN_mono q22.1 mr)
        have s21 := nV_fr F21 (nm2 (Ne.symm c13) (Ne.symm c23)) U.2.2.1
        refine shiftDown_c hC  ?_ (fun σ_23 q24 => ?_)
        · clear h; rw [k3, k4]; exact ⟨h4, h5, g0, g1, s21.1⟩  -- p16
        rw [k3, k4] at q24
        refine h _ ?_
        · clear h; have qq := nV_fr (frN_tr F18 (frN_tr q20.1 q22.1)) (nm1 c12) q17.2.1
          have qe := nV_fr q24.1 (nm1 c13) qq.1
          have re := nV_fr q24.1 (nm1 c23) q22.2.1
          have tb := Nat.two_pow_pos x20_4.toNatClampNeg
          have v0 := D0.2.2.2.2.2.1
          have z0 : dv (σ106.2.2.1 90) (40000 * a2.toNatClampNeg) (nL υ a2.toNatClampNeg + 1) = dv (σ106.2.2.1 90) (40000 * a2.toNatClampNeg) (nL υ a3.toNatClampNeg) := dv_zero (by omega) (fun i hi hi2 => D0.2.2.2.2.2.2.2 i (by omega) (by omega))
          have l0 := D0.2.2.2.2.2.2.1
          rw [Nat.pow_zero, Nat.mul_one, Nat.add_zero, Nat.sub_zero, z0, U.2.2.2.1, U.2.2.2.2.1] at v0
          rw [Nat.add_zero, U.2.2.2.2.1] at l0
          have fin := dv_fin hz tb v0 l0
          have w18 : dv (σ_18.2.2.1 90) (40000 * a2.toNatClampNeg) (nL υ a3.toNatClampNeg) = dv (σ106.2.2.1 90) (40000 * a2.toNatClampNeg) (nL υ a3.toNatClampNeg) := dv_congr (fun i hi => r18 i (by omega))
          refine ⟨?_, qe.1, re.1, q24.2.1, ?_, ?_, ?_⟩
          · refine frN_tr (frN_mono U.1 (fun k hk => List.mem_cons_of_mem _ hk)) (frN_tr (frN_mono F21 (fun k hk => ?_)) (frN_mono q24.1 (fun k hk => List.mem_cons_of_mem _ (List.mem_cons_of_mem _ hk))))
            rcases List.mem_cons.mp hk with e | e
            · rw [e]; exact List.mem_cons_self
            · rw [List.mem_singleton.mp e]; exact List.mem_cons_of_mem _ List.mem_cons_self
          · rw [qe.2.1, qq.2.1, q17.2.2.1]; exact fin.1
          · rw [re.2.1, q22.2.2.1, q20.2.2.1, w18]; exact fin.2
          · rw [q24.2.2.1, s21.2.1, U.2.2.2.2.1]; exact Nat.mul_div_cancel _ tb
      · skip
        have dk := d_k c14 k8 k7
        have cs := cn_succ dk.1 dk.2.2.2.2.1
        rw [cs] at D
        have U5 := U.2.2.2.2.2.1
        have U6 := U.2.2.2.2.2.2.1
        have U7 := U.2.2.2.2.2.2.2
        have jm := D.2.2.1
        have Db := dvI_b U6 D
        have sT := nV_fr D.1 (nm2 (Ne.symm c13) (Ne.symm c23)) U.2.2.1
        have jl : x106_7 < 40000 := Int32.lt_of_le_of_lt (le_of_n dk.1 (by omega)) (by decide)
        refine oneDigit_c hC  ?_ (fun r25 σ_26 q27 => ?_)
        · clear h; rw [k2, k3]
          refine ⟨h2, h3, dk.1, h4, h5, n23, sT.1, by omega, by omega, ?_, ?_⟩
          · rw [sT.2.2]; exact Db.1
          · rw [sT.2.2, sT.2.1]; exact Db.2
        rw [k2, k3, sT.2.2, sT.2.1] at q27
        have bj := bx h0 h1 dk.1 dk.2.1
        refine ⟨ib_1200000.mpr ?_, ?_⟩
        · clear h; rw [k1]; exact ⟨bj.1, bj.2.2.1 jl⟩  -- b19
        intro σ_28 hσ_28
        intro x29 hx29
        refine ⟨_, cn_lt2 hn106 ?_ ?_, rfl, ?_⟩
        · clear h; rw [hx29]; exact dk.2.2.2.2.2.2.1  -- d20
        · clear h; rw [hx29]; exact dk.2.2.2.2.2.1  -- d21
        · clear h; rw [k1, bj.2.1] at hσ_28
          refine ⟨k1, k2, k3, υ, U, k4, k5, k6, by rw [hx29]; exact dk.2.2.2.2.2.2.1, by rw [hx29]; exact dk.2.2.2.2.2.2.2, ?_⟩
          rw [hx29, dk.2.2.1]
          exact dvI_s c12 U6 U5 D q27.1 q27.2.1 q27.2.2.1 q27.2.2.2.1 q27.2.2.2.2.1 q27.2.2.2.2.2 hσ_28
    · skip
      intro x30 hx30
      rw [tp] at c5
      have st := sh_step dt tz g0 g1 g2 c5
      have du := d_u g0 st.2
      refine ⟨_, cn_lt2 hn20 ?_ ?_, rfl, ?_⟩
      · clear h; rw [hx30]; exact du.2.2.1  -- d23
      · clear h; rw [hx30]; exact du.2.2.2.1  -- d24
      · clear h; exact ⟨e1, e2, e3, et, le, by rw [hx30]; exact du.1, by rw [hx30]; exact du.2.1, by rw [hx30, cn_succ g0 du.2.2.2.2]; exact st.1⟩  -- i25
  · skip
    refine ⟨ib_30.mpr ?_, ?_⟩
    · clear h; exact ⟨h0, h1⟩  -- b26
    intro σ_31 hσ_31
    refine h _ ?_
    · clear h; have lt : nV σ a2.toNatClampNeg < nV σ a3.toNatClampNeg := by
        rcases q3 with z | z | z
        · rw [z.1] at c4
          exact absurd (by decide) c4
        · rw [z.1] at c4
          exact absurd (by decide) c4
        · exact z.2
      have F : frN [a1.toNatClampNeg] σ σ_31 := by rw [hσ_31]; exact frN_91
      have n0 := numO_0 (σ := σ) (q := a1.toNatClampNeg)
      rw [← hσ_31] at n0
      have r1 := nV_fr F (nm1 (Ne.symm c12)) hr
      have s1 := nV_fr F (nm1 (Ne.symm c13)) hs
      refine ⟨frN_mono F (fun k hk => by rw [List.mem_singleton.mp hk]; exact List.mem_cons_self), n0.1, r1.1, s1.1, ?_, ?_, s1.2.1⟩
      · rw [n0.2, Nat.div_eq_of_lt lt]
      · rw [r1.2.1, Nat.mod_eq_of_lt lt]
