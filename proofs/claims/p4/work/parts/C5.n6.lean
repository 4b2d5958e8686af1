set_option maxHeartbeats 1600000
/-! the class: Num's takeAt -/
/-- limbs from a place on -/
def uW (X : Nat → Int32) (P : Nat) : Nat → Int32 := fun j => X (P + j)
theorem uW_u {X : Nat → Int32} {P i : Nat} {x : Int32} : uW (upd X (P + i) x) P = upd (uW X P) i x := by
  funext j
  show (if P + j = P + i then x else X (P + j)) = if j = i then x else X (P + j)
  by_cases z : j = i
  · rw [if_pos z, if_pos (by omega)]
  · rw [if_neg z, if_neg (by omega)]
/-- a multiple taken away, limb by limb -/
def tkI (X Y D : Nat → Int32) (P g i c b : Nat) : Prop := uV (uW Y P) i + g * uV D i = uV (uW X P) i + (c + b) * 2147483648 ^ i ∧ (c < 2147483648 ∧ b ≤ 1) ∧ (∀ j, j < i → 0 ≤ (uW Y P j).toInt) ∧ ∀ j, (j < P ∨ P + i ≤ j) → Y j = X j
theorem ar31t {p A G S c b x y w v d g : Nat} (h : A + G = S + (c + b) * p) (hx : x + v % 2147483648 + b = y + w * 2147483648) (hv : v = g * d + c) : A + x * p + (G + g * d * p) = S + y * p + (v / 2147483648 + w) * (2147483648 * p) := by
  have m := Nat.div_add_mod v 2147483648
  have e1 : (x + v % 2147483648 + b) * p = (y + w * 2147483648) * p := by rw [hx]
  have e2 : (2147483648 * (v / 2147483648) + v % 2147483648) * p = (g * d + c) * p := by rw [m, hv]
  rw [Nat.add_mul, Nat.add_mul, Nat.add_mul] at e1
  rw [Nat.add_mul, Nat.add_mul] at e2
  have f : (v / 2147483648 + w) * (2147483648 * p) = 2147483648 * (v / 2147483648) * p + w * 2147483648 * p := by
    rw [Nat.add_mul, ← Nat.mul_assoc, ← Nat.mul_assoc, Nat.mul_comm (v / 2147483648)]
  rw [f]
  rw [Nat.add_mul] at h
  omega
theorem tkI_s {X Y Y' D : Nat → Int32} {P g i c b v w : Nat} {x : Int32} (h : tkI X Y D P g i c b) (hg : g < 2147483648) (hv : v = g * (D i).toNatClampNeg + c) (hx : 0 ≤ x.toInt) (hw : w ≤ 1) (ex : x.toNatClampNeg + v % 2147483648 + b = (X (P + i)).toNatClampNeg + w * 2147483648) (e : Y' = upd Y (P + i) x) : tkI X Y' D P g (i + 1) (v / 2147483648) w := by
  obtain ⟨h1, h2, h3, h4⟩ := h
  have l1 := lim31 (D i)
  have mm : g * (D i).toNatClampNeg ≤ 2147483647 * 2147483647 := Nat.mul_le_mul (by omega) (by omega)
  have ew : uW Y' P = upd (uW Y P) i x := by rw [e, uW_u]
  have mi : uW Y' P i = x := by rw [ew]; exact if_pos rfl
  have mj : ∀ j, j ≠ i → uW Y' P j = uW Y P j := fun j hj => by rw [ew]; exact if_neg hj
  refine ⟨?_, ⟨by omega, hw⟩, fun j hj => ?_, fun j hj => ?_⟩
  · show uV (uW Y' P) i + (uW Y' P i).toNatClampNeg * 2147483648 ^ i + g * (uV D i + (D i).toNatClampNeg * 2147483648 ^ i) = uV (uW X P) i + (X (P + i)).toNatClampNeg * 2147483648 ^ i + _
    rw [uV_e (g := uW Y P) (fun j hj => mj j (Nat.ne_of_lt hj)), mi, p31_s, Nat.mul_add, ← Nat.mul_assoc g]
    exact ar31t h1 ex hv
  · by_cases z : j = i
    · rw [z, mi]; exact hx
    · rw [mj j z]; exact h3 j (by omega)
  · rw [e]
    exact (if_neg (by omega)).trans (h4 j (by omega))
theorem uq_p {z t a b p : Nat} (h : z + a * p = t + b * p) (hz : z < p) (ht : t < p) : z = t := by
  have e : (z + a * p) % p = (t + b * p) % p := by rw [h]
  rw [Nat.add_mul_mod_self_right, Nat.add_mul_mod_self_right, Nat.mod_eq_of_lt hz, Nat.mod_eq_of_lt ht] at e
  exact e
theorem dm_u {R S g r : Nat} (h : r + g * S = R) (l : r < S) : R / S = g ∧ R % S = r := by
  have u := (Nat.div_mod_unique (a := R) (b := S) (c := r) (d := g) (by omega)).mpr ⟨by rw [Nat.mul_comm]; exact h, l⟩
  exact u
/-- enough is there -/
theorem tkX_a {X Y Y' D : Nat → Int32} {P m g c b : Nat} {x : Int32} (h : tkI X Y D P g m c b) (hS : 0 < uV D m) (hq : uV (uW X P) (m + 1) / uV D m ≤ g) (hx : 0 ≤ x.toInt) (ex : x.toNatClampNeg + c + b = (X (P + m)).toNatClampNeg) (e : Y' = upd Y (P + m) x) : uV (uW X P) (m + 1) / uV D m = g ∧ uV (uW Y' P) (m + 1) = uV (uW X P) (m + 1) % uV D m := by
  obtain ⟨h1, h2, h3, h4⟩ := h
  have ew : uW Y' P = upd (uW Y P) m x := by rw [e, uW_u]
  have mi : uW Y' P m = x := by rw [ew]; exact if_pos rfl
  have v : uV (uW Y' P) (m + 1) = uV (uW Y P) m + x.toNatClampNeg * 2147483648 ^ m := by
    show uV (uW Y' P) m + (uW Y' P m).toNatClampNeg * _ = _
    rw [uV_e (g := uW Y P) (fun j hj => by rw [ew]; exact if_neg (Nat.ne_of_lt hj)), mi]
  have r : uV (uW X P) (m + 1) = uV (uW X P) m + (X (P + m)).toNatClampNeg * 2147483648 ^ m := rfl
  have e2 : (x.toNatClampNeg + c + b) * 2147483648 ^ m = (X (P + m)).toNatClampNeg * 2147483648 ^ m := by rw [ex]
  rw [Nat.add_mul, Nat.add_mul] at e2
  rw [Nat.add_mul] at h1
  have fin : uV (uW Y' P) (m + 1) + g * uV D m = uV (uW X P) (m + 1) := by omega
  have lt : uV (uW X P) (m + 1) < (g + 1) * uV D m := by
    have := Nat.lt_div_mul_add (a := uV (uW X P) (m + 1)) hS
    have m2 := Nat.mul_le_mul_right (uV D m) hq
    rw [Nat.add_mul]
    omega
  rw [Nat.add_mul] at lt
  have u := dm_u fin (by omega)
  exact ⟨u.1, u.2.symm⟩
/-- one too many was taken -/
theorem tkX_b {X Y Z Z' D : Nat → Int32} {P m g c b o : Nat} (h : tkI X Y D P g m c b) (hS : 0 < uV D m) (hq : g ≤ uV (uW X P) (m + 1) / uV D m + 1) (hn : (X (P + m)).toNatClampNeg < c + b) (a : adI (uW Y P) D (uW Z P) (m + 1) m o) (e : Z' = upd Z (P + m) 0) : uV (uW X P) (m + 1) / uV D m + 1 = g ∧ uV (uW Z' P) (m + 1) = uV (uW X P) (m + 1) % uV D m := by
  obtain ⟨h1, h2, h3, h4⟩ := h
  obtain ⟨a1, a2, a3, a4⟩ := a
  have ew : uW Z' P = upd (uW Z P) m 0 := by rw [e, uW_u]
  have mi : uW Z' P m = 0 := by rw [ew]; exact if_pos rfl
  have v : uV (uW Z' P) (m + 1) = uV (uW Z P) m := by
    show uV (uW Z' P) m + (uW Z' P m).toNatClampNeg * _ = _
    rw [uV_e (g := uW Z P) (fun j hj => by rw [ew]; exact if_neg (Nat.ne_of_lt hj)), mi]
    show _ + 0 * _ = _
    omega
  have r : uV (uW X P) (m + 1) = uV (uW X P) m + (X (P + m)).toNatClampNeg * 2147483648 ^ m := rfl
  have lY := uV_lt (f := uW Y P) (n := m)
  have lZ := uV_lt (f := uW Z P) (n := m)
  have lS := uV_lt (f := D) (n := m)
  have m1 := Nat.mul_le_mul_right (2147483648 ^ m) hn
  rw [Nat.succ_mul] at m1
  have gt : uV (uW X P) (m + 1) < g * uV D m := by omega
  have q1 : uV (uW X P) (m + 1) / uV D m < g := by
    rw [Nat.div_lt_iff_lt_mul hS]
    exact gt
  have eg : uV (uW X P) (m + 1) / uV D m + 1 = g := by omega
  refine ⟨eg, ?_⟩
  have dm := Nat.div_add_mod (uV (uW X P) (m + 1)) (uV D m)
  have ml := Nat.mod_lt (uV (uW X P) (m + 1)) hS
  rw [← eg, Nat.add_mul, Nat.mul_comm _ (uV D m)] at h1
  rw [v]
  refine uq_p (a := o + (X (P + m)).toNatClampNeg) (b := c + b) (p := 2147483648 ^ m) ?_ lZ (by omega)
  rw [Nat.add_mul]
  omega
theorem Nu_takeAt_c {C : zC} {n0 : Nat} {a0 : Nat} {a1 : Int32} {a2 : Nat} {a3 : Int64} {a5 : Int32} {κ : zS} {Q : Int64 → zS → Prop} (W : zW C n0 κ) (Ta0 : zT κ a0 = 8) (Ta2 : zT κ a2 = 8) (c9 : Nat) (hp : a0 ≠ a2 ∧ (0 ≤ a1.toInt ∧ 0 ≤ a5.toInt ∧ a1.toInt + a5.toInt < (zN κ (zR κ nuLimbs a0)) ∧ a5.toInt ≤ (zN κ (zR κ nuLimbs a2))) ∧ ((zN κ (zR κ nuLimbs a0)) ≤ c9 ∧ c9 ≤ 30000000) ∧ (0 ≤ a3.toInt ∧ a3.toInt < 2147483648) ∧ (∀ j, j < a5.toInt.toNat + 1 → 0 ≤ (uW (zA κ (zR κ nuLimbs a0)) a1.toInt.toNat j).toInt) ∧ (∀ j, j < a5.toInt.toNat → 0 ≤ (zA κ (zR κ nuLimbs a2) j).toInt) ∧ 0 < uV (zA κ (zR κ nuLimbs a2)) a5.toInt.toNat ∧ uV (uW (zA κ (zR κ nuLimbs a0)) a1.toInt.toNat) (a5.toInt.toNat + 1) / uV (zA κ (zR κ nuLimbs a2)) a5.toInt.toNat ≤ a3.toInt.toNat ∧ a3.toInt.toNat ≤ uV (uW (zA κ (zR κ nuLimbs a0)) a1.toInt.toNat) (a5.toInt.toNat + 1) / uV (zA κ (zR κ nuLimbs a2)) a5.toInt.toNat + 1) (h : ∀ (v : Int64) (κ' : zS), (nuE κ κ' a0 ∧ v.toInt = ((uV (uW (zA κ (zR κ nuLimbs a0)) a1.toInt.toNat) (a5.toInt.toNat + 1) / uV (zA κ (zR κ nuLimbs a2)) a5.toInt.toNat : Nat) : Int) ∧ uV (uW (zA κ' (zR κ nuLimbs a0)) a1.toInt.toNat) (a5.toInt.toNat + 1) = uV (uW (zA κ (zR κ nuLimbs a0)) a1.toInt.toNat) (a5.toInt.toNat + 1) % uV (zA κ (zR κ nuLimbs a2)) a5.toInt.toNat ∧ (∀ j, j < a5.toInt.toNat + 1 → 0 ≤ (uW (zA κ' (zR κ nuLimbs a0)) a1.toInt.toNat j).toInt) ∧ ∀ j, (j < a1.toInt.toNat ∨ a1.toInt.toNat + a5.toInt.toNat < j) → zA κ' (zR κ nuLimbs a0) j = zA κ (zR κ nuLimbs a0) j) → Q v κ') : zRun C 0 mNu_takeAt [.ref a0, .int a1, .ref a2, .long a3, .int a5] κ (oJ Q noX) := by
  refine Nu_takeAt_run W Ta0 Ta2 ?_
  replace W := W.lo (Nat.le_trans W.1.2.1 W.1.2.2) (Nat.le_refl (zn κ))
  unfold w_Nu_takeAt_0
  obtain ⟨ne, p1, p2, p3, p4, p5, p6, p7, p8⟩ := hp
  have nF : ∀ f, ¬ nuF a0 f a2 := fun f z => ne z.1.symm
  have kp := cnk p1.1
  have km := cnk p1.2.1
  have lz := p1.2.2
  have pl : ∀ (x : Int32), 0 ≤ x.toInt → x.toInt ≤ a5.toInt → (a1 + x).toInt = a1.toInt + x.toInt ∧ (a1 + x).toNatClampNeg = a1.toInt.toNat + x.toNatClampNeg := fun x h1 h2 => by
    have e : (a1 + x).toInt = a1.toInt + x.toInt := add_i (by omega) (by omega)
    have k := cnk h1
    have k2 := cnk (x := a1 + x) (by omega)
    omega
  unfold w_Nu_takeAt_9
  refine ⟨fun n l0 l1 l2 l3 l5 l6 l8 l9 τ => n = (a5.toInt - l9.toInt).toNat ∧ (a0 = l0 ∧ a1 = l1 ∧ a2 = l2 ∧ a3 = l3 ∧ a5 = l5 ∧ nuE κ τ a0 ∧ (0 ≤ l9.toInt ∧ l9.toInt ≤ a5.toInt) ∧ (0 ≤ l6.toInt ∧ 0 ≤ l8.toInt) ∧ tkI (zA κ (zR κ nuLimbs a0)) (zA τ (zR κ nuLimbs a0)) (zA κ (zR κ nuLimbs a2)) a1.toInt.toNat a3.toInt.toNat l9.toNatClampNeg l6.toInt.toNat l8.toInt.toNat), ⟨_, rfl, ?_⟩, ?_⟩
  · exact ⟨rfl, rfl, rfl, rfl, rfl, nuE.rf, ⟨by decide, by rw [t0i]; omega⟩, ⟨by decide, by decide⟩, by
      show 0 + _ * 0 = 0 + 0 * _
      omega, ⟨by decide, by decide⟩, fun j hj => absurd hj (Nat.not_lt_zero _), fun _ _ => rfl⟩
  rintro n9 _ _ _ _ _ x9_6 x9_8 x9_9 κ9 W9 T9_0 T9_1 ⟨hn9, rfl, rfl, rfl, rfl, rfl, i9⟩
  obtain ⟨E9, k9, c9b, J9⟩ := i9
  have rs := E9.2.1
  have ns := E9.2.2.2
  have u9 := nu_z W Ta2 E9.1 (nF nuLimbs) (nF nuLength)
  have kn := cnk k9.1
  have cb := J9.2.1
  have hj70 : ∀ (l0 : Nat) (l1 : Int32) (l2 : Nat) (l3 : Int64) (l5 : Int32) (l6 : Int64) (l9 : Int32) (l12 : Int32) (s0 : Int32) (τ : zS), zW C (zn κ) τ → zT τ l0 = 8 → zT τ l2 = 8 → (a0 = l0 ∧ a1 = l1 ∧ a2 = l2 ∧ a3 = l3 ∧ a5 = l5 ∧ κ9 = τ ∧ x9_9 = l9 ∧ x9_9.toInt < a5.toInt ∧ l6.toInt = (((a3.toInt.toNat * (zA κ (zR κ nuLimbs a2) x9_9.toNatClampNeg).toNatClampNeg + x9_6.toInt.toNat) / 2147483648 : Nat) : Int) ∧ l12.toInt = ((zA κ (zR κ nuLimbs a0) (a1.toInt.toNat + x9_9.toNatClampNeg)).toNatClampNeg : Int) - (((a3.toInt.toNat * (zA κ (zR κ nuLimbs a2) x9_9.toNatClampNeg).toNatClampNeg + x9_6.toInt.toNat) % 2147483648 : Nat) : Int) - x9_8.toInt ∧ (s0.toInt = 0 ∧ 0 ≤ l12.toInt ∨ s0.toInt = 1 ∧ l12.toInt < 0)) → w_Nu_takeAt_70 C (zn κ) Q (fun (l0' : Nat) (l1' : Int32) (l2' : Nat) (l3' : Int64) (l5' : Int32) (l6' : Int64) (l8' : Int32) (l9' : Int32) (τ : zS) => ∃ k < n9, (fun (n : Nat) (l0 : Nat) (l1 : Int32) (l2 : Nat) (l3 : Int64) (l5 : Int32) (l6 : Int64) (l8 : Int32) (l9 : Int32) (τ : zS) => n = (a5.toInt - l9.toInt).toNat ∧ (a0 = l0 ∧ a1 = l1 ∧ a2 = l2 ∧ a3 = l3 ∧ a5 = l5 ∧ nuE κ τ a0 ∧ (0 ≤ l9.toInt ∧ l9.toInt ≤ a5.toInt) ∧ (0 ≤ l6.toInt ∧ 0 ≤ l8.toInt) ∧ tkI (zA κ (zR κ nuLimbs a0)) (zA τ (zR κ nuLimbs a0)) (zA κ (zR κ nuLimbs a2)) a1.toInt.toNat a3.toInt.toNat l9.toNatClampNeg l6.toInt.toNat l8.toInt.toNat)) k l0' l1' l2' l3' l5' l6' l8' l9' τ) l0 l1 l2 l3 l5 l6 l9 l12 s0 τ := by
    rintro _ _ _ _ _ y70_6 y70_9 y70_12 y70_s0 τ70 W70 T70_0 T70_1 ⟨rfl, rfl, rfl, rfl, rfl, j70⟩
    unfold w_Nu_takeAt_70
    obtain ⟨rfl, rfl, l70, e70, f70, s70⟩ := j70
    have e5 := cn1 (x := x9_9) k9.1 (by omega)
    have px := pl x9_9 k9.1 k9.2
    refine ⟨?_, ?_⟩
    · rw [rs, ns, inb_iff]; omega  -- b2
    intro κ_1 hκ_1
    intro W2
    intro x3 hx3
    refine ⟨_, ?_, rfl, ?_⟩
    · rw [hn9, hx3, e5.2]; omega  -- d3
    · obtain ⟨v1, v2, v3⟩ := nu_u W9 T9_0 hκ_1
      rw [rs, px.2] at v2
      have f1 := i_and (x := y70_12)
      have kf := cnk (x := y70_12 &&& 2147483647) (by omega)
      have lx := lim31 (zA κ (zR κ nuLimbs a0) (a1.toInt.toNat + x9_9.toNatClampNeg))
      have s := tkI_s (x := y70_12 &&& 2147483647) (w := y70_s0.toInt.toNat) J9 (by omega) rfl (by omega) (by omega) (by omega) v2
      have e6 : y70_6.toInt.toNat = (a3.toInt.toNat * (zA κ (zR κ nuLimbs a2) x9_9.toNatClampNeg).toNatClampNeg + x9_6.toInt.toNat) / 2147483648 := by omega
      rw [← e6] at s
      rw [hx3]
      exact ⟨rfl, rfl, rfl, rfl, rfl, E9.tr v1, by rw [e5.2]; omega, by omega, by rw [e5.1]; exact s⟩
  have pm := pl a5 p1.2.1 (Int.le_refl _)
  have km5 : a5.toNatClampNeg = a5.toInt.toNat := by omega
  have xm0 := p4 a5.toInt.toNat (Nat.lt_succ_self _)
  have xm1 : (zA κ (zR κ nuLimbs a0) (a1.toInt.toNat + a5.toInt.toNat)).toInt = ((zA κ (zR κ nuLimbs a0) (a1.toInt.toNat + a5.toInt.toNat)).toNatClampNeg : Int) := (cnk xm0).symm
  have xl := lim31 (zA κ (zR κ nuLimbs a0) (a1.toInt.toNat + a5.toInt.toNat))
  refine ⟨fun c4 => ?_, fun c4 => ?_⟩
  · skip
    refine ⟨?_, ?_⟩
    · rw [rs, ns, inb_iff]; omega  -- b5
    intro x5 hx5
    rw [lei] at c4
    have kk : x9_9.toNatClampNeg = a5.toInt.toNat := by omega
    rw [kk] at J9
    have xm : zA κ9 (zR κ nuLimbs a0) (a1.toInt.toNat + a5.toInt.toNat) = zA κ (zR κ nuLimbs a0) (a1.toInt.toNat + a5.toInt.toNat) := J9.2.2.2 _ (Or.inr (Nat.le_refl _))
    rw [rs, pm.2, km5, xm] at hx5
    have b1 : (zA κ (zR κ nuLimbs a0) (a1.toInt.toNat + a5.toInt.toNat)).toInt64.toInt = (zA κ (zR κ nuLimbs a0) (a1.toInt.toNat + a5.toInt.toNat)).toInt := Int32.toInt_toInt64 _
    have b3 : x9_8.toInt64.toInt = x9_8.toInt := Int32.toInt_toInt64 _
    have t1 : ((zA κ (zR κ nuLimbs a0) (a1.toInt.toNat + a5.toInt.toNat)).toInt64 - x9_6).toInt = (zA κ (zR κ nuLimbs a0) (a1.toInt.toNat + a5.toInt.toNat)).toInt - x9_6.toInt := by
      rw [jsub_i (by rw [b1]; omega) (by rw [b1]; omega), b1]
    have t5 : x5.toInt = ((zA κ (zR κ nuLimbs a0) (a1.toInt.toNat + a5.toInt.toNat)).toNatClampNeg : Int) - x9_6.toInt - x9_8.toInt := by
      rw [hx5, jsub_i (by rw [t1, b3]; omega) (by rw [t1, b3]; omega), t1, b3, xm1]
    refine ⟨fun c6 => ?_, fun c6 => ?_⟩
    · skip
      unfold w_Nu_takeAt_138
      refine ⟨fun n l0 l1 l2 l3 l5 l11 l12 τ => n = (a5.toInt - l12.toInt).toNat ∧ (a0 = l0 ∧ a1 = l1 ∧ a2 = l2 ∧ a3 = l3 ∧ a5 = l5 ∧ nuE κ τ a0 ∧ (0 ≤ l12.toInt ∧ l12.toInt ≤ a5.toInt) ∧ 0 ≤ l11.toInt ∧ adI (uW (zA κ9 (zR κ nuLimbs a0)) a1.toInt.toNat) (zA κ (zR κ nuLimbs a2)) (uW (zA τ (zR κ nuLimbs a0)) a1.toInt.toNat) (a5.toInt.toNat + 1) l12.toNatClampNeg l11.toInt.toNat ∧ ∀ j, (j < a1.toInt.toNat ∨ a1.toInt.toNat + a5.toInt.toNat ≤ j) → zA τ (zR κ nuLimbs a0) j = zA κ9 (zR κ nuLimbs a0) j), ⟨_, rfl, ?_⟩, ?_⟩
      · exact ⟨rfl, rfl, rfl, rfl, rfl, E9, ⟨by decide, by rw [t0i]; omega⟩, by decide, ⟨by
          show 0 + 0 * _ = 0 + 0
          omega, by decide, fun j hj => absurd hj (Nat.not_lt_zero _), fun _ _ _ => rfl⟩, fun _ _ => rfl⟩
      rintro n138 _ _ _ _ _ x138_11 x138_12 κ138 W138 T138_0 T138_1 ⟨hn138, rfl, rfl, rfl, rfl, rfl, i138⟩
      obtain ⟨E1, k1, c1, J1, O1⟩ := i138
      have rs1 := E1.2.1
      have ns1 := E1.2.2.2
      have u1 := nu_z W Ta2 E1.1 (nF nuLimbs) (nF nuLength)
      have kn1 := cnk k1.1
      have cb1 := J1.2.1
      rw [lg_cmp_lt, jlti] at c6
      have c6' : x5.toInt < 0 := c6
      refine ⟨fun c7 => ?_, fun c7 => ?_⟩
      · skip
        refine ⟨?_, ?_⟩
        · rw [rs1, ns1, inb_iff]; omega  -- b7
        intro κ_8 hκ_8
        intro W9
        refine h _ _ ?_
        · rw [lei] at c7
          have kk1 : x138_12.toNatClampNeg = a5.toInt.toNat := by omega
          rw [kk1] at J1
          obtain ⟨v1, v2, v3⟩ := nu_u W138 T138_0 hκ_8
          rw [rs1, pm.2, km5] at v2
          have fin := tkX_b J9 p6 p8 (by omega) J1 v2
          have t1l : (1 : Int64).toInt = 1 := rfl
          refine ⟨E1.tr v1, ?_, fin.2, fun j hj => ?_, fun j hj => ?_⟩
          · rw [jsub_i (by rw [t1l]; omega) (by rw [t1l]; omega), t1l]
            have := fin.1
            omega
          · rw [v2, uW_u]
            by_cases z : j = a5.toInt.toNat
            · have : upd (uW (zA κ138 (zR κ nuLimbs a0)) a1.toInt.toNat) a5.toInt.toNat 0 j = 0 := if_pos z
              rw [this]; decide
            · have : upd (uW (zA κ138 (zR κ nuLimbs a0)) a1.toInt.toNat) a5.toInt.toNat 0 j = uW (zA κ138 (zR κ nuLimbs a0)) a1.toInt.toNat j := if_neg z
              rw [this]; exact J1.2.2.1 j (by omega)
          · rw [v2]
            refine (if_neg (by omega)).trans ?_
            rw [O1 j (by omega)]
            exact J9.2.2.2 j (by omega)
      · skip
        rw [lei] at c7
        have px := pl x138_12 k1.1 k1.2
        have e5 := cn1 (x := x138_12) k1.1 (by omega)
        have gd := p5 x138_12.toNatClampNeg (by omega)
        have jy := J1.2.2.2 x138_12.toNatClampNeg (Nat.le_refl _) (by omega)
        have gy := J9.2.2.1 x138_12.toNatClampNeg (by omega)
        have jy' : zA κ138 (zR κ nuLimbs a0) (a1.toInt.toNat + x138_12.toNatClampNeg) = uW (zA κ9 (zR κ nuLimbs a0)) a1.toInt.toNat x138_12.toNatClampNeg := jy
        have kd := cnk gd
        have ky := cnk gy
        have ld := lim31 (zA κ (zR κ nuLimbs a2) x138_12.toNatClampNeg)
        have ly := lim31 (uW (zA κ9 (zR κ nuLimbs a0)) a1.toInt.toNat x138_12.toNatClampNeg)
        refine ⟨?_, ?_⟩
        · rw [rs1, ns1, inb_iff]; omega  -- b9
        refine ⟨?_, ?_⟩
        · rw [u1.2.1, u1.2.2.2, inb_iff]; omega  -- b10
        intro x10 hx10
        rw [rs1, px.2, jy', u1.2.2.1] at hx10
        have b2 : (uW (zA κ9 (zR κ nuLimbs a0)) a1.toInt.toNat x138_12.toNatClampNeg).toInt64.toInt = (uW (zA κ9 (zR κ nuLimbs a0)) a1.toInt.toNat x138_12.toNatClampNeg).toInt := Int32.toInt_toInt64 _
        have b4 : (zA κ (zR κ nuLimbs a2) x138_12.toNatClampNeg).toInt64.toInt = (zA κ (zR κ nuLimbs a2) x138_12.toNatClampNeg).toInt := Int32.toInt_toInt64 _
        have b5 : x138_11.toInt64.toInt = x138_11.toInt := Int32.toInt_toInt64 _
        have t2 : ((uW (zA κ9 (zR κ nuLimbs a0)) a1.toInt.toNat x138_12.toNatClampNeg).toInt64 + (zA κ (zR κ nuLimbs a2) x138_12.toNatClampNeg).toInt64).toInt = (uW (zA κ9 (zR κ nuLimbs a0)) a1.toInt.toNat x138_12.toNatClampNeg).toInt + (zA κ (zR κ nuLimbs a2) x138_12.toNatClampNeg).toInt := by
          rw [jadd_i (by rw [b2, b4]; omega) (by rw [b2, b4]; omega), b2, b4]
        have t3 : x10.toInt = (((uW (zA κ9 (zR κ nuLimbs a0)) a1.toInt.toNat x138_12.toNatClampNeg).toNatClampNeg + (zA κ (zR κ nuLimbs a2) x138_12.toNatClampNeg).toNatClampNeg + x138_11.toInt.toNat : Nat) : Int) := by
          rw [hx10, jadd_i (by rw [t2, b5]; omega) (by rw [t2, b5]; omega), t2, b5]
          omega
        have f1 := (j_and (x := x10)).2
        have f2 := j_shr (x := x10) (by omega)
        have f3 := j_i32 (x := (x10.toUInt64 >>> ((31 : Int32).toInt64.toUInt64 &&& Int64.toUInt64 63)).toInt64) (by rw [f2]; omega) (by rw [f2]; omega)
        refine ⟨?_, ?_⟩
        · rw [rs1, ns1, inb_iff]; omega  -- b11
        intro κ_11 hκ_11
        intro W12
        intro x13 hx13
        intro x14 hx14
        refine ⟨_, ?_, rfl, ?_⟩
        · rw [hn138, hx14, e5.2]; omega  -- d12
        · rw [f2, ← hx13] at f3
          obtain ⟨v1, v2, v3⟩ := nu_u W138 T138_0 hκ_11
          rw [rs1, px.2] at v2
          have s := adI_s (x := (x10 &&& 2147483647).toInt32) (X' := uW (zA κ_11 (zR κ nuLimbs a0)) a1.toInt.toNat) J1 (by rw [f1, t3]) (by rw [v2, uW_u])
          have ec : x13.toInt.toNat = ((uW (zA κ9 (zR κ nuLimbs a0)) a1.toInt.toNat x138_12.toNatClampNeg).toNatClampNeg + (zA κ (zR κ nuLimbs a2) x138_12.toNatClampNeg).toNatClampNeg + x138_11.toInt.toNat) / 2147483648 := by omega
          rw [← ec] at s
          rw [hx14]
          exact ⟨rfl, rfl, rfl, rfl, rfl, E1.tr v1, by rw [e5.2]; omega, by omega, by rw [e5.1]; exact s, fun j hj => by
            rw [v2]
            exact (if_neg (by omega)).trans (O1 j hj)⟩
    · skip
      rw [lg_cmp_lt, jlti] at c6
      have c6' : ¬ x5.toInt < 0 := c6
      have g5 := j_i32 (x := x5) (by omega) (by omega)
      have kg := cnk (x := x5.toInt32) (by omega)
      refine ⟨?_, ?_⟩
      · rw [rs, ns, inb_iff]; omega  -- b14
      intro κ_15 hκ_15
      intro W16
      refine h _ _ ?_
      · obtain ⟨v1, v2, v3⟩ := nu_u (by assumption) T9_0 hκ_15
        rw [rs, pm.2, km5] at v2
        have fin := tkX_a J9 p6 p7 (by omega) (by omega) v2
        refine ⟨E9.tr v1, ?_, fin.2, fun j hj => ?_, fun j hj => ?_⟩
        · have := fin.1
          omega
        · rw [v2, uW_u]
          by_cases z : j = a5.toInt.toNat
          · have : upd (uW (zA κ9 (zR κ nuLimbs a0)) a1.toInt.toNat) a5.toInt.toNat x5.toInt32 j = x5.toInt32 := if_pos z
            rw [this]; omega
          · have : upd (uW (zA κ9 (zR κ nuLimbs a0)) a1.toInt.toNat) a5.toInt.toNat x5.toInt32 j = uW (zA κ9 (zR κ nuLimbs a0)) a1.toInt.toNat j := if_neg z
            rw [this]; exact J9.2.2.1 j (by omega)
        · rw [v2]
          refine (if_neg (by omega)).trans ?_
          exact J9.2.2.2 j (by omega)
  · skip
    rw [lei] at c4
    have px := pl x9_9 k9.1 k9.2
    have gd := p5 x9_9.toNatClampNeg (by omega)
    have kd := cnk gd
    have ld := lim31 (zA κ (zR κ nuLimbs a2) x9_9.toNatClampNeg)
    have gx := p4 x9_9.toNatClampNeg (by omega)
    have gx1 : (zA κ (zR κ nuLimbs a0) (a1.toInt.toNat + x9_9.toNatClampNeg)).toInt = ((zA κ (zR κ nuLimbs a0) (a1.toInt.toNat + x9_9.toNatClampNeg)).toNatClampNeg : Int) := (cnk gx).symm
    have xl := lim31 (zA κ (zR κ nuLimbs a0) (a1.toInt.toNat + x9_9.toNatClampNeg))
    have xm : zA κ9 (zR κ nuLimbs a0) (a1.toInt.toNat + x9_9.toNatClampNeg) = zA κ (zR κ nuLimbs a0) (a1.toInt.toNat + x9_9.toNatClampNeg) := J9.2.2.2 _ (Or.inr (Nat.le_refl _))
    have m1 : a3.toInt.toNat * (zA κ (zR κ nuLimbs a2) x9_9.toNatClampNeg).toNatClampNeg ≤ 2147483647 * 2147483647 := Nat.mul_le_mul (by omega) (by omega)
    refine ⟨?_, ?_⟩
    · rw [u9.2.1, u9.2.2.2, inb_iff]; omega  -- b16
    intro x17 hx17
    intro x18 hx18
    rw [u9.2.1, u9.2.2.1] at hx17
    have b4 : (zA κ (zR κ nuLimbs a2) x9_9.toNatClampNeg).toInt64.toInt = (zA κ (zR κ nuLimbs a2) x9_9.toNatClampNeg).toInt := Int32.toInt_toInt64 _
    have em : a3.toInt * (zA κ (zR κ nuLimbs a2) x9_9.toNatClampNeg).toInt = ((a3.toInt.toNat * (zA κ (zR κ nuLimbs a2) x9_9.toNatClampNeg).toNatClampNeg : Nat) : Int) := by
      rw [Int.natCast_mul, kd]
      congr 1
      omega
    have t1 : (a3 * (zA κ (zR κ nuLimbs a2) x9_9.toNatClampNeg).toInt64).toInt = ((a3.toInt.toNat * (zA κ (zR κ nuLimbs a2) x9_9.toNatClampNeg).toNatClampNeg : Nat) : Int) := by
      rw [jmul_i (by rw [b4, em]; omega) (by rw [b4, em]; omega), b4, em]
    have t2 : x17.toInt = ((a3.toInt.toNat * (zA κ (zR κ nuLimbs a2) x9_9.toNatClampNeg).toNatClampNeg + x9_6.toInt.toNat : Nat) : Int) := by
      rw [hx17, jadd_i (by rw [t1]; omega) (by rw [t1]; omega), t1]
      omega
    have f1 := (j_and (x := x17)).2
    have f2 := j_shr (x := x17) (by omega)
    rw [← hx18, t2] at f2
    rw [t2] at f1
    refine ⟨?_, ?_⟩
    · rw [rs, ns, inb_iff]; omega  -- b17
    intro x19 hx19
    rw [rs, px.2, xm] at hx19
    have t3 : (zA κ (zR κ nuLimbs a0) (a1.toInt.toNat + x9_9.toNatClampNeg) - (x17 &&& 2147483647).toInt32).toInt = (zA κ (zR κ nuLimbs a0) (a1.toInt.toNat + x9_9.toNatClampNeg)).toInt - (x17 &&& 2147483647).toInt32.toInt := sub_i (by omega) (by omega)
    have t4 : x19.toInt = ((zA κ (zR κ nuLimbs a0) (a1.toInt.toNat + x9_9.toNatClampNeg)).toNatClampNeg : Int) - (((a3.toInt.toNat * (zA κ (zR κ nuLimbs a2) x9_9.toNatClampNeg).toNatClampNeg + x9_6.toInt.toNat) % 2147483648 : Nat) : Int) - x9_8.toInt := by
      rw [hx19, sub_i (by rw [t3]; omega) (by rw [t3]; omega), t3, f1, gx1]
      omega
    have t6 : x18.toInt = (((a3.toInt.toNat * (zA κ (zR κ nuLimbs a2) x9_9.toNatClampNeg).toNatClampNeg + x9_6.toInt.toNat) / 2147483648 : Nat) : Int) := by
      rw [f2]
      omega
    refine ⟨fun c20 => ?_, fun c20 => ?_⟩
    · skip
      refine hj70 _ _ _ _ _ _ _ _ _ _ W9 ?_ ?_ ?_
      · exact T9_0  -- t18
      · exact T9_1  -- t19
      · rw [lei, t0i] at c20
        exact ⟨rfl, rfl, rfl, rfl, rfl, rfl, rfl, by omega, t6, t4, Or.inl ⟨rfl, c20⟩⟩
    · skip
      refine hj70 _ _ _ _ _ _ _ _ _ _ W9 ?_ ?_ ?_
      · exact T9_0  -- t21
      · exact T9_1  -- t22
      · rw [lei, t0i] at c20
        exact ⟨rfl, rfl, rfl, rfl, rfl, rfl, rfl, by omega, t6, t4, Or.inr ⟨rfl, by omega⟩⟩
