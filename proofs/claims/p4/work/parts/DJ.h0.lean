set_option maxHeartbeats 1600000
/-! the class: rows kept once, by what they hold (Hoard) -/
/-- row g holds these numbers -/
def hkM9 (S P : Nat → Int32) (T : Int) (K : Nat → Int32) (L : Int) (g : Nat) : Prop := (g : Int) < T ∧ (S (g + 1)).toInt - (S g).toInt = L ∧ ∀ i : Nat, (i : Int) < L → P ((S g).toInt.toNat + i) = K i
def hk9 (κ : zS) (h : Nat) (K : Nat → Int32) (L : Int) (g : Nat) : Prop := hkM9 (zA κ (zR κ hoStarts h)) (zA κ (zR κ hoPool h)) ((zI κ hoTotal h).toInt) K L g
def hst9 (x k : Int32) : Int32 := ((x ^^^ k) * (-1640531535 : Int32)) ^^^ (Int32.toUInt32 ((x ^^^ k) * (-1640531535 : Int32)) >>> (Int32.toUInt32 (15 : Int32) &&& Int32.toUInt32 31)).toInt32
def hhs9 (K : Nat → Int32) (x : Int32) : Nat → Int32
  | 0 => x
  | n + 1 => hst9 (hhs9 K x n) (K n)
def hsl9 (s m : Int32) : Nat → Int32
  | 0 => s &&& m
  | j + 1 => (hsl9 s m j + 1) &&& m
/-- the slots where a row is looked for -/
def hs9 (S : Nat) (K : Nat → Int32) (L : Int32) (j : Nat) : Int32 := hsl9 (hhs9 K L L.toNatClampNeg) (Int32.ofNat S - 1) j
/-- no number of a row stands in two slots -/
def hoU9 (κ : zS) (h S : Nat) : Prop := ∀ i j, i < S → j < S → zA κ (zR κ hoTable h) i ≠ 0 → zA κ (zR κ hoTable h) i = zA κ (zR κ hoTable h) j → i = j
/-- on the way to a row's slot -/
def hkW9 (κ : zS) (h S : Nat) (K : Nat → Int32) (L : Int32) (j : Nat) : Prop := ∀ i, i < j → zA κ (zR κ hoTable h) (hs9 S K L i).toNatClampNeg ≠ 0 ∧ ¬ hk9 κ h K L.toInt ((zA κ (zR κ hoTable h) (hs9 S K L i).toNatClampNeg).toInt - 1).toNat
/-- the row is there, under this number -/
def hkS9 (κ : zS) (h S : Nat) (K : Nat → Int32) (L : Int32) (g : Nat) : Prop := hk9 κ h K L.toInt g ∧ ∃ j, j < S ∧ hkW9 κ h S K L j ∧ (zA κ (zR κ hoTable h) (hs9 S K L j).toNatClampNeg).toInt = (g : Int) + 1
theorem bv_n9 {y : Int32} (hy : 0 ≤ y.toInt) : y.toInt = (y.toBitVec.toNat : Int) := BitVec.toInt_eq_toNat_of_lt (by
  have h9 : 0 ≤ y.toBitVec.toInt := hy
  rw [BitVec.toInt_eq_toNat_cond] at h9
  have l := y.toBitVec.isLt
  split at h9
  · assumption
  · omega)
theorem and_k9 {y m : Int32} {k : Nat} (hy : 0 ≤ y.toInt) (hm : m.toBitVec.toNat = 2 ^ k - 1) (hk : 2 ^ k ≤ 2 ^ 30) : (y &&& m).toInt = y.toInt % (2 ^ k : Nat) := by
  have e2 : (y &&& m).toBitVec.toNat = y.toBitVec.toNat &&& m.toBitVec.toNat := by
    show (y.toBitVec &&& m.toBitVec).toNat = _
    exact BitVec.toNat_and _ _
  rw [hm, Nat.and_two_pow_sub_one_eq_mod] at e2
  have p : 0 < 2 ^ k := Nat.pow_pos (by decide)
  have l : y.toBitVec.toNat % 2 ^ k < 2 ^ k := Nat.mod_lt _ p
  have e3 : (y &&& m).toInt = ((y &&& m).toBitVec.toNat : Int) := BitVec.toInt_eq_toNat_of_lt (by rw [e2]; omega)
  rw [e3, e2, bv_n9 hy]
  exact Int.natCast_emod _ _
theorem hsl_m9 {s : Int32} {S : Nat} (hS : S = 2048 ∨ S = 8192) (j : Nat) : (hsl9 s (Int32.ofNat S - 1) j).toInt = ((s &&& (Int32.ofNat S - 1)).toInt + (j : Int)) % (S : Int) := by
  have q : ∀ y : Int32, 0 ≤ (y &&& (Int32.ofNat S - 1)).toInt ∧ (y &&& (Int32.ofNat S - 1)).toInt < S ∧ (0 ≤ y.toInt → (y &&& (Int32.ofNat S - 1)).toInt = y.toInt % (S : Int)) := fun y => by
    rcases hS with e | e
    · subst e
      have a := andi_i (x := y) (m := Int32.ofNat 2048 - 1) (by decide)
      have z : (Int32.ofNat 2048 - 1).toInt = 2047 := by decide
      rw [z] at a
      exact ⟨a.1, by omega, fun h => and_k9 (k := 11) h (by decide) (by decide)⟩
    · subst e
      have a := andi_i (x := y) (m := Int32.ofNat 8192 - 1) (by decide)
      have z : (Int32.ofNat 8192 - 1).toInt = 8191 := by decide
      rw [z] at a
      exact ⟨a.1, by omega, fun h => and_k9 (k := 13) h (by decide) (by decide)⟩
  have s1 := q s
  have p : (0 : Int) < S := by rcases hS with e | e <;> subst e <;> decide
  have p31 : (S : Int) ≤ 8192 := by rcases hS with e | e <;> subst e <;> decide
  induction j with
  | zero =>
    show (s &&& (Int32.ofNat S - 1)).toInt = _
    have z : ((s &&& (Int32.ofNat S - 1)).toInt + ((0 : Nat) : Int)) = (s &&& (Int32.ofNat S - 1)).toInt := Int.add_zero _
    rw [z]
    exact (Int.emod_eq_of_lt s1.1 s1.2.1).symm
  | succ j ih =>
    show ((hsl9 s (Int32.ofNat S - 1) j + 1) &&& (Int32.ofNat S - 1)).toInt = _
    have x0 : 0 ≤ (hsl9 s (Int32.ofNat S - 1) j).toInt := by rw [ih]; exact Int.emod_nonneg _ (by omega)
    have x1 : (hsl9 s (Int32.ofNat S - 1) j).toInt < S := by rw [ih]; exact Int.emod_lt_of_pos _ p
    have e : (hsl9 s (Int32.ofNat S - 1) j + 1).toInt = (hsl9 s (Int32.ofNat S - 1) j).toInt + 1 := by rw [add_i (by rw [t1i]; omega) (by rw [t1i]; omega), t1i]
    rw [(q _).2.2 (by rw [e]; omega), e, ih, Int.emod_add_emod, Int.add_assoc]
    rfl
theorem hsl_r9 {s : Int32} {S : Nat} (hS : S = 2048 ∨ S = 8192) (j : Nat) : 0 ≤ (hsl9 s (Int32.ofNat S - 1) j).toInt ∧ (hsl9 s (Int32.ofNat S - 1) j).toInt < S := by
  have p : (0 : Int) < S := by rcases hS with e | e <;> subst e <;> decide
  rw [hsl_m9 hS]
  exact ⟨Int.emod_nonneg _ (by omega), Int.emod_lt_of_pos _ p⟩
theorem hsl_j9 {s : Int32} {S i j : Nat} (hS : S = 2048 ∨ S = 8192) (hi : i < S) (hj : j < S) (e : (hsl9 s (Int32.ofNat S - 1) i).toNatClampNeg = (hsl9 s (Int32.ofNat S - 1) j).toNatClampNeg) : i = j := by
  have a := hsl_r9 (s := s) hS i
  have b := hsl_r9 (s := s) hS j
  have ka := cnk a.1
  have kb := cnk b.1
  have ma := hsl_m9 (s := s) hS i
  have mb := hsl_m9 (s := s) hS j
  generalize (s &&& (Int32.ofNat S - 1)).toInt = x at *
  rcases hS with z | z
  · subst z
    omega
  · subst z
    omega
theorem hoP_S9 {M D S : Nat} (h : hoP M D S) : (S = 2048 ∨ S = 8192) ∧ M < S := by
  rcases h with ⟨rfl, rfl, rfl⟩ | ⟨rfl, rfl, rfl⟩ | ⟨rfl, rfl, rfl⟩ <;> decide
theorem php9 : ∀ (n m : Nat) (f : Nat → Nat), (∀ i, i < n → f i < m) → (∀ i j, i < n → j < n → f i = f j → i = j) → n ≤ m := by
  intro n
  induction n with
  | zero => intro m f _ _; exact Nat.zero_le _
  | succ n ih =>
    intro m f h1 h2
    have a := h1 n (Nat.lt_succ_self n)
    obtain ⟨m', rfl⟩ : ∃ m', m = m' + 1 := ⟨m - 1, by omega⟩
    refine Nat.succ_le_succ (ih m' (fun i => if f i = m' then f n else f i) (fun i hi => ?_) (fun i j hi hj e => ?_))
    · by_cases z : f i = m'
      · rw [if_pos z]
        have ne : f n ≠ m' := fun y => by
          have w := h2 i n (by omega) (by omega) (z.trans y.symm)
          omega
        omega
      · rw [if_neg z]
        have w := h1 i (by omega)
        omega
    · by_cases z : f i = m'
      · rw [if_pos z] at e
        by_cases y : f j = m'
        · exact h2 i j (by omega) (by omega) (z.trans y.symm)
        · rw [if_neg y] at e
          have w := h2 n j (by omega) (by omega) e
          omega
      · rw [if_neg z] at e
        by_cases y : f j = m'
        · rw [if_pos y] at e
          have w := h2 i n (by omega) (by omega) e
          omega
        · rw [if_neg y] at e
          exact h2 i j (by omega) (by omega) e
/-- some slot is empty -/
theorem hs_e9 {κ : zS} {h M D S j : Nat} {K : Nat → Int32} {L : Int32} (A : hoA κ h M D S) (P : hoP M D S) (U : hoU9 κ h S) (t0 : 0 ≤ (zI κ hoTotal h).toInt) (tM : (zI κ hoTotal h).toInt ≤ M) (hw : hkW9 κ h S K L j) (hj : S ≤ j) : False := by
  obtain ⟨hS, hM⟩ := hoP_S9 P
  have sl : ∀ i, (hs9 S K L i).toNatClampNeg < S := fun i => by
    have r := hsl_r9 (s := hhs9 K L L.toNatClampNeg) hS i
    have k := cnk r.1
    show (hsl9 (hhs9 K L L.toNatClampNeg) (Int32.ofNat S - 1) i).toNatClampNeg < S
    omega
  have q := php9 S ((zI κ hoTotal h).toInt).toNat (fun i => ((zA κ (zR κ hoTable h) (hs9 S K L i).toNatClampNeg).toInt - 1).toNat) (fun i hi => ?_) (fun i k hi hk e => ?_)
  · omega
  · have z := A.2.2.2.2.2 _ (sl i)
    have n : (zA κ (zR κ hoTable h) (hs9 S K L i).toNatClampNeg).toInt ≠ 0 := fun e => (hw i (by omega)).1 (Int32.toInt_inj.mp e)
    omega
  · have z1 := A.2.2.2.2.2 _ (sl i)
    have z2 := A.2.2.2.2.2 _ (sl k)
    have n1 : (zA κ (zR κ hoTable h) (hs9 S K L i).toNatClampNeg).toInt ≠ 0 := fun e => (hw i (by omega)).1 (Int32.toInt_inj.mp e)
    have n2 : (zA κ (zR κ hoTable h) (hs9 S K L k).toNatClampNeg).toInt ≠ 0 := fun e => (hw k (by omega)).1 (Int32.toInt_inj.mp e)
    have e2 : (zA κ (zR κ hoTable h) (hs9 S K L i).toNatClampNeg).toInt = (zA κ (zR κ hoTable h) (hs9 S K L k).toNatClampNeg).toInt := by omega
    exact hsl_j9 hS hi hk (U _ _ (sl i) (sl k) (hw i (by omega)).1 (Int32.toInt_inj.mp e2))
theorem Ho_lengthOf_c2 {C : zC} {n0 : Nat} {a0 : Nat} {a1 : Int32} {κ : zS} {Q : Int32 → zS → Prop} (W : zW C n0 κ) (Ta0 : zT κ a0 = 6) (M D S : Nat) (hp : hoI κ a0 M D S ∧ hoP M D S) (h : ∀ (v : Int32), ((0 ≤ v.toInt ∧ v.toInt ≤ D) ∧ v.toInt = if 0 ≤ a1.toInt ∧ a1.toInt < (zI κ hoTotal a0).toInt then (zA κ (zR κ hoStarts a0) (a1.toNatClampNeg + 1)).toInt - (zA κ (zR κ hoStarts a0) a1.toNatClampNeg).toInt else 0) → Q v κ) : zRun C 0 mHo_lengthOf [.ref a0, .int a1] κ (oI Q noX) := by
  refine Ho_lengthOf_run W Ta0 ?_
  replace W := W.lo (Nat.le_trans W.1.2.1 W.1.2.2) (Nat.le_refl (zn κ))
  unfold w_Ho_lengthOf_0
  obtain ⟨H, P⟩ := hp
  have B := hoP_b P
  refine ⟨fun c1 => ?_, fun c1 => ?_⟩
  · skip
    refine h _ ?_
    · rw [lti, t0i] at c1
      rw [if_neg (by omega)]
      exact ⟨⟨by decide, Int.natCast_nonneg D⟩, rfl⟩
  · skip
    refine ⟨fun c2 => ?_, fun c2 => ?_⟩
    · skip
      refine h _ ?_
      · rw [lei] at c2
        rw [if_neg (by omega)]
        exact ⟨⟨by decide, Int.natCast_nonneg D⟩, rfl⟩
    · skip
      have c0 : 0 ≤ a1.toInt := by rw [lti, t0i] at c1; omega
      have c3 : a1.toInt < (zI κ hoTotal a0).toInt := by rw [lei] at c2; omega
      have k9 := cnk c0
      have tM := H.2.1.2
      have A := hoI_A H (Or.inl (by omega))
      have e1 : (a1 + 1).toInt = a1.toInt + 1 := by rw [add_i (by rw [t1i]; omega) (by rw [t1i]; omega), t1i]
      have n1 : (a1 + 1).toNatClampNeg = a1.toNatClampNeg + 1 := by have := cnk (x := a1 + 1) (by omega); omega
      have sl : zN κ (zR κ hoStarts a0) = M + 1 := A.2.1
      refine ⟨?_, ?_⟩
      · rw [inb_iff, e1, sl]; omega  -- b3
      refine ⟨?_, ?_⟩
      · rw [inb_iff, sl]; omega  -- b4
      refine h _ ?_
      · rw [n1]
        have a := hoA_0 A (k := a1.toNatClampNeg) (by omega)
        have b := A.2.2.2.1 a1.toNatClampNeg (by omega)
        have t := hoA_t A (k := a1.toNatClampNeg + 1) (by omega)
        have p := H.2.2.1.2
        have e : (zA κ (zR κ hoStarts a0) (a1.toNatClampNeg + 1) - zA κ (zR κ hoStarts a0) a1.toNatClampNeg).toInt = (zA κ (zR κ hoStarts a0) (a1.toNatClampNeg + 1)).toInt - (zA κ (zR κ hoStarts a0) a1.toNatClampNeg).toInt := sub_i (by omega) (by omega)
        rw [e, if_pos ⟨c0, c3⟩]
        exact ⟨⟨by omega, by omega⟩, rfl⟩

/-- number i of row g, 0 if there is none -/
def pV9 (κ : zS) (h : Nat) (g i : Int32) : Int32 := if (0 ≤ g.toInt ∧ g.toInt < (zI κ hoTotal h).toInt) ∧ 0 ≤ i.toInt ∧ i.toInt < (zA κ (zR κ hoStarts h) (g.toNatClampNeg + 1)).toInt - (zA κ (zR κ hoStarts h) g.toNatClampNeg).toInt then zA κ (zR κ hoPool h) (((zA κ (zR κ hoStarts h) g.toNatClampNeg).toInt).toNat + i.toNatClampNeg) else 0
theorem pV9_k {κ : zS} {h : Nat} {g i : Int32} {K : Nat → Int32} {L : Int} (hg : 0 ≤ g.toInt) (hk : hk9 κ h K L g.toNatClampNeg) (h0 : 0 ≤ i.toInt) (h1 : i.toInt < L) : pV9 κ h g i = K i.toNatClampNeg := by
  have k := cnk hg
  have k1 := cnk h0
  obtain ⟨a, b, c⟩ := hk
  unfold pV9
  rw [if_pos ⟨⟨hg, by omega⟩, h0, by omega⟩]
  exact c i.toNatClampNeg (by omega)
theorem Ho_part_c2 {C : zC} {n0 : Nat} {a0 : Nat} {a1 : Int32} {a2 : Int32} {κ : zS} {Q : Int32 → zS → Prop} (W : zW C n0 κ) (Ta0 : zT κ a0 = 6) (M D S : Nat) (hp : hoI κ a0 M D S ∧ hoP M D S) (h : ∀ (v : Int32), (v = pV9 κ a0 a1 a2) → Q v κ) : zRun C 1 mHo_part [.ref a0, .int a1, .int a2] κ (oI Q noX) := by
  refine Ho_part_run W Ta0 ?_
  replace W := W.lo (Nat.le_trans W.1.2.1 W.1.2.2) (Nat.le_refl (zn κ))
  unfold w_Ho_part_0
  obtain ⟨H, P⟩ := hp
  have B := hoP_b P
  refine ⟨fun c1 => ?_, fun c1 => ?_⟩
  · skip
    refine h _ ?_
    · rw [lti, t0i] at c1
      unfold pV9
      rw [if_neg (fun z => by omega)]
  · skip
    intro T2
    refine Ho_lengthOf_c2 W T2 M D S ?_ (fun r3 q5 => ?_)
    · exact ⟨H, P⟩  -- p2
    intro W6
    intro M7
    refine ⟨fun c8 => ?_, fun c8 => ?_⟩
    · skip
      refine h _ ?_
      · rw [lei] at c8
        rw [lti, t0i] at c1
        have q := q5.2
        unfold pV9
        by_cases z : 0 ≤ a1.toInt ∧ a1.toInt < (zI κ hoTotal a0).toInt
        · rw [if_pos z] at q
          rw [if_neg (fun y => by omega)]
        · rw [if_neg (fun y => z y.1)]
    · skip
      have c0 : 0 ≤ a2.toInt := by rw [lti, t0i] at c1; omega
      have c9 : a2.toInt < r3.toInt := by rw [lei] at c8; omega
      have q := q5.2
      have z : 0 ≤ a1.toInt ∧ a1.toInt < (zI κ hoTotal a0).toInt := by
        by_cases z : 0 ≤ a1.toInt ∧ a1.toInt < (zI κ hoTotal a0).toInt
        · exact z
        · rw [if_neg z] at q
          omega
      rw [if_pos z] at q
      have k9 := cnk z.1
      have tM := H.2.1.2
      have A := hoI_A H (Or.inl (by omega))
      have sl : zN κ (zR κ hoStarts a0) = M + 1 := A.2.1
      have a := hoA_0 A (k := a1.toNatClampNeg) (by omega)
      have t := hoA_t A (k := a1.toNatClampNeg + 1) (by omega)
      have p := H.2.2.1.2
      have e : (zA κ (zR κ hoStarts a0) a1.toNatClampNeg + a2).toInt = (zA κ (zR κ hoStarts a0) a1.toNatClampNeg).toInt + a2.toInt := add_i (by omega) (by omega)
      have t2 : (zA κ (zR κ hoStarts a0) (a1.toNatClampNeg + 1)).toInt ≤ zN κ (zR κ hoPool a0) := t
      refine ⟨?_, ?_⟩
      · rw [inb_iff, sl]; omega  -- b4
      refine ⟨?_, ?_⟩
      · rw [inb_iff, e]
        omega
      refine h _ ?_
      · unfold pV9
        rw [if_pos ⟨z, c0, by omega⟩]
        have ke := cnk (x := zA κ (zR κ hoStarts a0) a1.toNatClampNeg + a2) (by omega)
        have k2 := cnk c0
        rw [show (zA κ (zR κ hoStarts a0) a1.toNatClampNeg + a2).toNatClampNeg = ((zA κ (zR κ hoStarts a0) a1.toNatClampNeg).toInt).toNat + a2.toNatClampNeg by omega]

theorem Ho_isRow_c2 {C : zC} {n0 : Nat} {a0 : Nat} {a1 : Int32} {a2 : Nat} {a3 : Int32} {κ : zS} {Q : Int32 → zS → Prop} (W : zW C n0 κ) (Ta0 : zT κ a0 = 6) (Ta2 : zT κ a2 = 20) (M D S : Nat) (hp : hoA κ a0 M D S ∧ hoP M D S ∧ 0 ≤ (zI κ hoTotal a0).toInt ∧ (zI κ hoTotal a0).toInt ≤ M ∧ (zN κ (zR κ hoPool a0)) ≤ M * D ∧ 0 ≤ a1.toInt ∧ a1.toInt < (zI κ hoTotal a0).toInt ∧ a3.toInt ≤ zN κ a2) (h : ∀ (v : Int32), (nb v ∧ (v ≠ 0 ↔ hk9 κ a0 (zA κ a2) a3.toInt a1.toNatClampNeg)) → Q v κ) : zRun C 0 mHo_isRow [.ref a0, .int a1, .ref a2, .int a3] κ (oI Q noX) := by
  refine Ho_isRow_run W Ta0 Ta2 ?_
  replace W := W.lo (Nat.le_trans W.1.2.1 W.1.2.2) (Nat.le_refl (zn κ))
  unfold w_Ho_isRow_0
  obtain ⟨A, P, h0, h1, hpl, k0, k1, hl⟩ := hp
  have B := hoP_b P
  have k9 := cnk k0
  have sl : zN κ (zR κ hoStarts a0) = M + 1 := A.2.1
  have e1 : (a1 + 1).toInt = a1.toInt + 1 := by rw [add_i (by rw [t1i]; omega) (by rw [t1i]; omega), t1i]
  have n1 : (a1 + 1).toNatClampNeg = a1.toNatClampNeg + 1 := by have := cnk (x := a1 + 1) (by omega); omega
  have a := hoA_0 A (k := a1.toNatClampNeg) (by omega)
  have b := A.2.2.2.1 a1.toNatClampNeg (by omega)
  have t : (zA κ (zR κ hoStarts a0) (a1.toNatClampNeg + 1)).toInt ≤ zN κ (zR κ hoPool a0) := hoA_t A (k := a1.toNatClampNeg + 1) (by omega)
  have p : zN κ (zR κ hoPool a0) ≤ M * D := hpl
  have e9 : (zA κ (zR κ hoStarts a0) (a1.toNatClampNeg + 1) - zA κ (zR κ hoStarts a0) a1.toNatClampNeg).toInt = (zA κ (zR κ hoStarts a0) (a1.toNatClampNeg + 1)).toInt - (zA κ (zR κ hoStarts a0) a1.toNatClampNeg).toInt := sub_i (by omega) (by omega)
  refine ⟨?_, ?_⟩
  · rw [inb_iff, sl]; omega  -- b1
  intro x1 hx1
  refine ⟨?_, ?_⟩
  · rw [inb_iff, e1, sl]; omega  -- b2
  refine ⟨fun c2 => ?_, fun c2 => ?_⟩
  · skip
    unfold w_Ho_isRow_28
    refine ⟨fun n l0 l2 l3 l4 l5 τ => n = (l3 - l5).toNatClampNeg ∧ (κ = τ ∧ a0 = l0 ∧ a2 = l2 ∧ a3 = l3 ∧ 0 ≤ l5.toInt ∧ l4.toInt = (zA κ (zR κ hoStarts a0) a1.toNatClampNeg).toInt ∧ a3.toInt = (zA κ (zR κ hoStarts a0) (a1.toNatClampNeg + 1)).toInt - (zA κ (zR κ hoStarts a0) a1.toNatClampNeg).toInt ∧ l5.toInt ≤ a3.toInt ∧ ∀ i : Nat, (i : Int) < l5.toInt → zA κ (zR κ hoPool a0) (((zA κ (zR κ hoStarts a0) a1.toNatClampNeg).toInt).toNat + i) = zA κ a2 i), ⟨_, rfl, ?_⟩, ?_⟩
    · rw [n1, hx1] at c2
      have c3 : (zA κ (zR κ hoStarts a0) (a1.toNatClampNeg + 1) - zA κ (zR κ hoStarts a0) a1.toNatClampNeg).toInt = a3.toInt := congrArg Int32.toInt c2
      rw [e9] at c3
      exact ⟨rfl, rfl, rfl, rfl, by decide, by rw [hx1], c3.symm, by rw [t0i]; omega, fun i hi => by rw [t0i] at hi; omega⟩
    rintro n28 _ _ _ x28_4 x28_5 _ W28 T28_0 T28_1 ⟨hn28, rfl, rfl, rfl, rfl, i28⟩
    obtain ⟨m0, m1, m2, m3, m4⟩ := i28
    refine ⟨fun c3 => ?_, fun c3 => ?_⟩
    · skip
      refine h _ ?_
      · rw [lei] at c3
        exact ⟨nb_1, fun _ => ⟨by omega, m2.symm, fun i hi => m4 i (by omega)⟩, fun _ => by decide⟩
    · skip
      have c9 : x28_5.toInt < a3.toInt := by rw [lei] at c3; omega
      have e : (x28_4 + x28_5).toInt = x28_4.toInt + x28_5.toInt := add_i (by omega) (by omega)
      have ke := cnk (x := x28_4 + x28_5) (by omega)
      have k5 := cnk m0
      have n5 : (x28_4 + x28_5).toNatClampNeg = ((zA κ (zR κ hoStarts a0) a1.toNatClampNeg).toInt).toNat + x28_5.toNatClampNeg := by omega
      refine ⟨?_, ?_⟩
      · rw [inb_iff, e]; omega  -- b5
      refine ⟨?_, ?_⟩
      · rw [inb_iff]; omega  -- b6
      refine ⟨fun c4 => ?_, fun c4 => ?_⟩
      · skip
        intro x5 hx5
        refine ⟨_, cn_lt2 hn28 ?_ ?_, rfl, ?_⟩
        · rw [hx5, lei, t0i]
          have e : (x28_5 + 1).toInt = x28_5.toInt + 1 := by rw [add_i (by rw [t1i]; omega) (by rw [t1i]; omega), t1i]
          rw [sub_i (by rw [e]; omega) (by rw [e]; omega), e]; omega
        · rw [hx5, lti]
          have e : (x28_5 + 1).toInt = x28_5.toInt + 1 := by rw [add_i (by rw [t1i]; omega) (by rw [t1i]; omega), t1i]
          rw [sub_i (by rw [e]; omega) (by rw [e]; omega), e, sub_i (by omega) (by omega)]; omega
        · have e : (x28_5 + 1).toInt = x28_5.toInt + 1 := by rw [add_i (by rw [t1i]; omega) (by rw [t1i]; omega), t1i]
          refine ⟨rfl, rfl, rfl, rfl, by rw [hx5, e]; omega, m1, m2, by rw [hx5, e]; omega, fun i hi => ?_⟩
          rw [hx5, e] at hi
          by_cases z : i = x28_5.toNatClampNeg
          · rw [z, ← n5]
            exact c4
          · exact m4 i (by omega)
      · skip
        refine h _ ?_
        · refine ⟨nb_0, fun z => absurd rfl z, fun z => ?_⟩
          have q := z.2.2 x28_5.toNatClampNeg (by omega)
          rw [← n5] at q
          exact absurd q c4
  · skip
    refine h _ ?_
    · refine ⟨nb_0, fun z => absurd rfl z, fun z => ?_⟩
      rw [n1, hx1] at c2
      exact absurd (Int32.toInt_inj.mp (e9.trans z.2.1)) c2

theorem Ho_slotOf_c2 {C : zC} {n0 : Nat} {a0 : Nat} {a1 : Nat} {a2 : Int32} {κ : zS} {Q : Int32 → zS → Prop} (W : zW C n0 κ) (Ta0 : zT κ a0 = 6) (Ta1 : zT κ a1 = 20) (M D S : Nat) (hp : hoA κ a0 M D S ∧ hoP M D S ∧ 0 ≤ (zI κ hoTotal a0).toInt ∧ (zI κ hoTotal a0).toInt ≤ M ∧ (zN κ (zR κ hoPool a0)) ≤ M * D ∧ a2.toInt ≤ zN κ a1 ∧ hoU9 κ a0 S ∧ 0 ≤ a2.toInt) (h : ∀ (v : Int32), ((0 ≤ v.toInt ∧ v.toInt < S) ∧ ∃ j, j < S ∧ v = hs9 S (zA κ a1) a2 j ∧ hkW9 κ a0 S (zA κ a1) a2 j ∧ (zA κ (zR κ hoTable a0) v.toNatClampNeg = 0 ∨ hk9 κ a0 (zA κ a1) a2.toInt ((zA κ (zR κ hoTable a0) v.toNatClampNeg).toInt - 1).toNat)) → Q v κ) : zRun C 1 mHo_slotOf [.ref a0, .ref a1, .int a2] κ (oI Q noX) := by
  refine Ho_slotOf_run W Ta0 Ta1 ?_
  replace W := W.lo (Nat.le_trans W.1.2.1 W.1.2.2) (Nat.le_refl (zn κ))
  unfold w_Ho_slotOf_0
  obtain ⟨A, P, h0, h1, hpl, hl, U, h2⟩ := hp
  have B := hoP_b P
  have tl : zN κ (zR κ hoTable a0) = S := A.1
  have nN := W.n Ta1
  have eS : (Int32.ofNat S).toInt = S := ofn_i (by omega)
  have eM : (Int32.ofNat S - 1).toInt = S - 1 := by rw [sub_i (by rw [eS, t1i]; omega) (by rw [eS, t1i]; omega), eS, t1i]
  unfold w_Ho_slotOf_5
  refine ⟨fun n l0 l1 l2 l3 l4 τ => n = (a2.toInt - l4.toInt).toNat ∧ (κ = τ ∧ a0 = l0 ∧ a1 = l1 ∧ a2 = l2 ∧ 0 ≤ l4.toInt ∧ l4.toInt ≤ a2.toInt ∧ l3 = hhs9 (zA κ a1) a2 l4.toNatClampNeg), ⟨_, rfl, ?_⟩, ?_⟩
  · exact ⟨rfl, rfl, rfl, rfl, by decide, h2, rfl⟩  -- j1
  rintro n5 _ _ _ x5_3 x5_4 _ W5 T5_0 T5_1 ⟨hn5, rfl, rfl, rfl, rfl, i5⟩
  obtain ⟨k0, k1, k2⟩ := i5
  have kk := cnk k0
  have k2a := cnk h2
  refine ⟨fun c1 => ?_, fun c1 => ?_⟩
  · skip
    intro x2 hx2
    unfold w_Ho_slotOf_48
    refine ⟨fun n l0 l1 l2 l4 l5 τ => n = ((S : Int) - l5.toInt).toNat ∧ (κ = τ ∧ a0 = l0 ∧ a1 = l1 ∧ a2 = l2 ∧ (0 ≤ l4.toInt ∧ l4.toInt < S) ∧ 0 ≤ l5.toInt ∧ l4 = hs9 S (zA κ a1) a2 l5.toNatClampNeg ∧ hkW9 κ a0 S (zA κ a1) a2 l5.toNatClampNeg), ⟨_, rfl, ?_⟩, ?_⟩
    · rw [tl] at hx2
      rw [lei] at c1
      have q := andi_i (x := x5_3) (m := Int32.ofNat S - 1) (by rw [eM]; omega)
      rw [eM] at q
      have z : x5_4.toNatClampNeg = a2.toNatClampNeg := by omega
      refine ⟨rfl, rfl, rfl, rfl, ⟨by rw [hx2]; exact q.1, by rw [hx2]; omega⟩, by decide, ?_, fun i hi => absurd hi (Nat.not_lt_zero _)⟩
      rw [hx2, k2, z]
      rfl
    rintro n48 _ _ _ x48_4 x48_5 _ W48 T48_0 T48_1 ⟨hn48, rfl, rfl, rfl, rfl, i48⟩
    obtain ⟨⟨m0, m1⟩, m2, m3, m4⟩ := i48
    have k5 := cnk m2
    refine ⟨fun c3 => ?_, fun c3 => ?_⟩
    · skip
      refine h _ ?_
      · rw [lei, tl, eS] at c3
        exact False.elim (hs_e9 A P U h0 h1 m4 (by omega))
    · skip
      have c9 : x48_5.toInt < S := by rw [lei, tl, eS] at c3; omega
      refine ⟨?_, ?_⟩
      · rw [inb_iff, tl]; exact ⟨m0, m1⟩  -- b4
      refine ⟨fun c4 => ?_, fun c4 => ?_⟩
      · skip
        refine h _ ?_
        · exact ⟨⟨m0, m1⟩, x48_5.toNatClampNeg, by omega, m3, m4, Or.inl c4⟩  -- q5
      · skip
        refine ⟨?_, ?_⟩
        · rw [inb_iff, tl]; exact ⟨m0, m1⟩  -- b6
        intro T5
        intro T6
        have z := A.2.2.2.2.2 x48_4.toNatClampNeg (by have := cnk m0; omega)
        have z2 : zA κ (zR κ hoTable a0) x48_4.toNatClampNeg ≠ 0 := c4
        have z3 : (zA κ (zR κ hoTable a0) x48_4.toNatClampNeg).toInt ≠ 0 := fun e => z2 (Int32.toInt_inj.mp e)
        have ez : (zA κ (zR κ hoTable a0) x48_4.toNatClampNeg - 1).toInt = (zA κ (zR κ hoTable a0) x48_4.toNatClampNeg).toInt - 1 := by rw [sub_i (by rw [t1i]; omega) (by rw [t1i]; omega), t1i]
        have kz := cnk (x := zA κ (zR κ hoTable a0) x48_4.toNatClampNeg - 1) (by omega)
        have nz9 : (zA κ (zR κ hoTable a0) x48_4.toNatClampNeg - 1).toNatClampNeg = ((zA κ (zR κ hoTable a0) x48_4.toNatClampNeg).toInt - 1).toNat := by omega
        refine Ho_isRow_c2 W48 T5 T6 M D S ?_ (fun r7 q9 => ?_)
        · exact ⟨A, P, h0, h1, hpl, by rw [ez]; omega, by rw [ez]; omega, hl⟩  -- p7
        intro W10
        intro M11
        have qq := q9.2
        rw [nz9] at qq
        refine ⟨fun c12 => ?_, fun c12 => ?_⟩
        · skip
          intro x13 hx13
          intro x14 hx14
          refine ⟨_, ?_, rfl, ?_⟩
          · have e : (x48_5 + 1).toInt = x48_5.toInt + 1 := by rw [add_i (by rw [t1i]; omega) (by rw [t1i]; omega), t1i]
            rw [hn48, hx14, e]; omega
          · have e := cn1 (x := x48_5) m2 (by omega)
            rw [tl] at hx13
            have q := andi_i (x := x48_4 + 1) (m := Int32.ofNat S - 1) (by rw [eM]; omega)
            rw [eM] at q
            refine ⟨rfl, rfl, rfl, rfl, ⟨by rw [hx13]; exact q.1, by rw [hx13]; omega⟩, by rw [hx14, e.2]; omega, ?_, fun i hi => ?_⟩
            · rw [hx13, hx14, e.1]
              show _ = (hs9 S (zA κ a1) a2 x48_5.toNatClampNeg + 1) &&& (Int32.ofNat S - 1)
              rw [← m3]
            · rw [hx14, e.1] at hi
              by_cases y : i = x48_5.toNatClampNeg
              · rw [y, ← m3]
                exact ⟨c4, fun w => absurd c12 (qq.mpr w)⟩
              · exact m4 i (by omega)
        · skip
          refine h _ ?_
          · exact ⟨⟨m0, m1⟩, x48_5.toNatClampNeg, by omega, m3, m4, Or.inr (qq.mp c12)⟩  -- q10
  · skip
    have c9 : x5_4.toInt < a2.toInt := by rw [lei] at c1; omega
    have hi2 := ihi a2
    have e := cn1 (x := x5_4) k0 (by omega)
    refine ⟨?_, ?_⟩
    · rw [inb_iff]; omega  -- b11
    intro x15 hx15
    intro x16 hx16
    intro x17 hx17
    refine ⟨_, ?_, rfl, ?_⟩
    · rw [hn5, hx17, e.2]; omega  -- d12
    · refine ⟨rfl, rfl, rfl, rfl, by rw [hx17, e.2]; omega, by rw [hx17, e.2]; omega, ?_⟩
      rw [hx17, e.1, hx16, hx15, k2]
      rfl
