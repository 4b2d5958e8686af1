set_option maxHeartbeats 1600000
/-! what the two token rows have in common -/
abbrev X5 : Type := (Nat → Int32) × (Nat → Int32) × (Nat → Int32) × (Nat → Int32) × (Nat → Int64)
def sx5 (σ : rS) : X5 := (σ.2.2.1 5, σ.2.2.1 6, σ.2.2.1 7, σ.2.2.1 9, σ.2.2.2 8)
def kd5 (K so nu : Int32) : Prop := (K = 143 ∧ so = 4) ∨ (K = 140 ∧ so = 1) ∨ (K = 141 ∧ so = 2) ∨ (K = 142 ∧ so = 5) ∨ (150 ≤ K.toInt ∧ K.toInt ≤ 162 ∧ so = 6 ∧ nu = K - 149) ∨ (so = 3 ∧ ((0 < K.toInt ∧ K.toInt < 128 ∧ nu = K) ∨ (128 ≤ K.toInt ∧ K.toInt ≤ 131 ∧ nu = K + 128)))
/-- alike names, as the class compares them -/
def dn5 (T : T5) (t u : Nat) : Prop := T.2.2.2.1 t = T.2.2.2.1 u ∧ 0 < (T.2.2.2.1 u).toInt ∧ ∀ i : Nat, (i : Int) < (T.2.2.2.1 u).toInt → T.1 ((T.2.2.1 t).toInt.toNat + i) = T.1 ((T.2.2.1 u).toInt.toNat + i)
def mW5 : Int64 := g5_word 109 97 105 110 0 0 0 (fun _ => 0, fun _ => 0, fun _ _ => 0, fun _ _ => 0)
def TR5 (T : T5) (X : X5) (Bk N : Nat) (Z : Int32) : Prop :=
  (T.2.2.2.2.2.1 = Int32.ofNat N ∧ 0 < N ∧ N ≤ 65537 ∧ Bk ≤ 65537) ∧
  (∀ t, t < N → T.2.2.1 t = X.2.1 (Bk + t)) ∧
  (∀ t, t < N → kd5 (T.2.1 t) (X.1 (Bk + t)) (X.2.2.1 (Bk + t))) ∧
  (∀ t, t < N → ((T.2.1 t = 142 ∨ T.2.1 t = 143) ↔ t + 1 = N)) ∧
  (∀ t, t < N → T.2.1 t = 141 → f5_Ta_numberAt T (Int32.ofNat t) = X.2.2.1 (Bk + t)) ∧
  (∀ t u, t < N → u < N → T.2.1 t = 140 → T.2.1 u = 140 → (dn5 T t u ↔ (X.2.2.2.2 (Bk + t) = X.2.2.2.2 (Bk + u) ∧ X.2.2.2.1 (Bk + t) = X.2.2.2.1 (Bk + u)))) ∧
  (∀ t, t < N → T.2.1 t = 140 → 0 < (T.2.2.2.1 t).toInt ∧ (T.2.2.2.1 t).toInt ≤ 12 ∧ 0 ≤ (T.2.2.1 t).toInt ∧ (T.2.2.1 t).toInt ≤ 65536) ∧
  (∀ t, t < N → T.2.1 t = 140 → f5_Ta_isMain T (Int32.ofNat t) = if X.2.2.2.2 (Bk + t) = mW5 ∧ X.2.2.2.1 (Bk + t) = 0 then 1 else 0) ∧
  (T.2.1 (N - 1) = 142 → T.2.2.1 (N - 1) = Z)
def by5 (F : Int64) (G : Int32) (i : Nat) : BitVec 8 := if i < 8 then b8_5 F i else b4_5 G (i - 8)
theorem by_n55 {B : Nat → Int32} {p k i : Nat} {F : Int64} {G : Int32} (h : nmP5 B p k F G) (hi : i < 12) : by5 F G i = if i < k then BitVec.ofNat 8 (B (p + i)).toInt.toNat else 0 := by
  unfold by5
  by_cases c : i < 8
  · rw [if_pos c, h.1 i c]
  · rw [if_neg c, h.2 (i - 8) (by omega), show 8 + (i - 8) = i by omega, show p + 8 + (i - 8) = p + i by omega]
theorem by_e5 {F F' : Int64} {G G' : Int32} (h : ∀ i, i < 12 → by5 F G i = by5 F' G' i) : F = F' ∧ G = G' := by
  refine ⟨b8_e5 (fun i hi => ?_), b4_e5 (fun i hi => ?_)⟩
  · have z := h i (by omega)
    unfold by5 at z
    rw [if_pos hi, if_pos hi] at z
    exact z
  · have z := h (8 + i) (by omega)
    unfold by5 at z
    rw [if_neg (by omega), if_neg (by omega), show 8 + i - 8 = i by omega] at z
    exact z
theorem bz_5 {x : Int32} (h : 0 < x.toInt) (h1 : x.toInt < 256) : (0 : BitVec 8) ≠ BitVec.ofNat 8 x.toInt.toNat := fun z => by
  have y := congrArg BitVec.toNat z
  rw [BitVec.toNat_ofNat, Nat.mod_eq_of_lt (by omega)] at y
  have t : (0 : BitVec 8).toNat = 0 := rfl
  rw [t] at y
  omega
theorem nP_iff5 {B : Nat → Int32} {p q s u : Nat} {F F' : Int64} {G G' : Int32} (h : nmP5 B p s F G) (h' : nmP5 B q u F' G') (hs : s ≤ 12) (hu : u ≤ 12) (hp : ∀ i, i < s → cL5 (B (p + i)) = true) (hq : ∀ i, i < u → cL5 (B (q + i)) = true) : (F = F' ∧ G = G') ↔ (s = u ∧ ∀ i, i < s → B (p + i) = B (q + i)) := by
  constructor
  · rintro ⟨e1, e2⟩
    subst e1
    subst e2
    have hk : ∀ i, i < 12 → (if i < s then BitVec.ofNat 8 (B (p + i)).toInt.toNat else 0) = (if i < u then BitVec.ofNat 8 (B (q + i)).toInt.toNat else 0) := fun i hi => by rw [← by_n55 h hi, ← by_n55 h' hi]
    have e : s = u := by
      rcases Nat.lt_trichotomy s u with c | c | c
      · have z := hk s (by omega)
        rw [if_neg (by omega), if_pos c] at z
        have w := lt_15 (hq s c)
        exact absurd z (bz_5 w.1 (by omega))
      · exact c
      · have z := hk u (by omega)
        rw [if_pos c, if_neg (by omega)] at z
        have w := lt_15 (hp u c)
        exact absurd z.symm (bz_5 w.1 (by omega))
    refine ⟨e, fun i hi => ?_⟩
    have z := hk i (by omega)
    rw [if_pos hi, if_pos (by omega)] at z
    have w1 := lt_15 (hp i hi)
    have w2 := lt_15 (hq i (by omega))
    exact bv_85 (by omega) (by omega) (by omega) (by omega) z
  · rintro ⟨e, hb⟩
    subst e
    refine by_e5 (fun i hi => ?_)
    rw [by_n55 h hi, by_n55 h' hi]
    by_cases c : i < s
    · rw [if_pos c, if_pos c, hb i c]
    · rw [if_neg c, if_neg c]
theorem rw_05 : ∀ n, n < 256 → ((Int32.ofNat n - 128) &&& 255).toInt < 128 → ((Int32.ofNat n - 128) &&& 255) = (Int32.ofNat n - 128) := by decide +kernel
/-- a letter's byte as it lies -/
theorem rw_5 {x : Int32} (h0 : -128 ≤ x.toInt) (h1 : x.toInt ≤ 127) (h : (x &&& 255).toInt < 128) : (x &&& 255) = x := by
  have e : x = Int32.ofNat (x.toInt + 128).toNat - 128 := by
    apply Int32.toInt_inj.mp
    have l := ofn_i (n := (x.toInt + 128).toNat) (by omega)
    have l2 : (128 : Int32).toInt = 128 := rfl
    rw [sub_i (by omega) (by omega), l, l2]
    omega
  have z := rw_05 (x.toInt + 128).toNat (by omega)
  rw [← e] at z
  exact z h
theorem nu_m5 {T : T5} {B : Nat → Int32} {t p s n : Nat} (H : okU5 (ut5 T)) (hB : bU5 (ut5 T) = B) (hn : nU5 (ut5 T) = n) (hN : t < T.2.2.2.2.2.1.toInt.toNat) (ht : t ≤ 65537) (hp : T.2.2.1 t = Int32.ofNat p) (hs : T.2.2.2.1 t = Int32.ofNat s) (hb : p + s ≤ n) (hn2 : n ≤ 65536) : ∀ (m k : Nat) (v : Int32), k ≤ s → s - k < m → v = nv5 B p k → f5_Ta_numberAt_4 T m (Int32.ofNat t) v (Int32.ofNat k) = nv5 B p s
  | 0, _, _, _, h, _ => by omega
  | m + 1, k, v, hk, hm, hv => by
    have lt := ofn_i (n := t) (by omega)
    have ls := ofn_i (n := s) (by omega)
    have lk := ofn_i (n := k) (by omega)
    have lp := ofn_i (n := p + k) (by omega)
    rw [f5_Ta_numberAt_4]
    dsimp only [pb5]
    rw [cl_5 (by omega), hp, hs, if_neg (by rw [lti, t0i]; omega), if_neg (by rw [lei]; omega)]
    by_cases c : k = s
    · rw [if_pos (by rw [lei]; omega), hv, c]
    · rw [if_neg (by rw [lei]; omega), on_5 (by omega), by_5 H (by omega), lp, hB, hn]
      rw [show ((p + k : Nat) : Int).toNat = p + k by omega, ba_5 (by omega), on_15 (by omega)]
      exact nu_m5 H hB hn hN ht hp hs hb hn2 m (k + 1) _ (by omega) (by omega) (by rw [hv]; rfl)
theorem mi_5 {T : T5} {B : Nat → Int32} {t p s n N : Nat} {F : Int64} {G : Int32} (H : okU5 (ut5 T)) (hB : bU5 (ut5 T) = B) (hn : nU5 (ut5 T) = n) (hT : T.2.2.2.2.2.1 = Int32.ofNat N) (hN : t < N) (hN2 : N ≤ 65537) (hp : T.2.2.1 t = Int32.ofNat p) (hs : T.2.2.2.1 t = Int32.ofNat s) (hb : p + s ≤ n) (hn2 : n ≤ 65536) (h : nmP5 B p s F G) (hc : ∀ i, i < s → cL5 (B (p + i)) = true) : f5_Ta_isMain T (Int32.ofNat t) = if F = mW5 ∧ G = 0 then 1 else 0 := by
  have hm := fw_5 (W := mW5) (w := mn5) h (fun i hi => by have w := lt_15 (hc i hi); omega) (by decide +kernel) (by decide) (by decide)
  have lt := ofn_i (n := t) (by omega)
  have lN := ofn_i (n := N) (by omega)
  have ls := ofn_i (n := s) (by omega)
  have lp := ofn_i (n := p) (by omega)
  unfold f5_Ta_isMain
  dsimp only [pb5]
  rw [cl_5 (by omega), hT, hp, hs, if_neg (by rw [lti, t0i]; omega), if_neg (by rw [lei]; omega)]
  by_cases c : s = 4
  · subst c
    rw [if_pos (show Int32.ofNat 4 = 4 from rfl)]
    have hr := rd_U5 (t3 := mn5) (w := mn5) (p := p) (q := 0) H lp (by rw [hn]; exact hb) (by decide) (by decide) (by decide)
    have hr2 : f5_Ta_reads (ut5 T) mn5 (Int32.ofNat p) 4 0 = if nmqq5 B p 4 = mn5 then 1 else 0 := by
      rw [← hB]; exact hr
    rw [hr2]
    by_cases z : nmqq5 B p 4 = mn5
    · rw [if_pos z, if_pos (hm.mpr z)]
      exact if_neg (by decide)
    · rw [if_neg z, if_neg (fun y => z (hm.mp y))]
      exact if_pos rfl
  · rw [if_neg (fun z => by
      have y := congrArg Int32.toInt z
      rw [ls] at y
      have e4 : (4 : Int32).toInt = 4 := rfl
      omega), if_neg (fun y => by
      have z := nm_l5 (B := B) (p := p) (s := s)
      rw [hm.mp y] at z
      exact c z.symm)]
/-- a name's token -/
theorem tA_n5 {y : Y5} {σ : rS} {B : Nat → Int32} {n Bk t : Nat} (h : tkA5 y σ B n Bk t) (hK : y.1 t = 140) : ∃ p s : Nat, p + s ≤ n ∧ y.2.1 t = Int32.ofNat p ∧ y.2.2.1 t = Int32.ofNat s ∧ 0 < s ∧ s ≤ 12 ∧ nmP5 B p s (σ.2.2.2 8 (Bk + t)) (σ.2.2.1 9 (Bk + t)) ∧ ∀ i, i < s → cL5 (B (p + i)) = true := by
  obtain ⟨p, s, a, b, c, d, e⟩ := h
  rw [hK] at e
  have k : (140 : Int32).toInt = 140 := rfl
  rcases e with ⟨e, _⟩ | ⟨_, _, e0, e1, e2, e3⟩ | ⟨e, _⟩ | ⟨e, _⟩ | ⟨_, e⟩
  · exact absurd e (by decide)
  · exact ⟨p, s, a, b, c, e0, e1, e2, e3⟩
  · exact absurd e (by decide)
  · rw [k] at e; omega
  · rcases e with ⟨_, e, _⟩ | ⟨_, e, _⟩ <;> rw [k] at e <;> omega
