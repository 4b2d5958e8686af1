set_option maxHeartbeats 1600000
/-! names that are told, on both sides -/
/-- the first of v with P, or -1 -/
def fnd5 (v : Nat) (P : Nat → Prop) (r : Int32) : Prop := (r = -1 ∧ ∀ k, k < v → ¬ P k) ∨ (∃ k, k < v ∧ P k ∧ (∀ j, j < k → ¬ P j) ∧ r = Int32.ofNat k)
theorem fnd_n5 {v : Nat} {P : Nat → Prop} {r : Int32} (h : fnd5 v P r) (hv : v ≤ 1000) : r = -1 ↔ ∀ k, k < v → ¬ P k := by
  rcases h with ⟨h1, h2⟩ | ⟨k, h1, h2, _, h3⟩
  · exact ⟨fun _ => h2, fun _ => h1⟩
  · refine ⟨fun q => ?_, fun q => absurd h2 (q k h1)⟩
    have l := ofn_i (n := k) (by omega)
    rw [q] at h3
    rw [← h3] at l
    have z : (-1 : Int32).toInt = -1 := rfl
    omega
def pN5 (T : T5) (Bk N m : Nat) (c : Int32) (nr : Nat → Int32) (c' : Int32) (rr : Nat → Int32) (v : Nat) : Prop := v ≤ m ∧ c = Int32.ofNat v ∧ c' = Int32.ofNat v ∧ ∀ k, k < v → ∃ t, t < N ∧ T.2.1 t = 140 ∧ nr k = Int32.ofNat t ∧ rr k = Int32.ofNat (Bk + t)
theorem f97_5 {T : T5} {B44 : Int32 → Int32 → Int32 → Int32 → Int32} {n1 : Nat → Int32} {l1 t p q s : Nat} {a2 a4 a5 a6 a7 a8 : Int32} (h7 : a7.toNatClampNeg = t) (h4 : a4 = Int32.ofNat s) (s0 : 0 < s) (s1 : s ≤ 12) (h5 : a5 = Int32.ofNat p) (hp : p ≤ 65536) (h8 : a8 = Int32.ofNat q) (hq : q ≤ 65536) : ∀ (m i : Nat), i ≤ s → s - i < m → (0 < i → T.2.2.2.1 t = a4) → (∀ j, j < i → T.1 (p + j) = T.1 (q + j)) → (f5_Ta_findName_97 T B44 n1 l1 m a2 a4 a5 a6 a7 a8 (Int32.ofNat i) = a6 ∧ T.2.2.2.1 t = a4 ∧ ∀ j, j < s → T.1 (p + j) = T.1 (q + j)) ∨ (f5_Ta_findName_97 T B44 n1 l1 m a2 a4 a5 a6 a7 a8 (Int32.ofNat i) = B44 a2 a4 a5 (a6 + 1) ∧ ¬ (T.2.2.2.1 t = a4 ∧ ∀ j, j < s → T.1 (p + j) = T.1 (q + j)))
  | 0, _, _, h, _, _ => by omega
  | m + 1, i, hi, hm, hl, hb => by
    have ls := ofn_i (n := s) (by omega)
    have li := ofn_i (n := i) (by omega)
    have n0 : ¬ a4 ≤ 0 := by rw [h4, lei, t0i]; omega
    have fin : ∀ x : Int32, x = Int32.ofNat i → i ≠ s → f5_Ta_findName_145 T B44 n1 l1 a2 a4 a5 a6 x = B44 a2 a4 a5 (a6 + 1) := fun x hx hne => by
      unfold f5_Ta_findName_145
      dsimp only [pb5]
      rw [if_neg n0, if_neg (fun z => by
        have y := congrArg Int32.toInt z
        rw [hx, h4] at y
        omega)]
    rw [f5_Ta_findName_97]
    dsimp only [pb5]
    by_cases c : i = s
    · refine Or.inl ⟨?_, hl (by omega), by rw [← c]; exact hb⟩
      rw [if_pos (by rw [h4, lei]; omega)]
      unfold f5_Ta_findName_145
      dsimp only [pb5]
      rw [if_neg n0, if_pos (by rw [h4, c])]
    · rw [if_neg (by rw [h4, lei]; omega), h7]
      by_cases d : T.2.2.2.1 t = a4
      · have e1 : (a5 + Int32.ofNat i).toNatClampNeg = p + i := by rw [h5, on_5 (by omega), cl_5 (by omega)]
        have e2 : (a8 + Int32.ofNat i).toNatClampNeg = q + i := by rw [h8, on_5 (by omega), cl_5 (by omega)]
        rw [if_pos d, e1, e2]
        by_cases f : T.1 (p + i) = T.1 (q + i)
        · rw [if_pos f, on_15 (by omega)]
          exact f97_5 h7 h4 s0 s1 h5 hp h8 hq m (i + 1) (by omega) (by omega) (fun _ => d) (fun j hj => by
            by_cases z : j = i
            · rw [z]; exact f
            · exact hb j (by omega))
        · rw [if_neg f]
          exact Or.inr ⟨fin _ rfl c, fun z => f (z.2 i (by omega))⟩
      · rw [if_neg d]
        exact Or.inr ⟨fin _ rfl c, fun z => d z.1⟩
theorem f44_5 {T : T5} {X : X5} {Bk N m0 u : Nat} {Z : Int32} {nr rr : Nat → Int32} {c c' : Int32} {l1 v : Nat} (H : TR5 T X Bk N Z) (hn : pN5 T Bk N m0 c nr c' rr v) (hl : v ≤ l1) (hl2 : l1 ≤ 1000) (hu : u < N) (ku : T.2.1 u = 140) : ∀ (m k : Nat), k ≤ v → v - k < m → (∀ j, j < k → ¬ dn5 T (nr j).toInt.toNat u) → fnd5 v (fun j => dn5 T (nr j).toInt.toNat u) (f5_Ta_findName_44 T nr l1 m c (T.2.2.2.1 u) (T.2.2.1 u) (Int32.ofNat k))
  | 0, _, _, h, _ => by omega
  | m + 1, k, hk, hm, hj => by
    have h1 := H.1
    have lv := ofn_i (n := v) (by omega)
    have lk := ofn_i (n := k) (by omega)
    have ll := ofn_i (n := l1) (by omega)
    rw [f5_Ta_findName_44, hn.2.1]
    by_cases c1 : k = v
    · rw [if_pos (by rw [lei]; omega)]
      exact Or.inl ⟨rfl, by rw [← c1]; exact hj⟩
    · rw [if_neg (by rw [lei]; omega), if_neg (by rw [lei]; omega), cl_5 (by omega)]
      obtain ⟨t, t1, t2, t3, t4⟩ := hn.2.2.2 k (by omega)
      have lt := ofn_i (n := t) (by omega)
      have lN := ofn_i (n := N) (by omega)
      rw [t3, h1.1, if_neg (by rw [lti, t0i]; omega), if_neg (by rw [lei]; omega)]
      unfold f5_Ta_findName_83
      dsimp only [pb5]
      obtain ⟨x1, x2, x3, x4⟩ := H.2.2.2.2.2.2.1 u hu ku
      obtain ⟨y1, y2, y3, y4⟩ := H.2.2.2.2.2.2.1 t t1 t2
      have ek : (nr k).toInt.toNat = t := by rw [t3, lt]; omega
      rw [cl_5 (by omega)]
      have z := f97_5 (T := T) (B44 := f5_Ta_findName_44 T nr l1 m) (n1 := nr) (l1 := l1) (t := t) (p := (T.2.2.1 u).toInt.toNat) (q := (T.2.2.1 t).toInt.toNat) (s := (T.2.2.2.1 u).toInt.toNat) (a2 := Int32.ofNat v) (a4 := T.2.2.2.1 u) (a5 := T.2.2.1 u) (a6 := Int32.ofNat k) (a7 := Int32.ofNat t) (a8 := T.2.2.1 t) (cl_5 (by omega)) (of_t5 (by omega)) (by omega) (by omega) (of_t5 x3) (by omega) (of_t5 y3) (by omega) fu5 0 (by omega) (by unfold fu5; omega) (fun q => absurd q (by omega)) (fun j q => absurd q (by omega))
      have zd : dn5 T t u ↔ (T.2.2.2.1 t = T.2.2.2.1 u ∧ ∀ j, j < (T.2.2.2.1 u).toInt.toNat → T.1 ((T.2.2.1 u).toInt.toNat + j) = T.1 ((T.2.2.1 t).toInt.toNat + j)) := ⟨fun q => ⟨q.1, fun j hj => (q.2.2 j (by omega)).symm⟩, fun q => ⟨q.1, x1, fun j hj => (q.2 j (by omega)).symm⟩⟩
      rcases z with ⟨z1, z2⟩ | ⟨z1, z2⟩
      · refine Or.inr ⟨k, by omega, by show dn5 T (nr k).toInt.toNat u; rw [ek]; exact zd.mpr z2, hj, z1⟩
      · have w : ¬ dn5 T (nr k).toInt.toNat u := by rw [ek]; exact fun q => z2 (zd.mp q)
        have g := f44_5 H hn hl hl2 hu ku m (k + 1) (by omega) (by omega) (fun j q => by
          by_cases y : j = k
          · rw [y]; exact w
          · exact hj j (by omega))
        rw [hn.2.1, ← on_15 (by omega)] at g
        exact (z1.symm ▸ g : _)
/-- the class finds a name -/
theorem fN_5 {T : T5} {X : X5} {Bk N m0 u : Nat} {Z : Int32} {nr rr : Nat → Int32} {c c' : Int32} {l1 v : Nat} (H : TR5 T X Bk N Z) (hn : pN5 T Bk N m0 c nr c' rr v) (hl : v ≤ l1) (hl2 : l1 ≤ 1000) (hu : u < N) (ku : T.2.1 u = 140) : fnd5 v (fun j => dn5 T (nr j).toInt.toNat u) (f5_Ta_findName T nr l1 c (Int32.ofNat u)) := by
  have h1 := H.1
  have lu := ofn_i (n := u) (by omega)
  have lN := ofn_i (n := N) (by omega)
  obtain ⟨x1, x2, x3, x4⟩ := H.2.2.2.2.2.2.1 u hu ku
  unfold f5_Ta_findName f5_Ta_findName_22 f5_Ta_findName_39
  rw [h1.1, if_neg (by rw [lti, t0i]; omega), if_neg (by rw [lei]; omega), cl_5 (by omega), if_neg (by rw [lei, t0i]; omega)]
  exact f44_5 H hn hl hl2 hu ku fu5 0 (by omega) (by unfold fu5; omega) (fun j q => absurd q (by omega))
/-- the reference compares two names -/
theorem iS_5 {T : T5} {X : X5} {Bk N t u : Nat} {Z x y : Int32} {σ : rS} (H : TR5 T X Bk N Z) (hx : sx5 σ = X) (h1 : x = Int32.ofNat (Bk + t)) (h2 : y = Int32.ofNat (Bk + u)) (ht : t < N) (hu : u < N) (kt : T.2.1 t = 140) (ku : T.2.1 u = 140) : (g5_isSame x y σ = 0 ∧ ¬ dn5 T t u) ∨ (g5_isSame x y σ = 1 ∧ dn5 T t u) := by
  have h0 := H.1
  have z := H.2.2.2.2.2.1 t u ht hu kt ku
  have e8 : σ.2.2.2 8 = X.2.2.2.2 := by rw [← hx]; rfl
  have e9 : σ.2.2.1 9 = X.2.2.2.1 := by rw [← hx]; rfl
  unfold g5_isSame
  rw [h1, h2, cl_5 (by omega), cl_5 (by omega), e8, e9]
  by_cases a : X.2.2.2.2 (Bk + t) = X.2.2.2.2 (Bk + u)
  · rw [if_pos ((lg_cmp_eq _ _).mpr a)]
    by_cases b : X.2.2.2.1 (Bk + t) = X.2.2.2.1 (Bk + u)
    · rw [if_pos b]; exact Or.inr ⟨rfl, z.mpr ⟨a, b⟩⟩
    · rw [if_neg b]; exact Or.inl ⟨rfl, fun q => b (z.mp q).2⟩
  · rw [if_neg (fun q => a ((lg_cmp_eq _ _).mp q))]
    exact Or.inl ⟨rfl, fun q => a (z.mp q).1⟩
theorem pN_s5 {T : T5} {X : X5} {Bk N m0 u v k : Nat} {Z c c' y : Int32} {nr rr : Nat → Int32} {σ : rS} (H : TR5 T X Bk N Z) (hx : sx5 σ = X) (hn : pN5 T Bk N m0 c nr c' rr v) (hk : k < v) (h2 : y = Int32.ofNat (Bk + u)) (hu : u < N) (ku : T.2.1 u = 140) : (g5_isSame (rr k) y σ = 0 ∧ ¬ dn5 T (nr k).toInt.toNat u) ∨ (g5_isSame (rr k) y σ = 1 ∧ dn5 T (nr k).toInt.toNat u) := by
  have h0 := H.1
  obtain ⟨t, t1, t2, t3, t4⟩ := hn.2.2.2 k hk
  have lt := ofn_i (n := t) (by omega)
  have ek : (nr k).toInt.toNat = t := by rw [t3, lt]; omega
  rw [ek]
  exact iS_5 H hx t4 h2 t1 hu t2 ku
theorem tl8_5 {σ : rS} {tok : Int32} {v : Nat} {P : Nat → Prop} (hv : v ≤ 1000) (hc : σ.1 18 = Int32.ofNat v) (hP : ∀ k, k < v → (g5_isSame (σ.2.2.1 25 k) tok σ = 0 ∧ ¬ P k) ∨ (g5_isSame (σ.2.2.1 25 k) tok σ = 1 ∧ P k)) : ∀ (m k : Nat) (x : Int32), (x = 0 ∨ x = 1) → k ≤ v → v - k < m → ∃ y : Int32, (y = 0 ∨ y = 1) ∧ (y = 0 ↔ (x = 0 ∧ ∀ j, k ≤ j → j < v → ¬ P j)) ∧ g5_isTold_84 m tok x (Int32.ofNat k) σ = y
  | 0, _, _, _, _, h => by omega
  | m + 1, k, x, hx, hk, hm => by
    have lv := ofn_i (n := v) (by omega)
    have lk := ofn_i (n := k) (by omega)
    by_cases c : k = v
    · refine ⟨x, hx, ⟨fun q => ⟨q, fun j a b => by omega⟩, fun q => q.1⟩, ?_⟩
      rw [g5_isTold_84, hc, if_pos (by rw [lei]; omega)]
    · have st : ∀ s0 : Int32, g5_isTold_115 (g5_isTold_84 m) tok (Int32.ofNat k) s0 σ = g5_isTold_84 m tok s0 (Int32.ofNat (k + 1)) σ := fun s0 => by
        unfold g5_isTold_115
        dsimp only [pb5]
        rw [on_15 (by omega)]
      have un : g5_isTold_84 (m + 1) tok x (Int32.ofNat k) σ = if x = 0 then (if g5_isSame (σ.2.2.1 25 k) tok σ = 0 then g5_isTold_84 m tok 0 (Int32.ofNat (k + 1)) σ else g5_isTold_84 m tok 1 (Int32.ofNat (k + 1)) σ) else g5_isTold_84 m tok 1 (Int32.ofNat (k + 1)) σ := by
        rw [g5_isTold_84, hc, if_neg (by rw [lei]; omega), st, st, cl_5 (by omega)]
        rfl
      rcases hx with rfl | rfl
      · rw [un, if_pos rfl]
        rcases hP k (by omega) with ⟨a, b⟩ | ⟨a, b⟩
        · rw [if_pos a]
          obtain ⟨y, y1, y2, y3⟩ := tl8_5 hv hc hP m (k + 1) 0 (Or.inl rfl) (by omega) (by omega)
          refine ⟨y, y1, y2.trans ⟨fun q => ⟨rfl, fun j j1 j2 => ?_⟩, fun q => ⟨rfl, fun j j1 j2 => q.2 j (by omega) j2⟩⟩, y3⟩
          by_cases z : j = k
          · rw [z]; exact b
          · exact q.2 j (by omega) j2
        · rw [if_neg (by rw [a]; decide)]
          obtain ⟨y, y1, y2, y3⟩ := tl8_5 hv hc hP m (k + 1) 1 (Or.inr rfl) (by omega) (by omega)
          exact ⟨y, y1, y2.trans ⟨fun q => absurd q.1 (by decide), fun q => absurd b (q.2 k (Nat.le_refl k) (by omega))⟩, y3⟩
      · rw [un, if_neg (by decide)]
        obtain ⟨y, y1, y2, y3⟩ := tl8_5 hv hc hP m (k + 1) 1 (Or.inr rfl) (by omega) (by omega)
        exact ⟨y, y1, y2.trans ⟨fun q => absurd q.1 (by decide), fun q => absurd q.1 (by decide)⟩, y3⟩
theorem tl4_5 {σ : rS} {tok : Int32} {v : Nat} {P : Nat → Prop} (hv : v ≤ 1000) (hc : σ.1 16 = Int32.ofNat v) (hP : ∀ k, k < v → (g5_isSame (σ.2.2.1 22 k) tok σ = 0 ∧ ¬ P k) ∨ (g5_isSame (σ.2.2.1 22 k) tok σ = 1 ∧ P k)) : ∀ (m k : Nat) (x : Int32), (x = 0 ∨ x = 1) → k ≤ v → v - k < m → ∃ y : Int32, (y = 0 ∨ y = 1) ∧ (y = 0 ↔ (x = 0 ∧ ∀ j, k ≤ j → j < v → ¬ P j)) ∧ g5_isTold_44 m tok x (Int32.ofNat k) σ = g5_isTold_84 fu5 tok y 0 σ
  | 0, _, _, _, _, h => by omega
  | m + 1, k, x, hx, hk, hm => by
    have lv := ofn_i (n := v) (by omega)
    have lk := ofn_i (n := k) (by omega)
    by_cases c : k = v
    · refine ⟨x, hx, ⟨fun q => ⟨q, fun j a b => by omega⟩, fun q => q.1⟩, ?_⟩
      rw [g5_isTold_44, hc, if_pos (by rw [lei]; omega)]
    · have st : ∀ s0 : Int32, g5_isTold_75 (g5_isTold_44 m) tok (Int32.ofNat k) s0 σ = g5_isTold_44 m tok s0 (Int32.ofNat (k + 1)) σ := fun s0 => by
        unfold g5_isTold_75
        dsimp only [pb5]
        rw [on_15 (by omega)]
      have un : g5_isTold_44 (m + 1) tok x (Int32.ofNat k) σ = if x = 0 then (if g5_isSame (σ.2.2.1 22 k) tok σ = 0 then g5_isTold_44 m tok 0 (Int32.ofNat (k + 1)) σ else g5_isTold_44 m tok 1 (Int32.ofNat (k + 1)) σ) else g5_isTold_44 m tok 1 (Int32.ofNat (k + 1)) σ := by
        rw [g5_isTold_44, hc, if_neg (by rw [lei]; omega), st, st, cl_5 (by omega)]
        rfl
      rcases hx with rfl | rfl
      · rw [un, if_pos rfl]
        rcases hP k (by omega) with ⟨a, b⟩ | ⟨a, b⟩
        · rw [if_pos a]
          obtain ⟨y, y1, y2, y3⟩ := tl4_5 hv hc hP m (k + 1) 0 (Or.inl rfl) (by omega) (by omega)
          refine ⟨y, y1, y2.trans ⟨fun q => ⟨rfl, fun j j1 j2 => ?_⟩, fun q => ⟨rfl, fun j j1 j2 => q.2 j (by omega) j2⟩⟩, y3⟩
          by_cases z : j = k
          · rw [z]; exact b
          · exact q.2 j (by omega) j2
        · rw [if_neg (by rw [a]; decide)]
          obtain ⟨y, y1, y2, y3⟩ := tl4_5 hv hc hP m (k + 1) 1 (Or.inr rfl) (by omega) (by omega)
          exact ⟨y, y1, y2.trans ⟨fun q => absurd q.1 (by decide), fun q => absurd b (q.2 k (Nat.le_refl k) (by omega))⟩, y3⟩
      · rw [un, if_neg (by decide)]
        obtain ⟨y, y1, y2, y3⟩ := tl4_5 hv hc hP m (k + 1) 1 (Or.inr rfl) (by omega) (by omega)
        exact ⟨y, y1, y2.trans ⟨fun q => absurd q.1 (by decide), fun q => absurd q.1 (by decide)⟩, y3⟩
theorem tl0_5 {σ : rS} {tok : Int32} {v : Nat} {P : Nat → Prop} (hv : v ≤ 1000) (hc : σ.1 15 = Int32.ofNat v) (hP : ∀ k, k < v → (g5_isSame (σ.2.2.1 20 k) tok σ = 0 ∧ ¬ P k) ∨ (g5_isSame (σ.2.2.1 20 k) tok σ = 1 ∧ P k)) : ∀ (m k : Nat) (x : Int32), (x = 0 ∨ x = 1) → k ≤ v → v - k < m → ∃ y : Int32, (y = 0 ∨ y = 1) ∧ (y = 0 ↔ (x = 0 ∧ ∀ j, k ≤ j → j < v → ¬ P j)) ∧ g5_isTold_4 m tok x (Int32.ofNat k) σ = g5_isTold_44 fu5 tok y 0 σ
  | 0, _, _, _, _, h => by omega
  | m + 1, k, x, hx, hk, hm => by
    have lv := ofn_i (n := v) (by omega)
    have lk := ofn_i (n := k) (by omega)
    by_cases c : k = v
    · refine ⟨x, hx, ⟨fun q => ⟨q, fun j a b => by omega⟩, fun q => q.1⟩, ?_⟩
      rw [g5_isTold_4, hc, if_pos (by rw [lei]; omega)]
    · have st : ∀ s0 : Int32, g5_isTold_35 (g5_isTold_4 m) tok (Int32.ofNat k) s0 σ = g5_isTold_4 m tok s0 (Int32.ofNat (k + 1)) σ := fun s0 => by
        unfold g5_isTold_35
        dsimp only [pb5]
        rw [on_15 (by omega)]
      have un : g5_isTold_4 (m + 1) tok x (Int32.ofNat k) σ = if x = 0 then (if g5_isSame (σ.2.2.1 20 k) tok σ = 0 then g5_isTold_4 m tok 0 (Int32.ofNat (k + 1)) σ else g5_isTold_4 m tok 1 (Int32.ofNat (k + 1)) σ) else g5_isTold_4 m tok 1 (Int32.ofNat (k + 1)) σ := by
        rw [g5_isTold_4, hc, if_neg (by rw [lei]; omega), st, st, cl_5 (by omega)]
        rfl
      rcases hx with rfl | rfl
      · rw [un, if_pos rfl]
        rcases hP k (by omega) with ⟨a, b⟩ | ⟨a, b⟩
        · rw [if_pos a]
          obtain ⟨y, y1, y2, y3⟩ := tl0_5 hv hc hP m (k + 1) 0 (Or.inl rfl) (by omega) (by omega)
          refine ⟨y, y1, y2.trans ⟨fun q => ⟨rfl, fun j j1 j2 => ?_⟩, fun q => ⟨rfl, fun j j1 j2 => q.2 j (by omega) j2⟩⟩, y3⟩
          by_cases z : j = k
          · rw [z]; exact b
          · exact q.2 j (by omega) j2
        · rw [if_neg (by rw [a]; decide)]
          obtain ⟨y, y1, y2, y3⟩ := tl0_5 hv hc hP m (k + 1) 1 (Or.inr rfl) (by omega) (by omega)
          exact ⟨y, y1, y2.trans ⟨fun q => absurd q.1 (by decide), fun q => absurd b (q.2 k (Nat.le_refl k) (by omega))⟩, y3⟩
      · rw [un, if_neg (by decide)]
        obtain ⟨y, y1, y2, y3⟩ := tl0_5 hv hc hP m (k + 1) 1 (Or.inr rfl) (by omega) (by omega)
        exact ⟨y, y1, y2.trans ⟨fun q => absurd q.1 (by decide), fun q => absurd q.1 (by decide)⟩, y3⟩
theorem va5_5 {σ : rS} {tok : Int32} {v : Nat} {P : Nat → Prop} (hv : v ≤ 1000) (hc : σ.1 15 = Int32.ofNat v) (hP : ∀ k, k < v → (g5_isSame (σ.2.2.1 20 k) tok σ = 0 ∧ ¬ P k) ∨ (g5_isSame (σ.2.2.1 20 k) tok σ = 1 ∧ P k)) : ∀ (m k : Nat), k ≤ v → v - k < m → (∀ j, j < k → ¬ P j) → (∃ j, j < v ∧ P j ∧ (∀ i, i < j → ¬ P i) ∧ g5_variableOf_50 m tok (Int32.ofNat k) σ = Int32.ofNat j) ∨ ((∀ j, j < v → ¬ P j) ∧ g5_variableOf_50 m tok (Int32.ofNat k) σ = (-1 : Int32))
  | 0, _, _, h, _ => by omega
  | m + 1, k, hk, hm, hj => by
    have lv := ofn_i (n := v) (by omega)
    have lk := ofn_i (n := k) (by omega)
    by_cases c : k = v
    · refine Or.inr ⟨by rw [← c]; exact hj, ?_⟩
      rw [g5_variableOf_50, hc, if_pos (by rw [lei]; omega)]
    · have un : g5_variableOf_50 (m + 1) tok (Int32.ofNat k) σ = if g5_isSame (σ.2.2.1 20 k) tok σ = 0 then g5_variableOf_50 m tok (Int32.ofNat (k + 1)) σ else Int32.ofNat k := by
        rw [g5_variableOf_50, hc, if_neg (by rw [lei]; omega)]
        dsimp only [pb5]
        rw [cl_5 (by omega), on_15 (by omega)]
      rw [un]
      rcases hP k (by omega) with ⟨a, b⟩ | ⟨a, b⟩
      · rw [if_pos a]
        exact va5_5 hv hc hP m (k + 1) (by omega) (by omega) (fun j q => by
          by_cases z : j = k
          · rw [z]; exact b
          · exact hj j (by omega))
      · rw [if_neg (by rw [a]; decide)]
        exact Or.inl ⟨k, by omega, b, hj, rfl⟩
theorem ar2_5 {σ : rS} {tok : Int32} {v : Nat} {P : Nat → Prop} (hv : v ≤ 1000) (hc : σ.1 16 = Int32.ofNat v) (hP : ∀ k, k < v → (g5_isSame (σ.2.2.1 22 k) tok σ = 0 ∧ ¬ P k) ∨ (g5_isSame (σ.2.2.1 22 k) tok σ = 1 ∧ P k)) : ∀ (m k : Nat), k ≤ v → v - k < m → (∀ j, j < k → ¬ P j) → (∃ j, j < v ∧ P j ∧ (∀ i, i < j → ¬ P i) ∧ g5_arrayOf_2 m tok (Int32.ofNat k) σ = 200 + Int32.ofNat j) ∨ ((∀ j, j < v → ¬ P j) ∧ g5_arrayOf_2 m tok (Int32.ofNat k) σ = (-1 : Int32))
  | 0, _, _, h, _ => by omega
  | m + 1, k, hk, hm, hj => by
    have lv := ofn_i (n := v) (by omega)
    have lk := ofn_i (n := k) (by omega)
    by_cases c : k = v
    · refine Or.inr ⟨by rw [← c]; exact hj, ?_⟩
      rw [g5_arrayOf_2, hc, if_pos (by rw [lei]; omega)]
    · have un : g5_arrayOf_2 (m + 1) tok (Int32.ofNat k) σ = if g5_isSame (σ.2.2.1 22 k) tok σ = 0 then g5_arrayOf_2 m tok (Int32.ofNat (k + 1)) σ else 200 + Int32.ofNat k := by
        rw [g5_arrayOf_2, hc, if_neg (by rw [lei]; omega)]
        dsimp only [pb5]
        rw [cl_5 (by omega), on_15 (by omega)]
      rw [un]
      rcases hP k (by omega) with ⟨a, b⟩ | ⟨a, b⟩
      · rw [if_pos a]
        exact ar2_5 hv hc hP m (k + 1) (by omega) (by omega) (fun j q => by
          by_cases z : j = k
          · rw [z]; exact b
          · exact hj j (by omega))
      · rw [if_neg (by rw [a]; decide)]
        exact Or.inl ⟨k, by omega, b, hj, rfl⟩
theorem fu2_5 {σ : rS} {tok : Int32} {v : Nat} {P : Nat → Prop} (hv : v ≤ 1000) (hc : σ.1 18 = Int32.ofNat v) (hP : ∀ k, k < v → (g5_isSame (σ.2.2.1 25 k) tok σ = 0 ∧ ¬ P k) ∨ (g5_isSame (σ.2.2.1 25 k) tok σ = 1 ∧ P k)) : ∀ (m k : Nat), k ≤ v → v - k < m → (∀ j, j < k → ¬ P j) → (∃ j, j < v ∧ P j ∧ (∀ i, i < j → ¬ P i) ∧ g5_functionOf_2 m tok (Int32.ofNat k) σ = Int32.ofNat j) ∨ ((∀ j, j < v → ¬ P j) ∧ g5_functionOf_2 m tok (Int32.ofNat k) σ = (-1 : Int32))
  | 0, _, _, h, _ => by omega
  | m + 1, k, hk, hm, hj => by
    have lv := ofn_i (n := v) (by omega)
    have lk := ofn_i (n := k) (by omega)
    by_cases c : k = v
    · refine Or.inr ⟨by rw [← c]; exact hj, ?_⟩
      rw [g5_functionOf_2, hc, if_pos (by rw [lei]; omega)]
    · have un : g5_functionOf_2 (m + 1) tok (Int32.ofNat k) σ = if g5_isSame (σ.2.2.1 25 k) tok σ = 0 then g5_functionOf_2 m tok (Int32.ofNat (k + 1)) σ else Int32.ofNat k := by
        rw [g5_functionOf_2, hc, if_neg (by rw [lei]; omega)]
        dsimp only [pb5]
        rw [cl_5 (by omega), on_15 (by omega)]
      rw [un]
      rcases hP k (by omega) with ⟨a, b⟩ | ⟨a, b⟩
      · rw [if_pos a]
        exact fu2_5 hv hc hP m (k + 1) (by omega) (by omega) (fun j q => by
          by_cases z : j = k
          · rw [z]; exact b
          · exact hj j (by omega))
      · rw [if_neg (by rw [a]; decide)]
        exact Or.inl ⟨k, by omega, b, hj, rfl⟩
theorem ix8_5 {x : Int32} {f k : Nat} (hx : x = Int32.ofNat f) (hf : f ≤ 1000) (hk : k ≤ 1000) : ((8 : Int32) * x + Int32.ofNat k).toNatClampNeg = 8 * f + k := by
  have l1 := ofn_i (n := f) (by omega)
  have l2 := ofn_i (n := k) (by omega)
  have l8 : (8 : Int32).toInt = 8 := rfl
  have m1 : ((8 : Int32) * x).toInt = 8 * f := by rw [hx, mul_i (by rw [l8, l1]; omega) (by rw [l8, l1]; omega), l8, l1]
  rw [nc_5, add_i (by omega) (by omega), m1, l2]
  omega
theorem va2_5 {σ : rS} {tok : Int32} {v f : Nat} {P : Nat → Prop} (hv : v ≤ 1000) (h41 : σ.1 41 = Int32.ofNat f) (hf : f ≤ 1000) (hc : σ.2.2.1 27 f = Int32.ofNat v) (hP : ∀ k, k < v → (g5_isSame (σ.2.2.1 28 (8 * f + k)) tok σ = 0 ∧ ¬ P k) ∨ (g5_isSame (σ.2.2.1 28 (8 * f + k)) tok σ = 1 ∧ P k)) : ∀ (m k : Nat), k ≤ v → v - k < m → (∀ j, j < k → ¬ P j) → (∃ j, j < v ∧ P j ∧ (∀ i, i < j → ¬ P i) ∧ g5_variableOf_2 m tok (Int32.ofNat k) σ = 100 + Int32.ofNat j) ∨ ((∀ j, j < v → ¬ P j) ∧ g5_variableOf_2 m tok (Int32.ofNat k) σ = g5_variableOf_50 fu5 tok 0 σ)
  | 0, _, _, h, _ => by omega
  | m + 1, k, hk, hm, hj => by
    have lv := ofn_i (n := v) (by omega)
    have lk := ofn_i (n := k) (by omega)
    by_cases c : k = v
    · refine Or.inr ⟨by rw [← c]; exact hj, ?_⟩
      rw [g5_variableOf_2, h41, cl_5 (by omega), hc, if_pos (by rw [lei]; omega)]
    · have un : g5_variableOf_2 (m + 1) tok (Int32.ofNat k) σ = if g5_isSame (σ.2.2.1 28 (8 * f + k)) tok σ = 0 then g5_variableOf_2 m tok (Int32.ofNat (k + 1)) σ else 100 + Int32.ofNat k := by
        rw [g5_variableOf_2, ix8_5 h41 hf (by omega), h41, cl_5 (by omega), hc, if_neg (by rw [lei]; omega)]
        dsimp only [pb5]
        rw [on_15 (by omega)]
      rw [un]
      rcases hP k (by omega) with ⟨a, b⟩ | ⟨a, b⟩
      · rw [if_pos a]
        exact va2_5 hv h41 hf hc hP m (k + 1) (by omega) (by omega) (fun j q => by
          by_cases z : j = k
          · rw [z]; exact b
          · exact hj j (by omega))
      · rw [if_neg (by rw [a]; decide)]
        exact Or.inl ⟨k, by omega, b, hj, rfl⟩
theorem fr8_5 {σ : rS} {inF mn mo tok : Int32} {v f : Nat} {P : Nat → Prop} (hi : inF ≠ 0) (hv : v ≤ 1000) (h41 : σ.1 41 = Int32.ofNat f) (hf : f ≤ 1000) (hc : σ.2.2.1 27 f = Int32.ofNat v) (hP : ∀ k, k < v → (g5_isSame (σ.2.2.1 28 (8 * f + k)) tok σ = 0 ∧ ¬ P k) ∨ (g5_isSame (σ.2.2.1 28 (8 * f + k)) tok σ = 1 ∧ P k)) : ∀ (m k : Nat) (x : Int32), (x = 0 ∨ x = 1) → k ≤ v → v - k < m → ∃ y : Int32, (y = 0 ∨ y = 1) ∧ (y = 0 ↔ (x = 0 ∧ ∀ j, k ≤ j → j < v → ¬ P j)) ∧ g5_fresh_18 m inF mn mo tok x (Int32.ofNat k) σ = g5_fresh_78 mn mo tok y σ
  | 0, _, _, _, _, h => by omega
  | m + 1, k, x, hx, hk, hm => by
    have lv := ofn_i (n := v) (by omega)
    have lk := ofn_i (n := k) (by omega)
    by_cases c : k = v
    · refine ⟨x, hx, ⟨fun q => ⟨q, fun j a b => by omega⟩, fun q => q.1⟩, ?_⟩
      rw [g5_fresh_18, if_neg hi, h41, cl_5 (by omega), hc, if_pos (by rw [lei]; omega)]
    · have st : ∀ s0 : Int32, g5_fresh_70 (g5_fresh_18 m) inF mn mo tok (Int32.ofNat k) s0 σ = g5_fresh_18 m inF mn mo tok s0 (Int32.ofNat (k + 1)) σ := fun s0 => by
        unfold g5_fresh_70
        dsimp only [pb5]
        rw [on_15 (by omega)]
      have un : g5_fresh_18 (m + 1) inF mn mo tok x (Int32.ofNat k) σ = if x = 0 then (if g5_isSame (σ.2.2.1 28 (8 * f + k)) tok σ = 0 then g5_fresh_18 m inF mn mo tok 0 (Int32.ofNat (k + 1)) σ else g5_fresh_18 m inF mn mo tok 1 (Int32.ofNat (k + 1)) σ) else g5_fresh_18 m inF mn mo tok 1 (Int32.ofNat (k + 1)) σ := by
        rw [g5_fresh_18, if_neg hi, ix8_5 h41 hf (by omega), h41, cl_5 (by omega), hc, if_neg (by rw [lei]; omega), st, st]
        rfl
      rcases hx with rfl | rfl
      · rw [un, if_pos rfl]
        rcases hP k (by omega) with ⟨a, b⟩ | ⟨a, b⟩
        · rw [if_pos a]
          obtain ⟨y, y1, y2, y3⟩ := fr8_5 hi hv h41 hf hc hP m (k + 1) 0 (Or.inl rfl) (by omega) (by omega)
          refine ⟨y, y1, y2.trans ⟨fun q => ⟨rfl, fun j j1 j2 => ?_⟩, fun q => ⟨rfl, fun j j1 j2 => q.2 j (by omega) j2⟩⟩, y3⟩
          by_cases z : j = k
          · rw [z]; exact b
          · exact q.2 j (by omega) j2
        · rw [if_neg (by rw [a]; decide)]
          obtain ⟨y, y1, y2, y3⟩ := fr8_5 hi hv h41 hf hc hP m (k + 1) 1 (Or.inr rfl) (by omega) (by omega)
          exact ⟨y, y1, y2.trans ⟨fun q => absurd q.1 (by decide), fun q => absurd b (q.2 k (Nat.le_refl k) (by omega))⟩, y3⟩
      · rw [un, if_neg (by decide)]
        obtain ⟨y, y1, y2, y3⟩ := fr8_5 hi hv h41 hf hc hP m (k + 1) 1 (Or.inr rfl) (by omega) (by omega)
        exact ⟨y, y1, y2.trans ⟨fun q => absurd q.1 (by decide), fun q => absurd q.1 (by decide)⟩, y3⟩
