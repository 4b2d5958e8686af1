set_option maxHeartbeats 1600000
/-! words: the class's kinds by the bytes of a name -/
theorem nm_l5 {B : Nat → Int32} {p s : Nat} : (nmqq5 B p s).length = s := by unfold nmqq5; rw [List.length_map, List.length_range]
theorem nm_g5 {B : Nat → Int32} {p s i : Nat} (h : i < (nmqq5 B p s).length) : (nmqq5 B p s)[i] = B (p + i) := by
  simp only [nmqq5, List.getElem_map, List.getElem_range]
theorem ifc_5 {α : Type} {b c : Prop} [Decidable b] [Decidable c] {x y u v : α} (h : b ↔ c) (h1 : x = u) (h2 : y = v) : (if b then x else y) = if c then u else v := by
  by_cases q : b
  · rw [if_pos q, if_pos (h.mp q), h1]
  · rw [if_neg q, if_neg (fun w => q (h.mpr w)), h2]
theorem gD_5 {w : List Int32} {i : Nat} (h : i < w.length) : w.getD i 0 = w[i] := by
  rw [List.getD_eq_getElem?_getD, List.getElem?_eq_getElem h]
  rfl
theorem nm_iff5 {B : Nat → Int32} {p s : Nat} {w : List Int32} : nmqq5 B p s = w ↔ s = w.length ∧ ∀ i, i < s → B (p + i) = w.getD i 0 := by
  constructor
  · intro h
    subst h
    refine ⟨nm_l5.symm, fun i hi => ?_⟩
    have hi2 : i < (nmqq5 B p s).length := by rw [nm_l5]; exact hi
    rw [gD_5 hi2, nm_g5]
  · rintro ⟨h1, h2⟩
    refine List.ext_getElem (by rw [nm_l5]; exact h1) (fun i a b => ?_)
    rw [nm_g5, h2 i (by rw [nm_l5] at a; exact a), gD_5 b]
theorem on_5 {a b : Nat} (h : a + b ≤ 67108864) : Int32.ofNat a + Int32.ofNat b = Int32.ofNat (a + b) := by
  apply Int32.toInt_inj.mp
  have h1 := ofn_i (n := a) (by omega)
  have h2 := ofn_i (n := b) (by omega)
  have h3 := ofn_i (n := a + b) h
  rw [add_i (by omega) (by omega), h1, h2, h3]
  omega
theorem on_15 {a : Nat} (h : a + 1 ≤ 67108864) : Int32.ofNat a + 1 = Int32.ofNat (a + 1) := on_5 (b := 1) h
theorem rd_m5 {U : U5} {t3 w : List Int32} {p q : Nat} {a1 : Int32} (H : okU5 U) (ha : a1.toInt = p) (hp : p + w.length ≤ nU5 U) (hw : ∀ i, i < w.length → ch5 t3 (Int32.ofNat (q + i)) = w.getD i 0) (hq : q + w.length ≤ t3.length) (hl : t3.length ≤ 1000) : ∀ (m k : Nat), k ≤ w.length → w.length - k < m → (f5_Ta_reads_3 U t3 m a1 (Int32.ofNat w.length) (Int32.ofNat q) (Int32.ofNat k) = 1 ∧ ∀ i, k ≤ i → i < w.length → bU5 U (p + i) = w.getD i 0) ∨ (f5_Ta_reads_3 U t3 m a1 (Int32.ofNat w.length) (Int32.ofNat q) (Int32.ofNat k) = 0 ∧ ¬ ∀ i, k ≤ i → i < w.length → bU5 U (p + i) = w.getD i 0)
  | 0, _, _, h => by omega
  | m + 1, k, hk, hm => by
    have l1 := ofn_i (n := w.length) (by omega)
    have l2 := ofn_i (n := k) (by omega)
    have l3 := ofn_i (n := t3.length) (by omega)
    unfold f5_Ta_reads_3
    dsimp only [pb5]
    by_cases c : k = w.length
    · rw [if_pos (by rw [lei]; omega)]
      exact Or.inl ⟨rfl, fun i a b => by omega⟩
    · have e0 : Int32.ofNat q + Int32.ofNat k = Int32.ofNat (q + k) := on_5 (by omega)
      have e1 := ofn_i (n := q + k) (by omega)
      have e2 : (a1 + Int32.ofNat k).toInt = ((p + k : Nat) : Int) := by
        have := H.2.1
        have := H.2.2
        have : p + k ≤ 67108864 := by unfold nU5 at hp; omega
        rw [add_i (by omega) (by omega), ha, l2]
        omega
      rw [if_neg (by rw [lei]; omega), e0, if_neg (by rw [lei]; omega), by_5 H (by omega), e2, hw k (by omega)]
      have e3 : ((p + k : Nat) : Int).toNat = p + k := by omega
      rw [e3, ba_5 (by omega), on_15 (by omega)]
      by_cases z : bU5 U (p + k) = w.getD k 0
      · rw [if_pos z]
        rcases rd_m5 H ha hp hw hq hl m (k + 1) (by omega) (by omega) with ⟨r, y⟩ | ⟨r, y⟩
        · exact Or.inl ⟨r, fun i a b => by
            by_cases x : i = k
            · rw [x]; exact z
            · exact y i (by omega) b⟩
        · exact Or.inr ⟨r, fun x => y (fun i a b => x i (by omega) b)⟩
      · rw [if_neg z]
        exact Or.inr ⟨rfl, fun x => z (x k (Nat.le_refl k) (by omega))⟩
theorem rd_U5 {U : U5} {t3 w : List Int32} {p q : Nat} {a1 : Int32} (H : okU5 U) (ha : a1.toInt = p) (hp : p + w.length ≤ nU5 U) (hw : ∀ i, i < w.length → ch5 t3 (Int32.ofNat (q + i)) = w.getD i 0) (hq : q + w.length ≤ t3.length) (hl : t3.length ≤ 1000) : f5_Ta_reads U t3 a1 (Int32.ofNat w.length) (Int32.ofNat q) = if nmqq5 (bU5 U) p w.length = w then 1 else 0 := by
  unfold f5_Ta_reads
  have z := rd_m5 H ha hp hw hq hl fu5 0 (by omega) (by unfold fu5; omega)
  rcases z with ⟨r, y⟩ | ⟨r, y⟩
  · rw [if_pos (nm_iff5.mpr ⟨rfl, fun i hi => y i (by omega) hi⟩)]
    exact r
  · rw [if_neg (fun c => y (fun i _ hi => (nm_iff5.mp c).2 i hi))]
    exact r
/-- a word passed over -/
theorem wo_k5 {U : U5} {w : List Int32} {q : Nat} {a1 a2 a3 : Int32} (h8 : ¬ (8 : Int32) ≤ a2) (hw : ∀ i, i < w.length → ch5 wt5 (Int32.ofNat (q + i)) = w.getD i 0) (hs : ∀ i, i < w.length → w.getD i 0 ≠ 32) (hq : q + w.length ≤ wt5.length) : ∀ (k m : Nat), k ≤ w.length → f5_Ta_wordOf_10 U (m + k) a1 a2 a3 (Int32.ofNat q) (Int32.ofNat q) = f5_Ta_wordOf_10 U m a1 a2 a3 (Int32.ofNat q) (Int32.ofNat (q + k))
  | 0, _, _ => rfl
  | k + 1, m, hk => by
    have hl : wt5.length ≤ 1000 := by decide
    have e := wo_k5 (U := U) (a1 := a1) (a3 := a3) h8 hw hs hq k (m + 1) (by omega)
    rw [show m + (k + 1) = m + 1 + k by omega, e]
    have l1 := ofn_i (n := wt5.length) (by omega)
    have l2 := ofn_i (n := q + k) (by omega)
    rw [f5_Ta_wordOf_10]
    dsimp only [pb5]
    rw [if_neg (by rw [lei]; omega), if_neg h8, hw k (by omega), if_neg (hs k (by omega)), on_15 (by omega)]
    rfl
theorem wo_5 {U : U5} {w : List Int32} {p q s m : Nat} {a1 a2 a3 : Int32} (H : okU5 U) (ha : a1.toInt = p) (hs2 : a2 = Int32.ofNat s) (hs3 : s ≤ 12) (hp : p + s ≤ nU5 U) (h8 : ¬ (8 : Int32) ≤ a2) (hw : ∀ i, i < w.length → ch5 wt5 (Int32.ofNat (q + i)) = w.getD i 0) (hs : ∀ i, i < w.length → w.getD i 0 ≠ 32) (hq : q + w.length + 1 ≤ wt5.length) (he : ch5 wt5 (Int32.ofNat (q + w.length)) = 32) : f5_Ta_wordOf_10 U (m + 1 + w.length) a1 a2 a3 (Int32.ofNat q) (Int32.ofNat q) = if nmqq5 (bU5 U) p s = w then a3 else f5_Ta_wordOf_10 U m a1 a2 (a3 + 1) (Int32.ofNat (q + w.length + 1)) (Int32.ofNat (q + w.length + 1)) := by
  have hl : wt5.length ≤ 1000 := by decide
  rw [wo_k5 h8 hw hs (by omega) w.length (m + 1) (Nat.le_refl _)]
  have l1 := ofn_i (n := wt5.length) (by omega)
  have l2 := ofn_i (n := q + w.length) (by omega)
  have l3 := ofn_i (n := q) (by omega)
  have l4 := ofn_i (n := w.length) (by omega)
  have l5 := ofn_i (n := s) (by omega)
  rw [f5_Ta_wordOf_10]
  dsimp only [pb5]
  unfold f5_Ta_wordOf_62
  dsimp only [pb5]
  have ed : Int32.ofNat (q + w.length) - Int32.ofNat q = Int32.ofNat w.length := by
    apply Int32.toInt_inj.mp
    rw [sub_i (by omega) (by omega), l2, l3, l4]
    omega
  rw [if_neg (by rw [lei]; omega), if_neg h8, he, if_pos rfl, ed, on_15 (by omega)]
  by_cases c : s = w.length
  · subst c
    subst hs2
    rw [if_pos rfl, rd_U5 H ha hp hw (by omega) hl]
    by_cases z : nmqq5 (bU5 U) p w.length = w
    · rw [if_pos z, if_neg (by decide), if_pos z]
    · rw [if_neg z, if_pos rfl, if_neg z]
  · rw [if_neg (fun z => by
      have y := congrArg Int32.toInt z
      rw [hs2, l4, l5] at y
      omega), if_neg (fun z => c (nm_iff5.mp z).1)]
/-- the words in the class's order -/
def wch5 : List (List Int32) → Int32 → List Int32 → Int32
  | [], _, _ => 140
  | w :: r, k, l => if l = w then k else wch5 r (k + 1) l
def wl5 : List (List Int32) := [[118, 97, 114], [97, 114, 114], [102, 117, 110, 99], [108, 111, 99, 97, 108], [105, 102], [101, 108, 115, 101], [119, 104, 105, 108, 101], [114, 101, 116, 117, 114, 110], [111, 98, 115, 101, 114, 118, 101], [103, 97, 105, 110], [112, 105, 99, 107], [102, 108, 105, 112], [99, 104, 111, 111, 115, 101]]
theorem wc_l5 {l : List Int32} (h : 8 ≤ l.length) : wch5 wl5 150 l = 140 := by
  unfold wl5
  simp only [wch5]
  rw [if_neg (fun z => by rw [z] at h; exact absurd h (by decide))]
  rw [if_neg (fun z => by rw [z] at h; exact absurd h (by decide))]
  rw [if_neg (fun z => by rw [z] at h; exact absurd h (by decide))]
  rw [if_neg (fun z => by rw [z] at h; exact absurd h (by decide))]
  rw [if_neg (fun z => by rw [z] at h; exact absurd h (by decide))]
  rw [if_neg (fun z => by rw [z] at h; exact absurd h (by decide))]
  rw [if_neg (fun z => by rw [z] at h; exact absurd h (by decide))]
  rw [if_neg (fun z => by rw [z] at h; exact absurd h (by decide))]
  rw [if_neg (fun z => by rw [z] at h; exact absurd h (by decide))]
  rw [if_neg (fun z => by rw [z] at h; exact absurd h (by decide))]
  rw [if_neg (fun z => by rw [z] at h; exact absurd h (by decide))]
  rw [if_neg (fun z => by rw [z] at h; exact absurd h (by decide))]
  rw [if_neg (fun z => by rw [z] at h; exact absurd h (by decide))]
theorem wo_U5 {U : U5} {p s : Nat} {a1 a2 : Int32} (H : okU5 U) (ha : a1.toInt = p) (hs2 : a2 = Int32.ofNat s) (hs3 : s ≤ 12) (hp : p + s ≤ nU5 U) : f5_Ta_wordOf U a1 a2 = wch5 wl5 150 (nmqq5 (bU5 U) p s) := by
  have l5 := ofn_i (n := s) (by omega)
  by_cases h8 : (8 : Int32) ≤ a2
  · rw [wc_l5 (by rw [nm_l5]; rw [hs2, lei, l5] at h8; have : (8 : Int32).toInt = 8 := rfl; omega)]
    unfold f5_Ta_wordOf
    rw [show fu5 = 4294967295 + 1 from rfl, f5_Ta_wordOf_10]
    dsimp only [pb5]
    by_cases z : Int32.ofNat wt5.length ≤ 0
    · rw [if_pos z]
    · rw [if_neg z, if_pos h8]
  · unfold f5_Ta_wordOf wl5
    simp only [wch5]
    rw [show (0 : Int32) = Int32.ofNat 0 from rfl, show fu5 = (4294967292) + 1 + ([118, 97, 114] : List Int32).length from rfl]
    rw [wo_5 (w := [118, 97, 114]) (q := 0) (s := s) (m := 4294967292) H ha hs2 hs3 hp h8 (by decide +kernel) (by decide) (by decide) (by decide +kernel)]
    refine ifc_5 Iff.rfl rfl ?_
    show f5_Ta_wordOf_10 U (4294967288 + 1 + ([97, 114, 114] : List Int32).length) a1 a2 _ (Int32.ofNat 4) (Int32.ofNat 4) = _
    rw [wo_5 (w := [97, 114, 114]) (q := 4) (s := s) (m := 4294967288) H ha hs2 hs3 hp h8 (by decide +kernel) (by decide) (by decide) (by decide +kernel)]
    refine ifc_5 Iff.rfl rfl ?_
    show f5_Ta_wordOf_10 U (4294967283 + 1 + ([102, 117, 110, 99] : List Int32).length) a1 a2 _ (Int32.ofNat 8) (Int32.ofNat 8) = _
    rw [wo_5 (w := [102, 117, 110, 99]) (q := 8) (s := s) (m := 4294967283) H ha hs2 hs3 hp h8 (by decide +kernel) (by decide) (by decide) (by decide +kernel)]
    refine ifc_5 Iff.rfl rfl ?_
    show f5_Ta_wordOf_10 U (4294967277 + 1 + ([108, 111, 99, 97, 108] : List Int32).length) a1 a2 _ (Int32.ofNat 13) (Int32.ofNat 13) = _
    rw [wo_5 (w := [108, 111, 99, 97, 108]) (q := 13) (s := s) (m := 4294967277) H ha hs2 hs3 hp h8 (by decide +kernel) (by decide) (by decide) (by decide +kernel)]
    refine ifc_5 Iff.rfl rfl ?_
    show f5_Ta_wordOf_10 U (4294967274 + 1 + ([105, 102] : List Int32).length) a1 a2 _ (Int32.ofNat 19) (Int32.ofNat 19) = _
    rw [wo_5 (w := [105, 102]) (q := 19) (s := s) (m := 4294967274) H ha hs2 hs3 hp h8 (by decide +kernel) (by decide) (by decide) (by decide +kernel)]
    refine ifc_5 Iff.rfl rfl ?_
    show f5_Ta_wordOf_10 U (4294967269 + 1 + ([101, 108, 115, 101] : List Int32).length) a1 a2 _ (Int32.ofNat 22) (Int32.ofNat 22) = _
    rw [wo_5 (w := [101, 108, 115, 101]) (q := 22) (s := s) (m := 4294967269) H ha hs2 hs3 hp h8 (by decide +kernel) (by decide) (by decide) (by decide +kernel)]
    refine ifc_5 Iff.rfl rfl ?_
    show f5_Ta_wordOf_10 U (4294967263 + 1 + ([119, 104, 105, 108, 101] : List Int32).length) a1 a2 _ (Int32.ofNat 27) (Int32.ofNat 27) = _
    rw [wo_5 (w := [119, 104, 105, 108, 101]) (q := 27) (s := s) (m := 4294967263) H ha hs2 hs3 hp h8 (by decide +kernel) (by decide) (by decide) (by decide +kernel)]
    refine ifc_5 Iff.rfl rfl ?_
    show f5_Ta_wordOf_10 U (4294967256 + 1 + ([114, 101, 116, 117, 114, 110] : List Int32).length) a1 a2 _ (Int32.ofNat 33) (Int32.ofNat 33) = _
    rw [wo_5 (w := [114, 101, 116, 117, 114, 110]) (q := 33) (s := s) (m := 4294967256) H ha hs2 hs3 hp h8 (by decide +kernel) (by decide) (by decide) (by decide +kernel)]
    refine ifc_5 Iff.rfl rfl ?_
    show f5_Ta_wordOf_10 U (4294967248 + 1 + ([111, 98, 115, 101, 114, 118, 101] : List Int32).length) a1 a2 _ (Int32.ofNat 40) (Int32.ofNat 40) = _
    rw [wo_5 (w := [111, 98, 115, 101, 114, 118, 101]) (q := 40) (s := s) (m := 4294967248) H ha hs2 hs3 hp h8 (by decide +kernel) (by decide) (by decide) (by decide +kernel)]
    refine ifc_5 Iff.rfl rfl ?_
    show f5_Ta_wordOf_10 U (4294967243 + 1 + ([103, 97, 105, 110] : List Int32).length) a1 a2 _ (Int32.ofNat 48) (Int32.ofNat 48) = _
    rw [wo_5 (w := [103, 97, 105, 110]) (q := 48) (s := s) (m := 4294967243) H ha hs2 hs3 hp h8 (by decide +kernel) (by decide) (by decide) (by decide +kernel)]
    refine ifc_5 Iff.rfl rfl ?_
    show f5_Ta_wordOf_10 U (4294967238 + 1 + ([112, 105, 99, 107] : List Int32).length) a1 a2 _ (Int32.ofNat 53) (Int32.ofNat 53) = _
    rw [wo_5 (w := [112, 105, 99, 107]) (q := 53) (s := s) (m := 4294967238) H ha hs2 hs3 hp h8 (by decide +kernel) (by decide) (by decide) (by decide +kernel)]
    refine ifc_5 Iff.rfl rfl ?_
    show f5_Ta_wordOf_10 U (4294967233 + 1 + ([102, 108, 105, 112] : List Int32).length) a1 a2 _ (Int32.ofNat 58) (Int32.ofNat 58) = _
    rw [wo_5 (w := [102, 108, 105, 112]) (q := 58) (s := s) (m := 4294967233) H ha hs2 hs3 hp h8 (by decide +kernel) (by decide) (by decide) (by decide +kernel)]
    refine ifc_5 Iff.rfl rfl ?_
    show f5_Ta_wordOf_10 U (4294967226 + 1 + ([99, 104, 111, 111, 115, 101] : List Int32).length) a1 a2 _ (Int32.ofNat 63) (Int32.ofNat 63) = _
    rw [wo_5 (w := [99, 104, 111, 111, 115, 101]) (q := 63) (s := s) (m := 4294967226) H ha hs2 hs3 hp h8 (by decide +kernel) (by decide) (by decide) (by decide +kernel)]
    refine ifc_5 Iff.rfl rfl ?_
    show f5_Ta_wordOf_10 U (4294967225 + 1) a1 a2 _ (Int32.ofNat 70) (Int32.ofNat 70) = _
    rw [f5_Ta_wordOf_10]
    dsimp only [pb5]
    exact if_pos (by decide)
