set_option maxHeartbeats 1600000
theorem tA_m5 {y : Y5} {σ : rS} {B : Nat → Int32} {n Bk t : Nat} (h : tkA5 y σ B n Bk t) (hK : y.1 t = 141) : ∃ p s : Nat, p + s ≤ n ∧ y.2.1 t = Int32.ofNat p ∧ y.2.2.1 t = Int32.ofNat s ∧ σ.2.2.1 7 (Bk + t) = nv5 B p s := by
  obtain ⟨p, s, a, b, c, d, e⟩ := h
  rw [hK] at e
  have k : (141 : Int32).toInt = 141 := rfl
  rcases e with ⟨e, _⟩ | ⟨e, _⟩ | ⟨_, _, e⟩ | ⟨e, _⟩ | ⟨_, e⟩
  · exact absurd e (by decide)
  · exact absurd e (by decide)
  · exact ⟨p, s, a, b, c, e⟩
  · rw [k] at e; omega
  · rcases e with ⟨_, e, _⟩ | ⟨_, e, _⟩ <;> rw [k] at e <;> omega
theorem tA_k5 {y : Y5} {σ : rS} {B : Nat → Int32} {n Bk t : Nat} (h : tkA5 y σ B n Bk t) : kd5 (y.1 t) (σ.2.2.1 5 (Bk + t)) (σ.2.2.1 7 (Bk + t)) ∧ y.1 t ≠ 142 ∧ y.2.1 t = σ.2.2.1 6 (Bk + t) := by
  obtain ⟨p, s, a, b, c, d, e⟩ := h
  refine ⟨?_, (tR_k5 e).1, by rw [b, d]⟩
  rcases e with e | ⟨e1, e2, _⟩ | ⟨e1, e2, _⟩ | e | e
  · exact Or.inl e
  · exact Or.inr (Or.inl ⟨e1, e2⟩)
  · exact Or.inr (Or.inr (Or.inl ⟨e1, e2⟩))
  · exact Or.inr (Or.inr (Or.inr (Or.inr (Or.inl e))))
  · exact Or.inr (Or.inr (Or.inr (Or.inr (Or.inr e))))
/-- the class's rows as the record has them -/
theorem TR_5 {U : U5} {e : E5} {σ : rS} {n Bk N : Nat} {B : Nat → Int32} {Z : Int32} (HU : okU5 U) (hr : ∀ j, -128 ≤ (U.1 j).toInt ∧ (U.1 j).toInt ≤ 127) (hB : bU5 U = B) (hn : nU5 U = n) (hn2 : n ≤ 65536) (hBk : Bk ≤ 65537) (hy : (my5 (e.2.1 taKinds) (e.1 taTotal), my5 (e.2.1 taPlaces) (e.1 taTotal), my5 (e.2.1 taLengths) (e.1 taTotal), e.1 taTotal) = f5_Ta_split U) (hU : (e.2.1 taBytes, e.1 taLength, e.2.2 taBytes) = U) (hK : TK5 (f5_Ta_split U) σ B n Bk N) (hZ : Z = Int32.ofNat n) : TR5 (tq5 e) (sx5 σ) Bk N Z := by
  rw [← hy] at hK
  obtain ⟨k1, k2, k3, k4, k5⟩ := hK
  have ht : e.1 taTotal = Int32.ofNat N := k1
  have hut : ut5 (tq5 e) = U := hU
  have my : ∀ (f : Nat → Int32) t, t < N → my5 f (e.1 taTotal) t = f t := fun f t h => by
    unfold my5
    rw [ht, cl_5 (by omega), if_pos h]
  -- every token
  have hA : ∀ t, t < N → tkA5 (e.2.1 taKinds, e.2.1 taPlaces, e.2.1 taLengths, e.1 taTotal) σ B n Bk t ∨ (t + 1 = N ∧ tkZ5 (e.2.1 taKinds, e.2.1 taPlaces, e.2.1 taLengths, e.1 taTotal) σ n Bk t) := fun t h => by
    by_cases c : t + 1 < N
    · exact Or.inl (tkA_k5 (k4 t c).1 (my _ t h).symm (my _ t h).symm (my _ t h).symm (fun _ _ => rfl) rfl)
    · have et : N - 1 = t := by omega
      rw [et] at k5
      rcases k5 with ⟨q, _⟩ | q
      · exact Or.inl (tkA_k5 q (my _ t h).symm (my _ t h).symm (my _ t h).symm (fun _ _ => rfl) rfl)
      · refine Or.inr ⟨by omega, ?_, ?_, q.2.2.1, q.2.2.2⟩
        · have z := q.1
          dsimp only at z
          rw [my _ t h] at z
          exact z
        · have z := q.2.1
          dsimp only at z
          rw [my _ t h] at z
          exact z
  have hk : ∀ t, t < N → ((e.2.1 taKinds t = 142 ∨ e.2.1 taKinds t = 143) ↔ t + 1 = N) := fun t h => by
    constructor
    · intro q
      by_cases c : t + 1 < N
      · exfalso
        have z := k4 t c
        have z1 := (tA_k5 z.1).2.1
        have z2 := z.2
        dsimp only at z1 z2
        rw [my _ t h] at z1 z2
        rcases q with q | q
        · exact z1 q
        · exact z2 q
      · omega
    · intro q
      have et : N - 1 = t := by omega
      rw [et] at k5
      rcases k5 with ⟨_, z⟩ | z
      · dsimp only at z
        rw [my _ t h] at z
        exact Or.inr z
      · have w := z.1
        dsimp only at w
        rw [my _ t h] at w
        exact Or.inl w
  have nm : ∀ t, t < N → e.2.1 taKinds t = 140 → ∃ p s : Nat, p + s ≤ n ∧ e.2.1 taPlaces t = Int32.ofNat p ∧ e.2.1 taLengths t = Int32.ofNat s ∧ 0 < s ∧ s ≤ 12 ∧ nmP5 B p s (σ.2.2.2 8 (Bk + t)) (σ.2.2.1 9 (Bk + t)) ∧ ∀ i, i < s → cL5 (B (p + i)) = true := fun t h q => by
    rcases hA t h with z | z
    · exact tA_n5 z q
    · have w := z.2.1
      dsimp only at w
      rw [w] at q
      exact absurd q (by decide)
  have raw : ∀ j, cL5 (B j) = true → e.2.1 taBytes j = B j := fun j h => by
    have w := lt_15 h
    rw [← hB] at w ⊢
    have z := hr j
    have q : U.1 j = e.2.1 taBytes j := by rw [← hU]
    rw [← q]
    exact (rw_5 z.1 z.2 w.2).symm
  refine ⟨⟨ht, k2, by omega, hBk⟩, fun t h => ?_, fun t h => ?_, hk, fun t h q => ?_, fun t u h1 h2 q1 q2 => ?_, fun t h q => ?_, fun t h q => ?_, fun q => ?_⟩
  · show e.2.1 taPlaces t = σ.2.2.1 6 (Bk + t)
    rcases hA t h with z | z
    · exact (tA_k5 z).2.2
    · rw [z.2.2.2.2]
      exact z.2.2.1
  · show kd5 (e.2.1 taKinds t) (σ.2.2.1 5 (Bk + t)) (σ.2.2.1 7 (Bk + t))
    rcases hA t h with z | z
    · exact (tA_k5 z).1
    · exact Or.inr (Or.inr (Or.inr (Or.inl ⟨z.2.1, z.2.2.2.1⟩)))
  · show _ = σ.2.2.1 7 (Bk + t)
    have q' : e.2.1 taKinds t = 141 := q
    rcases hA t h with z | z
    · obtain ⟨p, s, a, b, c, d⟩ := tA_m5 z q'
      rw [d]
      have lN := ofn_i (n := N) (by omega)
      unfold f5_Ta_numberAt
      refine nu_m5 (T := tq5 e) (n := n) (p := p) (s := s) (by rw [hut]; exact HU) (by rw [hut]; exact hB) (by rw [hut]; exact hn) (by show t < (e.1 taTotal).toInt.toNat; rw [ht, lN]; omega) (by omega) b c a hn2 fu5 0 0 (by omega) (by unfold fu5; omega) rfl
    · have w := z.2.1
      dsimp only at w
      rw [w] at q'
      exact absurd q' (by decide)
  · obtain ⟨p, s, a, b, c, d0, d, f, g⟩ := nm t h1 q1
    obtain ⟨p', s', a', b', c', d0', d', f', g'⟩ := nm u h2 q2
    refine Iff.trans ?_ (nP_iff5 f f' d d' g g').symm
    have ls := ofn_i (n := s) (by omega)
    have ls' := ofn_i (n := s') (by omega)
    have lp := ofn_i (n := p) (by omega)
    have lp' := ofn_i (n := p') (by omega)
    have v : dn5 (tq5 e) t u ↔ (Int32.ofNat s = Int32.ofNat s' ∧ 0 < (Int32.ofNat s').toInt ∧ ∀ i : Nat, (i : Int) < (Int32.ofNat s').toInt → e.2.1 taBytes (p + i) = e.2.1 taBytes (p' + i)) := by
      show (e.2.1 taLengths t = e.2.1 taLengths u ∧ 0 < (e.2.1 taLengths u).toInt ∧ ∀ i : Nat, (i : Int) < (e.2.1 taLengths u).toInt → e.2.1 taBytes ((e.2.1 taPlaces t).toInt.toNat + i) = e.2.1 taBytes ((e.2.1 taPlaces u).toInt.toNat + i)) ↔ _
      rw [b, c, b', c', lp, lp']
      exact Iff.rfl
    refine v.trans ⟨fun ⟨v1, v2, v3⟩ => ?_, fun ⟨v1, v2⟩ => ?_⟩
    · have es : s = s' := by
        have y := congrArg Int32.toInt v1
        rw [ls, ls'] at y
        omega
      refine ⟨es, fun i hi => ?_⟩
      rw [← raw _ (g i hi), ← raw _ (g' i (by omega))]
      exact v3 i (by rw [ls']; omega)
    · subst v1
      refine ⟨rfl, by rw [ls]; omega, fun i hi => ?_⟩
      rw [ls] at hi
      rw [raw _ (g i (by omega)), raw _ (g' i (by omega))]
      exact v2 i (by omega)
  · obtain ⟨p, s, a, b, c, d0, d, f, g⟩ := nm t h q
    have ls := ofn_i (n := s) (by omega)
    have lp := ofn_i (n := p) (by omega)
    show 0 < (e.2.1 taLengths t).toInt ∧ (e.2.1 taLengths t).toInt ≤ 12 ∧ 0 ≤ (e.2.1 taPlaces t).toInt ∧ (e.2.1 taPlaces t).toInt ≤ 65536
    rw [b, c, ls, lp]
    omega
  · obtain ⟨p, s, a, b, c, d0, d, f, g⟩ := nm t h q
    exact mi_5 (n := n) (by rw [hut]; exact HU) (by rw [hut]; exact hB) (by rw [hut]; exact hn) ht h (by omega) b c a hn2 f g
  · have q' : e.2.1 taKinds (N - 1) = 142 := q
    show e.2.1 taPlaces (N - 1) = Z
    rcases hA (N - 1) (by omega) with z | z
    · exact absurd q' (tA_k5 z).2.1
    · rw [hZ]
      exact z.2.2.1
