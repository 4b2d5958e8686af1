set_option maxHeartbeats 1600000
/-! the law's state, and what a call of the class or of the reference does to it -/
theorem rH_n9 {o x : Nat} {σ : rS} {c : dC} (h : (rH (none, fun _ => none) o (ad9 o) σ).2 x = some c) : o ≤ x ∧ x ≤ o + 75 := by
  by_cases e : x = o
  · omega
  · have r : (rH (none, fun _ => none) o (ad9 o) σ).2 x = match (ROWS13.find? fun q => ad9 o q.1 == x) with
      | some q => some (rRow σ q.1 q.2)
      | none => none := if_neg e
    rw [r] at h
    cases hf : ROWS13.find? (fun q => ad9 o q.1 == x) with
    | some q =>
      have m : q ∈ ROWS13 := List.mem_of_find?_eq_some hf
      have e2 : ad9 o q.1 = x := by simpa using List.find?_some hf
      obtain ⟨p, hp⟩ := List.getElem?_of_mem m
      have i := ix_p9 hp
      unfold ad9 at e2
      omega
    | none => rw [hf] at h; cases h
theorem rH_k9 {o x : Nat} {σ : rS} (h1 : o ≤ x) (h2 : x ≤ o + 75) : ∃ c, (rH (none, fun _ => none) o (ad9 o) σ).2 x = some c := by
  by_cases e : x = o
  · exact ⟨_, if_pos e⟩
  · have r : (rH (none, fun _ => none) o (ad9 o) σ).2 x = match (ROWS13.find? fun q => ad9 o q.1 == x) with
      | some q => some (rRow σ q.1 q.2)
      | none => none := if_neg e
    rw [r]
    cases hf : ROWS13.find? (fun q => ad9 o q.1 == x) with
    | some q => exact ⟨_, rfl⟩
    | none =>
      exfalso
      have lp : x - o - 1 < ROWS13.length := by rw [r_len9]; omega
      have g : ROWS13[x - o - 1]? = some (ROWS13[x - o - 1]) := List.getElem?_eq_getElem lp
      have i := ix_p9 g
      have n := List.find?_eq_none.mp hf _ (List.getElem_mem lp)
      apply n
      show (ad9 o _ == x) = true
      unfold ad9
      rw [i.1]
      have z : o + 1 + (x - o - 1) = x := by omega
      rw [z]
      exact beq_self_eq_true x
theorem cB_n9 {sa : Nat → Nat} {TL : List (Nat × Nat × List Int32)} {b o u x : Nat} {σ : rS} {J : Nat → Int64} (ho : b ≤ o) (hu : b ≤ u) (hx : x < b) : (yh (lB9 sa TL b o u σ J)).2 x = none := by
  show (if x = u then some (outC9 J) else (rH (none, fun _ => none) o (ad9 o) σ).2 x) = none
  rw [if_neg (by omega)]
  cases h : (rH (none, fun _ => none) o (ad9 o) σ).2 x with
  | none => rfl
  | some c =>
    have q := rH_n9 h
    omega
theorem zW_b9 {sa : Nat → Nat} {TL : List (Nat × Nat × List Int32)} {b o u n0 : Nat} {σ σ' : rS} {J J' : Nat → Int64} {κ : zS} (ho : b ≤ o) (hu : b ≤ u) (W : zW (lB9 sa TL b o u σ J) n0 κ) : zW (lB9 sa TL b o u σ' J') n0 κ := by
  obtain ⟨⟨⟨h1, h2⟩, h3⟩, h4⟩ := W
  refine ⟨⟨⟨h1, fun k hk => ?_⟩, h3⟩, h4⟩
  obtain ⟨g1, ⟨g2, x, y, g3, g4, g5, g6, g7⟩, g8⟩ := h2 k hk
  exact ⟨g1, ⟨g2, x, y, g3, g4, g5, cB_n9 ho hu g5, g7⟩, cB_n9 ho hu g2⟩
/-- class, reference, the row: where they lie, what they count -/
def lS9 (sa : Nat → Nat) (TL : List (Nat × Nat × List Int32)) (b a o u : Nat) (Lx : Int) (t : Nat) (κ : zS) (σ : rS) (J : Nat → Int64) (cs ss : Nat) : Prop := zW (lB9 sa TL b o u σ J) b κ ∧ zT κ a = 15 ∧ (∃ ρ, chI9 ρ κ a Lx) ∧ oT9 κ ∧ (zs κ ≤ 3000 + pot wS κ ∧ 4 * zc κ ≤ 548 + pot wC κ) ∧ ((b ≤ o ∧ b ≤ u ∧ (u < o ∨ o + 75 < u)) ∧ ∀ x, (x = u ∨ (o ≤ x ∧ x ≤ o + 75)) → zT κ x = 0 ∧ x < zn κ) ∧ ∃ e, e ≤ t ∧ cs = zc κ + e + 77 ∧ ss = zs κ + 6 * e + 3196536
section LS
variable {sa : Nat → Nat} {TL : List (Nat × Nat × List Int32)} {b a o u t cs ss : Nat} {Lx Lx' : Int} {κ : zS} {σ : rS} {J : Nat → Int64}
/-- a call of the class, its throws caught -/
theorem lc_9 {k : dM × dHH} {as : List Value} {P : zS → Prop} (S : lS9 sa TL b a o u Lx t κ σ J cs ss) (Q : wrQ9 (lB9 sa TL b o u σ J) κ u k as P) (hP : ∀ κ', P κ' → (∃ ρ', chI9 ρ' κ' a Lx') ∧ ∃ F, zF F κ κ') : ∃ n z v, drunC (dEE sa TL) dXX (dKK.2.2 100) k.2 b n 15 k.1 0 (dent as) [] (zH (lB9 sa TL b o u σ J) κ) 0 0 = some z ∧ z.1 = some (.int v) ∧ (∃ w, dwN z.2.1 w) ∧ ∀ w, dwN z.2.1 w → ∃ κ' J', P κ' ∧ (some w, z.2.1.2) = zH (lB9 sa TL b o u σ J') (stn9 κ' w) ∧ lS9 sa TL b a o u Lx' (t + 1) (stn9 κ' w) σ J' (cs + z.2.2.1) (ss + z.2.2.2) := by
  obtain ⟨W, T, _, O, ⟨R1, R2⟩, ⟨⟨p1, p2, p3⟩, pz⟩, e0, he, hc, hs⟩ := S
  obtain ⟨v, κ', C', q, x, y, n, e, r1, r2, ⟨r3, r4, r5⟩, r6, r7, r8, r9⟩ := Q
  obtain ⟨⟨ρ', I'⟩, F, Z⟩ := hP κ' r9
  obtain ⟨J', hC⟩ : ∃ J', C' = lB9 sa TL b o u σ J' := by
    rcases r6 with z | ⟨J', z⟩
    · exact ⟨J, z⟩
    · exact ⟨J', z.trans cO_b9⟩
  subst hC
  have W1 : zW (lB9 sa TL b o u σ J') b κ' := zW_b9 p1 p2 (r7.lo (Nat.le_refl _) (Nat.le_trans r7.1.2.1 r7.1.2.2))
  have T1 : zT κ' a = 15 := Z.t T (by decide)
  have z1 : ∀ x, (x = u ∨ (o ≤ x ∧ x ≤ o + 75)) → zT κ' x = 0 ∧ x < zn κ' := fun x hx => ⟨Z.2.2.2.1.1.2 x (pz x hx).2 (pz x hx).1, Nat.lt_of_lt_of_le (pz x hx).2 Z.2.2.2.2.2.2⟩
  have ltz : ∀ x, zT κ' x ≠ 0 → x < zn κ' := fun x h => (W1.2.1 x h).2
  refine ⟨n, _, v, r1, rfl, ⟨zn κ', ?_, fun x c hx => ?_⟩, fun w hw => ⟨κ', J', r9, rfl, ?_⟩⟩
  · intro q' hq
    rcases r2 with z | z
    · rw [z] at hq; cases hq
    · rw [z] at hq; exact (Option.some.inj hq).symm
  · by_cases h0 : zT κ' x = 0
    · have hx' : (if zT κ' x = 0 then (if x = u then some (outC9 J') else (rH (none, fun _ => none) o (ad9 o) σ).2 x) else some (zCell κ' x)) = some c := hx
      rw [if_pos h0] at hx'
      by_cases e1 : x = u
      · exact (z1 x (Or.inl e1)).2
      · rw [if_neg e1] at hx'
        exact (z1 x (Or.inr (rH_n9 hx'))).2
    · exact ltz x h0
  · have kn : ∀ x c, (if zT κ' x = 0 then (if x = u then some (outC9 J') else (rH (none, fun _ => none) o (ad9 o) σ).2 x) else some (zCell κ' x)) = some c → x < w := fun x c h => hw.2 x c h
    have h2 : ∀ x, zT κ' x ≠ 0 → x < w := fun x h => kn x (zCell κ' x) (if_neg h)
    have aw : b ≤ w := by
      have q1 := h2 a (by rw [T1]; decide)
      have q2 := (W1.2.1 a (by rw [T1]; decide)).1.1
      have q3 : b ≤ a := q2
      omega
    refine ⟨stn_W9 h2 aw W1, T1, ⟨ρ', stn_c9 ltz h2 I'⟩, stn_o9 ltz h2 (oT_z9 W Z O), ⟨?_, ?_⟩, ⟨⟨p1, p2, p3⟩, fun x hx => ⟨(z1 x hx).1, ?_⟩⟩, e0 + e, by omega, ?_, ?_⟩
    · rw [stn_p9 rfl ltz h2]
      have m := Z.2.2.2.1.1.1.1
      show zs κ' ≤ _
      omega
    · rw [stn_p9 rfl ltz h2]
      have m := Z.2.2.2.1.1.1.2
      show 4 * zc κ' ≤ _
      omega
    · show x < w
      rcases hx with e1 | e1
      · exact kn x (outC9 J') (by rw [if_pos (z1 x (Or.inl e1)).1, if_pos e1])
      · obtain ⟨c, hc9⟩ := rH_k9 (σ := σ) e1.1 e1.2
        refine kn x c ?_
        rw [if_pos (z1 x (Or.inr e1)).1, if_neg (by omega)]
        exact hc9
    · show cs + x = zc κ' + (e0 + e) + 77
      omega
    · show ss + y = zs κ' + 6 * (e0 + e) + 3196536
      omega
/-- where the reference's contracts speak -/
def rD9 (sa : Nat → Nat) (TL : List (Nat × Nat × List Int32)) (b o u : Nat) (κ : zS) (σ : rS) (J : Nat → Int64) : rCx := (sa, TL, b, zH (lB9 sa TL b o u σ J) κ, o, ad9 o)
theorem rD_h9 (S : lS9 sa TL b a o u Lx t κ σ J cs ss) (σ' : rS) : cH (rD9 sa TL b o u κ σ J) σ' = zH (lB9 sa TL b o u σ' J) κ := by
  obtain ⟨_, _, _, _, _, ⟨⟨p1, p2, p3⟩, pz⟩, _⟩ := S
  exact rz_9 (fun x h1 h2 => ⟨(pz x (Or.inr ⟨h1, h2⟩)).1, by omega⟩)
theorem rD_c9 (S : lS9 sa TL b a o u Lx t κ σ J cs ss) : cOK (rD9 sa TL b o u κ σ J) := ra_9 S.2.2.2.2.2.1.1.1
/-- a call of the reference -/
theorem lr_9 {σ' : rS} (S : lS9 sa TL b a o u Lx t κ σ J cs ss) : lS9 sa TL b a o u Lx t κ σ' J (cs + 0) (ss + 0) := by
  obtain ⟨W, s2, s3, s4, s5, ⟨⟨p1, p2, p3⟩, pz⟩, s7⟩ := S
  exact ⟨zW_b9 p1 p2 W, s2, s3, s4, s5, ⟨⟨p1, p2, p3⟩, pz⟩, s7⟩
theorem lS_m9 {t' : Nat} (hL : Lx ≤ Lx') (ht : t ≤ t') (S : lS9 sa TL b a o u Lx t κ σ J cs ss) : lS9 sa TL b a o u Lx' t' κ σ J cs ss := by
  obtain ⟨s1, s2, ⟨ρ, i1, i2, i3, i4, i5, i6, i7, i8⟩, s4, s5, s6, e, he, s8⟩ := S
  exact ⟨s1, s2, ⟨ρ, i1, i2, i3, i4, i5, i6, Int.le_trans i7 hL, i8⟩, s4, s5, s6, e, by omega, s8⟩
/-- the room, at the end -/
theorem lS_r9 (S : lS9 sa TL b a o u Lx t κ σ J cs ss) (ht : t ≤ 512) : cs ≤ 601024 ∧ ss ≤ 7293034 := by
  obtain ⟨W, T, ⟨ρ, I⟩, O, ⟨R1, R2⟩, _, e, he, hc, hs⟩ := S
  have q1 := pot_S9 W T I O
  have q2 := pot_C9 W T I O
  exact ⟨by omega, by omega⟩
end LS
