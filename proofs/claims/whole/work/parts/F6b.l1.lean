set_option maxHeartbeats 1600000
/-! a call of the class in the law, with what comes out of it -/
section LS
variable {sa : Nat → Nat} {TL : List (Nat × Nat × List Int32)} {b a o u t cs ss : Nat} {Lx Lx' : Int} {κ : zS} {σ : rS} {J : Nat → Int64}
/-- a call of the class, its throws caught -/
theorem lcp_9 {k : dM × dHH} {as : List Value} {P : Int32 → zC → zS → Prop} (S : lS9 sa TL b a o u Lx t κ σ J cs ss) (Q : wrP9 (lB9 sa TL b o u σ J) κ u k as P) (hP : ∀ v C' κ', P v C' κ' → (∃ ρ', chI9 ρ' κ' a Lx') ∧ ∃ F, zF F κ κ') : ∃ n z v, drunC (dEE sa TL) dXX (dKK.2.2 100) k.2 b n 15 k.1 0 (dent as) [] (zH (lB9 sa TL b o u σ J) κ) 0 0 = some z ∧ z.1 = some (.int v) ∧ (∃ w, dwN z.2.1 w) ∧ ∀ w, dwN z.2.1 w → ∃ κ' J', P v (lB9 sa TL b o u σ J') κ' ∧ (some w, z.2.1.2) = zH (lB9 sa TL b o u σ J') (stn9 κ' w) ∧ lS9 sa TL b a o u Lx' (t + 1) (stn9 κ' w) σ J' (cs + z.2.2.1) (ss + z.2.2.2) := by
  obtain ⟨W, T, _, O, ⟨R1, R2⟩, ⟨⟨p1, p2, p3⟩, pz⟩, e0, he, hc, hs⟩ := S
  obtain ⟨v, κ', C', q, x, y, n, e, r1, r2, ⟨r3, r4, r5⟩, r6, r7, r8, r9⟩ := Q
  obtain ⟨⟨ρ', I'⟩, F, Z⟩ := hP v C' κ' r9
  obtain ⟨J', hC⟩ : ∃ J', C' = lB9 sa TL b o u σ J' := by
    rcases r6 with z | ⟨J', z⟩
    · exact ⟨J, z⟩
    · exact ⟨J', z.trans cO_b9⟩
  subst hC
  have W1 : zW (lB9 sa TL b o u σ J') b κ' := zW_b9 p1 p2 (r7.lo (Nat.le_refl _) (Nat.le_trans r7.1.2.1 r7.1.2.2))
  have T1 : zT κ' a = 15 := Z.t T (by decide)
  have z1 : ∀ x, (x = u ∨ (o ≤ x ∧ x ≤ o + 75)) → zT κ' x = 0 ∧ x < zn κ' := fun x hx => ⟨Z.2.2.2.1.1.2 x (pz x hx).2 (pz x hx).1, Nat.lt_of_lt_of_le (pz x hx).2 Z.2.2.2.2.2.2⟩
  have ltz : ∀ x, zT κ' x ≠ 0 → x < zn κ' := fun x h => (W1.2.1 x h).2
  refine ⟨n, _, v, r1, rfl, ⟨zn κ', ?_, fun x c hx => ?_⟩, fun w hw => ⟨κ', J', r9, rfl, ?_⟩⟩
  · intro q' hq
    rcases r2 with z | z
    · rw [z] at hq; cases hq
    · rw [z] at hq; exact (Option.some.inj hq).symm
  · by_cases h0 : zT κ' x = 0
    · have hx' : (if zT κ' x = 0 then (if x = u then some (outC9 J') else (rH (none, fun _ => none) o (ad9 o) σ).2 x) else some (zCell κ' x)) = some c := hx
      rw [if_pos h0] at hx'
      by_cases e1 : x = u
      · exact (z1 x (Or.inl e1)).2
      · rw [if_neg e1] at hx'
        exact (z1 x (Or.inr (rH_n9 hx'))).2
    · exact ltz x h0
  · have kn : ∀ x c, (if zT κ' x = 0 then (if x = u then some (outC9 J') else (rH (none, fun _ => none) o (ad9 o) σ).2 x) else some (zCell κ' x)) = some c → x < w := fun x c h => hw.2 x c h
    have h2 : ∀ x, zT κ' x ≠ 0 → x < w := fun x h => kn x (zCell κ' x) (if_neg h)
    have aw : b ≤ w := by
      have q1 := h2 a (by rw [T1]; decide)
      have q2 := (W1.2.1 a (by rw [T1]; decide)).1.1
      have q3 : b ≤ a := q2
      omega
    refine ⟨stn_W9 h2 aw W1, T1, ⟨ρ', stn_c9 ltz h2 I'⟩, stn_o9 ltz h2 (oT_z9 W Z O), ⟨?_, ?_⟩, ⟨⟨p1, p2, p3⟩, fun x hx => ⟨(z1 x hx).1, ?_⟩⟩, e0 + e, by omega, ?_, ?_⟩
    · rw [stn_p9 rfl ltz h2]
      have m := Z.2.2.2.1.1.1.1
      show zs κ' ≤ _
      omega
    · rw [stn_p9 rfl ltz h2]
      have m := Z.2.2.2.1.1.1.2
      show 4 * zc κ' ≤ _
      omega
    · show x < w
      rcases hx with e1 | e1
      · exact kn x (outC9 J') (by rw [if_pos (z1 x (Or.inl e1)).1, if_pos e1])
      · obtain ⟨c, hc9⟩ := rH_k9 (σ := σ) e1.1 e1.2
        refine kn x c ?_
        rw [if_pos (z1 x (Or.inr e1)).1, if_neg (by omega)]
        exact hc9
    · show cs + x = zc κ' + (e0 + e) + 77
      omega
    · show ss + y = zs κ' + 6 * (e0 + e) + 3196536
      omega
/-- the row is what it is -/
theorem oC_9 {J1 J2 : Nat → Int64} (h : some (outC9 J1) = some (outC9 J2)) : J1 = J2 := congrArg (fun z : Option dC => match z with | some (.inl (_, _, .inr (.inl J))) => J | _ => fun _ => 0) h
end LS
theorem ds_9 {lo : dL0} {k j : Nat} {v x : Value} (hj : j ≠ k) (hx : lo j = some x) (hc : x.category = 1) : dset1 lo k v j = some x := by
  unfold dset1
  rw [if_neg hj, hx]
  dsimp only
  rw [if_neg (fun z => by rw [hc] at z; exact absurd z.2 (by decide))]
theorem ic_e9 {pc nl t : Nat} {off : Int} {lo : dL0} {v : Int32} {st : List Value} (ht : dto pc off = some t) : dpure (.if_icmp .eq off) 3 pc nl lo (.int v :: .int v :: st) = some (t, lo, st) := by
  show dif 3 pc lo st off (dcnd .eq v v) = _
  have c : dcnd .eq v v = true := by simp [dcnd]
  unfold dif
  rw [c, if_pos rfl, ht]
  rfl
theorem in_09 {pc nl t : Nat} {off : Int} {lo : dL0} {st : List Value} (ht : dto pc off = some t) : dpure (.ifCond .ne off) 3 pc nl lo (.int 0 :: st) = some (pc + 3, lo, st) := by
  show dif 3 pc lo st off (dcnd .ne 0 0) = _
  have c : dcnd .ne 0 0 = false := by decide
  unfold dif
  rw [c, if_pos rfl, ht]
  rfl
theorem in_19 {pc nl t : Nat} {off : Int} {lo : dL0} {st : List Value} (ht : dto pc off = some t) : dpure (.ifCond .ne off) 3 pc nl lo (.int 1 :: st) = some (t, lo, st) := by
  show dif 3 pc lo st off (dcnd .ne 1 0) = _
  have c : dcnd .ne 1 0 = true := by decide
  unfold dif
  rw [c, if_pos rfl, ht]
  rfl
theorem ie_09 {pc nl t : Nat} {off : Int} {lo : dL0} {st : List Value} (ht : dto pc off = some t) : dpure (.ifCond .eq off) 3 pc nl lo (.int 0 :: st) = some (t, lo, st) := by
  show dif 3 pc lo st off (dcnd .eq 0 0) = _
  have c : dcnd .eq 0 0 = true := by decide
  unfold dif
  rw [c, if_pos rfl, ht]
  rfl
theorem lc_e9 {pc nl : Nat} {lo : dL0} {x y : Int64} {st : List Value} (h : x = y) : dpure .lcmp 1 pc nl lo (.long y :: .long x :: st) = some (pc + 1, lo, .int 0 :: st) := by
  show (if 1 = 1 then some (pc + 1, lo, Value.int (lg_cmp x y) :: st) else none) = _
  rw [if_pos rfl, (lg_cmp_eq x y).mpr h]
theorem lal_9 {E : dE} {b d u cs ss : Nat} {r : dM} {h : dH} {J : Nat → Int64} {st : List Value} (hu : h.2 u = some (outC9 J)) : dheap E b d r .laload 1 (.int 0 :: .ref u :: st) h cs ss = some (.long (J 0) :: st, h, cs, ss) := by
  show daldL 1 (.int 0 :: .ref u :: st) h cs ss = _
  unfold daldL
  dsimp only
  rw [hu]
  exact if_pos ⟨rfl, rfl, by decide⟩
