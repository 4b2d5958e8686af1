set_option maxHeartbeats 1600000
/-! the law's loop -/
/-- what is asked of the reference: its 24 calls -/
def rB9 (RJ : rS → Prop) : Prop := (∀ (y0 : Int32) (y1 : Int32) (y2 : Int32) (y3 : Int32) (y4 : Int32), rcD9 RJ (yX13_feed, cX13_feed, 8, (some .int), false, 16, 5) y0 y1 y2 y3 y4) ∧ (∀ (y0 : Int32), rcE9 RJ (yX13_end, cX13_end, 2, none, false, 16, 1) y0) ∧ (rcP9 RJ (yX13_program, cX13_program, 1, (some .int), false, 16, 0)) ∧ (rcG9 RJ (yX13_fault, cX13_fault, 1, (some .int), false, 16, 0)) ∧ (∀ (y0 : Int32), rcZ9 RJ (yX13_count, cX13_count, 5, (some .int), false, 16, 1) [.int y0] (fun σ σ' v => XK8 y0 σ σ' v)) ∧ (∀ (y0 : Int32), rcX9 RJ (yX13_explore, cX13_explore, 4, (some .int), false, 16, 1) y0) ∧ (∀ (y0 : Int32) (y1 : Int32), rcZ9 RJ (yX13_state, cX13_state, 3, (some .int), false, 16, 2) [.int y0, .int y1] (fun σ σ' v => XT8 y0 y1 σ σ' v)) ∧ (∀ (y0 : Int32) (y1 : Int32) (y2 : Int32), rcZ9 RJ (yX13_value, cX13_value, 5, (some .int), false, 16, 3) [.int y0, .int y1, .int y2] (fun σ σ' v => XV8 y0 y1 y2 σ σ' v)) ∧ (∀ (y0 : Int32) (y1 : Int32) (y2 : Int32), rcZ9 RJ (yX13_next, cX13_next, 5, (some .int), false, 16, 3) [.int y0, .int y1, .int y2] (fun σ σ' v => XN8 y0 y1 y2 σ σ' v)) ∧ (∀ (y0 : Int32) (y1 : Int32), rcZ9 RJ (yX13_ending, cX13_ending, 3, (some .int), false, 16, 2) [.int y0, .int y1] (fun σ σ' v => XE8 y0 y1 σ σ' v)) ∧ (∀ (y0 : Int32) (y1 : Int32), rcU9 RJ (yX13_decide, cX13_decide, 4, (some .int), false, 16, 2) y0 y1) ∧ (∀ (y0 : Int32), rcZ9 RJ (yX13_decided, cX13_decided, 2, (some .int), false, 16, 1) [.int y0] (fun σ σ' v => XG8 y0 σ σ' v)) ∧ (rcB9 RJ (yX13_best, cX13_best, 4, (some .int), false, 16, 0)) ∧ (rcS9 RJ (yX13_solve, cX13_solve, 4, (some .int), false, 16, 0)) ∧ (∀ (y0 : Int32) (y1 : Int32), rcH9 RJ (yX13_show, cX13_show, 3, (some .int), false, 16, 2) y0 y1) ∧ (∀ (y0 : Int32), rcZ9 RJ (yX13_size, cX13_size, 2, (some .int), false, 16, 1) [.int y0] (fun σ σ' v => XZ17 y0 σ σ' v)) ∧ (∀ (y0 : Int32) (y1 : Int32), rcZ9 RJ (yX13_limb, cX13_limb, 5, (some .int), false, 16, 2) [.int y0, .int y1] (fun σ σ' v => XL18 y0 y1 σ σ' v)) ∧ (∀ (y0 : Int32), rcT9 RJ (yX13_tell, cX13_tell, 2, (some .int), false, 16, 1) y0) ∧ (rcF9 RJ (yX13_forget, cX13_forget, 2, (some .int), false, 16, 0) []) ∧ (∀ (y0 : Int64) (y1 : Int32), rcQ9 RJ (yX13_play, cX13_play, 4, (some .int), false, 16, 2) y0 y1) ∧ (∀ (y0 : Int32), rcR9 RJ (yX13_walk, cX13_walk, 2, (some .int), false, 16, 1) y0) ∧ (∀ (y0 : Int32), rcZJ9 RJ (yX13_played, cX13_played, 2, (some .long), false, 16, 1) [.int y0] (fun σ σ' v => XQ23 y0 σ σ' v)) ∧ (∀ (y0 : Int32) (y1 : Int32), rcZ9 RJ (yX13_independent, cX13_independent, 3, (some .boolean), false, 16, 2) [.int y0, .int y1] (fun σ σ' v => XIA24 y0 y1 σ σ' v)) ∧ (∀ (y0 : Int32) (y1 : Int32) (y2 : Int32), rcZ9 RJ (yX13_given, cX13_given, 7, (some .boolean), false, 16, 3) [.int y0, .int y1, .int y2] (fun σ σ' v => XGA24 y0 y1 y2 σ σ' v)) ∧ (rcW9 (yX13_thrown, cX13_thrown, 1, (some .int), false, 16, 0))
section LL
variable {sa : Nat → Nat} {TL : List (Nat × Nat × List Int32)} {b a o u scr L : Nat} {xs : Nat → Int32} {RJ : rS → Prop}
theorem lsw_9 {t cs ss n : Nat} {Lx : Int} {κ : zS} {σ : rS} {J : Nat → Int64} {lo : dL0} {i x : Int32} (hX : tx5 (c59 sa TL b)) (RJ2 : ∀ σ, RJ σ → 0 ≤ σ.1 2 ∧ σ.1 2 ≤ 65536) (RJ3 : ∀ σ, RJ σ → pb16 σ) (RB : rB9 RJ) (hx : 0 ≤ x.toInt ∧ x.toInt ≤ 31) (hl : lO9 scr a o u i lo) (hi : 0 ≤ i.toInt ∧ i.toInt + 6 ≤ L ∧ L ≤ 3072) (hLx : 0 ≤ Lx ∧ Lx ≤ 10220) (S : lS9 sa TL b a o u Lx t κ σ J cs ss) (hR : RJ σ) (ht : RC8 κ a σ) (N : nx9 sa TL b a o u scr L xs RJ Lx t n i) : dV9 (dEE sa TL) dXX dKK b scr L xs lawP9 (n + 150) 16 rLaw 40 lo [.int x] (zH (lB9 sa TL b o u σ J) κ) cs ss := by
  have key : x.toInt = 0 ∨ x.toInt = 1 ∨ x.toInt = 2 ∨ x.toInt = 3 ∨ x.toInt = 4 ∨ x.toInt = 5 ∨ x.toInt = 6 ∨ x.toInt = 7 ∨ x.toInt = 8 ∨ x.toInt = 9 ∨ x.toInt = 10 ∨ x.toInt = 11 ∨ x.toInt = 12 ∨ x.toInt = 13 ∨ x.toInt = 14 ∨ x.toInt = 15 ∨ x.toInt = 16 ∨ x.toInt = 17 ∨ x.toInt = 18 ∨ x.toInt = 19 ∨ x.toInt = 20 ∨ x.toInt = 21 ∨ x.toInt = 22 ∨ x.toInt = 23 ∨ 23 < x.toInt := by omega
  rcases key with e | e | e | e | e | e | e | e | e | e | e | e | e | e | e | e | e | e | e | e | e | e | e | e | e
  · have ex : x = 0 := Int32.toInt.inj (by rw [e]; rfl)
    subst ex
    refine dV_l9 (n := n + 71 + 1) (by omega) (lwP_9 (pc' := 152) (lo' := lo) (st' := []) dlw_40 rfl rfl ?_)
    exact ls_feed9 RB.1 RB.2.2.2.2.2.2.2.2.2.2.2.2.2.2.2.2.2.2.2.2.2.2.2.2 hl hi (by omega) S hR ht N
  · have ex : x = 1 := Int32.toInt.inj (by rw [e]; rfl)
    subst ex
    refine dV_l9 (n := n + 20 + 1) (by omega) (lwP_9 (pc' := 256) (lo' := lo) (st' := []) dlw_40 rfl rfl ?_)
    exact ls_end9 RB.2.1 RB.2.2.2.2.2.2.2.2.2.2.2.2.2.2.2.2.2.2.2.2.2.2.2.2 hl hi S hR ht N
  · have ex : x = 2 := Int32.toInt.inj (by rw [e]; rfl)
    subst ex
    refine dV_l9 (n := n + 5 + 1) (by omega) (lwP_9 (pc' := 292) (lo' := lo) (st' := []) dlw_40 rfl rfl ?_)
    exact ls_program9 hX RJ2 RB.2.2.1 hl hLx.1 (by omega) S hR ht N
  · have ex : x = 3 := Int32.toInt.inj (by rw [e]; rfl)
    subst ex
    refine dV_l9 (n := n + 5 + 1) (by omega) (lwP_9 (pc' := 305) (lo' := lo) (st' := []) dlw_40 rfl rfl ?_)
    exact ls_fault9 RB.2.2.2.1 hl S hR ht N
  · have ex : x = 4 := Int32.toInt.inj (by rw [e]; rfl)
    subst ex
    refine dV_l9 (n := n + 31 + 1) (by omega) (lwP_9 (pc' := 318) (lo' := lo) (st' := []) dlw_40 rfl rfl ?_)
    exact ls_count9 RB.2.2.2.2.1 RB.2.2.2.2.2.2.2.2.2.2.2.2.2.2.2.2.2.2.2.2.2.2.2.2 hl hi S hR ht N
  · have ex : x = 5 := Int32.toInt.inj (by rw [e]; rfl)
    subst ex
    refine dV_l9 (n := n + 31 + 1) (by omega) (lwP_9 (pc' := 374) (lo' := lo) (st' := []) dlw_40 rfl rfl ?_)
    exact ls_explore9 RB.2.2.2.2.2.1 RB.2.2.2.2.2.2.2.2.2.2.2.2.2.2.2.2.2.2.2.2.2.2.2.2 hl hi S hR ht N
  · have ex : x = 6 := Int32.toInt.inj (by rw [e]; rfl)
    subst ex
    refine dV_l9 (n := n + 41 + 1) (by omega) (lwP_9 (pc' := 430) (lo' := lo) (st' := []) dlw_40 rfl rfl ?_)
    exact ls_state9 RB.2.2.2.2.2.2.1 RB.2.2.2.2.2.2.2.2.2.2.2.2.2.2.2.2.2.2.2.2.2.2.2.2 hl hi S hR ht N
  · have ex : x = 7 := Int32.toInt.inj (by rw [e]; rfl)
    subst ex
    refine dV_l9 (n := n + 51 + 1) (by omega) (lwP_9 (pc' := 498) (lo' := lo) (st' := []) dlw_40 rfl rfl ?_)
    exact ls_value9 RB.2.2.2.2.2.2.2.1 RB.2.2.2.2.2.2.2.2.2.2.2.2.2.2.2.2.2.2.2.2.2.2.2.2 hl hi S hR ht N
  · have ex : x = 8 := Int32.toInt.inj (by rw [e]; rfl)
    subst ex
    refine dV_l9 (n := n + 51 + 1) (by omega) (lwP_9 (pc' := 578) (lo' := lo) (st' := []) dlw_40 rfl rfl ?_)
    exact ls_next9 RB.2.2.2.2.2.2.2.2.1 RB.2.2.2.2.2.2.2.2.2.2.2.2.2.2.2.2.2.2.2.2.2.2.2.2 hl hi S hR ht N
  · have ex : x = 9 := Int32.toInt.inj (by rw [e]; rfl)
    subst ex
    refine dV_l9 (n := n + 41 + 1) (by omega) (lwP_9 (pc' := 658) (lo' := lo) (st' := []) dlw_40 rfl rfl ?_)
    exact ls_ending9 RB.2.2.2.2.2.2.2.2.2.1 RB.2.2.2.2.2.2.2.2.2.2.2.2.2.2.2.2.2.2.2.2.2.2.2.2 hl hi S hR ht N
  · have ex : x = 10 := Int32.toInt.inj (by rw [e]; rfl)
    subst ex
    refine dV_l9 (n := n + 41 + 1) (by omega) (lwP_9 (pc' := 726) (lo' := lo) (st' := []) dlw_40 rfl rfl ?_)
    exact ls_decide9 RB.2.2.2.2.2.2.2.2.2.2.1 RB.2.2.2.2.2.2.2.2.2.2.2.2.2.2.2.2.2.2.2.2.2.2.2.2 hl hi S hR ht N
  · have ex : x = 11 := Int32.toInt.inj (by rw [e]; rfl)
    subst ex
    refine dV_l9 (n := n + 31 + 1) (by omega) (lwP_9 (pc' := 794) (lo' := lo) (st' := []) dlw_40 rfl rfl ?_)
    exact ls_decided9 RB.2.2.2.2.2.2.2.2.2.2.2.1 RB.2.2.2.2.2.2.2.2.2.2.2.2.2.2.2.2.2.2.2.2.2.2.2.2 hl hi S hR ht N
  · have ex : x = 12 := Int32.toInt.inj (by rw [e]; rfl)
    subst ex
    refine dV_l9 (n := n + 21 + 1) (by omega) (lwP_9 (pc' := 850) (lo' := lo) (st' := []) dlw_40 rfl rfl ?_)
    exact ls_best9 RB.2.2.2.2.2.2.2.2.2.2.2.2.1 RB.2.2.2.2.2.2.2.2.2.2.2.2.2.2.2.2.2.2.2.2.2.2.2.2 hl hi S hR ht N
  · have ex : x = 13 := Int32.toInt.inj (by rw [e]; rfl)
    subst ex
    refine dV_l9 (n := n + 21 + 1) (by omega) (lwP_9 (pc' := 894) (lo' := lo) (st' := []) dlw_40 rfl rfl ?_)
    exact ls_solve9 RJ3 RB.2.2.2.2.2.2.2.2.2.2.2.2.2.1 RB.2.2.2.2.2.2.2.2.2.2.2.2.2.2.2.2.2.2.2.2.2.2.2.2 hl hi S hR ht N
  · have ex : x = 14 := Int32.toInt.inj (by rw [e]; rfl)
    subst ex
    refine dV_l9 (n := n + 41 + 1) (by omega) (lwP_9 (pc' := 938) (lo' := lo) (st' := []) dlw_40 rfl rfl ?_)
    exact ls_show9 RJ3 RB.2.2.2.2.2.2.2.2.2.2.2.2.2.2.1 RB.2.2.2.2.2.2.2.2.2.2.2.2.2.2.2.2.2.2.2.2.2.2.2.2 hl hi S hR ht N
  · have ex : x = 15 := Int32.toInt.inj (by rw [e]; rfl)
    subst ex
    refine dV_l9 (n := n + 31 + 1) (by omega) (lwP_9 (pc' := 1006) (lo' := lo) (st' := []) dlw_40 rfl rfl ?_)
    exact ls_size9 RB.2.2.2.2.2.2.2.2.2.2.2.2.2.2.2.1 RB.2.2.2.2.2.2.2.2.2.2.2.2.2.2.2.2.2.2.2.2.2.2.2.2 hl hi S hR ht N
  · have ex : x = 16 := Int32.toInt.inj (by rw [e]; rfl)
    subst ex
    refine dV_l9 (n := n + 41 + 1) (by omega) (lwP_9 (pc' := 1062) (lo' := lo) (st' := []) dlw_40 rfl rfl ?_)
    exact ls_limb9 RB.2.2.2.2.2.2.2.2.2.2.2.2.2.2.2.2.1 RB.2.2.2.2.2.2.2.2.2.2.2.2.2.2.2.2.2.2.2.2.2.2.2.2 hl hi S hR ht N
  · have ex : x = 17 := Int32.toInt.inj (by rw [e]; rfl)
    subst ex
    refine dV_l9 (n := n + 31 + 1) (by omega) (lwP_9 (pc' := 1130) (lo' := lo) (st' := []) dlw_40 rfl rfl ?_)
    exact ls_tell9 RB.2.2.2.2.2.2.2.2.2.2.2.2.2.2.2.2.2.1 RB.2.2.2.2.2.2.2.2.2.2.2.2.2.2.2.2.2.2.2.2.2.2.2.2 hl hi S hR ht N
  · have ex : x = 18 := Int32.toInt.inj (by rw [e]; rfl)
    subst ex
    refine dV_l9 (n := n + 5 + 1) (by omega) (lwP_9 (pc' := 1186) (lo' := lo) (st' := []) dlw_40 rfl rfl ?_)
    exact ls_forget9 RB.2.2.2.2.2.2.2.2.2.2.2.2.2.2.2.2.2.2.1 hl S hR ht N
  · have ex : x = 19 := Int32.toInt.inj (by rw [e]; rfl)
    subst ex
    refine dV_l9 (n := n + 65 + 1) (by omega) (lwP_9 (pc' := 1199) (lo' := lo) (st' := []) dlw_40 rfl rfl ?_)
    exact ls_play9 RJ3 RB.2.2.2.2.2.2.2.2.2.2.2.2.2.2.2.2.2.2.2.1 RB.2.2.2.2.2.2.2.2.2.2.2.2.2.2.2.2.2.2.2.2.2.2.2.2 hl hi S hR ht N
  · have ex : x = 20 := Int32.toInt.inj (by rw [e]; rfl)
    subst ex
    refine dV_l9 (n := n + 31 + 1) (by omega) (lwP_9 (pc' := 1299) (lo' := lo) (st' := []) dlw_40 rfl rfl ?_)
    exact ls_walk9 RJ3 RB.2.2.2.2.2.2.2.2.2.2.2.2.2.2.2.2.2.2.2.2.1 RB.2.2.2.2.2.2.2.2.2.2.2.2.2.2.2.2.2.2.2.2.2.2.2.2 hl hi S hR ht N
  · have ex : x = 21 := Int32.toInt.inj (by rw [e]; rfl)
    subst ex
    refine dV_l9 (n := n + 30 + 1) (by omega) (lwP_9 (pc' := 1355) (lo' := lo) (st' := []) dlw_40 rfl rfl ?_)
    exact ls_played9 RB.2.2.2.2.2.2.2.2.2.2.2.2.2.2.2.2.2.2.2.2.2.1 RB.2.2.2.2.2.2.2.2.2.2.2.2.2.2.2.2.2.2.2.2.2.2.2.2 hl hi S hR ht N
  · have ex : x = 22 := Int32.toInt.inj (by rw [e]; rfl)
    subst ex
    refine dV_l9 (n := n + 43 + 1) (by omega) (lwP_9 (pc' := 1410) (lo' := lo) (st' := []) dlw_40 rfl rfl ?_)
    exact ls_independent9 RJ3 RB.2.2.2.2.2.2.2.2.2.2.2.2.2.2.2.2.2.2.2.2.2.2.1 RB.2.2.2.2.2.2.2.2.2.2.2.2.2.2.2.2.2.2.2.2.2.2.2.2 hl hi S hR ht N
  · have ex : x = 23 := Int32.toInt.inj (by rw [e]; rfl)
    subst ex
    refine dV_l9 (n := n + 53 + 1) (by omega) (lwP_9 (pc' := 1485) (lo' := lo) (st' := []) dlw_40 rfl rfl ?_)
    exact ls_given9 RJ3 RB.2.2.2.2.2.2.2.2.2.2.2.2.2.2.2.2.2.2.2.2.2.2.2.1 RB.2.2.2.2.2.2.2.2.2.2.2.2.2.2.2.2.2.2.2.2.2.2.2.2 hl hi S hR ht N
  · refine dV_l9 (n := n + 1) (by omega) (lwP_9 (pc' := 1572) (lo' := lo) (st' := []) dlw_40 rfl ?_ ?_)
    · show dsw 40 lo [] 1532 0 23 _ x = _
      unfold dsw
      rw [if_pos (Or.inr e)]
      rfl
    · exact N _ _ _ _ _ _ hl (lS_m9 (by omega) (Nat.le_succ _) S) hR ht
theorem lO_49 {i i' : Int32} {lo : dL0} (h : lO9 scr a o u i lo) : lO9 scr a o u i' (dset1 lo 4 (.int i')) := by
  obtain ⟨h0, h1, h2, h3, h4⟩ := h
  have e : ∀ j x, j < 4 → lo j = some x → x.category = 1 → dset1 lo 4 (.int i') j = some x := fun j x hj hx hcat => by
    unfold dset1
    rw [if_neg (by omega), hx]
    dsimp only
    rw [if_neg (fun z => by rw [hcat] at z; exact absurd z.2 (by decide))]
  exact ⟨e 0 _ (by decide) h0 rfl, e 1 _ (by decide) h1 rfl, e 2 _ (by decide) h2 rfl, e 3 _ (by decide) h3 rfl, if_pos rfl⟩
theorem inc_9 {lo : dL0} {i : Int32} (h : lo 4 = some (.int i)) : dpure (.iinc 4 6) 3 1572 8 lo [] = some (1575, dset1 lo 4 (.int (i + 6)), []) := by
  show dinc 3 1572 8 4 6 lo [] = _
  unfold dinc
  rw [h]
  rfl
theorem ofL_9 {L : Nat} (h : L ≤ 3072) : (Int32.ofNat L).toInt = L := by
  have e : (Int32.ofNat L).toInt = (Int32.ofInt (L : Int)).toInt := by rw [Int32.ofInt_eq_ofNat]
  rw [e, Int32.toInt_ofInt_of_le (by omega) (by omega)]
/-- the loop's head -/
theorem lhead_9 {n cs ss : Nat} {h : dH} {lo : dL0} {i : Int32} (hL : L ≤ 3072) (hl : lO9 scr a o u i lo) (hg : (L : Int) - 6 < i.toInt ∨ i.toInt + 6 ≤ L) (hi : 0 ≤ i.toInt) (K1 : (L : Int) - 6 < i.toInt → dV9 (dEE sa TL) dXX dKK b scr L xs lawP9 n 16 rLaw 1578 lo [] h cs ss) (K2 : i.toInt + 6 ≤ L → dV9 (dEE sa TL) dXX dKK b scr L xs lawP9 n 16 rLaw 33 lo [] h cs ss) : dV9 (dEE sa TL) dXX dKK b scr L xs lawP9 (n + 6) 16 rLaw 23 lo [] h cs ss := by
  have eL := ofL_9 hL
  have e6 : (Int32.ofNat L - 6).toInt = (Int32.ofNat L).toInt - 6 := sub_i (show -2147483648 ≤ (Int32.ofNat L).toInt - 6 by omega) (show (Int32.ofNat L).toInt - 6 < 2147483648 by omega)
  refine lwP_9 (pc' := 25) dlw_23 rfl (ldi_9 hl.2.2.2.2) ?_
  refine lwP_9 (pc' := 26) dlw_25 rfl (lda_9 (k := 0) hl.1) ?_
  refine lw_s9 (pc' := 27) (st' := [.int (Int32.ofNat L), .int i]) dlw_26 rfl (if_pos ⟨rfl, rfl⟩) ?_
  refine lwP_9 (pc' := 29) (lo' := lo) (st' := [.int 6, .int (Int32.ofNat L), .int i]) dlw_27 rfl (congrArg (fun v => some (29, lo, [Value.int v, Value.int (Int32.ofNat L), Value.int i])) (by decide : (Int8.ofInt 6).toInt32 = (6 : Int32))) ?_
  refine lwP_9 (pc' := 30) (lo' := lo) (st' := [.int (Int32.ofNat L - 6), .int i]) dlw_29 rfl rfl ?_
  by_cases g : (L : Int) - 6 < i.toInt
  · refine lwP_9 (pc' := 1578) (lo' := lo) (st' := []) dlw_30 rfl ?_ (K1 g)
    show dif 3 30 lo [] 1548 (decide (Int32.ofNat L - 6 < i)) = _
    have c : decide (Int32.ofNat L - 6 < i) = true := decide_eq_true (by rw [lti]; omega)
    rw [c]
    rfl
  · refine lwP_9 (pc' := 33) (lo' := lo) (st' := []) dlw_30 rfl ?_ (K2 (by omega))
    show dif 3 30 lo [] 1548 (decide (Int32.ofNat L - 6 < i)) = _
    have c : decide (Int32.ofNat L - 6 < i) = false := decide_eq_false (by rw [lti]; omega)
    rw [c]
    rfl
theorem lend_9 {n t cs ss : Nat} {Lx : Int} {κ : zS} {σ : rS} {J : Nat → Int64} {h : dH} {lo : dL0} (S : lS9 sa TL b a o u Lx t κ σ J cs ss) (ht : t ≤ 512) : dV9 (dEE sa TL) dXX dKK b scr L xs lawP9 (n + 2) 16 rLaw 1578 lo [] h cs ss := by
  refine lwP_9 (pc' := 1579) (lo' := lo) (st' := [.int 1]) dlw_1578 rfl rfl ?_
  have r := lS_r9 S ht
  exact lw_t9 (v := some (.int 1)) dlw_1579 rfl rfl rfl rfl ⟨rfl, r.1, r.2⟩
theorem lloop_9 (hX : tx5 (c59 sa TL b)) (RJ2 : ∀ σ, RJ σ → 0 ≤ σ.1 2 ∧ σ.1 2 ≤ 65536) (RJ3 : ∀ σ, RJ σ → pb16 σ) (RB : rB9 RJ) (hL : L ≤ 3072) : ∀ (m t : Nat) (Lx : Int) (lo : dL0) (κ : zS) (σ : rS) (J : Nat → Int64) (cs ss : Nat) (i : Int32), t + m = 512 → i.toInt = 6 * (t : Int) → Lx = 20 * (t : Int) → lO9 scr a o u i lo → lS9 sa TL b a o u Lx t κ σ J cs ss → RJ σ → RC8 κ a σ → dV9 (dEE sa TL) dXX dKK b scr L xs lawP9 (200 * m + 20) 16 rLaw 23 lo [] (zH (lB9 sa TL b o u σ J) κ) cs ss := by
  intro m
  induction m with
  | zero =>
    intro t Lx lo κ σ J cs ss i h1 h2 h3 hl S hR ht
    refine dV_l9 (n := 2 + 6) (by omega) (lhead_9 hL hl (Or.inl (by omega)) (by omega) (fun _ => ?_) (fun z => ?_))
    · exact lend_9 S (by omega)
    · omega
  | succ m ih =>
    intro t Lx lo κ σ J cs ss i h1 h2 h3 hl S hR ht
    by_cases g : (L : Int) - 6 < i.toInt
    · refine dV_l9 (n := 2 + 6) (by omega) (lhead_9 hL hl (Or.inl g) (by omega) (fun _ => ?_) (fun z => ?_))
      · exact lend_9 S (by omega)
      · omega
    · refine dV_l9 (n := (200 * m + 22 + 150 + 5) + 6) (by omega) (lhead_9 hL hl (Or.inr (by omega)) (by omega) (fun z => ?_) (fun _ => ?_))
      · omega
      · refine lwP_9 (pc' := 34) dlw_33 rfl (lda_9 (k := 0) hl.1) ?_
        refine lwP_9 (pc' := 36) dlw_34 rfl (ldi_9 hl.2.2.2.2) ?_
        refine lw_s9 (pc' := 37) (st' := [.int (xs i.toNatClampNeg)]) dlw_36 rfl ?_ ?_
        · have c := cnk (x := i) (by omega)
          have hz : ¬ (i < 0 ∨ L ≤ i.toNatClampNeg) := fun z => by
            rcases z with z | z
            · rw [lti, t0i] at z
              omega
            · omega
          exact if_pos ⟨rfl, rfl, hz⟩
        refine lwP_9 (pc' := 39) (lo' := lo) (st' := [.int 31, .int (xs i.toNatClampNeg)]) dlw_37 rfl (congrArg (fun v => some (39, lo, [Value.int v, Value.int (xs i.toNatClampNeg)])) (by decide : (Int8.ofInt 31).toInt32 = (31 : Int32))) ?_
        refine lwP_9 (pc' := 40) (lo' := lo) (st' := [.int (xs i.toNatClampNeg &&& 31)]) dlw_39 rfl rfl ?_
        refine lsw_9 hX RJ2 RJ3 RB (andi_i (x := xs i.toNatClampNeg) (m := 31) (by decide)) hl ⟨by omega, by omega, hL⟩ ⟨by omega, by omega⟩ S hR ht ?_
        intro lo2 κ2 σ2 J2 cs2 ss2 hl2 S2 hR2 ht2
        refine lwP_9 (pc' := 1575) dlw_1572 rfl (inc_9 hl2.2.2.2.2) ?_
        refine lwP_9 (pc' := 23) (lo' := dset1 lo2 4 (.int (i + 6))) (st' := []) dlw_1575 rfl rfl ?_
        have e6 : (i + 6).toInt = i.toInt + 6 := add_i (show -2147483648 ≤ i.toInt + 6 by omega) (show i.toInt + 6 < 2147483648 by omega)
        exact ih (t + 1) (Lx + 20) _ κ2 σ2 J2 cs2 ss2 (i + 6) (by omega) (by omega) (by omega) (lO_49 hl2) S2 hR2 ht2
end LL
