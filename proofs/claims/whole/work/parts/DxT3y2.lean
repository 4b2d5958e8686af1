section
set_option maxHeartbeats 1600000
/-! the class: which states can come to what is no state -/
theorem We_reach_q6 {C : zC} {n0 : Nat} {a0 : Nat} {a1 : Int32} {κ : zS} {Q : zS → Prop} (W : zW C n0 κ) (Ta0 : zT κ a0 = 14) (m9 : Nat) (hG : rq8 (zA κ (zR κ weOpen a0)) (zA κ (zR κ weBackFirsts a0)) (zA κ (zR κ weSources a0)) (zA κ (zR κ weOpen a0)) (zA κ (zR κ weHeap a0)) m9 a1.toInt 0) (hp : (weM κ a0 ∧ weL κ a0) ∧ ((zI κ weTotal a0).toInt = (m9 : Int) ∧ m9 ≤ 1000) ∧ a1.toInt = cBq (zA κ (zR κ weOpen a0)) m9 ∧ (∀ i : Nat, (i : Int) < a1.toInt → 0 ≤ (zA κ (zR κ weHeap a0) i).toInt ∧ (zA κ (zR κ weHeap a0) i).toInt < m9) ∧ ∀ t, t < m9 → (0 ≤ (zA κ (zR κ weBackFirsts a0) t).toInt ∧ (zA κ (zR κ weBackFirsts a0) (t + 1)).toInt ≤ (zN κ (zR κ weTargets a0))) ∧ ∀ b : Nat, (zA κ (zR κ weBackFirsts a0) t).toInt ≤ (b : Int) → (b : Int) < (zA κ (zR κ weBackFirsts a0) (t + 1)).toInt → 0 ≤ (zA κ (zR κ weSources a0) b).toInt ∧ (zA κ (zR κ weSources a0) b).toInt < m9) (h : ∀ (κ' : zS), ((weE κ κ' a0 ∧ rwK κ κ' a0 rcL) ∧ (∀ k, k < m9 → (zA κ' (zR κ weOpen a0) k ≠ 0 ↔ zA κ (zR κ weOpen a0) k ≠ 0 ∨ ∃ t, t < m9 ∧ zA κ (zR κ weOpen a0) t ≠ 0 ∧ Tr (bk8 (zA κ (zR κ weBackFirsts a0)) (zA κ (zR κ weSources a0)) m9) k t))) → Q κ') : zRun C 0 mWe_reach [.ref a0, .int a1] κ (oV Q noX) := by
  refine We_reach_run W Ta0 ?_
  replace W := W.lo (Nat.le_trans W.1.2.1 W.1.2.2) (Nat.le_refl (zn κ))
  unfold w_We_reach_0
  obtain ⟨⟨M, L⟩, ⟨tn, n1⟩, ac, hh, BK⟩ := hp
  have lT := L.2.2
  have lS := L.1.1
  have m2 := M.2.1
  have m3 := M.2.2.1
  have m11 := M.2.2.2.2.2.2.2.2.2.2
  unfold w_We_reach_4
  refine ⟨fun n l0 l2 l3 τ => n = (1000 - l3.toInt).toNat ∧ ((a0 = l0 ∧ 0 ≤ l3.toInt ∧ rcI κ τ a0 m9 l2) ∧ rq8 (zA κ (zR κ weOpen a0)) (zA κ (zR κ weBackFirsts a0)) (zA κ (zR κ weSources a0)) (zA τ (zR κ weOpen a0)) (zA τ (zR κ weHeap a0)) m9 l2.toInt l3.toInt), ⟨_, rfl, ?_⟩, ?_⟩
  · refine and_5 ?_ (fun o9 => hG)  -- j1
    exact ⟨rfl, by decide, weE.rf, fun _ _ _ => rfl, ac, hh⟩
  rintro n4 _ x4_2 x4_3 κ4 W4 T4_0 ⟨hn4, ⟨rfl, i4⟩, hE⟩
  obtain ⟨k4, H4⟩ := i4
  have rs := H4.1.2.1
  have ns := H4.1.2.2.2
  have is := H4.1.2.2.1
  have kn := cnk k4
  refine ⟨fun c1 => ?_, fun c1 => ?_⟩
  · skip
    refine h _ ?_
    · refine and_5 ?_ (fun o9 => rq_e8 hE (lei.mp c1))  -- q2
      exact ⟨H4.1, H4.2.1⟩
  · skip
    refine ⟨fun c2 => ?_, fun c2 => ?_⟩
    · skip
      refine h _ ?_
      · refine and_5 ?_ (fun o9 => ?_)  -- q3
        · exact ⟨H4.1, H4.2.1⟩
        · have z := cBq_le (f := zA κ4 (zR κ weOpen a0)) (n := m9)
          have y := H4.2.2.1
          have x := lei.mp c2
          rw [is] at x
          exact rq_e8 hE (by omega)
    · skip
      rw [lei] at c1 c2
      rw [is] at c2
      refine ⟨?_, ?_⟩
      · rw [rs, ns, inb_iff]; omega  -- b4
      intro x3 hx3
      rw [rs] at hx3
      have hk := H4.2.2.2 x4_3.toNatClampNeg (by omega)
      rw [← hx3] at hk
      refine ⟨?_, ?_⟩
      · rw [rs, ns, inb_iff]; omega  -- b5
      intro x4 hx4
      unfold w_We_reach_34
      refine ⟨fun n l0 l2 l3 l4 l5 τ => n = (20000 - l5.toInt).toNat ∧ ((a0 = l0 ∧ x4_3 = l3 ∧ (0 ≤ l4.toInt ∧ l4.toInt < m9) ∧ (zA κ (zR κ weBackFirsts a0) l4.toNatClampNeg).toInt ≤ l5.toInt ∧ rcI κ τ a0 m9 l2) ∧ (rq8 (zA κ (zR κ weOpen a0)) (zA κ (zR κ weBackFirsts a0)) (zA κ (zR κ weSources a0)) (zA τ (zR κ weOpen a0)) (zA τ (zR κ weHeap a0)) m9 l2.toInt l3.toInt ∧ ri8 (zA κ (zR κ weBackFirsts a0)) (zA κ (zR κ weSources a0)) (zA τ (zR κ weOpen a0)) (zA τ (zR κ weHeap a0)) l2.toInt l3.toInt l4 l5.toInt)), ⟨_, rfl, ?_⟩, ?_⟩
      · refine and_5 ?_ (fun o9 => ?_)  -- j6
        · have bF : zA κ4 (zR κ weBackFirsts a0) = zA κ (zR κ weBackFirsts a0) := H4.2.1 weBackFirsts (by decide) (by decide)
          rw [hx4, rs, bF]
          exact ⟨rfl, rfl, hk, Int.le_refl _, H4⟩
        · have bF : zA κ4 (zR κ weBackFirsts a0) = zA κ (zR κ weBackFirsts a0) := H4.2.1 weBackFirsts (by decide) (by decide)
          refine ⟨hE, ⟨by omega, by omega, ?_⟩, fun i i1 i2 => ?_⟩
          · rw [hx3]
            rfl
          · rw [hx4, rs, bF] at i2
            omega
      rintro n34 _ x34_2 x34_3 x34_4 x34_5 κ34 W34 T34_0 ⟨hn34, ⟨rfl, i34⟩, hE⟩
      obtain ⟨rfl, k34, b34, H34⟩ := i34
      have rt := H34.1.2.1
      have nt := H34.1.2.2.2
      have kq := cnk k34.1
      have eq := cn1 k34.1 (by omega)
      have BB := BK x34_4.toNatClampNeg (by omega)
      have bF : zA κ34 (zR κ weBackFirsts a0) = zA κ (zR κ weBackFirsts a0) := H34.2.1 weBackFirsts (by decide) (by decide)
      have bS : zA κ34 (zR κ weSources a0) = zA κ (zR κ weSources a0) := H34.2.1 weSources (by decide) (by decide)
      refine ⟨?_, ?_⟩
      · rw [rt, nt, inb_iff, eq.2]; omega  -- b7
      refine ⟨fun c5 => ?_, fun c5 => ?_⟩
      · skip
        intro x6 hx6
        refine lp_b5 ?_ (fun d9 => ⟨rfl, ?_⟩)
        · have e3 := cn1 k4 (by omega)
          rw [hn4, hx6, e3.2]; omega
        · refine and_5 ?_ (fun o9 => ?_)  -- i9
          · have e3 := cn1 k4 (by omega)
            exact ⟨rfl, by rw [hx6, e3.2]; omega, H34⟩
          · have e3 := cn1 k4 (by omega)
            rw [hx6, e3.2]
            refine rq_n8 hE.1 hE.2 ?_
            rw [lei, rt, bF, eq.1] at c5
            exact c5
      · skip
        rw [lei, rt, bF, eq.1] at c5
        have k5 := cnk (x := x34_5) (by omega)
        have e5 := cn1 (x := x34_5) (by omega) (by omega)
        refine ⟨?_, ?_⟩
        · rw [rt, nt, inb_iff]; omega  -- b10
        intro x7 hx7
        rw [rt, bS] at hx7
        have hs := BB.2 x34_5.toNatClampNeg (by omega) (by omega)
        rw [← hx7] at hs
        refine ⟨?_, ?_⟩
        · rw [rt, nt, inb_iff]; omega  -- b11
        refine ⟨fun c8 => ?_, fun c8 => ?_⟩
        · skip
          intro x9 hx9
          refine lp_b5 ?_ (fun d9 => ⟨rfl, ?_⟩)
          · rw [hn34, hx9, e5.2]; omega  -- d12
          · refine and_5 ?_ (fun o9 => ?_)  -- i13
            · exact ⟨rfl, rfl, k34, by rw [hx9, e5.2]; omega, H34⟩
            · rw [hx9, e5.2, ← k5]
              refine ⟨hE.1, ri_o8 (by rw [k5]; exact hE.2) ?_⟩
              rw [← hx7]
              rw [rt] at c8
              exact c8
        · skip
          refine ⟨?_, ?_⟩
          · rw [rt, nt, inb_iff]; omega  -- b14
          intro κ_10 hκ_10
          intro W11
          have U := we_u W34 T34_0 (f := weOpen) (by decide) hκ_10
          have lm : x34_2.toInt < m9 := by
            have z := rcI_s (κ2 := ua κ_10 (zR κ_10 weHeap a0) x34_2.toNatClampNeg x7) W34 W11 T34_0 H34 n1 hs c8 (by decide) hκ_10 rfl
            exact z.1
          have lm0 : 0 ≤ x34_2.toInt := by rw [H34.2.2.1]; exact cBq_le.1
          refine ⟨?_, ?_⟩
          · rw [U.1.2.1, U.1.2.2.2, rt, nt, inb_iff]; omega  -- b15
          intro κ_12 hκ_12
          intro W13
          intro x14 hx14
          intro x15 hx15
          refine lp_b5 ?_ (fun d9 => ⟨rfl, ?_⟩)
          · rw [hn34, hx15, e5.2]; omega  -- d16
          · refine and_5 ?_ (fun o9 => ?_)  -- i17
            · rw [hx14]
              exact ⟨rfl, rfl, k34, by rw [hx15, e5.2]; omega, (rcI_s W34 W11 T34_0 H34 n1 hs c8 (by decide) hκ_10 hκ_12).2⟩
            · obtain ⟨u1, u2, u3, u4⟩ := we_u W34 T34_0 (f := weOpen) (by decide) hκ_10
              obtain ⟨v1, v2, v3, v4⟩ := we_u W11 u4 (f := weHeap) (by decide) hκ_12
              have r1 : zR κ_10 = zR κ := u1.2.1.trans rt
              rw [rt] at u2 u3
              rw [r1] at v2 v3
              have o2 : zA κ_12 (zR κ weOpen a0) = upd (zA κ34 (zR κ weOpen a0)) x7.toNatClampNeg 1 := (v3 weOpen (by decide) (by decide)).trans u2
              have h2 : zA κ_12 (zR κ weHeap a0) = upd (zA κ34 (zR κ weHeap a0)) x34_2.toNatClampNeg x7 := by rw [v2, u3 weHeap (by decide) (by decide)]
              have em := cn1 (x := x34_2) (by omega) (by omega)
              have km := cnk (x := x34_2) (by omega)
              rw [o2, h2, hx14, em.2, hx15, e5.2, ← k5, hx7]
              rw [hx7] at hs
              exact ri_s8 hE.1 (by rw [k5]; exact hE.2) km k34 ⟨by omega, by omega⟩ hs (by decide)

end
section
set_option maxHeartbeats 1600000
/-! all links lie in the rows back -/
def bkF8 (D : Nat → Nat → Nat → Int32) (F : Nat → Int32) (n : Nat) (B cur Sr : Nat → Int32) (k : Nat) (x : Int) : Prop := ∀ t, t < n → ∀ k' i : Nat, k' < n → ((k' < k ∧ (i : Int) < (F (k' + 1)).toInt) ∨ (k' = k ∧ (i : Int) < x)) → (F k').toInt ≤ (i : Int) → D t k' i = 1 → ∃ b : Nat, (B t).toInt ≤ (b : Int) ∧ (b : Int) < (cur t).toInt ∧ (Sr b).toInt = (k' : Int)
theorem bkF_08 {D : Nat → Nat → Nat → Int32} {F B cur Sr : Nat → Int32} {n : Nat} : bkF8 D F n B cur Sr 0 (F 0).toInt := fun t _ k' i _ h1 h2 _ => by
  rcases h1 with h1 | h1
  · omega
  · have e := h1.1
    subst e
    omega
/-- the next state -/
theorem bkF_n8 {D : Nat → Nat → Nat → Int32} {F B cur Sr : Nat → Int32} {n k : Nat} (h : bkF8 D F n B cur Sr k (F (k + 1)).toInt) : bkF8 D F n B cur Sr (k + 1) (F (k + 1)).toInt := fun t ht k' i hk h1 h2 h3 => by
  refine h t ht k' i hk ?_ h2 h3
  rcases h1 with ⟨y1, y2⟩ | ⟨y1, y2⟩
  · by_cases c : k' < k
    · exact Or.inl ⟨c, y2⟩
    · have e : k' = k := by omega
      rw [e] at y2
      exact Or.inr ⟨e, y2⟩
  · rw [y1] at h2
    omega
/-- a next that is no link -/
theorem bkF_x8 {D : Nat → Nat → Nat → Int32} {F B cur Sr : Nat → Int32} {n k : Nat} {x : Int} (h : bkF8 D F n B cur Sr k x) (hx : 0 ≤ x) (z : ∀ t, t < n → D t k x.toNat = 0) : bkF8 D F n B cur Sr k (x + 1) := fun t ht k' i hk h1 h2 h3 => by
  refine h t ht k' i hk ?_ h2 h3
  rcases h1 with y | ⟨y1, y2⟩
  · exact Or.inl y
  · by_cases c : (i : Int) < x
    · exact Or.inr ⟨y1, c⟩
    · have e : i = x.toNat := by omega
      rw [y1, e, z t ht] at h3
      exact absurd h3 (by decide)
/-- a link laid -/
theorem bkF_s8 {D : Nat → Nat → Nat → Int32} {F : Nat → Int32} {n k t : Nat} {B cur cur' Sr Sr' : Nat → Int32} {L : Int} {K X p1 : Int32} (d : d01 D) (hB : bkB D F n L B) (h : bkC D F n B cur k X.toInt) (hF : bkF8 D F n B cur Sr k X.toInt) (hK : K.toInt = (k : Int)) (h0 : 0 ≤ (F k).toInt) (h1 : (F k).toInt ≤ X.toInt) (h2 : X.toInt < (F (k + 1)).toInt) (hk : k < n) (ht : t < n) (z : D t k X.toInt.toNat = 1) (zo : ∀ s, s < n → s ≠ t → D s k X.toInt.toNat = 0) (ep : p1.toInt = (cur t).toInt + 1) (ec : cur' = upd cur t p1) (eS : Sr' = upd Sr (cur t).toNatClampNeg K) : bkF8 D F n B cur' Sr' k (X.toInt + 1) := by
  obtain ⟨b1, b2, b3⟩ := bk_b d hB h h0 h1 h2 hk ht z
  have kc := cnk b1.1
  intro s hs k' i hk' q1 q2 q3
  have cs : (cur s).toInt ≤ (cur' s).toInt := by
    rw [ec]
    by_cases e : s = t
    · have q : upd cur t p1 s = p1 := if_pos e
      rw [q, ep, e]; omega
    · have q : upd cur t p1 s = cur s := if_neg e
      rw [q]; exact Int.le_refl _
  by_cases c : k' = k ∧ (i : Int) = X.toInt
  · have ei : i = X.toInt.toNat := by omega
    have st : s = t := by
      refine Decidable.byContradiction (fun ne => ?_)
      have y := zo s hs ne
      rw [c.1, ei, y] at q3
      exact absurd q3 (by decide)
    subst st
    refine ⟨(cur s).toNatClampNeg, by omega, ?_, ?_⟩
    · have q : upd cur s p1 s = p1 := if_pos rfl
      rw [ec, q]; omega
    · have q : upd Sr (cur s).toNatClampNeg K (cur s).toNatClampNeg = K := if_pos rfl
      rw [eS, q, hK, c.1]
  · obtain ⟨b, g1, g2, g3⟩ := hF s hs k' i hk' (by
      rcases q1 with y | ⟨y1, y2⟩
      · exact Or.inl y
      · exact Or.inr ⟨y1, by
          have ne : (i : Int) ≠ X.toInt := fun e => c ⟨y1, e⟩
          omega⟩) q2 q3
    refine ⟨b, g1, by omega, ?_⟩
    have nb : b ≠ (cur t).toNatClampNeg := fun e => by
      by_cases st : s = t
      · rw [st] at g2; omega
      · have c1 : (cur s).toInt ≤ (B (s + 1)).toInt := by
          rw [h s hs, hB.2.1 s hs]
          have := cP_le (t := s) (n := n) d (x := X.toInt) (F := F) (k := k) (by omega) hk
          omega
        by_cases lt : s < t
        · have := bkB_m d hB (s := s + 1) (t := t) (by omega) (by omega)
          omega
        · have := bkB_m d hB (s := t + 1) (t := s) (by omega) (by omega)
          omega
    have q : upd Sr (cur t).toNatClampNeg K b = Sr b := if_neg nb
    rw [eS, q]
    exact g3

end
section
set_option maxHeartbeats 1600000
/-! the class: the links back, all of them -/
theorem We_weaveBack_q6 {C : zC} {n0 : Nat} {a0 : Nat} {a1 : Nat} {a2 : Int32} {κ : zS} {Q : zS → Prop} (W : zW C n0 κ) (Ta0 : zT κ a0 = 14) (Ta1 : zT κ a1 = 3) (m9 : Nat) (hp : (weM κ a0 ∧ weL κ a0) ∧ (zI κ weTotal a0).toInt = (m9 : Int) ∧ atW κ a1 m9 ∧ (zA κ (zR κ weBackFirsts a0) 0).toInt = 0 ∧ (∀ t, t < m9 → (zA κ (zR κ weBackFirsts a0) (t + 1)).toInt = cNl (lkD κ a1 a2) (zA κ (zR κ atFirsts a1)) t m9) ∧ sgI (fun s => (zA κ (zR κ weBackFirsts a0) (s + 1)).toInt) m9 ≤ (zN κ (zR κ weTargets a0))) (h : ∀ (κ' : zS), ((bkI κ κ' a0 a1 a2 m9 m9 (zA κ (zR κ atFirsts a1) m9).toInt) ∧ (∀ a b, a < m9 → b < m9 → (bk8 (zA κ' (zR κ weBackFirsts a0)) (zA κ' (zR κ weSources a0)) m9 a b ↔ ∃ i : Nat, (zA κ (zR κ atFirsts a1) a).toInt ≤ (i : Int) ∧ (i : Int) < (zA κ (zR κ atFirsts a1) (a + 1)).toInt ∧ lkD κ a1 a2 b a i = 1))) → Q κ') : zRun C 1 mWe_weaveBack [.ref a0, .ref a1, .int a2] κ (oV Q noX) := by
  refine We_weaveBack_run W Ta0 Ta1 ?_
  replace W := W.lo (Nat.le_trans W.1.2.1 W.1.2.2) (Nat.le_refl (zn κ))
  unfold w_We_weaveBack_0
  obtain ⟨⟨M, L⟩, tn, A, b0, bt, bs⟩ := hp
  obtain ⟨AM, AL, n1, nS, nb9, EK⟩ := A
  have lT := L.2.2
  have p0 : ∀ t, t < m9 → 0 ≤ (zA κ (zR κ weBackFirsts a0) (t + 1)).toInt := fun t ht => by rw [bt t ht]; exact cNl_p (fun _ _ _ => lkD_01)
  unfold w_We_weaveBack_2
  refine ⟨fun n l0 l1 l2 l3 τ => n = (1000 - l3.toInt).toNat ∧ ((a0 = l0 ∧ a1 = l1 ∧ a2 = l2 ∧ weE κ τ a0 ∧ rwK κ τ a0 bkL ∧ (0 ≤ l3.toInt ∧ l3.toInt ≤ m9) ∧ bkA (zA κ (zR κ weBackFirsts a0)) (zA τ (zR κ weBackFirsts a0)) (zA τ (zR κ weCursor a0)) l3.toNatClampNeg) ∧ True), ⟨_, rfl, ?_⟩, ?_⟩
  · refine and_5 ?_ (fun o9 => trivial)  -- j1
    exact ⟨rfl, rfl, rfl, weE.rf, fun _ _ _ => rfl, ⟨by decide, by rw [t0i]; omega⟩, fun t ht => by
      have z : t = 0 := Nat.le_zero.mp ht
      rw [z]; exact b0, fun _ _ => rfl, fun t ht => absurd ht (Nat.not_lt_zero _)⟩
  rintro n2 _ _ _ x2_3 κ2 W2 T2_0 T2_1 ⟨hn2, ⟨rfl, rfl, rfl, i2⟩, hE⟩
  obtain ⟨E2, R2, k2, A2⟩ := i2
  have I2 := E2.2.2.1
  have kn2 := cnk k2.1
  refine ⟨fun c1 => ?_, fun c1 => ?_⟩
  · skip
    unfold w_We_weaveBack_47
    refine ⟨fun n l0 l1 l2 l3 τ => n = (1000 - l3.toInt).toNat ∧ ((a0 = l0 ∧ a1 = l1 ∧ a2 = l2 ∧ (0 ≤ l3.toInt ∧ l3.toInt ≤ m9) ∧ bkI κ τ a0 a1 a2 m9 l3.toNatClampNeg (zA κ (zR κ atFirsts a1) l3.toNatClampNeg).toInt) ∧ bkF8 (lkD κ a1 a2) (zA κ (zR κ atFirsts a1)) m9 (zA τ (zR κ weBackFirsts a0)) (zA τ (zR κ weCursor a0)) (zA τ (zR κ weSources a0)) l3.toNatClampNeg (zA κ (zR κ atFirsts a1) l3.toNatClampNeg).toInt), ⟨_, rfl, ?_⟩, ?_⟩
    · refine and_5 ?_ (fun o9 => bkF_08)  -- j2
      rw [lei, I2] at c1
      have kk : x2_3.toNatClampNeg = m9 := by omega
      rw [kk] at A2
      have q := bkA_e (Sr := zA κ2 (zR κ weSources a0)) (Ed := zA κ2 (zR κ weEdges a0)) A2 bt bs
      exact ⟨rfl, rfl, rfl, ⟨by decide, by rw [t0i]; omega⟩, E2, R2, q.1, q.2.1, q.2.2⟩
    rintro n47 _ _ _ x47_3 κ47 W47 T47_0 T47_1 ⟨hn47, ⟨rfl, rfl, rfl, i47⟩, hE⟩
    obtain ⟨k47, H47⟩ := i47
    have E47 := H47.1
    have I47 := E47.2.2.1
    have kn47 := cnk k47.1
    refine ⟨fun c2 => ?_, fun c2 => ?_⟩
    · skip
      refine h _ ?_
      · refine and_5 ?_ (fun o9 => ?_)  -- q3
        · rw [lei, I47] at c2
          have kk : x47_3.toNatClampNeg = m9 := by omega
          rw [kk] at H47
          exact H47
        · have kk : x47_3.toNatClampNeg = m9 := by
            have c2' := c2
            rw [lei, I47] at c2'
            omega
          rw [kk] at hE H47
          intro a b ha hb
          constructor
          · rintro ⟨_, _, i, i1, i2, i3⟩
            have y := H47.2.2.2.1 b hb
            rw [cP_0, ← H47.2.2.1.2.1 b hb] at y
            obtain ⟨g1, g2, g3⟩ := H47.2.2.2.2 b hb i i1 (by omega)
            have e : (zA κ47 (zR κ weSources a0) i).toNatClampNeg = a := by
              have := cnk g1.1
              omega
            rw [e] at g2 g3
            have en := cnk (x := zA κ47 (zR κ weEdges a0) i) (by
              have := (EK a ha).1.1
              omega)
            exact ⟨(zA κ47 (zR κ weEdges a0) i).toNatClampNeg, by omega, by omega, g3⟩
          · rintro ⟨i, i1, i2, i3⟩
            obtain ⟨c, c1, c2, c3⟩ := hE b hb a i ha (Or.inl ⟨ha, i2⟩) i1 i3
            have y := H47.2.2.2.1 b hb
            rw [cP_0, ← H47.2.2.1.2.1 b hb] at y
            exact ⟨ha, hb, c, c1, by omega, c3⟩
    · skip
      rw [lei, I47] at c2
      have lt47 : x47_3.toNatClampNeg < m9 := by omega
      have aF := at_E W Ta0 Ta1 E47.1 (f := atFirsts) (by decide)
      obtain ⟨X1, X2, X3, X4, X5⟩ := EK x47_3.toNatClampNeg lt47
      refine ⟨?_, ?_⟩
      · have l1 := AM.1
        rw [aF.2.2, inb_iff]; omega
      intro x3 hx3
      unfold w_We_weaveBack_63
      refine ⟨fun n l0 l1 l2 l3 l4 τ => n = (20000 - l4.toInt).toNat ∧ ((a0 = l0 ∧ a1 = l1 ∧ a2 = l2 ∧ x47_3 = l3 ∧ (0 ≤ l4.toInt ∧ (zA κ (zR κ atFirsts a1) l3.toNatClampNeg).toInt ≤ l4.toInt ∧ l4.toInt ≤ (zA κ (zR κ atFirsts a1) (l3.toNatClampNeg + 1)).toInt) ∧ bkI κ τ a0 a1 a2 m9 l3.toNatClampNeg l4.toInt) ∧ bkF8 (lkD κ a1 a2) (zA κ (zR κ atFirsts a1)) m9 (zA τ (zR κ weBackFirsts a0)) (zA τ (zR κ weCursor a0)) (zA τ (zR κ weSources a0)) l3.toNatClampNeg l4.toInt), ⟨_, rfl, ?_⟩, ?_⟩
      · refine and_5 ?_ (fun o9 => ?_)  -- j5
        · rw [hx3, aF.2.1]
          exact ⟨rfl, rfl, rfl, rfl, ⟨X1.1, Int.le_refl _, X1.2.1⟩, H47⟩
        · rw [hx3, aF.2.1]
          exact hE
      rintro n63 _ _ _ x63_3 x63_4 κ63 W63 T63_0 T63_1 ⟨hn63, ⟨rfl, rfl, rfl, i63⟩, hE⟩
      obtain ⟨rfl, x63, H63⟩ := i63
      have E63 := H63.1
      have gF := at_E W Ta0 Ta1 E63.1 (f := atFirsts) (by decide)
      have gS := at_E W Ta0 Ta1 E63.1 (f := atSorts) (by decide)
      have gN := at_E W Ta0 Ta1 E63.1 (f := atNumbers) (by decide)
      have kx := cnk x63.1
      have kx2 : x63_4.toInt.toNat = x63_4.toNatClampNeg := rfl
      have en := cn1 k47.1 (by omega)
      have x2 := X1.2.2
      have al := AL.1.1
      have al2 := AL.2.2
      have hj100 : ∀ (l0 : Nat) (l1 : Nat) (l2 : Int32) (l3 : Int32) (l4 : Int32) (τ : zS), zW C (zn κ) τ → zT τ l0 = 14 → zT τ l1 = 3 → ((a0 = l0 ∧ a1 = l1 ∧ a2 = l2 ∧ κ63 = τ ∧ x47_3 = l3 ∧ x63_4 = l4 ∧ x63_4.toInt < (zA κ (zR κ atFirsts a1) (x47_3.toNatClampNeg + 1)).toInt ∧ lkD κ a1 a2 (zA κ (zR κ atNumbers a1) x63_4.toNatClampNeg).toNatClampNeg x47_3.toNatClampNeg x63_4.toNatClampNeg = 1) ∧ bkF8 (lkD κ a1 a2) (zA κ (zR κ atFirsts a1)) m9 (zA τ (zR κ weBackFirsts a0)) (zA τ (zR κ weCursor a0)) (zA τ (zR κ weSources a0)) l3.toNatClampNeg l4.toInt) → w_We_weaveBack_100 C (zn κ) Q (fun (l0' : Nat) (l1' : Nat) (l2' : Int32) (l3' : Int32) (τ : zS) => ∃ k < n47, (fun (n : Nat) (l0 : Nat) (l1 : Nat) (l2 : Int32) (l3 : Int32) (τ : zS) => n = (1000 - l3.toInt).toNat ∧ ((a0 = l0 ∧ a1 = l1 ∧ a2 = l2 ∧ (0 ≤ l3.toInt ∧ l3.toInt ≤ m9) ∧ bkI κ τ a0 a1 a2 m9 l3.toNatClampNeg (zA κ (zR κ atFirsts a1) l3.toNatClampNeg).toInt) ∧ bkF8 (lkD κ a1 a2) (zA κ (zR κ atFirsts a1)) m9 (zA τ (zR κ weBackFirsts a0)) (zA τ (zR κ weCursor a0)) (zA τ (zR κ weSources a0)) l3.toNatClampNeg (zA κ (zR κ atFirsts a1) l3.toNatClampNeg).toInt)) k l0' l1' l2' l3' τ) (fun (l0' : Nat) (l1' : Nat) (l2' : Int32) (l3' : Int32) (l4' : Int32) (τ : zS) => ∃ k < n63, (fun (n : Nat) (l0 : Nat) (l1 : Nat) (l2 : Int32) (l3 : Int32) (l4 : Int32) (τ : zS) => n = (20000 - l4.toInt).toNat ∧ ((a0 = l0 ∧ a1 = l1 ∧ a2 = l2 ∧ x47_3 = l3 ∧ (0 ≤ l4.toInt ∧ (zA κ (zR κ atFirsts a1) l3.toNatClampNeg).toInt ≤ l4.toInt ∧ l4.toInt ≤ (zA κ (zR κ atFirsts a1) (l3.toNatClampNeg + 1)).toInt) ∧ bkI κ τ a0 a1 a2 m9 l3.toNatClampNeg l4.toInt) ∧ bkF8 (lkD κ a1 a2) (zA κ (zR κ atFirsts a1)) m9 (zA τ (zR κ weBackFirsts a0)) (zA τ (zR κ weCursor a0)) (zA τ (zR κ weSources a0)) l3.toNatClampNeg l4.toInt)) k l0' l1' l2' l3' l4' τ) l0 l1 l2 l3 l4 τ := by
        rintro _ _ _ y100_3 y100_4 τ100 W100 T100_0 T100_1 ⟨⟨rfl, rfl, rfl, j100⟩, hE⟩
        unfold w_We_weaveBack_100
        obtain ⟨rfl, rfl, rfl, c12, zk⟩ := j100
        have zs := lkD_1 zk
        have nx := (X2 x63_4.toNatClampNeg (by omega) (by omega)).1 zs.1.1
        have e1 := cn1 x63.1 (by omega)
        refine ⟨?_, ?_⟩
        · rw [gN.2.2, inb_iff]; omega  -- b6
        intro x4 hx4
        rw [gN.2.1] at hx4
        rw [← hx4] at nx zk
        have kt := cnk nx.1
        have tn4 : x4.toNatClampNeg < m9 := by omega
        have bb := bk_b (fun _ _ _ => lkD_01) H63.2.2.1 H63.2.2.2.1 X1.1 x63.2.1 c12 lt47 tn4 (by rw [kx2]; exact zk)
        have mC := M.2.2.2.2.2.2.2.2.1
        have rs := E63.2.1
        have ns := E63.2.2.2
        refine ⟨?_, ?_⟩
        · rw [rs, ns, inb_iff]; omega  -- b7
        refine ⟨?_, ?_⟩
        · have l1 := L.1.1
          rw [rs, ns, inb_iff]; omega
        intro κ_5 hκ_5
        intro W6
        have U1 := we_u W63 T63_0 (f := weSources) (by decide) hκ_5
        have r5 : zR κ_5 = zR κ := U1.1.2.1.trans rs
        have n5 : zN κ_5 = zN κ := U1.1.2.2.2.trans ns
        have c5 : zA κ_5 (zR κ weCursor a0) = zA κ63 (zR κ weCursor a0) := by
          have q := U1.2.2.1 weCursor (by decide) (by decide)
          rw [rs] at q
          exact q
        refine ⟨?_, ?_⟩
        · rw [r5, n5, inb_iff]; omega  -- b9
        refine ⟨?_, ?_⟩
        · have l1 := L.1.2
          rw [r5, n5, c5, inb_iff]; omega
        intro κ_7 hκ_7
        intro W8
        have U2 := we_u W6 U1.2.2.2 (f := weEdges) (by decide) hκ_7
        have r7 : zR κ_7 = zR κ := U2.1.2.1.trans r5
        have n7 : zN κ_7 = zN κ := U2.1.2.2.2.trans n5
        refine ⟨?_, ?_⟩
        · rw [r7, n7, inb_iff]; omega  -- b11
        refine ⟨?_, ?_⟩
        · rw [r7, n7, inb_iff]; omega  -- b12
        intro κ_9 hκ_9
        intro W10
        intro x11 hx11
        refine lp_b5 ?_ (fun d9 => ⟨rfl, ?_⟩)
        · rw [hn63, hx11, e1.2]; omega  -- d13
        · refine and_5 ?_ (fun o9 => ?_)  -- i14
          · rw [hx11, e1.2]
            exact ⟨rfl, rfl, rfl, rfl, by omega, bkI_s W63 W6 W8 T63_0 (by omega) H63 (by omega) (by omega) X1.1 x63.2.1 c12 lt47 tn4 zk (fun t _ ht => if_neg (fun z => by
              have y := z.2
              rw [kx2, ← hx4] at y
              omega)) hκ_5 hκ_7 hκ_9⟩
          · obtain ⟨u1, u2, u3, u4⟩ := we_u W63 T63_0 (f := weSources) (by decide) hκ_5
            obtain ⟨v1, v2, v3, v4⟩ := we_u W6 u4 (f := weEdges) (by decide) hκ_7
            obtain ⟨w1, w2, w3, w4⟩ := we_u W8 v4 (f := weCursor) (by decide) hκ_9
            rw [rs] at u2 u3
            rw [r5] at v2 v3
            rw [r7] at w2 w3
            have c1 : zA κ_5 (zR κ weCursor a0) = zA κ63 (zR κ weCursor a0) := u3 weCursor (by decide) (by decide)
            have c2 : zA κ_7 (zR κ weCursor a0) = zA κ63 (zR κ weCursor a0) := (v3 weCursor (by decide) (by decide)).trans c1
            have s3 : zA κ_9 (zR κ weSources a0) = upd (zA κ63 (zR κ weSources a0)) (zA κ63 (zR κ weCursor a0) x4.toNatClampNeg).toNatClampNeg x47_3 := (w3 weSources (by decide) (by decide)).trans ((v3 weSources (by decide) (by decide)).trans u2)
            have b3 : zA κ_9 (zR κ weBackFirsts a0) = zA κ63 (zR κ weBackFirsts a0) := (w3 weBackFirsts (by decide) (by decide)).trans ((v3 weBackFirsts (by decide) (by decide)).trans (u3 weBackFirsts (by decide) (by decide)))
            rw [c2] at w2
            rw [hx11, e1.2, b3]
            exact bkF_s8 (fun _ _ _ => lkD_01) H63.2.2.1 H63.2.2.2.1 hE (by omega) X1.1 x63.2.1 c12 lt47 tn4 zk (fun t _ ht => if_neg (fun z => by
              have y := z.2
              rw [kx2, ← hx4] at y
              omega)) (cn1 bb.1.1 (by omega)).2 w2 s3
      refine ⟨?_, ?_⟩
      · have l1 := AM.1
        rw [gF.2.2, inb_iff, en.2]; omega
      refine ⟨fun c12 => ?_, fun c12 => ?_⟩
      · skip
        intro x13 hx13
        refine lp_b5 ?_ (fun d9 => ⟨rfl, ?_⟩)
        · rw [hn47, hx13, en.2]; omega  -- d16
        · refine and_5 ?_ (fun o9 => ?_)  -- i17
          · rw [lei, en.1, gF.2.1] at c12
            have e9 : x63_4.toInt = (zA κ (zR κ atFirsts a1) (x47_3.toNatClampNeg + 1)).toInt := by omega
            rw [hx13, en.1, en.2]
            refine ⟨rfl, rfl, rfl, by omega, H63.1, H63.2.1, H63.2.2.1, ?_, H63.2.2.2.2⟩
            intro t ht
            have y := H63.2.2.2.1 t ht
            rw [e9, cP_e, ← cP_0] at y
            exact y
          · have c12' := c12
            rw [lei, en.1, gF.2.1] at c12'
            have e9 : x63_4.toInt = (zA κ (zR κ atFirsts a1) (x47_3.toNatClampNeg + 1)).toInt := by omega
            rw [hx13, en.1]
            rw [e9] at hE
            exact bkF_n8 hE
      · skip
        rw [lei, en.1, gF.2.1] at c12
        have e1 := cn1 x63.1 (by omega)
        refine ⟨?_, ?_⟩
        · rw [gS.2.2, inb_iff]; omega  -- b18
        refine ⟨fun c14 => ?_, fun c14 => ?_⟩
        · skip
          intro x15 hx15
          refine lp_b5 ?_ (fun d9 => ⟨rfl, ?_⟩)
          · rw [hn63, hx15, e1.2]; omega  -- d19
          · refine and_5 ?_ (fun o9 => ?_)  -- i20
            · rw [gS.2.1] at c14
              rw [hx15, e1.2]
              refine ⟨rfl, rfl, rfl, rfl, by omega, H63.1, H63.2.1, H63.2.2.1, bk_n H63.2.2.2.1 X1.1 (by omega) (fun t _ => if_neg (fun z => c14 z.1.1)), H63.2.2.2.2⟩
            · rw [gS.2.1] at c14
              rw [hx15, e1.2]
              exact bkF_x8 hE x63.1 (fun t _ => if_neg (fun z => c14 z.1.1))
        · skip
          refine ⟨fun c16 => ?_, fun c16 => ?_⟩
          · skip
            refine hj100 _ _ _ _ _ _ W63 ?_ ?_ ?_
            · exact T63_0  -- t21
            · exact T63_1  -- t22
            · refine and_5 ?_ (fun o9 => hE)  -- k23
              rw [gS.2.1] at c14
              have nx := (X2 x63_4.toNatClampNeg (by omega) (by omega)).1 c14
              exact ⟨rfl, rfl, rfl, rfl, rfl, rfl, by omega, if_pos ⟨⟨c14, Or.inl c16⟩, by rw [cnk nx.1]⟩⟩
          · skip
            intro T17
            refine At_isTaken_c W63 T17  ?_ (fun r18 q20 => ?_)
            · have M63 : atM κ63 a1 := by
                have g := fun f hf => (at_E W Ta0 Ta1 E63.1 (f := f) hf).2.2
                unfold atM
                rw [g atFirsts (by decide), g atTotals (by decide), g atGains (by decide), g atPlan (by decide), g atChooses (by decide), g atHopeless (by decide)]
                exact AM
              exact ⟨M63, k47.1, by omega⟩
            have gC := at_E W Ta0 Ta1 E63.1 (f := atChooses) (by decide)
            have gP := at_E W Ta0 Ta1 E63.1 (f := atPlan) (by decide)
            rw [gC.2.1, gF.2.1, gP.2.1] at q20
            have eo : Int32.ofNat x63_4.toNatClampNeg = x63_4 := Int32.toInt_inj.mp (by rw [ofn_i (by omega)]; omega)
            intro W21
            intro M22
            refine ⟨fun c23 => ?_, fun c23 => ?_⟩
            · skip
              intro x24 hx24
              refine lp_b5 ?_ (fun d9 => ⟨rfl, ?_⟩)
              · rw [hn63, hx24, e1.2]; omega  -- d25
              · refine and_5 ?_ (fun o9 => ?_)  -- i26
                · rw [gS.2.1] at c14
                  rw [hx24, e1.2]
                  refine ⟨rfl, rfl, rfl, rfl, by omega, H63.1, H63.2.1, H63.2.2.1, bk_n H63.2.2.2.1 X1.1 (by omega) (fun t _ => if_neg (fun z => ?_)), H63.2.2.2.2⟩
                  rcases z.1.2 with y | y | y
                  · exact c16 y
                  · exact q20.2.mpr (Or.inl y) c23
                  · rw [kx2, eo] at y
                    exact q20.2.mpr (Or.inr y) c23
                · rw [hx24, e1.2]
                  refine bkF_x8 hE x63.1 (fun t _ => if_neg (fun z => ?_))
                  rcases z.1.2 with y | y | y
                  · exact c16 y
                  · exact q20.2.mpr (Or.inl y) c23
                  · rw [kx2, eo] at y
                    exact q20.2.mpr (Or.inr y) c23
            · skip
              refine hj100 _ _ _ _ _ _ W21 ?_ ?_ ?_
              · exact T63_0  -- t27
              · exact T63_1  -- t28
              · refine and_5 ?_ (fun o9 => hE)  -- k29
                rw [gS.2.1] at c14
                have nx := (X2 x63_4.toNatClampNeg (by omega) (by omega)).1 c14
                refine ⟨rfl, rfl, rfl, rfl, rfl, rfl, by omega, if_pos ⟨⟨c14, Or.inr ?_⟩, by rw [cnk nx.1]⟩⟩
                rcases q20.2.mp c23 with y | y
                · exact Or.inl y
                · exact Or.inr (by rw [eo]; exact y)
  · skip
    rw [lei, I2] at c1
    have en2 := cn1 k2.1 (by omega)
    have mB := M.2.1
    have mC := M.2.2.2.2.2.2.2.2.1
    have rs := E2.2.1
    have ns := E2.2.2.2
    refine ⟨?_, ?_⟩
    · rw [rs, ns, inb_iff, en2.2]; omega  -- b30
    refine ⟨?_, ?_⟩
    · rw [rs, ns, inb_iff]; omega  -- b31
    refine ⟨?_, ?_⟩
    · rw [rs, ns, inb_iff, en2.2]; omega  -- b32
    intro κ_25 hκ_25
    intro W26
    have U := we_u W2 T2_0 (f := weBackFirsts) (by decide) hκ_25
    have r5 : zR κ_25 = zR κ := U.1.2.1.trans rs
    have n5 : zN κ_25 = zN κ := U.1.2.2.2.trans ns
    refine ⟨?_, ?_⟩
    · rw [r5, n5, inb_iff]; omega  -- b33
    refine ⟨?_, ?_⟩
    · rw [r5, n5, inb_iff]; omega  -- b34
    intro κ_27 hκ_27
    intro W28
    intro x29 hx29
    refine lp_b5 ?_ (fun d9 => ⟨rfl, ?_⟩)
    · rw [hn2, hx29, en2.2]; omega  -- d35
    · refine and_5 ?_ (fun o9 => trivial)  -- i36
      have V := we_u W26 U.2.2.2 (f := weCursor) (by decide) hκ_27
      have u2 := U.2.1
      have u3 := U.2.2.1
      have v2 := V.2.1
      have v3 := V.2.2.1
      rw [rs] at u2 u3
      rw [r5] at v2 v3
      rw [en2.1] at u2
      have eB : zA κ_27 (zR κ weBackFirsts a0) = upd (zA κ2 (zR κ weBackFirsts a0)) (x2_3.toNatClampNeg + 1) (zA κ2 (zR κ weBackFirsts a0) (x2_3.toNatClampNeg + 1) + zA κ2 (zR κ weBackFirsts a0) x2_3.toNatClampNeg) := (v3 weBackFirsts (by decide) (by decide)).trans u2
      have eC : zA κ_27 (zR κ weCursor a0) = upd (zA κ2 (zR κ weCursor a0)) x2_3.toNatClampNeg (zA κ_27 (zR κ weBackFirsts a0) x2_3.toNatClampNeg) := by
        rw [v2, u3 weCursor (by decide) (by decide), v3 weBackFirsts (by decide) (by decide)]
      rw [hx29, en2.1, en2.2]
      refine ⟨rfl, rfl, rfl, (E2.tr U.1).tr V.1, fun f hf hl => ?_, by omega, bkA_s A2 (by omega) p0 (by omega) eB eC⟩
      have n1 : f ≠ weBackFirsts := fun y => hl (by rw [y]; decide)
      have n2 : f ≠ weCursor := fun y => hl (by rw [y]; decide)
      rw [v3 f hf n2, u3 f hf n1]
      exact R2 f hf hl

end
section
set_option maxHeartbeats 1600000
/-! which states lead to what is no state, at once -/
def EO8 (E : Nat → Nat → Prop) (F O H : Nat → Int32) (k : Nat) (m : Int) : Prop := (∀ j, j < k → (O j ≠ 0 ↔ ∃ i : Nat, (F j).toInt ≤ (i : Int) ∧ (i : Int) < (F (j + 1)).toInt ∧ E j i)) ∧ (∀ i : Nat, (i : Int) < m → (0 ≤ (H i).toInt ∧ (H i).toInt < k) ∧ O (H i).toNatClampNeg ≠ 0) ∧ (∀ j, j < k → O j ≠ 0 → ∃ i : Nat, (i : Int) < m ∧ (H i).toInt = (j : Int))
def EI8 (E : Nat → Nat → Prop) (F O H : Nat → Int32) (k : Nat) (m x : Int) : Prop := (∀ j, j < k → (O j ≠ 0 ↔ ∃ i : Nat, (F j).toInt ≤ (i : Int) ∧ (i : Int) < (F (j + 1)).toInt ∧ E j i)) ∧ (O k ≠ 0 ↔ ∃ i : Nat, (F k).toInt ≤ (i : Int) ∧ (i : Int) < x ∧ E k i) ∧ (∀ i : Nat, (i : Int) < m → (0 ≤ (H i).toInt ∧ (H i).toInt < (k + 1 : Nat)) ∧ O (H i).toNatClampNeg ≠ 0) ∧ (∀ j, j < k + 1 → O j ≠ 0 → ∃ i : Nat, (i : Int) < m ∧ (H i).toInt = (j : Int))
section
variable {E : Nat → Nat → Prop} {F O H : Nat → Int32} {k : Nat} {m x : Int}
theorem EO_08 : EO8 E F O H 0 0 := ⟨fun j hj => absurd hj (Nat.not_lt_zero _), fun i hi => by omega, fun j hj => absurd hj (Nat.not_lt_zero _)⟩
theorem EI_b8 (h : EO8 E F O H k m) : EI8 E F (upd O k 0) H k m (F k).toInt := by
  obtain ⟨h1, h2, h3⟩ := h
  have ne : ∀ j, j ≠ k → upd O k 0 j = O j := fun j c => if_neg c
  have eq : upd O k 0 k = 0 := if_pos rfl
  refine ⟨fun j hj => by rw [ne j (by omega)]; exact h1 j hj, ?_, fun i hi => ?_, fun j hj z => ?_⟩
  · rw [eq]
    refine ⟨fun z => absurd rfl z, fun z => ?_⟩
    obtain ⟨i, i1, i2, _⟩ := z
    omega
  · obtain ⟨y1, y2⟩ := h2 i hi
    have := cnk y1.1
    rw [ne _ (by omega)]
    exact ⟨⟨y1.1, by omega⟩, y2⟩
  · by_cases c : j = k
    · rw [c, eq] at z; exact absurd rfl z
    · rw [ne j c] at z
      exact h3 j (by omega) z
theorem EI_n8 (h : EI8 E F O H k m x) (x0 : 0 ≤ x) (z : ¬ E k x.toNat) : EI8 E F O H k m (x + 1) := by
  obtain ⟨h1, h2, h3, h4⟩ := h
  refine ⟨h1, ⟨fun y => ?_, fun y => ?_⟩, h3, h4⟩
  · obtain ⟨i, i1, i2, i3⟩ := h2.mp y
    exact ⟨i, i1, by omega, i3⟩
  · obtain ⟨i, i1, i2, i3⟩ := y
    refine h2.mpr ⟨i, i1, ?_, i3⟩
    have ne : i ≠ x.toNat := fun e => z (by rw [← e]; exact i3)
    omega
theorem EI_h8 (h : EI8 E F O H k m x) (z : O k ≠ 0) : EI8 E F O H k m (x + 1) := by
  obtain ⟨h1, h2, h3, h4⟩ := h
  refine ⟨h1, ⟨fun y => ?_, fun _ => z⟩, h3, h4⟩
  obtain ⟨i, i1, i2, i3⟩ := h2.mp y
  exact ⟨i, i1, by omega, i3⟩
theorem EI_s8 {K w : Int32} {mm : Nat} (h : EI8 E F O H k m x) (hm : (mm : Int) = m) (hK : K.toInt = (k : Int)) (hx : (F k).toInt ≤ x) (x0 : 0 ≤ x) (z : E k x.toNat) (hw : w ≠ 0) : EI8 E F (upd O k w) (upd H mm K) k (m + 1) (x + 1) := by
  obtain ⟨h1, h2, h3, h4⟩ := h
  have ne : ∀ j, j ≠ k → upd O k w j = O j := fun j c => if_neg c
  have eq : upd O k w k = w := if_pos rfl
  have hn : ∀ i, i ≠ mm → upd H mm K i = H i := fun i c => if_neg c
  have hq : upd H mm K mm = K := if_pos rfl
  have kn := cnk (x := K) (by omega)
  refine ⟨fun j hj => by rw [ne j (by omega)]; exact h1 j hj, ?_, fun i hi => ?_, fun j hj y => ?_⟩
  · rw [eq]
    exact ⟨fun _ => ⟨x.toNat, by omega, by omega, z⟩, fun _ => hw⟩
  · by_cases c : i = mm
    · rw [c, hq, show K.toNatClampNeg = k by omega, eq]
      exact ⟨⟨by omega, by omega⟩, hw⟩
    · rw [hn i c]
      obtain ⟨y1, y2⟩ := h3 i (by omega)
      refine ⟨y1, ?_⟩
      by_cases e : (H i).toNatClampNeg = k
      · rw [e, eq]; exact hw
      · rw [ne _ e]; exact y2
  · by_cases c : j = k
    · exact ⟨mm, by omega, by rw [hq, hK, c]⟩
    · rw [ne j c] at y
      obtain ⟨i, i1, i2⟩ := h4 j hj y
      exact ⟨i, by omega, by rw [hn i (by omega)]; exact i2⟩
theorem EI_e8 (h : EI8 E F O H k m x) (hx : x = (F (k + 1)).toInt) : EO8 E F O H (k + 1) m := by
  obtain ⟨h1, h2, h3, h4⟩ := h
  refine ⟨fun j hj => ?_, h3, h4⟩
  by_cases c : j = k
  · rw [c, ← hx]; exact h2
  · exact h1 j (by omega)
theorem EO_r8 {B S : Nat → Int32} {n : Nat} (h : EO8 E F O H n m) : rq8 O B S O H n m 0 := ⟨h.2.1, h.2.2, fun _ _ z => z, fun _ _ z => Or.inl z, fun i i1 => by omega⟩
end
/-- a next that is no link, and is taken -/
def eT8 (κ : zS) (a : Nat) (p : Int32) (k i : Nat) : Prop := zA κ (zR κ atSorts a) i ≠ 0 ∧ (p = 0 ∨ zA κ (zR κ atChooses a) k = 0 ∨ Int32.ofNat i = zA κ (zR κ atFirsts a) k + zA κ (zR κ atPlan a) k)
def eo8 (κ : zS) (a : Nat) (p : Int32) (k : Nat) : Prop := ∃ i : Nat, (zA κ (zR κ atFirsts a) k).toInt ≤ (i : Int) ∧ (i : Int) < (zA κ (zR κ atFirsts a) (k + 1)).toInt ∧ eT8 κ a p k i
def el8 (κ : zS) (a : Nat) (p : Int32) (n x y : Nat) : Prop := x < n ∧ y < n ∧ ∃ i : Nat, (zA κ (zR κ atFirsts a) x).toInt ≤ (i : Int) ∧ (i : Int) < (zA κ (zR κ atFirsts a) (x + 1)).toInt ∧ lkD κ a p y x i = 1
theorem bk_l8 {κ : zS} {a n : Nat} {p : Int32} {B S : Nat → Int32} (h : ∀ x y, x < n → y < n → (bk8 B S n x y ↔ ∃ i : Nat, (zA κ (zR κ atFirsts a) x).toInt ≤ (i : Int) ∧ (i : Int) < (zA κ (zR κ atFirsts a) (x + 1)).toInt ∧ lkD κ a p y x i = 1)) : bk8 B S n = el8 κ a p n := by
  funext x y
  refine propext ⟨fun z => ⟨z.1, z.2.1, (h x y z.1 z.2.1).mp z⟩, fun z => (h x y z.1 z.2.1).mpr z.2.2⟩
theorem eT_E8 {κ τ : zS} {a : Nat} {p : Int32} (h : ∀ f, f = atSorts ∨ f = atChooses ∨ f = atFirsts ∨ f = atPlan → zA τ (zR τ f a) = zA κ (zR κ f a)) : eT8 τ a p = eT8 κ a p ∧ eo8 τ a p = eo8 κ a p := by
  have e : eT8 τ a p = eT8 κ a p := by
    funext k i
    unfold eT8
    rw [h atSorts (by decide), h atChooses (by decide), h atFirsts (by decide), h atPlan (by decide)]
  refine ⟨e, ?_⟩
  funext k
  unfold eo8
  rw [e, h atFirsts (by decide)]
theorem el_E8 {κ τ : zS} {a n : Nat} {p : Int32} (h : zA τ (zR τ atFirsts a) = zA κ (zR κ atFirsts a)) (hl : lkD τ a p = lkD κ a p) : el8 τ a p n = el8 κ a p n := by
  funext x y
  unfold el8
  rw [h, hl]

end
section
set_option maxHeartbeats 1600000
/-! the class: weave: which states can come to what is no state -/
theorem We_weave_q6 {C : zC} {n0 : Nat} {a0 : Nat} {a1 : Nat} {a2 : Int32} {κ : zS} {Q : zS → Prop} (W : zW C n0 κ) (Ta0 : zT κ a0 = 14) (Ta1 : zT κ a1 = 3) (m9 : Nat) (hp : (weU κ a0 ∨ weM κ a0) ∧ weL κ a0 ∧ atW κ a1 m9) (h : ∀ (κ' : zS), ((zF (objF a0) κ κ' ∧ weG κ' a0 a1 a2 m9 ∧ atW κ' a1 m9) ∧ ((∀ k, k < m9 → (zA κ' (zR κ' weOpen a0) k ≠ 0 ↔ eo8 κ' a1 a2 k ∨ ∃ t, t < m9 ∧ eo8 κ' a1 a2 t ∧ Tr (el8 κ' a1 a2 m9) k t)) ∧ (∀ j, j < m9 → ∀ y, (Ed8 (qI8 (zA κ' (zR κ' weFirsts a0))) (qN8 (zA κ' (zR κ' weTargets a0))) j y ↔ ∃ i : Nat, (zA κ' (zR κ' atFirsts a1) j).toInt ≤ (i : Int) ∧ (i : Int) < (zA κ' (zR κ' atFirsts a1) (j + 1)).toInt ∧ lkD κ' a1 a2 y j i = 1)))) → Q κ') : zRun C 2 mWe_weave [.ref a0, .ref a1, .int a2] κ (oV Q noX) := by
  refine We_weave_run W Ta0 Ta1 ?_
  replace W := W.lo (Nat.le_trans W.1.2.1 W.1.2.2) (Nat.le_refl (zn κ))
  unfold w_We_weave_0
  obtain ⟨U0, L0, A0⟩ := hp
  have hj61 : ∀ (l0 : Nat) (l1 : Nat) (l2 : Int32) (τ : zS), zW C (zn κ) τ → zT τ l0 = 14 → zT τ l1 = 3 → ((a0 = l0 ∧ a1 = l1 ∧ a2 = l2 ∧ (weM τ a0 ∧ weL τ a0) ∧ zF (objF a0) κ τ ∧ (zI τ weTotal a0).toInt = (m9 : Int) ∧ (zI κ atNexts a1).toInt ≤ (zN τ (zR τ weTargets a0))) ∧ True) → w_We_weave_61 C (zn κ) Q  l0 l1 l2 τ := by
    rintro _ _ _ τ61 W61 T61_0 T61_1 ⟨⟨rfl, rfl, rfl, j61⟩, hE⟩
    unfold w_We_weave_61
    intro T1
    refine Ar_fill_c W61 T1  (fun κ_2 q3 => ?_)
    have Zf : zF (objF a0) τ61 κ_2 := by rw [q3]; exact zF_uf (by rw [weRf_o W61 T61_0 (by decide)])
    have R2 : zR κ_2 = zR τ61 := by rw [q3]; rfl
    have N2 : zN κ_2 = zN τ61 := by rw [q3]; rfl
    have I2 : zI κ_2 = zI τ61 := by rw [q3]; rfl
    have T2 : zT κ_2 a0 = 14 := Zf.t T61_0 (by decide)
    have T2b : zT κ_2 a1 = 3 := Zf.t T61_1 (by decide)
    have ZZ := j61.2.1.tr Zf
    have M2 : weM κ_2 a0 := by unfold weM; rw [R2, N2]; exact j61.1.1
    have L2 : weL κ_2 a0 := by unfold weL; rw [R2, N2]; exact j61.1.2
    have t2 : (zI κ_2 weTotal a0).toInt = (m9 : Int) := by rw [I2]; exact j61.2.2.1
    have A2 : atW κ_2 a1 m9 := atW_E W Ta0 Ta1 ZZ A0
    have nx2 : (zI κ_2 atNexts a1).toInt ≤ zN κ_2 (zR κ_2 weTargets a0) := by
      have ne : a1 ≠ a0 := fun z => by rw [z, Ta0] at Ta1; exact absurd Ta1 (by decide)
      rw [ZZ.i ne, N2, R2]
      exact j61.2.2.2
    have b2 : ∀ t, t ≤ 1000 → zA κ_2 (zR κ_2 weBackFirsts a0) t = 0 := fun t ht => by
      rw [R2, q3]
      have l := j61.1.1.2.1
      refine (congrFun (if_pos rfl) t).trans ?_
      exact if_pos ⟨Nat.zero_le _, by omega⟩
    have A9 := A2
    obtain ⟨AM, AL, n1, nS, nb9, EK⟩ := A2
    have lT := L2.2.2
    have lS := L2.1.1
    have m1 := M2.1
    have m2 := M2.2.1
    have m3 := M2.2.2.1
    have m11 := M2.2.2.2.2.2.2.2.2.2.2
    have al := AL.1.1
    have al2 := AL.2.2
    intro W4
    intro M5
    unfold w_We_weave_77
    refine ⟨fun n l0 l1 l2 l3 l4 l5 τ => n = (1000 - l5.toInt).toNat ∧ ((a0 = l0 ∧ a1 = l1 ∧ a2 = l2 ∧ (0 ≤ l5.toInt ∧ l5.toInt ≤ m9) ∧ wvI κ_2 τ a0 a1 a2 m9 l5.toNatClampNeg (zA κ_2 (zR κ_2 atFirsts a1) l5.toNatClampNeg).toInt l5.toNatClampNeg l3 l4) ∧ (EO8 (eT8 κ_2 a1 a2) (zA κ_2 (zR κ_2 atFirsts a1)) (zA τ (zR κ_2 weOpen a0)) (zA τ (zR κ_2 weHeap a0)) l5.toNatClampNeg l4.toInt ∧ LO8 (fun y k i => lkD κ_2 a1 a2 y k i = 1) (zA κ_2 (zR κ_2 atFirsts a1)) (zA τ (zR κ_2 weFirsts a0)) (zA τ (zR κ_2 weTargets a0)) l5.toNatClampNeg l3.toInt)), ⟨_, rfl, ?_⟩, ?_⟩
    · refine and_5 ?_ (fun o9 => ⟨EO_08, LO_08⟩)  -- j1
      refine ⟨rfl, rfl, rfl, ⟨by decide, by rw [t0i]; omega⟩, weE.rf, ⟨by rw [b2 0 (by omega)]; rfl, fun t ht => ?_, ?_⟩, ⟨by decide, Or.inl rfl⟩, ⟨fun j hj => absurd hj (Nat.not_lt_zero _), fun j hj => absurd hj (Nat.not_lt_zero _)⟩, fun i hi => ?_, rfl, fun i hi => ?_⟩
      · rw [b2 (t + 1) (by omega)]
        refine ⟨?_, Int.le_refl _⟩
        show _ = cP _ _ t 0 (zA κ_2 (zR κ_2 atFirsts a1) 0).toInt
        rw [cP_0]
        rfl
      · refine sgI_z (fun i hi => ?_)
        rw [b2 (i + 1) (by omega)]
        rfl
      · rw [t0i] at hi; omega
      · rw [t0i] at hi; omega
    rintro n77 _ _ _ x77_3 x77_4 x77_5 κ77 W77 T77_0 T77_1 ⟨hn77, ⟨rfl, rfl, rfl, i77⟩, hE⟩
    obtain ⟨k77, H77⟩ := i77
    have rs := H77.1.2.1
    have ns := H77.1.2.2.2
    have is := H77.1.2.2.1
    have kn := cnk k77.1
    have l77 := H77.2.2.1
    refine ⟨fun c6 => ?_, fun c6 => ?_⟩
    · skip
      refine ⟨?_, ?_⟩
      · rw [rs, ns, is, inb_iff]; omega  -- b2
      intro κ_7 hκ_7
      intro W8
      intro T9
      intro T10
      rw [lei, is] at c6
      have kk : x77_5.toNatClampNeg = m9 := by omega
      rw [kk] at H77
      have U := we_u W77 T77_0 (f := weFirsts) (by decide) hκ_7
      have E7 := H77.1.tr U.1
      have M7 := weM_E E7 M2
      have L7 := weL_E E7 L2
      have A7 := atW_E W4 T2 T2b E7.1 A9
      have lk7 := lkD_E (p := a2) W4 T2 T2b E7.1
      have f7 := (at_E W4 T2 T2b E7.1 (f := atFirsts) (by decide)).2.1
      have r7 := E7.2.1
      have u3 := U.2.2.1
      have u2 := U.2.1
      rw [rs] at u3
      have tk : (zI κ_2 weTotal a0).toNatClampNeg = m9 := by
        have := cnk (x := zI κ_2 weTotal a0) (by omega)
        omega
      rw [rs, is, tk] at u2
      have b7 : zA κ_7 (zR κ_2 weBackFirsts a0) = zA κ77 (zR κ_2 weBackFirsts a0) := u3 weBackFirsts (by decide) (by decide)
      obtain ⟨-, ⟨B0, B1, B2⟩, ll, ⟨f1, f2⟩, tg, ct, hh⟩ := H77
      have lnb : x77_3.toInt ≤ zN κ_2 (zR κ_2 weTargets a0) := by
        by_cases z : m9 = 0
        · have y : x77_3.toInt = 0 := by rw [← B2, z]; rfl
          omega
        · have y := (EK (m9 - 1) (by omega)).1.2.2
          have e : m9 - 1 + 1 = m9 := by omega
          rw [e] at y
          omega
      refine We_weaveBack_q6 W8 T9 T10 m9 ?_ (fun κ_11 q12 => ?_)
      · refine ⟨⟨M7, L7⟩, by rw [E7.2.2.1]; exact t2, A7, ?_, fun t ht => ?_, ?_⟩
        · rw [r7, b7]; exact B0
        · rw [lk7, f7, r7, b7, (B1 t ht).1, cP_0]
        · rw [r7, b7, E7.2.2.2, B2]; exact lnb
      obtain ⟨q12, z9⟩ := q12
      have zB := z9
      obtain ⟨E11, R11, B11, C11, D11⟩ := q12
      have r11 : zR κ_11 = zR κ_7 := E11.2.1
      have d01q : d01 (lkD κ_7 a1 a2) := fun _ _ _ => lkD_01
      have C12 : ∀ t, t < m9 → (zA κ_11 (zR κ_7 weCursor a0) t).toInt = (zA κ_11 (zR κ_7 weBackFirsts a0) (t + 1)).toInt := fun t ht => by
        rw [C11 t ht, cP_0, B11.2.1 t ht]
      intro W13
      intro M14
      intro T15
      refine We_reach_q6 W13 T15 m9 (by rw [r11, R11 weOpen (by decide) (by decide), R11 weHeap (by decide) (by decide), r7, u3 weOpen (by decide) (by decide), u3 weHeap (by decide) (by decide)]; rw [kk] at hE; exact EO_r8 hE.1) ?_ (fun κ_16 q17 => ?_)
      · refine ⟨⟨weM_E E11 M7, weL_E E11 L7⟩, ⟨by rw [E11.2.2.1, E7.2.2.1]; exact t2, n1⟩, ?_, fun i hi => ?_, fun t ht => ⟨⟨?_, ?_⟩, fun b g1 g2 => ?_⟩⟩
        · rw [r11, R11 weOpen (by decide) (by decide), r7, u3 weOpen (by decide) (by decide)]; exact ct
        · rw [r11, R11 weHeap (by decide) (by decide), r7, u3 weHeap (by decide) (by decide)]; exact hh i hi
        · rw [r11]
          have y := bkB_m d01q B11 (s := 0) (t := t) (Nat.zero_le _) (by omega)
          have y0 := B11.1
          omega
        · rw [r11, E11.2.2.2]
          have y := bkB_m d01q B11 (s := t + 1) (t := m9) (by omega) (Nat.le_refl _)
          have y0 := B11.2.2
          omega
        · rw [r11] at g1 g2
          rw [r11]
          have y := D11 t ht b g1 (by rw [C12 t ht]; exact g2)
          exact y.1
      obtain ⟨q17, z9⟩ := q17
      intro W18
      intro M19
      refine h _ ?_
      · refine and_5 ?_ (fun o9 => ?_)  -- q5
        · have E16 := q17.1
          have R16 := q17.2
          have EE := E11.tr E16
          have r16 : zR κ_16 = zR κ_7 := EE.2.1
          have row : ∀ f, f ∈ weRf → f ∉ rcL → zA κ_16 (zR κ_16 f a0) = zA κ_11 (zR κ_7 f a0) := fun f h1 h2 => by
            rw [r16, ← r11]
            exact R16 f h1 h2
          have k1 : zA κ_16 (zR κ_16 weFirsts a0) = upd (zA κ77 (zR κ_2 weFirsts a0)) m9 x77_3 := by rw [row weFirsts (by decide) (by decide), R11 weFirsts (by decide) (by decide), r7, u2]
          have k2 : zA κ_16 (zR κ_16 weTargets a0) = zA κ77 (zR κ_2 weTargets a0) := by rw [row weTargets (by decide) (by decide), R11 weTargets (by decide) (by decide), r7, u3 weTargets (by decide) (by decide)]
          have lkE := lkD_E (p := a2) W8 T9 T10 EE.1
          have fE := (at_E W8 T9 T10 EE.1 (f := atFirsts) (by decide)).2.1
          have nE : zN κ_16 (zR κ_16 weTargets a0) = zN κ_7 (zR κ_7 weTargets a0) := by rw [r16, EE.2.2.2]
          have n7 : zN κ_7 (zR κ_7 weTargets a0) = zN κ_2 (zR κ_2 weTargets a0) := by rw [r7, E7.2.2.2]
          have um : upd (zA κ77 (zR κ_2 weFirsts a0)) m9 x77_3 m9 = x77_3 := if_pos rfl
          have uj : ∀ j, j < m9 → upd (zA κ77 (zR κ_2 weFirsts a0)) m9 x77_3 j = zA κ77 (zR κ_2 weFirsts a0) j := fun j hj => if_neg (Nat.ne_of_lt hj)
          refine ⟨(ZZ.tr E7.1).tr EE.1, ⟨⟨weM_E EE M7, weL_E EE L7⟩, ⟨by rw [EE.2.2.1, E7.2.2.1]; exact t2, n1⟩, ?_, ?_, fun t ht b g1 g2 => ?_⟩, atW_E W8 T9 T10 EE.1 A7⟩
          · rw [k1, k2, nE, n7]
            unfold wfO
            rw [um]
            refine ⟨fun k hk => ?_, fun k hk => ?_, lnb, tg⟩
            · by_cases z : k = m9
              · rw [z, um]; exact ⟨ll.1, Int.le_refl _⟩
              · rw [uj k (by omega)]; exact f1 k (by omega)
            · rw [uj k hk]
              by_cases z : k + 1 = m9
              · rw [z, um]; exact (f1 k hk).2
              · rw [uj (k + 1) (by omega)]; exact f2 k (by omega)
          · rw [lkE, fE, nE, row weBackFirsts (by decide) (by decide)]; exact B11
          · rw [row weBackFirsts (by decide) (by decide)] at g1 g2
            rw [lkE, fE, row weSources (by decide) (by decide), row weEdges (by decide) (by decide)]
            exact D11 t ht b g1 (by rw [C12 t ht]; exact g2)
        · have E16 := q17.1
          have EE := E11.tr E16
          have r16 : zR κ_16 = zR κ_7 := EE.2.1
          have o11 : zA κ_11 (zR κ_11 weOpen a0) = zA κ77 (zR κ_2 weOpen a0) := by rw [r11, R11 weOpen (by decide) (by decide), r7, u3 weOpen (by decide) (by decide)]
          have Z16 := E7.1.tr EE.1
          have ar : ∀ f, f = atSorts ∨ f = atChooses ∨ f = atFirsts ∨ f = atPlan → zA κ_16 (zR κ_16 f a1) = zA κ_2 (zR κ_2 f a1) := fun f hf => (at_E W4 T2 T2b Z16 (f := f) (by rcases hf with e | e | e | e <;> rw [e] <;> decide)).2.1
          have ar7 : ∀ f, f = atSorts ∨ f = atChooses ∨ f = atFirsts ∨ f = atPlan → zA κ_7 (zR κ_7 f a1) = zA κ_2 (zR κ_2 f a1) := fun f hf => (at_E W4 T2 T2b E7.1 (f := f) (by rcases hf with e | e | e | e <;> rw [e] <;> decide)).2.1
          have lkE := lkD_E (p := a2) W8 T9 T10 EE.1
          obtain ⟨t1, t2'⟩ := eT_E8 (p := a2) ar
          have le : el8 κ_16 a1 a2 m9 = el8 κ_7 a1 a2 m9 := el_E8 ((ar atFirsts (by decide)).trans (ar7 atFirsts (by decide)).symm) lkE
          have bl := bk_l8 zB
          rw [← r11] at bl
          rw [kk] at hE
          have op : ∀ k, k < m9 → (zA κ77 (zR κ_2 weOpen a0) k ≠ 0 ↔ eo8 κ_16 a1 a2 k) := fun k hk => by
            rw [t2']
            exact hE.1.1 k hk
          refine ⟨?_, ?_⟩
          · intro k hk
            rw [r16, ← r11, z9 k hk, o11, bl, le, op k hk]
            constructor
            · rintro (y | ⟨t, y1, y2, y3⟩)
              · exact Or.inl y
              · exact Or.inr ⟨t, y1, (op t y1).mp y2, y3⟩
            · rintro (y | ⟨t, y1, y2, y3⟩)
              · exact Or.inl y
              · exact Or.inr ⟨t, y1, (op t y1).mpr y2, y3⟩
          · have R16 := q17.2
            have row : ∀ f, f ∈ weRf → f ∉ rcL → zA κ_16 (zR κ_16 f a0) = zA κ_11 (zR κ_7 f a0) := fun f h1 h2 => by
              rw [r16, ← r11]
              exact R16 f h1 h2
            have k1 : zA κ_16 (zR κ_16 weFirsts a0) = upd (zA κ77 (zR κ_2 weFirsts a0)) m9 x77_3 := by rw [row weFirsts (by decide) (by decide), R11 weFirsts (by decide) (by decide), r7, u2]
            have k2 : zA κ_16 (zR κ_16 weTargets a0) = zA κ77 (zR κ_2 weTargets a0) := by rw [row weTargets (by decide) (by decide), R11 weTargets (by decide) (by decide), r7, u3 weTargets (by decide) (by decide)]
            intro j hj y
            have w := LO_z8 (wf' := upd (zA κ77 (zR κ_2 weFirsts a0)) m9 x77_3) hE.2 (fun j hj => if_neg hj) (congrArg Int32.toInt (show upd (zA κ77 (zR κ_2 weFirsts a0)) m9 x77_3 m9 = x77_3 from if_pos rfl)) j hj y
            rw [k1, k2, ar atFirsts (by decide), lkE, lk7]
            exact w
    · skip
      rw [lei, is] at c6
      have lt77 : x77_5.toNatClampNeg < m9 := by omega
      obtain ⟨X1, X2, X3, X4, X5⟩ := EK x77_5.toNatClampNeg lt77
      refine ⟨?_, ?_⟩
      · rw [rs, ns, inb_iff]; omega  -- b6
      intro κ_20 hκ_20
      intro W21
      have U := we_u W77 T77_0 (f := weFirsts) (by decide) hκ_20
      refine ⟨?_, ?_⟩
      · rw [U.1.2.1, U.1.2.2.2, rs, ns, inb_iff]; omega  -- b7
      intro κ_22 hκ_22
      intro W23
      have nv0 : vp_nar .boolean (0 : Int32) = 0 := rfl
      rw [nv0] at hκ_22
      have V := we_u W21 U.2.2.2 (f := weOpen) (by decide) hκ_22
      have E22 := (H77.1.tr U.1).tr V.1
      have g22 := at_E W4 T2 T2b E22.1 (f := atFirsts) (by decide)
      refine ⟨?_, ?_⟩
      · have l1 := AM.1
        rw [g22.2.2, inb_iff]; omega
      intro x24 hx24
      unfold w_We_weave_111
      refine ⟨fun n l0 l1 l2 l3 l4 l5 l6 τ => n = (20000 - l6.toInt).toNat ∧ ((a0 = l0 ∧ a1 = l1 ∧ a2 = l2 ∧ x77_5 = l5 ∧ ((zA κ_2 (zR κ_2 atFirsts a1) x77_5.toNatClampNeg).toInt ≤ l6.toInt ∧ l6.toInt ≤ (zA κ_2 (zR κ_2 atFirsts a1) (x77_5.toNatClampNeg + 1)).toInt) ∧ wvI κ_2 τ a0 a1 a2 m9 x77_5.toNatClampNeg l6.toInt (x77_5.toNatClampNeg + 1) l3 l4) ∧ (EI8 (eT8 κ_2 a1 a2) (zA κ_2 (zR κ_2 atFirsts a1)) (zA τ (zR κ_2 weOpen a0)) (zA τ (zR κ_2 weHeap a0)) l5.toNatClampNeg l4.toInt l6.toInt ∧ LI8 (fun y k i => lkD κ_2 a1 a2 y k i = 1) (zA κ_2 (zR κ_2 atFirsts a1)) (zA τ (zR κ_2 weFirsts a0)) (zA τ (zR κ_2 weTargets a0)) l5.toNatClampNeg l3.toInt l6.toInt)), ⟨_, rfl, ?_⟩, ?_⟩
      · refine and_5 ?_ (fun o9 => ?_)  -- j9
        · rw [hx24, g22.2.1]
          exact ⟨rfl, rfl, rfl, rfl, ⟨Int.le_refl _, X1.2.1⟩, wv_b W77 W21 T77_0 H77 hκ_20 hκ_22⟩
        · have u2 := U.2.2.1
          have v2 := V.2.1
          have v3 := V.2.2.1
          rw [rs] at u2
          rw [U.1.2.1, rs] at v2 v3
          have o1 : zA κ_22 (zR κ_2 weOpen a0) = upd (zA κ77 (zR κ_2 weOpen a0)) x77_5.toNatClampNeg 0 := by rw [v2, u2 weOpen (by decide) (by decide)]
          have o2 : zA κ_22 (zR κ_2 weHeap a0) = zA κ77 (zR κ_2 weHeap a0) := by rw [v3 weHeap (by decide) (by decide), u2 weHeap (by decide) (by decide)]
          have o3 : zA κ_22 (zR κ_2 weFirsts a0) = upd (zA κ77 (zR κ_2 weFirsts a0)) x77_5.toNatClampNeg x77_3 := by
            have u1 := U.2.1
            rw [rs] at u1
            rw [v3 weFirsts (by decide) (by decide), u1]
          have o4 : zA κ_22 (zR κ_2 weTargets a0) = zA κ77 (zR κ_2 weTargets a0) := by rw [v3 weTargets (by decide) (by decide), u2 weTargets (by decide) (by decide)]
          rw [o1, o2, o3, o4, hx24, g22.2.1]
          exact ⟨EI_b8 hE.1, LI_b8 hE.2 (fun j hj => if_neg hj) (congrArg Int32.toInt (show upd (zA κ77 (zR κ_2 weFirsts a0)) x77_5.toNatClampNeg x77_3 x77_5.toNatClampNeg = x77_3 from if_pos rfl))⟩
      rintro n111 _ _ _ x111_3 x111_4 x111_5 x111_6 κ111 W111 T111_0 T111_1 ⟨hn111, ⟨rfl, rfl, rfl, i111⟩, hE⟩
      obtain ⟨rfl, x111, H111⟩ := i111
      have rt := H111.1.2.1
      have nt := H111.1.2.2.2
      have Z111 := H111.1.1
      have gF := at_E W4 T2 T2b Z111 (f := atFirsts) (by decide)
      have gS := at_E W4 T2 T2b Z111 (f := atSorts) (by decide)
      have gN := at_E W4 T2 T2b Z111 (f := atNumbers) (by decide)
      have kx := cnk (x := x111_6) (by omega)
      have kx2 : x111_6.toInt.toNat = x111_6.toNatClampNeg := rfl
      have l111 := H111.2.2.1
      have e6 := cn1 (x := x111_6) (by omega) (by omega)
      have en := cn1 k77.1 (by omega)
      have hj143 : ∀ (l0 : Nat) (l1 : Nat) (l2 : Int32) (l3 : Int32) (l4 : Int32) (l5 : Int32) (l6 : Int32) (τ : zS), zW C (zn κ) τ → zT τ l0 = 14 → zT τ l1 = 3 → ((a0 = l0 ∧ a1 = l1 ∧ a2 = l2 ∧ κ111 = τ ∧ x111_3 = l3 ∧ x111_4 = l4 ∧ x77_5 = l5 ∧ x111_6 = l6 ∧ x111_6.toInt < (zA κ_2 (zR κ_2 atFirsts a1) (x77_5.toNatClampNeg + 1)).toInt ∧ (a2 = 0 ∨ zA κ_2 (zR κ_2 atChooses a1) x77_5.toNatClampNeg = 0 ∨ Int32.ofNat x111_6.toNatClampNeg = zA κ_2 (zR κ_2 atFirsts a1) x77_5.toNatClampNeg + zA κ_2 (zR κ_2 atPlan a1) x77_5.toNatClampNeg)) ∧ (EI8 (eT8 κ_2 a1 a2) (zA κ_2 (zR κ_2 atFirsts a1)) (zA τ (zR κ_2 weOpen a0)) (zA τ (zR κ_2 weHeap a0)) l5.toNatClampNeg l4.toInt l6.toInt ∧ LI8 (fun y k i => lkD κ_2 a1 a2 y k i = 1) (zA κ_2 (zR κ_2 atFirsts a1)) (zA τ (zR κ_2 weFirsts a0)) (zA τ (zR κ_2 weTargets a0)) l5.toNatClampNeg l3.toInt l6.toInt)) → w_We_weave_143 C (zn κ) Q (fun (l0' : Nat) (l1' : Nat) (l2' : Int32) (l3' : Int32) (l4' : Int32) (l5' : Int32) (τ : zS) => ∃ k < n77, (fun (n : Nat) (l0 : Nat) (l1 : Nat) (l2 : Int32) (l3 : Int32) (l4 : Int32) (l5 : Int32) (τ : zS) => n = (1000 - l5.toInt).toNat ∧ ((a0 = l0 ∧ a1 = l1 ∧ a2 = l2 ∧ (0 ≤ l5.toInt ∧ l5.toInt ≤ m9) ∧ wvI κ_2 τ a0 a1 a2 m9 l5.toNatClampNeg (zA κ_2 (zR κ_2 atFirsts a1) l5.toNatClampNeg).toInt l5.toNatClampNeg l3 l4) ∧ (EO8 (eT8 κ_2 a1 a2) (zA κ_2 (zR κ_2 atFirsts a1)) (zA τ (zR κ_2 weOpen a0)) (zA τ (zR κ_2 weHeap a0)) l5.toNatClampNeg l4.toInt ∧ LO8 (fun y k i => lkD κ_2 a1 a2 y k i = 1) (zA κ_2 (zR κ_2 atFirsts a1)) (zA τ (zR κ_2 weFirsts a0)) (zA τ (zR κ_2 weTargets a0)) l5.toNatClampNeg l3.toInt))) k l0' l1' l2' l3' l4' l5' τ) (fun (l0' : Nat) (l1' : Nat) (l2' : Int32) (l3' : Int32) (l4' : Int32) (l5' : Int32) (l6' : Int32) (τ : zS) => ∃ k < n111, (fun (n : Nat) (l0 : Nat) (l1 : Nat) (l2 : Int32) (l3 : Int32) (l4 : Int32) (l5 : Int32) (l6 : Int32) (τ : zS) => n = (20000 - l6.toInt).toNat ∧ ((a0 = l0 ∧ a1 = l1 ∧ a2 = l2 ∧ x77_5 = l5 ∧ ((zA κ_2 (zR κ_2 atFirsts a1) x77_5.toNatClampNeg).toInt ≤ l6.toInt ∧ l6.toInt ≤ (zA κ_2 (zR κ_2 atFirsts a1) (x77_5.toNatClampNeg + 1)).toInt) ∧ wvI κ_2 τ a0 a1 a2 m9 x77_5.toNatClampNeg l6.toInt (x77_5.toNatClampNeg + 1) l3 l4) ∧ (EI8 (eT8 κ_2 a1 a2) (zA κ_2 (zR κ_2 atFirsts a1)) (zA τ (zR κ_2 weOpen a0)) (zA τ (zR κ_2 weHeap a0)) l5.toNatClampNeg l4.toInt l6.toInt ∧ LI8 (fun y k i => lkD κ_2 a1 a2 y k i = 1) (zA κ_2 (zR κ_2 atFirsts a1)) (zA τ (zR κ_2 weFirsts a0)) (zA τ (zR κ_2 weTargets a0)) l5.toNatClampNeg l3.toInt l6.toInt))) k l0' l1' l2' l3' l4' l5' l6' τ) l0 l1 l2 l3 l4 l5 l6 τ := by
        rintro _ _ _ y143_3 y143_4 y143_5 y143_6 τ143 W143 T143_0 T143_1 ⟨⟨rfl, rfl, rfl, j143⟩, hE⟩
        unfold w_We_weave_143
        obtain ⟨rfl, rfl, rfl, rfl, rfl, c40, lk⟩ := j143
        refine ⟨?_, ?_⟩
        · rw [gS.2.2, inb_iff]; omega  -- b10
        refine ⟨fun c25 => ?_, fun c25 => ?_⟩
        · skip
          refine ⟨?_, ?_⟩
          · rw [rt, nt, inb_iff]; omega  -- b11
          refine ⟨fun c26 => ?_, fun c26 => ?_⟩
          · skip
            intro x27 hx27
            refine lp_b5 ?_ (fun d9 => ⟨rfl, ?_⟩)
            · rw [hn111, hx27, e6.2]; omega  -- d12
            · refine and_5 ?_ (fun o9 => ?_)  -- i13
              · rw [gS.2.1] at c25
                rw [hx27, e6.2]
                exact ⟨rfl, rfl, rfl, rfl, by omega, wv_n H111 X1.1 x111.1 (fun t _ => if_neg (fun z => c25 z.1.1))⟩
              · rw [hx27, e6.2]
                have c25' := c25
                rw [gS.2.1] at c25'
                refine ⟨EI_h8 hE.1 ?_, LI_n8 hE.2 (by omega) (fun y z => absurd (lkD_1 z).1.1 c25')⟩
                rw [rt] at c26
                exact c26
          · skip
            refine ⟨?_, ?_⟩
            · rw [rt, nt, inb_iff]; omega  -- b14
            intro κ_28 hκ_28
            intro W29
            have nv1 : vp_nar .boolean (1 : Int32) = 1 := rfl
            rw [nv1] at hκ_28
            have U9 := we_u W111 T111_0 (f := weOpen) (by decide) hκ_28
            have wb := (wv_o (κ2 := ua κ_28 (zR κ_28 weHeap a0) x111_4.toNatClampNeg x77_5) W111 W29 T111_0 H111 n1 lt77 (by omega) c26 hκ_28 rfl).1
            refine ⟨?_, ?_⟩
            · rw [U9.1.2.1, U9.1.2.2.2, rt, nt, inb_iff]; omega  -- b15
            intro κ_30 hκ_30
            intro W31
            intro x32 hx32
            intro x33 hx33
            refine lp_b5 ?_ (fun d9 => ⟨rfl, ?_⟩)
            · rw [hn111, hx33, e6.2]; omega  -- d16
            · refine and_5 ?_ (fun o9 => ?_)  -- i17
              · rw [gS.2.1] at c25
                rw [hx32, hx33, e6.2]
                exact ⟨rfl, rfl, rfl, rfl, by omega, wv_n (wv_o W111 W29 T111_0 H111 n1 lt77 (by omega) c26 hκ_28 hκ_30).2 X1.1 x111.1 (fun t _ => if_neg (fun z => c25 z.1.1))⟩
              · have u2 := U9.2.1
                have u3 := U9.2.2.1
                have V9 := we_u W29 U9.2.2.2 (f := weHeap) (by decide) hκ_30
                have v2 := V9.2.1
                have v3 := V9.2.2.1
                rw [rt] at u2 u3
                rw [U9.1.2.1, rt] at v2 v3
                have o1 : zA κ_30 (zR κ_2 weOpen a0) = upd (zA κ111 (zR κ_2 weOpen a0)) x77_5.toNatClampNeg 1 := (v3 weOpen (by decide) (by decide)).trans u2
                have o2 : zA κ_30 (zR κ_2 weHeap a0) = upd (zA κ111 (zR κ_2 weHeap a0)) x111_4.toNatClampNeg x77_5 := by rw [v2, u3 weHeap (by decide) (by decide)]
                have em := cn1 (x := x111_4) (by omega) (by omega)
                have km := cnk (x := x111_4) (by omega)
                rw [gS.2.1] at c25
                have o3 : zA κ_30 (zR κ_2 weFirsts a0) = zA κ111 (zR κ_2 weFirsts a0) := by rw [v3 weFirsts (by decide) (by decide), u3 weFirsts (by decide) (by decide)]
                have o4 : zA κ_30 (zR κ_2 weTargets a0) = zA κ111 (zR κ_2 weTargets a0) := by rw [v3 weTargets (by decide) (by decide), u3 weTargets (by decide) (by decide)]
                rw [o1, o2, o3, o4, hx32, em.2, hx33, e6.2]
                refine ⟨?_, LI_n8 hE.2 (by omega) (fun y z => absurd (lkD_1 z).1.1 c25)⟩
                exact EI_s8 hE.1 km (by omega) x111.1 (by omega) ⟨c25, lk⟩ (by decide)
        · skip
          rw [gS.2.1] at c25
          have nx := (X2 x111_6.toNatClampNeg (by omega) (by omega)).1 c25
          have et := cn1 nx.1 (by omega)
          have kt := cnk nx.1
          refine ⟨?_, ?_⟩
          · rw [gN.2.2, inb_iff]; omega  -- b18
          refine ⟨?_, ?_⟩
          · have y := L2.2.1
            rw [rt, nt, inb_iff]; omega
          intro κ_34 hκ_34
          intro W35
          intro x36 hx36
          rw [gN.2.1] at hκ_34
          have U34 := we_u W111 T111_0 (f := weTargets) (by decide) hκ_34
          have g34 := at_E W4 T2 T2b (Z111.tr U34.1.1) (f := atNumbers) (by decide)
          refine ⟨?_, ?_⟩
          · rw [g34.2.2, inb_iff]; omega  -- b20
          refine ⟨?_, ?_⟩
          · rw [g34.2.1, U34.1.2.1, U34.1.2.2.2, rt, nt, inb_iff, et.2]; omega  -- b21
          refine ⟨?_, ?_⟩
          · rw [g34.2.1, U34.1.2.1, U34.1.2.2.2, rt, nt, inb_iff, et.2]; omega  -- b22
          intro κ_37 hκ_37
          intro W38
          intro x39 hx39
          refine lp_b5 ?_ (fun d9 => ⟨rfl, ?_⟩)
          · rw [hn111, hx39, e6.2]; omega  -- d23
          · refine and_5 ?_ (fun o9 => ?_)  -- i24
            · rw [g34.2.1] at hκ_37
              rw [hx36, hx39, e6.2]
              refine ⟨rfl, rfl, rfl, rfl, by omega, wv_l (t := (zA κ_2 (zR κ_2 atNumbers a1) x111_6.toNatClampNeg).toNatClampNeg) W111 W35 T111_0 H111 n1 (by omega) X1.1 x111.1 (by omega) kt.symm et.1 (if_pos ⟨⟨c25, lk⟩, kt.symm⟩) (fun s _ hs => if_neg (fun z => ?_)) hκ_34 hκ_37⟩
              have y := z.2
              rw [kx2] at y
              omega
            · have U37 := we_u W35 U34.2.2.2 (f := weBackFirsts) (by decide) hκ_37
              have u3 := U34.2.2.1
              have v3 := U37.2.2.1
              rw [rt] at u3
              rw [U34.1.2.1, rt] at v3
              have o1 : zA κ_37 (zR κ_2 weOpen a0) = zA κ111 (zR κ_2 weOpen a0) := (v3 weOpen (by decide) (by decide)).trans (u3 weOpen (by decide) (by decide))
              have o2 : zA κ_37 (zR κ_2 weHeap a0) = zA κ111 (zR κ_2 weHeap a0) := (v3 weHeap (by decide) (by decide)).trans (u3 weHeap (by decide) (by decide))
              have u2 := U34.2.1
              rw [rt] at u2
              have o3 : zA κ_37 (zR κ_2 weFirsts a0) = zA κ111 (zR κ_2 weFirsts a0) := (v3 weFirsts (by decide) (by decide)).trans (u3 weFirsts (by decide) (by decide))
              have o4 : zA κ_37 (zR κ_2 weTargets a0) = upd (zA κ111 (zR κ_2 weTargets a0)) x111_3.toNatClampNeg (zA κ_2 (zR κ_2 atNumbers a1) x111_6.toNatClampNeg) := (v3 weTargets (by decide) (by decide)).trans u2
              have e3 := cn1 (x := x111_3) (by omega) (by omega)
              rw [o1, o2, o3, o4, hx39, e6.2, hx36, e3.2]
              refine ⟨EI_n8 hE.1 (by omega) (fun z => z.1 c25), LI_s8 (y0 := (zA κ_2 (zR κ_2 atNumbers a1) x111_6.toNatClampNeg).toNatClampNeg) hE.2 (by omega) (by omega) x111.1 (fun q hq => if_neg hq) (congrArg Int32.toNatClampNeg (if_pos rfl)) (fun y => ⟨fun z => ?_, fun z => ?_⟩)⟩
              · have w := (lkD_1 z).2
                rw [kx2] at w
                omega
              · exact if_pos ⟨⟨c25, lk⟩, by rw [kx2]; omega⟩
      refine ⟨?_, ?_⟩
      · have l1 := AM.1
        rw [gF.2.2, inb_iff, en.2]; omega
      refine ⟨fun c40 => ?_, fun c40 => ?_⟩
      · skip
        intro x41 hx41
        refine lp_b5 ?_ (fun d9 => ⟨rfl, ?_⟩)
        · rw [hn77, hx41, en.2]; omega  -- d26
        · refine and_5 ?_ (fun o9 => ?_)  -- i27
          · rw [lei, en.1, gF.2.1] at c40
            have e9 : x111_6.toInt = (zA κ_2 (zR κ_2 atFirsts a1) (x77_5.toNatClampNeg + 1)).toInt := by omega
            rw [e9] at H111
            rw [hx41, en.1, en.2]
            exact ⟨rfl, rfl, rfl, by omega, wv_e H111⟩
          · have c40' := c40
            rw [lei, en.1, gF.2.1] at c40'
            have e9 : x111_6.toInt = (zA κ_2 (zR κ_2 atFirsts a1) (x77_5.toNatClampNeg + 1)).toInt := by omega
            rw [hx41, en.1]
            exact ⟨EI_e8 hE.1 e9, LI_e8 hE.2 e9⟩
      · skip
        rw [lei, en.1, gF.2.1] at c40
        refine ⟨fun c42 => ?_, fun c42 => ?_⟩
        · skip
          refine hj143 _ _ _ _ _ _ _ _ W111 ?_ ?_ ?_
          · exact T111_0  -- t28
          · exact T111_1  -- t29
          · refine and_5 ?_ (fun o9 => hE)  -- k30
            exact ⟨rfl, rfl, rfl, rfl, rfl, rfl, rfl, rfl, by omega, Or.inl c42⟩
        · skip
          intro T43
          refine At_isTaken_c W111 T43  ?_ (fun r44 q46 => ?_)
          · exact ⟨(atW_E W4 T2 T2b Z111 A9).1, k77.1, by omega⟩  -- p31
          have gC := at_E W4 T2 T2b Z111 (f := atChooses) (by decide)
          have gP := at_E W4 T2 T2b Z111 (f := atPlan) (by decide)
          rw [gC.2.1, gF.2.1, gP.2.1] at q46
          have eo : Int32.ofNat x111_6.toNatClampNeg = x111_6 := Int32.toInt_inj.mp (by rw [ofn_i (by omega)]; omega)
          intro W47
          intro M48
          refine ⟨fun c49 => ?_, fun c49 => ?_⟩
          · skip
            refine hj143 _ _ _ _ _ _ _ _ W47 ?_ ?_ ?_
            · exact T111_0  -- t32
            · exact T111_1  -- t33
            · refine and_5 ?_ (fun o9 => hE)  -- k34
              refine ⟨rfl, rfl, rfl, rfl, rfl, rfl, rfl, rfl, by omega, Or.inr ?_⟩
              rcases q46.2.mp c49 with y | y
              · exact Or.inl y
              · exact Or.inr (by rw [eo]; exact y)
          · skip
            intro x50 hx50
            refine lp_b5 ?_ (fun d9 => ⟨rfl, ?_⟩)
            · rw [hn111, hx50, e6.2]; omega  -- d35
            · refine and_5 ?_ (fun o9 => ?_)  -- i36
              · rw [hx50, e6.2]
                refine ⟨rfl, rfl, rfl, rfl, by omega, wv_n H111 X1.1 x111.1 (fun t _ => if_neg (fun z => ?_))⟩
                rcases z.1.2 with y | y | y
                · exact c42 y
                · exact q46.2.mpr (Or.inl y) c49
                · rw [kx2, eo] at y
                  exact q46.2.mpr (Or.inr y) c49
              · rw [hx50, e6.2]
                have no : ∀ P : Prop, (P ∧ (a2 = 0 ∨ zA κ_2 (zR κ_2 atChooses a1) x77_5.toNatClampNeg = 0 ∨ Int32.ofNat x111_6.toInt.toNat = zA κ_2 (zR κ_2 atFirsts a1) x77_5.toNatClampNeg + zA κ_2 (zR κ_2 atPlan a1) x77_5.toNatClampNeg)) → False := fun P z => by
                  rcases z.2 with y | y | y
                  · exact c42 y
                  · exact q46.2.mpr (Or.inl y) c49
                  · rw [kx2, eo] at y
                    exact q46.2.mpr (Or.inr y) c49
                exact ⟨EI_n8 hE.1 (by omega) (fun z => no _ z), LI_n8 hE.2 (by omega) (fun y z => no _ (lkD_1 z).1)⟩
  intro T51
  refine We_makeRows_c W T51  ?_ (fun κ_52 q53 => ?_)
  · exact ⟨U0, L0⟩  -- p37
  intro W54
  intro M55
  intro κ_56 hκ_56
  intro W57
  have ne : a1 ≠ a0 := fun z => by rw [z, Ta0] at Ta1; exact absurd Ta1 (by decide)
  have Z56 : zF (objF a0) κ κ_56 := q53.1.tr (by rw [hκ_56]; exact zF_ui rfl)
  have R56 : zR κ_56 = zR κ_52 := by rw [hκ_56]; rfl
  have N56 : zN κ_56 = zN κ_52 := by rw [hκ_56]; rfl
  have M56 : weM κ_56 a0 := by unfold weM; rw [R56, N56]; exact q53.2.2.1
  have L56 : weL κ_56 a0 := by unfold weL; rw [R56, N56]; exact q53.2.2.2
  have rS : zR κ_52 atStates a1 = zR κ atStates a1 := q53.1.r ne
  have t56 : (zI κ_56 weTotal a0).toInt = (m9 : Int) := by
    have e : zI κ_56 weTotal a0 = zI κ_52 hoTotal (zR κ_52 atStates a1) := by rw [hκ_56]; exact if_pos ⟨rfl, rfl⟩
    rw [e, rS, q53.2.1]
    exact A0.2.2.2.1
  have T56 : zT κ_56 a0 = 14 := Z56.t Ta0 (by decide)
  have T56b : zT κ_56 a1 = 3 := Z56.t Ta1 (by decide)
  have oN := W57.n (ty_weTargets W57 T56)
  have a5 := A0.2.2.2.2.1
  have a2l := A0.2.1.2.2
  have l64 := L56.2.1
  refine ⟨fun c58 => ?_, fun c58 => ?_⟩
  · skip
    refine hj61 _ _ _ _ W57 ?_ ?_ ?_
    · exact T56  -- t38
    · exact T56b  -- t39
    · refine and_5 ?_ (fun o9 => trivial)  -- k40
      rw [lei, ofn_i oN, Z56.i ne] at c58
      exact ⟨rfl, rfl, rfl, ⟨M56, L56⟩, Z56, t56, c58⟩
  · skip
    intro x59 hx59
    rw [lei, ofn_i oN, Z56.i ne] at c58
    have e20 : (20000 : Int32).toInt = 20000 := rfl
    have e2 : (zI κ_56 atNexts a1 * 2).toInt = (zI κ atNexts a1).toInt * 2 := by rw [Z56.i ne, mul_i (by rw [t2i]; omega) (by rw [t2i]; omega), t2i]
    have xb : x59.toInt = 20000 ∨ (x59.toInt = 2 * (zI κ atNexts a1).toInt ∧ x59.toInt ≤ 20000) := by
      rw [hx59]
      split
      · exact Or.inl e20
      · rename_i z
        rw [lti, e20, e2] at z
        rw [e2]; omega
    have kx := cnk (x := x59) (by omega)
    have xn : x59.toNatClampNeg = 20000 ∨ (2 * zN κ_56 (zR κ_56 weTargets a0) ≤ x59.toNatClampNeg ∧ x59.toNatClampNeg < 20000) := by omega
    have lE1 := L56.1.1
    have lE2 := L56.1.2
    refine ⟨?_, ?_⟩
    · exact ⟨by rw [lei, t0i]; omega, by omega⟩  -- b41
    intro κ_60 hκ_60
    intro W61
    refine ⟨?_, ?_⟩
    · rw [hκ_60]; exact if_pos rfl  -- b42
    intro κ_62 hκ_62
    intro W63
    have c1 := we_c (f := weTargets) (o := zN κ_56 (zR κ_56 weTargets a0)) (n := x59.toNatClampNeg) (Or.inl rfl) (by omega) (by omega) (by omega)
    obtain ⟨F1, u1, u2, u3, u4, u5⟩ := we_gr W57 (show zr weTargets = some 20 by decide +kernel) (by decide) T56 hκ_60 hκ_62 c1.1 c1.2
    have T62 : zT κ_62 a0 = 14 := F1.t T56 (by decide)
    have s62 : zN κ_62 (zR κ_62 weSources a0) = zN κ_56 (zR κ_56 weSources a0) := by rw [u2 weSources a0 (fun z => absurd z.1 (by decide)), (u5 _ _ (ty_weSources W57 T56)).1]
    refine ⟨?_, ?_⟩
    · exact ⟨by rw [lei, t0i]; omega, by omega⟩  -- b43
    intro κ_64 hκ_64
    intro W65
    refine ⟨?_, ?_⟩
    · rw [hκ_64]; exact if_pos rfl  -- b44
    intro κ_66 hκ_66
    intro W67
    have c2 := we_c (f := weSources) (o := zN κ_62 (zR κ_62 weSources a0)) (n := x59.toNatClampNeg) (Or.inr (Or.inl rfl)) (by omega) (by omega) (by omega)
    obtain ⟨F2, v1, v2, v3, v4, v5⟩ := we_gr W63 (show zr weSources = some 20 by decide +kernel) (by decide) T62 hκ_64 hκ_66 c2.1 c2.2
    have T66 : zT κ_66 a0 = 14 := F2.t T62 (by decide)
    have s66 : zN κ_66 (zR κ_66 weEdges a0) = zN κ_56 (zR κ_56 weEdges a0) := by rw [v2 weEdges a0 (fun z => absurd z.1 (by decide)), (v5 _ _ (ty_weEdges W63 T62)).1, u2 weEdges a0 (fun z => absurd z.1 (by decide)), (u5 _ _ (ty_weEdges W57 T56)).1]
    refine ⟨?_, ?_⟩
    · exact ⟨by rw [lei, t0i]; omega, by omega⟩  -- b45
    intro κ_68 hκ_68
    intro W69
    refine ⟨?_, ?_⟩
    · rw [hκ_68]; exact if_pos rfl  -- b46
    intro κ_70 hκ_70
    intro W71
    have c3 := we_c (f := weEdges) (o := zN κ_66 (zR κ_66 weEdges a0)) (n := x59.toNatClampNeg) (Or.inr (Or.inr rfl)) (by omega) (by omega) (by omega)
    obtain ⟨F3, w1, w2, w3, w4, w5⟩ := we_gr W67 (show zr weEdges = some 20 by decide +kernel) (by decide) T66 hκ_68 hκ_70 c3.1 c3.2
    refine hj61 _ _ _ _ W71 ?_ ?_ ?_
    · have c3 := we_c (f := weEdges) (o := zN κ_66 (zR κ_66 weEdges a0)) (n := x59.toNatClampNeg) (Or.inr (Or.inr rfl)) (by omega) (by omega) (by omega)
      obtain ⟨F3, w1, w2, w3, w4, w5⟩ := we_gr W67 (show zr weEdges = some 20 by decide +kernel) (by decide) T66 hκ_68 hκ_70 c3.1 c3.2
      exact F3.t T66 (by decide)
    · have c3 := we_c (f := weEdges) (o := zN κ_66 (zR κ_66 weEdges a0)) (n := x59.toNatClampNeg) (Or.inr (Or.inr rfl)) (by omega) (by omega) (by omega)
      obtain ⟨F3, w1, w2, w3, w4, w5⟩ := we_gr W67 (show zr weEdges = some 20 by decide +kernel) (by decide) T66 hκ_68 hκ_70 c3.1 c3.2
      exact F3.t (F2.t (F1.t T56b (by decide)) (by decide)) (by decide)
    · refine and_5 ?_ (fun o9 => trivial)  -- k49
      have c3 := we_c (f := weEdges) (o := zN κ_66 (zR κ_66 weEdges a0)) (n := x59.toNatClampNeg) (Or.inr (Or.inr rfl)) (by omega) (by omega) (by omega)
      obtain ⟨F3, w1, w2, w3, w4, w5⟩ := we_gr W67 (show zr weEdges = some 20 by decide +kernel) (by decide) T66 hκ_68 hκ_70 c3.1 c3.2
      have tT : zT κ_62 (zn κ_56) = 20 := by rw [← u3]; exact ty_weTargets W63 T62
      have tS : zT κ_66 (zn κ_62) = 20 := by rw [← v3]; exact ty_weSources W67 T66
      have rT : zR κ_70 weTargets a0 = zn κ_56 := (w2 weTargets a0 (fun z => absurd z.1 (by decide))).trans ((v2 weTargets a0 (fun z => absurd z.1 (by decide))).trans u3)
      have rS2 : zR κ_70 weSources a0 = zn κ_62 := (w2 weSources a0 (fun z => absurd z.1 (by decide))).trans v3
      have nT : zN κ_70 (zn κ_56) = x59.toNatClampNeg := ((w5 _ _ (F2.t tT (by decide))).1).trans (((v5 _ _ tT).1).trans u4)
      have nS2 : zN κ_70 (zn κ_62) = x59.toNatClampNeg := ((w5 _ _ tS).1).trans v4
      have ow : ∀ f, f ∈ weRf → f ≠ weTargets → f ≠ weSources → f ≠ weEdges → zN κ_70 (zR κ_70 f a0) = zN κ_56 (zR κ_56 f a0) := fun f hf h1 h2 h3 => by
        obtain ⟨⟨t, g1, g2⟩, g3⟩ := weRf_r f hf
        have ty := W57.r g1 (T56.trans g3.symm)
        have y1 : zT κ_56 (zR κ_56 f a0) = (t - 1) + 1 := by omega
        have ty2 := W63.r g1 (T62.trans g3.symm)
        have y2 : zT κ_62 (zR κ_62 f a0) = (t - 1) + 1 := by omega
        have ty3 := W67.r g1 (T66.trans g3.symm)
        have y3 : zT κ_66 (zR κ_66 f a0) = (t - 1) + 1 := by omega
        rw [w2 f a0 (fun z => h3 z.1), (w5 _ _ y3).1, v2 f a0 (fun z => h2 z.1), (v5 _ _ y2).1, u2 f a0 (fun z => h1 z.1), (u5 _ _ y1).1]
      refine ⟨rfl, rfl, rfl, ⟨?_, ?_⟩, ((Z56.tr (F1.mono (fun f x z => z.2))).tr (F2.mono (fun f x z => z.2))).tr (F3.mono (fun f x z => z.2)), ?_, ?_⟩
      · unfold weM
        rw [ow weFirsts (by decide) (by decide) (by decide) (by decide), ow weBackFirsts (by decide) (by decide) (by decide) (by decide), ow weOpen (by decide) (by decide) (by decide) (by decide), ow weKnotFirsts (by decide) (by decide) (by decide) (by decide), ow weKnotOf (by decide) (by decide) (by decide) (by decide), ow weOrder (by decide) (by decide) (by decide) (by decide), ow weSeen (by decide) (by decide) (by decide) (by decide), ow weLow (by decide) (by decide) (by decide) (by decide), ow weCursor (by decide) (by decide) (by decide) (by decide), ow wePath (by decide) (by decide) (by decide) (by decide), ow weHeap (by decide) (by decide) (by decide) (by decide)]
        exact M56
      · unfold weL
        rw [rT, rS2, w3, nT, nS2, w4]
        exact ⟨⟨rfl, rfl⟩, by omega, by omega⟩
      · rw [w1, v1, u1]; exact t56
      · rw [rT, nT]; omega

end
section
set_option maxHeartbeats 1600000
/-! the class: survey: rings counted, by knots and by states -/
theorem iR_z8 {κ τ : zS} {w : Nat} (h : ∀ f, f = weKnotFirsts ∨ f = weFirsts ∨ f = weTargets ∨ f = weOrder → zA τ (zR τ f w) = zA κ (zR κ f w)) : iR8 τ w = iR8 κ w := by
  funext c
  unfold iR8
  rw [h weKnotFirsts (by decide), h weFirsts (by decide), h weTargets (by decide), h weOrder (by decide)]
theorem svR_8 {κ κ3 κ8 : zS} {a w n : Nat} (K : weKn κ8 w n) (P : knP8 κ3 κ8 w n) (L : ∀ j, j < n → ∀ y, (Ed8 (qI8 (zA κ3 (zR κ3 weFirsts w))) (qN8 (zA κ3 (zR κ3 weTargets w))) j y ↔ ∃ i : Nat, (zA κ3 (zR κ3 atFirsts a) j).toInt ≤ (i : Int) ∧ (i : Int) < (zA κ3 (zR κ3 atFirsts a) (j + 1)).toInt ∧ lkD κ3 a 0 y j i = 1)) (hE : ∀ x y, x < n → Ed8 (qI8 (zA κ3 (zR κ3 weFirsts w))) (qN8 (zA κ3 (zR κ3 weTargets w))) x y → y < n) (le : el8 κ3 a 0 n = el8 κ a 0 n) (wr : zA κ8 (zR κ8 weFirsts w) = zA κ3 (zR κ3 weFirsts w) ∧ zA κ8 (zR κ8 weTargets w) = zA κ3 (zR κ3 weTargets w)) : ct8 (iR8 κ8 w) (zI κ8 weKnots w).toInt.toNat = ct8 (ls8 (el8 κ a 0 n)) n ∧ mx8 (sr8 κ8 w) (zI κ8 weKnots w).toInt.toNat = mx8 (gs8 (el8 κ a 0 n) n) n := by
  obtain ⟨k1, k2, k3, k4⟩ := K
  rw [← le]
  have ee : ∀ x y, x < n → (Ed8 (qI8 (zA κ3 (zR κ3 weFirsts w))) (qN8 (zA κ3 (zR κ3 weTargets w))) x y ↔ el8 κ3 a 0 n x y) := fun x y hx => ⟨fun z => ⟨hx, hE x y hx z, (L x hx y).mp z⟩, fun z => (L x hx y).mpr z.2.2⟩
  have f1 : ∀ {u v : Nat}, u < n → (Rf8 (Ed8 (qI8 (zA κ3 (zR κ3 weFirsts w))) (qN8 (zA κ3 (zR κ3 weTargets w)))) u v ↔ Rf8 (el8 κ3 a 0 n) u v) := fun hu => ⟨fun r => Rf_w8 (fun x y hx z => ⟨(ee x y hx).mp z, hE x y hx z⟩) hu r, fun r => Rf_w8 (fun x y hx z => ⟨(ee x y hx).mpr z, z.2.1⟩) hu r⟩
  have kfb : ∀ c : Nat, (c : Int) < (zI κ8 weKnots w).toInt → 0 ≤ (zA κ8 (zR κ8 weKnotFirsts w) c).toInt := fun c hc => (k2 c hc).1
  have KN : KN8 n (zI κ8 weKnots w).toInt.toNat (qN8 (zA κ8 (zR κ8 weKnotOf w))) (qN8 (zA κ8 (zR κ8 weOrder w))) (qN8 (zA κ8 (zR κ8 weKnotFirsts w))) (el8 κ3 a 0 n) := by
    refine ⟨fun i hi => ?_, fun c hc => ?_, k4, fun u v hu hv => ?_, fun x y hx z => z.2.1⟩
    · obtain ⟨o1, o2, o3, o4⟩ := k3 i hi
      have n1 := cnk o1.1
      have n2 := cnk o2.1
      have q := k2 (zA κ8 (zR κ8 weKnotOf w) (zA κ8 (zR κ8 weOrder w) i).toNatClampNeg).toNatClampNeg (by omega)
      have n3 := cnk q.1
      have n4 := cnk (x := zA κ8 (zR κ8 weKnotFirsts w) ((zA κ8 (zR κ8 weKnotOf w) (zA κ8 (zR κ8 weOrder w) i).toNatClampNeg).toNatClampNeg + 1)) (by omega)
      exact ⟨by show (zA κ8 (zR κ8 weOrder w) i).toNatClampNeg < n; omega, by show (zA κ8 (zR κ8 weKnotOf w) (zA κ8 (zR κ8 weOrder w) i).toNatClampNeg).toNatClampNeg < _; omega, by show (zA κ8 (zR κ8 weKnotFirsts w) ((zA κ8 (zR κ8 weKnotOf w) (zA κ8 (zR κ8 weOrder w) i).toNatClampNeg).toNatClampNeg)).toNatClampNeg ≤ i; omega, by show i < (zA κ8 (zR κ8 weKnotFirsts w) (((zA κ8 (zR κ8 weKnotOf w) (zA κ8 (zR κ8 weOrder w) i).toNatClampNeg).toNatClampNeg) + 1)).toNatClampNeg; omega⟩
    · have q := k2 c (by omega)
      have n3 := cnk q.1
      have n4 := cnk (x := zA κ8 (zR κ8 weKnotFirsts w) (c + 1)) (by omega)
      exact ⟨by show (zA κ8 (zR κ8 weKnotFirsts w) c).toNatClampNeg < (zA κ8 (zR κ8 weKnotFirsts w) (c + 1)).toNatClampNeg; omega, by show (zA κ8 (zR κ8 weKnotFirsts w) (c + 1)).toNatClampNeg ≤ n; omega⟩
    · have nn : ∀ s, s < n → 0 ≤ (zA κ8 (zR κ8 weKnotOf w) s).toInt := fun s hs => by
        obtain ⟨i, i1, i2⟩ := k4 s hs
        have q := (k3 i i1).2.1.1
        rw [i2] at q
        exact q
      have a1 := cnk (nn u hu)
      have a2 := cnk (nn v hv)
      rw [← f1 hu, ← f1 hv, ← P u v hu hv]
      exact ⟨fun z => Int32.toInt_inj.mp (by have z' : (zA κ8 (zR κ8 weKnotOf w) u).toNatClampNeg = (zA κ8 (zR κ8 weKnotOf w) v).toNatClampNeg := z; omega), fun z => by show (zA κ8 (zR κ8 weKnotOf w) u).toNatClampNeg = (zA κ8 (zR κ8 weKnotOf w) v).toNatClampNeg; rw [z]⟩
  refine KN_r8 KN (fun c hc => ?_) (fun c hc => ?_)
  · have q := k2 c (by omega)
    have n3 := cnk q.1
    have n4 := cnk (x := zA κ8 (zR κ8 weKnotFirsts w) (c + 1)) (by omega)
    have hd := (hd_8 KN hc).1
    unfold iR8 ir8
    rw [wr.1, wr.2]
    have e := ee _ (qN8 (zA κ8 (zR κ8 weOrder w)) (qN8 (zA κ8 (zR κ8 weKnotFirsts w)) c)) hd
    constructor
    · rintro (z | z)
      · exact Or.inl (by show 1 < (zA κ8 (zR κ8 weKnotFirsts w) (c + 1)).toNatClampNeg - (zA κ8 (zR κ8 weKnotFirsts w) c).toNatClampNeg; omega)
      · exact Or.inr (e.mp z)
    · rintro (z | z)
      · have z' : 1 < (zA κ8 (zR κ8 weKnotFirsts w) (c + 1)).toNatClampNeg - (zA κ8 (zR κ8 weKnotFirsts w) c).toNatClampNeg := z
        exact Or.inl (by omega)
      · exact Or.inr (e.mpr z)
  · have q := k2 c (by omega)
    have n3 := cnk q.1
    have n4 := cnk (x := zA κ8 (zR κ8 weKnotFirsts w) (c + 1)) (by omega)
    unfold sr8 kz8
    congr 1
    show ((zA κ8 (zR κ8 weKnotFirsts w) (c + 1)).toInt - (zA κ8 (zR κ8 weKnotFirsts w) c).toInt).toNat = (zA κ8 (zR κ8 weKnotFirsts w) (c + 1)).toNatClampNeg - (zA κ8 (zR κ8 weKnotFirsts w) c).toNatClampNeg
    omega
/-! the class: survey: which states are hopeless -/
def hw8 (O P : Nat → Int32) (l : Nat) : Prop := ∀ k, k < l → (P k ≠ 0 ↔ O k = 0)
theorem hw_s8 {O P : Nat → Int32} {l : Nat} {s : Int32} (h : hw8 O P l) (g : (s = 0 ∧ ¬ O l = 0) ∨ (s = 1 ∧ O l = 0)) : hw8 O (upd P l (vp_nar .boolean s)) (l + 1) := fun k hk => by
  by_cases c : k = l
  · have e : upd P l (vp_nar .boolean s) k = vp_nar .boolean s := if_pos c
    rw [e, c]
    rcases g with ⟨g1, g2⟩ | ⟨g1, g2⟩
    · rw [g1]
      exact ⟨fun z => absurd rfl z, fun z => absurd z g2⟩
    · rw [g1]
      exact ⟨fun _ => g2, fun _ => by decide⟩
  · have e : upd P l (vp_nar .boolean s) k = P k := if_neg c
    rw [e]
    exact h k (by omega)
/-- which states are hopeless, by the nexts -/
def hp9 (κ : zS) (a n k : Nat) : Prop := eo8 κ a 0 k ∨ ∃ t, t < n ∧ eo8 κ a 0 t ∧ Tr (el8 κ a 0 n) k t
theorem At_survey_q6 {C : zC} {n0 : Nat} {a0 : Nat} {κ : zS} {Q : zS → Prop} (W : zW C n0 κ) (Ta0 : zT κ a0 = 3) (m9 : Nat) (hr0 : zI κ atRings a0 = 0 ∧ zI κ atGreatest a0 = 0) (hp : ((weU κ (zR κ atWeb a0) ∨ weM κ (zR κ atWeb a0)) ∧ weL κ (zR κ atWeb a0)) ∧ atW κ a0 m9) (h : ∀ (κ' : zS), ((zF (svF κ a0) κ κ' ∧ (weM κ' (zR κ atWeb a0) ∧ weL κ' (zR κ atWeb a0)) ∧ atW κ' a0 m9 ∧ zR κ' atCode a0 = zR κ atCode a0) ∧ ((∀ k, k < m9 → (zA κ' (zR κ' atHopeless a0) k ≠ 0 ↔ ¬ hp9 κ a0 m9 k)) ∧ zI κ' atRings a0 = Int32.ofNat (ct8 (ls8 (el8 κ a0 0 m9)) m9) ∧ zI κ' atGreatest a0 = Int32.ofNat (mx8 (gs8 (el8 κ a0 0 m9) m9) m9))) → Q κ') : zRun C 3 mAt_survey [.ref a0] κ (oV Q noX) := by
  refine At_survey_run W Ta0 ?_
  replace W := W.lo (Nat.le_trans W.1.2.1 W.1.2.2) (Nat.le_refl (zn κ))
  unfold w_At_survey_0
  have nw : zR κ atWeb a0 ≠ a0 := fun z => by
    have t := ty_atWeb W Ta0
    rw [z, Ta0] at t
    exact absurd t (by decide)
  intro T1
  intro T2
  refine We_weave_q6 W T1 T2 m9 ?_ (fun κ_3 q4 => ?_)
  · exact ⟨hp.1.1, hp.1.2, hp.2⟩  -- p1
  obtain ⟨q4, z9⟩ := q4
  have zW9 := z9
  have rw3 : zR κ_3 atWeb a0 = zR κ atWeb a0 := q4.1.r (fun z => nw z.symm)
  have T3 : zT κ_3 a0 = 3 := q4.1.t Ta0 (by decide)
  have Tw3 : zT κ_3 (zR κ atWeb a0) = 14 := q4.1.t (ty_atWeb W Ta0) (by decide)
  obtain ⟨G1, G2, G3, G4, G5⟩ := q4.2.1
  intro W5
  intro M6
  intro T7
  refine We_knot_q6 W5 T7 m9 ?_ (fun κ_8 q9 => ?_)
  · rw [rw3]
    exact ⟨G1.1, G2, G3, G1.2.2.2⟩
  obtain ⟨q9, z9⟩ := q9
  have zK9 := z9.1
  rw [rw3] at q9
  have E8 := q9.1
  have T8 : zT κ_8 a0 = 3 := E8.1.t T3 (by decide)
  have Tw8 : zT κ_8 (zR κ atWeb a0) = 14 := E8.1.t Tw3 (by decide)
  have w8 : zR κ_8 atWeb a0 = zR κ atWeb a0 := by rw [E8.2.1]; exact rw3
  have S8 : weS κ_8 (zR κ atWeb a0) m9 := ⟨weM_K E8 G1.1, q9.2, by rw [E8.2.1, E8.2.2, kn_r W5 Tw3 E8 (f := weFirsts) (by decide) (by decide), kn_r W5 Tw3 E8 (f := weTargets) (by decide) (by decide)]; exact G3, by rw [E8.2.1, E8.2.2]; exact G1.2.2.2⟩
  have L8 : weL κ_8 (zR κ atWeb a0) := by unfold weL; rw [E8.2.1, E8.2.2]; exact G1.2
  have A8 : atW κ_8 a0 m9 := atW_E W5 Tw3 T3 (E8.1.mono (fun f x z => z.1)) q4.2.2
  have M8 := A8.1
  have nS := A8.2.2.2.1
  have n1 := A8.2.2.1
  intro W10
  intro M11
  unfold w_At_survey_18
  refine ⟨fun n l0 l1 τ => n = (1000 - l1.toInt).toNat ∧ ((a0 = l0 ∧ zF (hpF a0) κ_8 τ ∧ zR τ = zR κ_8 ∧ zN τ = zN κ_8 ∧ 0 ≤ l1.toInt) ∧ (hw8 (zA κ_8 (zR κ_8 weOpen (zR κ atWeb a0))) (zA τ (zR κ_8 atHopeless a0)) l1.toNatClampNeg) ∧ zI τ atRings a0 = 0 ∧ zI τ atGreatest a0 = 0), ⟨_, rfl, ?_⟩, ?_⟩
  · refine and_5 ?_ (fun o9 => ?_)  -- j3
    · exact ⟨rfl, zF.rf, rfl, rfl, by decide⟩
    · have a1 : ∀ f, zI κ_8 f a0 = zI κ f a0 := fun f => (E8.1.i (fun z => nw z.1.symm)).trans (q4.1.i (fun z => nw z.symm))
      exact ⟨fun k hk => absurd hk (Nat.not_lt_zero k), (a1 atRings).trans hr0.1, (a1 atGreatest).trans hr0.2⟩
  rintro n18 _ x18_1 κ18 W18 T18_0 ⟨hn18, ⟨rfl, i18⟩, hE⟩
  obtain ⟨Z18, R18, N18, k18⟩ := i18
  have kn18 := cnk k18
  have tS : zI κ18 hoTotal (zR κ18 atStates a0) = zI κ_8 hoTotal (zR κ_8 atStates a0) := by rw [R18]; exact Z18.i (fun z => (at_ne W10 T8).1.2.1 z.1)
  have hj51 : ∀ (l0 : Nat) (l1 : Int32) (s0 : Nat) (s1 : Int32) (s2 : Int32) (τ : zS), zW C (zn κ) τ → zT τ l0 = 3 → zT τ s0 = 23 → ((a0 = l0 ∧ κ18 = τ ∧ s0 = zR κ_8 atHopeless a0 ∧ x18_1 = l1 ∧ x18_1 = s1 ∧ x18_1.toInt < 1000) ∧ ((hw8 (zA κ_8 (zR κ_8 weOpen (zR κ atWeb a0))) (zA τ (zR κ_8 atHopeless a0)) l1.toNatClampNeg ∧ ((s2 = 0 ∧ ¬ zA κ_8 (zR κ_8 weOpen (zR κ atWeb a0)) l1.toNatClampNeg = 0) ∨ (s2 = 1 ∧ zA κ_8 (zR κ_8 weOpen (zR κ atWeb a0)) l1.toNatClampNeg = 0)))) ∧ zI τ atRings a0 = 0 ∧ zI τ atGreatest a0 = 0) → w_At_survey_51 C (zn κ) Q (fun (l0' : Nat) (l1' : Int32) (τ : zS) => ∃ k < n18, (fun (n : Nat) (l0 : Nat) (l1 : Int32) (τ : zS) => n = (1000 - l1.toInt).toNat ∧ ((a0 = l0 ∧ zF (hpF a0) κ_8 τ ∧ zR τ = zR κ_8 ∧ zN τ = zN κ_8 ∧ 0 ≤ l1.toInt) ∧ (hw8 (zA κ_8 (zR κ_8 weOpen (zR κ atWeb a0))) (zA τ (zR κ_8 atHopeless a0)) l1.toNatClampNeg) ∧ zI τ atRings a0 = 0 ∧ zI τ atGreatest a0 = 0)) k l0' l1' τ) l0 l1 s0 s1 s2 τ := by
    rintro _ y51_1 y51_s0 y51_s1 y51_s2 τ51 W51 T51_0 T51_1 ⟨⟨rfl, j51⟩, hE⟩
    unfold w_At_survey_51
    obtain ⟨rfl, rfl, rfl, rfl, lt⟩ := j51
    refine ⟨?_, ?_⟩
    · have l := M8.2.2.2.2.2
      rw [N18, inb_iff]; omega
    intro κ_12 hκ_12
    intro W13
    intro x14 hx14
    refine lp_b5 ?_ (fun d9 => ⟨rfl, ?_⟩)
    · have e := cn1 k18 (by omega)
      rw [hn18, hx14, e.2]; omega
    · refine and_5 ?_ (fun o9 => ?_)  -- i6
      · have e := cn1 k18 (by omega)
        have o := atRf_o W18 T18_0 (f := atHopeless) (by decide)
        rw [R18] at o
        refine ⟨rfl, Z18.tr (by rw [hκ_12]; exact zF_ua (by rw [o]; exact ⟨rfl, Or.inl rfl⟩)), by rw [hκ_12]; exact R18, by rw [hκ_12]; exact N18, by rw [hx14, e.2]; omega⟩
      · have e := cn1 k18 (by omega)
        have r : zA κ_12 (zR κ_8 atHopeless a0) = upd (zA κ18 (zR κ_8 atHopeless a0)) x18_1.toNatClampNeg (vp_nar .boolean y51_s2) := by rw [hκ_12]; exact if_pos rfl
        rw [hx14, e.1, r]
        exact ⟨hw_s8 hE.1.1 hE.1.2, by rw [hκ_12]; exact hE.2.1, by rw [hκ_12]; exact hE.2.2⟩
  refine ⟨fun c15 => ?_, fun c15 => ?_⟩
  · skip
    unfold w_At_survey_60
    refine ⟨fun n l0 l1 τ => n = (1000 - l1.toInt).toNat ∧ ((a0 = l0 ∧ zF (hpF a0) κ_8 τ ∧ zR τ = zR κ_8 ∧ zN τ = zN κ_8 ∧ 0 ≤ l1.toInt) ∧ hw8 (zA κ_8 (zR κ_8 weOpen (zR κ atWeb a0))) (zA τ (zR κ_8 atHopeless a0)) m9 ∧ RG8 κ_8 (zR κ atWeb a0) (zI τ atRings a0) (zI τ atGreatest a0) l1.toNatClampNeg ∧ l1.toInt ≤ (zI κ_8 weKnots (zR κ atWeb a0)).toInt), ⟨_, rfl, ?_⟩, ?_⟩
    · refine and_5 ?_ (fun o9 => ?_)  -- j7
      · exact ⟨rfl, Z18, R18, N18, by decide⟩
      · have c15' := c15
        rw [lei, tS] at c15'
        have kb := S8.2.1.1
        exact ⟨fun k hk => hE.1 k (by omega), RG_08 hE.2.1 hE.2.2, by rw [t0i]; exact kb.1⟩
    rintro n60 _ x60_1 κ60 W60 T60_0 ⟨hn60, ⟨rfl, i60⟩, hE⟩
    obtain ⟨Z60, R60, N60, k60⟩ := i60
    have kn60 := cnk k60
    have w60 : zR κ60 atWeb a0 = zR κ atWeb a0 := by rw [R60]; exact w8
    have S60 := weS_z W10 Tw8 Z60 (fun g z => nw z.1) S8
    refine ⟨fun c16 => ?_, fun c16 => ?_⟩
    · skip
      refine h _ ?_
      · refine and_5 ?_ (fun o9 => ?_)  -- q8
        · have A9 := atW_hp W10 T8 Z60 R60 N60 A8
          refine ⟨((q4.1.mono (fun f x z => Or.inr z)).tr (E8.1.mono (fun f x z => Or.inr z.1))).tr (Z60.mono (fun f x z => Or.inl z)), ⟨S60.1, ?_⟩, A9, ?_⟩
          · exact (weM_z W10 Tw8 Z60 (fun g z => nw z.1)).2.2 L8
          · rw [R60, E8.2.1]; exact q4.1.r (fun z => nw z.symm)
        · have o8 : zA κ_8 (zR κ_8 weOpen (zR κ atWeb a0)) = zA κ_3 (zR κ_3 weOpen (zR κ atWeb a0)) := by
            rw [E8.2.1]
            exact kn_r W5 Tw3 E8 (f := weOpen) (by decide) (by decide)
          have ar : ∀ f, f = atSorts ∨ f = atChooses ∨ f = atFirsts ∨ f = atPlan → zA κ_3 (zR κ_3 f a0) = zA κ (zR κ f a0) := fun f hf => (at_E W T1 T2 q4.1 (f := f) (by rcases hf with e | e | e | e <;> rw [e] <;> decide)).2.1
          obtain ⟨_, t2⟩ := eT_E8 (p := 0) ar
          have le : el8 κ_3 a0 0 m9 = el8 κ a0 0 m9 := el_E8 (ar atFirsts (by decide)) (lkD_E (p := 0) W T1 T2 q4.1)
          refine ⟨?_, ?_⟩
          rotate_left
          · have kk8 : zI κ60 weKnots (zR κ atWeb a0) = zI κ_8 weKnots (zR κ atWeb a0) := Z60.i (fun z => nw z.1)
            have c16' := c16
            rw [lei, w60, kk8] at c16'
            have xK : x60_1.toNatClampNeg = (zI κ_8 weKnots (zR κ atWeb a0)).toInt.toNat := by have := hE.2.2; omega
            have RG := hE.2.1
            rw [xK] at RG
            have cl := svR_8 (n := m9) S8.2.1 (by rw [rw3] at zK9; exact zK9) zW9.2 (tjE_8 G3) le ⟨by rw [E8.2.1]; exact kn_r W5 Tw3 E8 (f := weFirsts) (by decide) (by decide), by rw [E8.2.1]; exact kn_r W5 Tw3 E8 (f := weTargets) (by decide) (by decide)⟩
            exact ⟨RG.1.trans (congrArg Int32.ofNat cl.1), RG.2.trans (congrArg Int32.ofNat cl.2)⟩
          intro k hk
          rw [R60, hE.1 k hk, o8]
          have z := zW9.1 k hk
          rw [t2, le] at z
          unfold hp9
          rw [← z]
          exact ⟨fun y n => n y, fun y => Classical.byContradiction y⟩
    · skip
      intro T17
      rw [lei, w60] at c16
      have kb := S60.2.1.1
      have e := cn1 k60 (by omega)
      refine We_isRing_q6 W60 T17 m9 ?_ (fun r18 q20 => ?_)
      · rw [w60]
        exact ⟨S60.1, n1, S60.2.1, by omega, S60.2.2.1, S60.2.2.2⟩
      obtain ⟨q20, z9⟩ := q20
      have zR9 := z9
      intro W21
      intro M22
      refine ⟨fun c23 => ?_, fun c23 => ?_⟩
      · skip
        intro x24 hx24
        refine lp_b5 ?_ (fun d9 => ⟨rfl, ?_⟩)
        · rw [hn60, hx24, e.2]; omega  -- d10
        · refine and_5 ?_ (fun o9 => ?_)  -- i11
          · exact ⟨rfl, Z60, R60, N60, by rw [hx24, e.2]; omega⟩
          · have ri : iR8 κ60 (zR κ atWeb a0) = iR8 κ_8 (zR κ atWeb a0) := iR_z8 (fun f hf => by
              rcases hf with q | q | q | q <;> rw [q]
              · exact (Z60.row W10 (show zr weKnotFirsts = some 20 by decide +kernel) (by decide) Tw8 (fun z => nw z.1)).1
              · exact (Z60.row W10 (show zr weFirsts = some 20 by decide +kernel) (by decide) Tw8 (fun z => nw z.1)).1
              · exact (Z60.row W10 (show zr weTargets = some 20 by decide +kernel) (by decide) Tw8 (fun z => nw z.1)).1
              · exact (Z60.row W10 (show zr weOrder = some 20 by decide +kernel) (by decide) Tw8 (fun z => nw z.1)).1)
            have kk8 : zI κ60 weKnots (zR κ atWeb a0) = zI κ_8 weKnots (zR κ atWeb a0) := Z60.i (fun z => nw z.1)
            have zz := zR9
            rw [w60, ri] at zz
            rw [hx24, e.1, e.2]
            exact ⟨hE.1, RG_n8 hE.2.1 (fun y => zz.mpr y c23), by rw [kk8] at c16; omega⟩
      · skip
        intro κ_25 hκ_25
        intro W26
        intro T27
        have Z25 : zF (hpF a0) κ_8 κ_25 := Z60.tr (by rw [hκ_25]; exact zF_ui ⟨rfl, Or.inr (Or.inl rfl)⟩)
        have R25 : zR κ_25 = zR κ_8 := by rw [hκ_25]; exact R60
        have N25 : zN κ_25 = zN κ_8 := by rw [hκ_25]; exact N60
        have w25 : zR κ_25 atWeb a0 = zR κ atWeb a0 := by rw [R25]; exact w8
        have S25 := weS_z W10 Tw8 Z25 (fun g z => nw z.1) S8
        have k25 : zI κ_25 weKnots (zR κ atWeb a0) = zI κ60 weKnots (zR κ atWeb a0) := by rw [hκ_25]; rfl
        refine We_sizeOf_c W26 T27 m9 ?_ (fun r28 q30 => ?_)
        · rw [w25, k25]
          exact ⟨S25.1, n1, S25.2.1, by omega⟩
        intro W31
        intro M32
        intro κ_33 hκ_33
        intro W34
        intro x35 hx35
        refine lp_b5 ?_ (fun d9 => ⟨rfl, ?_⟩)
        · rw [hn60, hx35, e.2]; omega  -- d13
        · refine and_5 ?_ (fun o9 => ?_)  -- i14
          · exact ⟨rfl, Z25.tr (by rw [hκ_33]; exact zF_ui ⟨rfl, Or.inr (Or.inr rfl)⟩), by rw [hκ_33]; exact R25, by rw [hκ_33]; exact N25, by rw [hx35, e.2]; omega⟩
          · have ri : iR8 κ60 (zR κ atWeb a0) = iR8 κ_8 (zR κ atWeb a0) := iR_z8 (fun f hf => by
              rcases hf with q | q | q | q <;> rw [q]
              · exact (Z60.row W10 (show zr weKnotFirsts = some 20 by decide +kernel) (by decide) Tw8 (fun z => nw z.1)).1
              · exact (Z60.row W10 (show zr weFirsts = some 20 by decide +kernel) (by decide) Tw8 (fun z => nw z.1)).1
              · exact (Z60.row W10 (show zr weTargets = some 20 by decide +kernel) (by decide) Tw8 (fun z => nw z.1)).1
              · exact (Z60.row W10 (show zr weOrder = some 20 by decide +kernel) (by decide) Tw8 (fun z => nw z.1)).1)
            have kf : zA κ_25 (zR κ_25 weKnotFirsts (zR κ atWeb a0)) = zA κ_8 (zR κ_8 weKnotFirsts (zR κ atWeb a0)) := (Z25.row W10 (show zr weKnotFirsts = some 20 by decide +kernel) (by decide) Tw8 (fun z => nw z.1)).1
            have kk8 : zI κ60 weKnots (zR κ atWeb a0) = zI κ_8 weKnots (zR κ atWeb a0) := Z60.i (fun z => nw z.1)
            have zz := zR9
            rw [w60, ri] at zz
            have z30 := q30.1
            rw [w25, kf] at z30
            have KF := S8.2.1.2.1
            have kb8 := S8.2.1.1
            rw [kk8] at c16
            have g33 : zI κ_33 atGreatest a0 = if zI κ60 atGreatest a0 < r28 then r28 else zI κ60 atGreatest a0 := by
              have y : zI κ_25 atGreatest a0 = zI κ60 atGreatest a0 := by rw [hκ_25]; rfl
              rw [hκ_33, y]
              exact if_pos ⟨rfl, rfl⟩
            have r33 : zI κ_33 atRings a0 = zI κ60 atRings a0 + 1 := by
              have y : zI κ_25 atRings a0 = zI κ60 atRings a0 + 1 := by rw [hκ_25]; exact if_pos ⟨rfl, rfl⟩
              rw [hκ_33]
              exact y
            rw [hx35, e.1, e.2, g33, r33]
            refine ⟨fun k hk => by rw [hκ_33, hκ_25]; exact hE.1 k hk, RG_s8 hE.2.1 (zz.mp c23) (by omega) ?_ (fun d hd => ?_), by omega⟩
            · unfold kz8
              omega
            · have q := KF d (by omega)
              unfold kz8
              omega
  · skip
    rw [lei, tS] at c15
    refine ⟨?_, ?_⟩
    · have l := (weS_z W10 Tw8 Z18 (fun g z => nw z.1) S8).1.2.2.1
      have w18 : zR κ18 atWeb a0 = zR κ atWeb a0 := by rw [R18]; exact w8
      rw [w18, inb_iff]; omega
    refine ⟨fun c36 => ?_, fun c36 => ?_⟩
    · skip
      refine hj51 _ _ _ _ _ _ W18 ?_ ?_ ?_
      · exact T18_0  -- t16
      · exact ty_atHopeless W18 T18_0  -- t17
      · refine and_5 ?_ (fun o9 => ?_)  -- k18
        · exact ⟨rfl, rfl, by rw [R18], rfl, rfl, by omega⟩
        · have o18 := (Z18.row W10 (show zr weOpen = some 23 by decide +kernel) (by decide) Tw8 (fun z => nw z.1)).1
          have w18 : zR κ18 atWeb a0 = zR κ atWeb a0 := by rw [R18]; exact w8
          rw [w18, o18] at c36
          exact ⟨⟨hE.1, Or.inl ⟨rfl, c36⟩⟩, hE.2⟩
    · skip
      refine hj51 _ _ _ _ _ _ W18 ?_ ?_ ?_
      · exact T18_0  -- t19
      · exact ty_atHopeless W18 T18_0  -- t20
      · refine and_5 ?_ (fun o9 => ?_)  -- k21
        · exact ⟨rfl, rfl, by rw [R18], rfl, rfl, by omega⟩
        · have o18 := (Z18.row W10 (show zr weOpen = some 23 by decide +kernel) (by decide) Tw8 (fun z => nw z.1)).1
          have w18 : zR κ18 atWeb a0 = zR κ atWeb a0 := by rw [R18]; exact w8
          rw [w18, o18] at c36
          exact ⟨⟨hE.1, Or.inr ⟨rfl, c36⟩⟩, hE.2⟩

end
section
set_option maxHeartbeats 1600000
/-! hopeless states, of both sides -/
section
variable {κ : zS} {a n : Nat} {σ : rS}
def tb8 (κ : zS) (a n : Nat) (σ : rS) : Prop := atW κ a n ∧ (∀ j, j ≤ n → zA κ (zR κ atFirsts a) j = σ.2.2.1 76 j) ∧ (∀ j : Nat, (j : Int) < (zI κ atNexts a).toInt → zA κ (zR κ atSorts a) j = σ.2.2.1 77 j ∧ zA κ (zR κ atNumbers a) j = σ.2.2.1 78 j) ∧ (σ.1 70).toNatClampNeg = n
theorem eo_8 (h : tb8 κ a n σ) {k : Nat} (hk : k < n) : eo8 κ a 0 k ↔ endN σ 0 k := by
  obtain ⟨A, hF, hT, _⟩ := h
  obtain ⟨X1, X2, _⟩ := A.2.2.2.2.2 k hk
  have nb := A.2.2.2.2.1
  have l2 := A.2.1.2.2
  constructor
  · rintro ⟨i, i1, i2, i3, _⟩
    have li := ofn_i (n := i) (by omega)
    refine ⟨Int32.ofNat i, ?_, ?_, ?_, Or.inl rfl⟩
    · rw [← hF k (by omega), lei, li]; exact i1
    · rw [← hF (k + 1) (by omega), lti, li]; exact i2
    · rw [rd, cl_5 (by omega), ← (hT i (by omega)).1]; exact i3
  · rintro ⟨i, i1, i2, i3, _⟩
    rw [← hF k (by omega), lei] at i1
    rw [← hF (k + 1) (by omega), lti] at i2
    have ci := cnk (x := i) (by omega)
    refine ⟨i.toNatClampNeg, by omega, by omega, ?_, Or.inl rfl⟩
    rw [(hT i.toNatClampNeg (by omega)).1]
    exact i3
theorem el_8 (h : tb8 κ a n σ) {x y : Nat} (hx : x < n) : el8 κ a 0 n x y ↔ edN σ 0 87 1 x y := by
  obtain ⟨A, hF, hT, _⟩ := h
  obtain ⟨X1, X2, _⟩ := A.2.2.2.2.2 x hx
  have nb := A.2.2.2.2.1
  have l2 := A.2.1.2.2
  constructor
  · rintro ⟨_, hy, i, i1, i2, i3⟩
    obtain ⟨⟨j1, _⟩, j2⟩ := lkD_1 i3
    have li := ofn_i (n := i) (by omega)
    refine ⟨Int32.ofNat i, ?_, ?_, ?_, ?_, Or.inl rfl, Or.inl (by decide)⟩
    · rw [← hF x (by omega), lei, li]; exact i1
    · rw [← hF (x + 1) (by omega), lti, li]; exact i2
    · rw [rd, cl_5 (by omega), ← (hT i (by omega)).1]; exact j1
    · rw [rd, cl_5 (by omega), ← (hT i (by omega)).2, nc_5, j2]
      omega
  · rintro ⟨i, i1, i2, i3, i4, _⟩
    rw [← hF x (by omega), lei] at i1
    rw [← hF (x + 1) (by omega), lti] at i2
    have ci := cnk (x := i) (by omega)
    rw [rd, ← (hT i.toNatClampNeg (by omega)).1] at i3
    rw [rd, ← (hT i.toNatClampNeg (by omega)).2] at i4
    have nx := (X2 i.toNatClampNeg (by omega) (by omega)).1 i3
    have hn := A.2.2.2.1
    have cy := cnk nx.1
    refine ⟨hx, by omega, i.toNatClampNeg, by omega, by omega, if_pos ⟨⟨i3, Or.inl rfl⟩, by omega⟩⟩
theorem pl_8 (h : tb8 κ a n σ) : ∀ (j x y : Nat), x < n → pth (edN σ 0 87 1) j x y → pth (el8 κ a 0 n) j x y ∧ y < n
  | 0, x, y, hx, p => by
    have e := (el_8 h hx).mpr p
    exact ⟨e, e.2.1⟩
  | j + 1, x, y, hx, p => by
    obtain ⟨c, g1, g2⟩ := p
    have e := (el_8 h hx).mpr g1
    obtain ⟨q1, q2⟩ := pl_8 h j c y e.2.1 g2
    exact ⟨⟨c, e, q1⟩, q2⟩
theorem pr_l8 (h : tb8 κ a n σ) : ∀ (j x y : Nat), pth (el8 κ a 0 n) j x y → pth (edN σ 0 87 1) j x y
  | 0, x, y, p => (el_8 h p.1).mp p
  | j + 1, x, y, p => by
    obtain ⟨c, g1, g2⟩ := p
    exact ⟨c, (el_8 h g1.1).mp g1, pr_l8 h j c y g2⟩
theorem hq_8 (h : tb8 κ a n σ) {k : Nat} (hk : k < n) : hp9 κ a n k ↔ hp8 σ k := by
  have e70 := h.2.2.2
  unfold hp9 hp8
  rw [eo_8 h hk, e70]
  constructor
  · rintro (y | ⟨t, t1, t2, j, t3⟩)
    · exact Or.inl y
    · exact Or.inr ⟨t, t1, ⟨j, pr_l8 h j k t t3⟩, (eo_8 h t1).mp t2⟩
  · rintro (y | ⟨t, t1, ⟨j, t2⟩, t3⟩)
    · exact Or.inl y
    · exact Or.inr ⟨t, t1, (eo_8 h t1).mpr t3, j, (pl_8 h j k t hk t2).1⟩
end

end
section
set_option maxHeartbeats 1600000
/-! rings, of both sides -/
theorem tr_88 {κ : zS} {a n : Nat} {σ : rS} (h : tb8 κ a n σ) {x y : Nat} (hx : x < n) : Tr (el8 κ a 0 n) x y ↔ Tr (edN σ 0 87 1) x y := ⟨fun ⟨j, p⟩ => ⟨j, pr_l8 h j x y p⟩, fun ⟨j, p⟩ => ⟨j, (pl_8 h j x y hx p).1⟩⟩
theorem lg_8 {κ : zS} {a n : Nat} {σ : rS} (h : tb8 κ a n σ) : ct8 (ls8 (el8 κ a 0 n)) n = ct8 (ls8 (edN σ 0 87 1)) n ∧ mx8 (gs8 (el8 κ a 0 n) n) n = mx8 (gs8 (edN σ 0 87 1) n) n := by
  have q : ∀ k, k < n → (ls8 (el8 κ a 0 n) k ↔ ls8 (edN σ 0 87 1) k) := fun k hk => by
    unfold ls8
    rw [tr_88 h hk]
    constructor
    · rintro ⟨z1, z2⟩
      exact ⟨z1, fun m hm y => z2 m hm ⟨(tr_88 h hk).mpr y.1, (tr_88 h (by omega)).mpr y.2⟩⟩
    · rintro ⟨z1, z2⟩
      exact ⟨z1, fun m hm y => z2 m hm ⟨(tr_88 h hk).mp y.1, (tr_88 h (by omega)).mp y.2⟩⟩
  have e : ∀ k, k < n → gs8 (el8 κ a 0 n) n k = gs8 (edN σ 0 87 1) n k := fun k hk => by
    unfold gs8
    rw [ct_e8 (P := fun m => Tr (el8 κ a 0 n) k m ∧ Tr (el8 κ a 0 n) m k) (Q := fun m => Tr (edN σ 0 87 1) k m ∧ Tr (edN σ 0 87 1) m k) (fun m hm => by rw [tr_88 h hk, tr_88 h hm])]
    by_cases c : ls8 (edN σ 0 87 1) k
    · rw [on_1 c, on_1 ((q k hk).mpr c)]
    · rw [on_0 c, on_0 (fun z => c ((q k hk).mp z))]
  exact ⟨ct_e8 q, mx_e8 (fun k hk => Or.inr ⟨k, hk, by rw [e k hk]; exact Nat.le_refl _⟩) (fun k hk => Or.inr ⟨k, hk, by rw [e k hk]; exact Nat.le_refl _⟩)⟩
/-- rings counted, behind exploring -/
def rC8 (r g : Int32) (σ : rS) : Prop := r = Int32.ofNat (ct8 (ls8 (edN σ 0 87 1)) (σ.1 70).toNatClampNeg) ∧ g = Int32.ofNat (mx8 (gs8 (edN σ 0 87 1) (σ.1 70).toNatClampNeg) (σ.1 70).toNatClampNeg)

end
section
set_option maxHeartbeats 1600000
/-! hopeless states, behind exploring, of both sides -/
def hC8 (V : Nat → Int32) (σ : rS) : Prop := ∀ k, k < (σ.1 70).toNatClampNeg → (V k ≠ 0 ↔ ¬ hp8 σ k)
theorem hC_x8 {κ : zS} {a n nv s w lim q : Nat} {σ : rS} {V : Nat → Int32} (A : atW κ a n) (X : XP6 nv s w lim κ a q σ) (h70 : σ.1 70 = Int32.ofNat q) (S : ∀ k, k < n → (V k ≠ 0 ↔ ¬ hp9 κ a n k)) : hC8 V σ := by
  obtain ⟨_, ⟨n2, m, x, SH, _, ⟨f1, _⟩, ⟨b1, b2, b3⟩, _, en, ht⟩, B, f0⟩ := X
  have b9 : n2 ≤ 1000 := SH.2.2.1
  have hn := A.2.2.2.1
  rw [SH.2.1, ofn_i (by omega)] at hn
  have le : n2 ≤ q := by
    refine Decidable.byContradiction (fun c => ?_)
    have y := congrArg Int32.toInt (f1.symm.trans h70)
    rw [ofn_i (by omega), ofn_i (by omega)] at y
    omega
  have e70 : (σ.1 70).toNatClampNeg = n2 := by rw [f1, cl_5 (by omega)]
  intro k hk
  rw [e70] at hk
  have T : tb8 κ a n σ := by
    refine ⟨A, fun j hj => ?_, fun j hj => ?_, by rw [e70]; omega⟩
    · by_cases c : j < q
      · exact (B j c).1
      · have c2 : j = q := by omega
        rw [c2]
        exact f0 (by omega)
    · rw [en, ofn_i (by omega)] at hj
      have y := ht j (by omega)
      exact ⟨y.1, y.2.1⟩
  rw [S k (by omega), hq_8 T (by omega)]
/-- the reference's tables alike: the same states are hopeless -/
theorem hp_r8 {σ τ : rS} {k : Nat} (h70 : τ.1 70 = σ.1 70) (hr : ∀ g, g = 76 ∨ g = 77 ∨ g = 78 → τ.2.2.1 g = σ.2.2.1 g) : hp8 τ k ↔ hp8 σ k := by
  have e0 : ∀ k, endN τ 0 k ↔ endN σ 0 k := fun k => by
    unfold endN rd
    rw [hr 76 (by decide), hr 77 (by decide)]
    exact ⟨fun ⟨i, i1, i2, i3, _⟩ => ⟨i, i1, i2, i3, Or.inl rfl⟩, fun ⟨i, i1, i2, i3, _⟩ => ⟨i, i1, i2, i3, Or.inl rfl⟩⟩
  have e1 : ∀ x y, edN τ 0 87 1 x y ↔ edN σ 0 87 1 x y := fun x y => by
    unfold edN edI edg rd
    rw [hr 76 (by decide), hr 77 (by decide), hr 78 (by decide)]
    exact ⟨fun ⟨i, i1, i2, i3, i4, _⟩ => ⟨i, i1, i2, i3, i4, Or.inl rfl, Or.inl (by decide)⟩, fun ⟨i, i1, i2, i3, i4, _⟩ => ⟨i, i1, i2, i3, i4, Or.inl rfl, Or.inl (by decide)⟩⟩
  unfold hp8
  rw [e0, h70]
  constructor
  · rintro (y | ⟨m, y1, y2, y3⟩)
    · exact Or.inl y
    · exact Or.inr ⟨m, y1, Tr_congr (fun a b e => (e1 a b).mp e) y2, (e0 m).mp y3⟩
  · rintro (y | ⟨m, y1, y2, y3⟩)
    · exact Or.inl y
    · exact Or.inr ⟨m, y1, Tr_congr (fun a b e => (e1 a b).mpr e) y2, (e0 m).mpr y3⟩

end
section
set_option maxHeartbeats 1600000
/-! the class: clear: no rings are counted -/
/-- no rings are counted -/
def rz8 (κ : zS) (a : Nat) : Prop := zI κ atRings a = 0 ∧ zI κ atGreatest a = 0
/-- the plan takes 0 -/
def pz8 (κ : zS) (a : Nat) : Prop := ∀ k, k < 1000 → zA κ (zR κ atPlan a) k = 0
theorem At_clear_q6 {C : zC} {n0 : Nat} {a0 : Nat} {κ : zS} {Q : zS → Prop} (W : zW C n0 κ) (Ta0 : zT κ a0 = 3)  (hp : (atU κ a0 ∨ atM κ a0) ∧ atL κ a0 ∧ atH κ a0 ∧ zR κ atStates a0 ≠ zR κ atEndings a0) (h : ∀ (κ' : zS), ((zF (clF κ a0) κ κ' ∧ atM κ' a0 ∧ atL κ' a0 ∧ atH κ' a0 ∧ (zI κ' hoTotal (zR κ' atStates a0) = 0 ∧ zI κ' hoTotal (zR κ' atEndings a0) = 0) ∧ zI κ' atNexts a0 = 0 ∧ zI κ' atRings a0 = 0 ∧ hoA κ' (zR κ' atStates a0) 1000 142 2048 ∧ hoA κ' (zR κ' atEndings a0) 1000 35 2048) ∧ (rz8 κ' a0 ∧ pz8 κ' a0)) → Q κ') : zRun C 2 mAt_clear [.ref a0] κ (oV Q noX) := by
  refine At_clear_run W Ta0 ?_
  replace W := W.lo (Nat.le_trans W.1.2.1 W.1.2.2) (Nat.le_refl (zn κ))
  unfold w_At_clear_0
  have hj62 : ∀ (l0 : Nat) (τ : zS), zW C (zn κ) τ → zT τ l0 = 3 → ((a0 = l0 ∧ zF (fun g b => b = a0 ∧ atFirsts ≤ g) κ τ ∧ atM τ a0 ∧ atL τ a0) ∧ True) → w_At_clear_62 C (zn κ) Q  l0 τ := by
    rintro _ τ62 W62 T62_0 ⟨⟨rfl, j62⟩, hE⟩
    unfold w_At_clear_62
    intro T1
    obtain ⟨Z0, M0, L0⟩ := j62
    have n0 := at_ne W Ta0
    have rS : zR τ62 atStates a0 = zR κ atStates a0 := Z0.r (fun z => absurd z.2 (by decide))
    have rE : zR τ62 atEndings a0 = zR κ atEndings a0 := Z0.r (fun z => absurd z.2 (by decide))
    have H1 : hoI τ62 (zR τ62 atStates a0) 1000 142 2048 := by rw [rS]; exact hoI_zF Z0 W (ty_atStates W Ta0) (fun f z => n0.1.2.1 z.1) hp.2.2.1.1
    have H2 : hoI τ62 (zR τ62 atEndings a0) 1000 35 2048 := by rw [rE]; exact hoI_zF Z0 W (ty_atEndings W Ta0) (fun f z => n0.1.2.2 z.1) hp.2.2.1.2
    have ne : zR τ62 atStates a0 ≠ zR τ62 atEndings a0 := by rw [rS, rE]; exact hp.2.2.2
    have n1 := at_ne W62 T62_0
    refine Ho_clear_c W62 T1 1000 142 2048 ?_ (fun κ_2 q3 => ?_)
    · exact ⟨H1, hP1⟩  -- p1
    have a1 : ∀ f, ¬ hoF (zR τ62 atStates a0) f a0 := fun f z => n1.1.2.1 z.1.symm
    have r2 : ∀ f, zR κ_2 f a0 = zR τ62 f a0 := fun f => q3.1.r (a1 f)
    have H2b : hoI κ_2 (zR κ_2 atEndings a0) 1000 35 2048 := by rw [r2]; exact hoI_zF q3.1 W62 (ty_atEndings W62 T62_0) (fun f z => ne z.1.symm) H2
    have T2 : zT κ_2 a0 = 3 := q3.1.t T62_0 (by decide)
    intro W4
    intro M5
    intro T6
    refine Ho_clear_c W4 T6 1000 35 2048 ?_ (fun κ_7 q8 => ?_)
    · exact ⟨H2b, hP2⟩  -- p2
    intro W9
    intro M10
    intro T11
    refine Ar_fill_c W9 T11  (fun κ_12 q13 => ?_)
    intro W14
    intro M15
    intro κ_16 hκ_16
    intro W17
    intro κ_18 hκ_18
    intro W19
    intro κ_20 hκ_20
    intro W21
    refine h _ ?_
    · refine and_5 ?_ (fun o9 => ?_)  -- q3
      · have n2 := at_ne W4 T2
        have a2 : ∀ f, ¬ hoF (zR κ_2 atEndings a0) f a0 := fun f z => n2.1.2.2 z.1.symm
        have r7 : ∀ f, zR κ_7 f a0 = zR τ62 f a0 := fun f => (q8.1.r (a2 f)).trans (r2 f)
        have T7 : zT κ_7 a0 = 3 := q8.1.t T2 (by decide)
        have ow := atRf_o W9 T7 (f := atPlan) (by decide)
        have Z12 : zF (fun g b => b = a0 ∧ atFirsts ≤ g) κ_7 κ_12 := by rw [q13]; exact zF_uf (by rw [ow]; exact ⟨rfl, show (306 : Nat) ≤ 309 by decide⟩)
        have Z16 : zF (fun g b => b = a0 ∧ atFirsts ≤ g) κ_12 κ_16 := by rw [hκ_16]; exact zF_ui ⟨rfl, by decide⟩
        have Z18 : zF (fun g b => b = a0 ∧ atFirsts ≤ g) κ_16 κ_18 := by rw [hκ_18]; exact zF_ui ⟨rfl, by decide⟩
        have Z20 : zF (fun g b => b = a0 ∧ atFirsts ≤ g) κ_18 κ_20 := by rw [hκ_20]; exact zF_ui ⟨rfl, by decide⟩
        have ZZ := ((Z12.tr Z16).tr Z18).tr Z20
        have R20 : zR κ_20 = zR κ_7 := by rw [hκ_20, hκ_18, hκ_16, q13]; rfl
        have N20 : zN κ_20 = zN κ_7 := by rw [hκ_20, hκ_18, hκ_16, q13]; rfl
        have nS : zR κ_7 atStates a0 ≠ a0 := by rw [r7]; exact n1.1.2.1
        have nE : zR κ_7 atEndings a0 ≠ a0 := by rw [r7]; exact n1.1.2.2
        have ln : ∀ f, f ∈ atRf → zN κ_7 (zR κ_7 f a0) = zN τ62 (zR τ62 f a0) := fun f hf => by
          obtain ⟨⟨t, h1, h2⟩, h3⟩ := atRf_r f hf
          have ty := W62.r h1 (T62_0.trans h3.symm)
          have t1 : zT τ62 (zR τ62 f a0) = (t - 1) + 1 := by omega
          have ty2 := W4.r h1 (T2.trans h3.symm)
          have t2 : zT κ_2 (zR κ_2 f a0) = (t - 1) + 1 := by omega
          have b2 := q8.1.l t2
          rw [q8.1.r (a2 f), b2, r2]
          exact q3.1.l t1
        have H1c : hoI κ_7 (zR κ_7 atStates a0) 1000 142 2048 := by
          rw [r7]
          have q := q3.2.1
          exact hoI_zF q8.1 W4 (q3.1.t (ty_atStates W62 T62_0) (by decide)) (fun f z => ne (z.1.trans (r2 atEndings))) q
        have H2c : hoI κ_7 (zR κ_7 atEndings a0) 1000 35 2048 := by
          rw [q8.1.r (a2 atEndings)]
          exact q8.2.1
        have s0 : zI κ_7 hoTotal (zR κ_7 atStates a0) = 0 := by
          rw [r7, q8.1.i (fun z => ne (z.1.trans (r2 atEndings)))]
          exact Int32.toInt_inj.mp (q3.2.2.2.trans t0i.symm)
        have e0 : zI κ_7 hoTotal (zR κ_7 atEndings a0) = 0 := by
          rw [q8.1.r (a2 atEndings)]
          exact Int32.toInt_inj.mp (q8.2.2.2.trans t0i.symm)
        refine ⟨(((Z0.mono (fun f x z => Or.inl z)).tr (q3.1.mono (fun f x z => Or.inr (Or.inl (z.1.trans rS))))).tr (q8.1.mono (fun f x z => Or.inr (Or.inr (z.1.trans ((r2 atEndings).trans rE)))))).tr (ZZ.mono (fun f x z => Or.inl z)), ?_, ?_, ⟨?_, ?_⟩, ⟨?_, ?_⟩, ?_, ?_, ?_, ?_⟩
        · unfold atM
          rw [R20, N20, ln atFirsts (by decide), ln atTotals (by decide), ln atGains (by decide), ln atPlan (by decide), ln atChooses (by decide), ln atHopeless (by decide)]
          exact M0
        · unfold atL
          rw [R20, N20, ln atSorts (by decide), ln atNumbers (by decide), ln atWeights (by decide)]
          exact L0
        · rw [R20]; exact hoI_zF ZZ W9 (ty_atStates W9 T7) (fun f z => nS z.1) H1c
        · rw [R20]; exact hoI_zF ZZ W9 (ty_atEndings W9 T7) (fun f z => nE z.1) H2c
        · rw [R20, ZZ.i (fun z => nS z.1)]; exact s0
        · rw [R20, ZZ.i (fun z => nE z.1)]; exact e0
        · rw [hκ_20, hκ_18]
          show zI κ_16 atNexts a0 = 0
          rw [hκ_16]
          exact if_pos ⟨rfl, rfl⟩
        · rw [hκ_20]
          show zI κ_18 atRings a0 = 0
          rw [hκ_18]
          exact if_pos ⟨rfl, rfl⟩
        · rw [R20]
          have I9 := hoI_zF ZZ W9 (ty_atStates W9 T7) (fun f z => nS z.1) H1c
          have q9 : hoA κ_7 (zR κ_7 atStates a0) 1000 142 2048 := by
            rw [r7] at H1c ⊢
            exact ho_A9 W4 q8.1 (q3.1.t (ty_atStates W62 T62_0) (by decide)) (fun f z => ne (z.1.trans (r2 atEndings))) H1c q3.2.2.1 (by decide)
          exact ho_A9 W9 ZZ (ty_atStates W9 T7) (fun f z => nS z.1) I9 q9 (by decide)
        · rw [R20]
          have I9 := hoI_zF ZZ W9 (ty_atEndings W9 T7) (fun f z => nE z.1) H2c
          have q9 : hoA κ_7 (zR κ_7 atEndings a0) 1000 35 2048 := by
            rw [q8.1.r (a2 atEndings)]
            exact q8.2.2.1
          exact ho_A9 W9 ZZ (ty_atEndings W9 T7) (fun f z => nE z.1) I9 q9 (by decide)
      · refine ⟨⟨?_, ?_⟩, ?_⟩
        · rw [hκ_20]
          show zI κ_18 atRings a0 = 0
          rw [hκ_18]
          exact if_pos ⟨rfl, rfl⟩
        · rw [hκ_20]
          exact if_pos ⟨rfl, rfl⟩
        · intro k hk
          have n2 := at_ne W4 T2
          have a2 : ∀ f, ¬ hoF (zR κ_2 atEndings a0) f a0 := fun f z => n2.1.2.2 z.1.symm
          have lp : zN κ_7 (zR κ_7 atPlan a0) = zN τ62 (zR τ62 atPlan a0) := by
            obtain ⟨⟨t, h1, h2⟩, h3⟩ := atRf_r atPlan (by decide)
            have ty := W62.r h1 (T62_0.trans h3.symm)
            have t1 : zT τ62 (zR τ62 atPlan a0) = (t - 1) + 1 := by omega
            have ty2 := W4.r h1 (T2.trans h3.symm)
            have t2 : zT κ_2 (zR κ_2 atPlan a0) = (t - 1) + 1 := by omega
            have b2 := q8.1.l t2
            rw [q8.1.r (a2 atPlan), b2, r2]
            exact q3.1.l t1
          have z : zA κ_12 (zR κ_7 atPlan a0) = fun k => if 0 ≤ k ∧ k < zN κ_7 (zR κ_7 atPlan a0) then 0 else zA κ_7 (zR κ_7 atPlan a0) k := by rw [q13]; exact if_pos rfl
          have e20 : zA κ_20 (zR κ_20 atPlan a0) = zA κ_12 (zR κ_7 atPlan a0) := by rw [hκ_20, hκ_18, hκ_16, q13]; rfl
          rw [e20, z]
          exact if_pos ⟨Nat.zero_le _, by rw [lp, M0.2.2.2.1]; exact hk⟩
  refine ⟨fun c22 => ?_, fun c22 => ?_⟩
  · skip
    refine hj62 _ _ W ?_ ?_
    · exact Ta0  -- t4
    · refine and_5 ?_ (fun o9 => trivial)  -- k5
      have c9 : (zN κ (zR κ atPlan a0)) ≠ 0 := fun z => c22 (by rw [z]; rfl)
      exact ⟨rfl, zF.rf, hp.1.resolve_left (fun z => c9 z.1), hp.2.1⟩
  · skip
    have U : atU κ a0 := by
      rcases hp.1 with z | z
      · exact z
      · have y := z.2.2.2.1
        rw [y] at c22
        exact absurd c22 (by decide)
    obtain ⟨L3, L0, L1, L2, L4, L5⟩ := U
    replace L3 : zN κ (zR κ atPlan a0) ≤ 1 := by omega
    refine ⟨?_, ?_⟩
    · exact ⟨by decide, by decide⟩  -- b6
    intro κ_23 hκ_23
    intro W24
    refine ⟨?_, ?_⟩
    · rw [hκ_23]; exact if_pos rfl  -- b7
    intro κ_25 hκ_25
    intro W26
    have J0 := mkJ_s (f := atFirsts) (t := 20) (n := 1001) W W Ta0 (mkJ.rf) (show zr atFirsts = some 20 by decide +kernel) (by decide) rfl (by decide) (by decide) L0 (by decide) hκ_23 hκ_25 W26
    refine ⟨?_, ?_⟩
    · exact ⟨by decide, by decide⟩  -- b8
    intro κ_27 hκ_27
    intro W28
    refine ⟨?_, ?_⟩
    · rw [hκ_27]; exact if_pos rfl  -- b9
    intro κ_29 hκ_29
    intro W30
    have J1 := mkJ_s (f := atTotals) (t := 20) (n := 1000) W W26 Ta0 (J0) (show zr atTotals = some 20 by decide +kernel) (by decide) rfl (by decide) (by decide) L1 (by decide) hκ_27 hκ_29 W30
    refine ⟨?_, ?_⟩
    · exact ⟨by decide, by decide⟩  -- b10
    intro κ_31 hκ_31
    intro W32
    refine ⟨?_, ?_⟩
    · rw [hκ_31]; exact if_pos rfl  -- b11
    intro κ_33 hκ_33
    intro W34
    have J2 := mkJ_s (f := atGains) (t := 20) (n := 1000) W W30 Ta0 (J1) (show zr atGains = some 20 by decide +kernel) (by decide) rfl (by decide) (by decide) L2 (by decide) hκ_31 hκ_33 W34
    refine ⟨?_, ?_⟩
    · exact ⟨by decide, by decide⟩  -- b12
    intro κ_35 hκ_35
    intro W36
    refine ⟨?_, ?_⟩
    · rw [hκ_35]; exact if_pos rfl  -- b13
    intro κ_37 hκ_37
    intro W38
    have J3 := mkJ_s (f := atPlan) (t := 20) (n := 1000) W W34 Ta0 (J2) (show zr atPlan = some 20 by decide +kernel) (by decide) rfl (by decide) (by decide) L3 (by decide) hκ_35 hκ_37 W38
    refine ⟨?_, ?_⟩
    · exact ⟨by decide, by decide⟩  -- b14
    intro κ_39 hκ_39
    intro W40
    refine ⟨?_, ?_⟩
    · rw [hκ_39]; exact if_pos rfl  -- b15
    intro κ_41 hκ_41
    intro W42
    have J4 := mkJ_s (f := atChooses) (t := 23) (n := 1000) W W38 Ta0 (J3) (show zr atChooses = some 23 by decide +kernel) (by decide) rfl (by decide) (by decide) L4 (by decide) hκ_39 hκ_41 W42
    refine ⟨?_, ?_⟩
    · exact ⟨by decide, by decide⟩  -- b16
    intro κ_43 hκ_43
    intro W44
    refine ⟨?_, ?_⟩
    · rw [hκ_43]; exact if_pos rfl  -- b17
    intro κ_45 hκ_45
    intro W46
    refine hj62 _ _ W46 ?_ ?_
    · have J5 := mkJ_s (f := atHopeless) (t := 23) (n := 1000) W W42 Ta0 (J4) (show zr atHopeless = some 23 by decide +kernel) (by decide) rfl (by decide) (by decide) L5 (by decide) hκ_43 hκ_45 W46
      exact J5.1.t Ta0 (by decide)
    · refine and_5 ?_ (fun o9 => trivial)  -- k19
      have J5 := mkJ_s (f := atHopeless) (t := 23) (n := 1000) W W42 Ta0 (J4) (show zr atHopeless = some 23 by decide +kernel) (by decide) rfl (by decide) (by decide) L5 (by decide) hκ_43 hκ_45 W46
      have p := J5.2.2.2.2
      have r := J5.2.2.1
      have o := J5.2.2.2.1
      refine ⟨rfl, J5.1.mono (fun g b z => ⟨z.1, ?_⟩), ⟨(p (atFirsts, 1001) (by decide)).1, (p (atTotals, 1000) (by decide)).1, (p (atGains, 1000) (by decide)).1, (p (atPlan, 1000) (by decide)).1, (p (atChooses, 1000) (by decide)).1, (p (atHopeless, 1000) (by decide)).1⟩, ?_⟩
      · have m := z.2
        simp only [List.map_cons, List.map_nil, List.mem_cons, List.not_mem_nil, or_false] at m
        have e1 : (atFirsts : Nat) = 306 := rfl
        have e2 : (atTotals : Nat) = 307 := rfl
        have e3 : (atGains : Nat) = 308 := rfl
        have e4 : (atPlan : Nat) = 309 := rfl
        have e5 : (atChooses : Nat) = 310 := rfl
        have e6 : (atHopeless : Nat) = 311 := rfl
        omega
      · unfold atL
        rw [r atSorts a0 (fun z => absurd z.2 (by decide)), r atNumbers a0 (fun z => absurd z.2 (by decide)), r atWeights a0 (fun z => absurd z.2 (by decide)), (o _ _ (ty_atSorts W Ta0)).1, (o _ _ (ty_atNumbers W Ta0)).1, (o _ _ (ty_atWeights W Ta0)).1]
        exact hp.2.1

end
section
set_option maxHeartbeats 1600000
/-! rings counted, behind exploring, of both sides -/
theorem n7_x8 {κ : zS} {a n nv s w lim q : Nat} {σ : rS} (A : atW κ a n) (X : XP6 nv s w lim κ a q σ) (h70 : σ.1 70 = Int32.ofNat q) : (σ.1 70).toNatClampNeg = n := by
  obtain ⟨_, ⟨n2, m, x, SH, _, ⟨f1, _⟩, ⟨b1, b2, b3⟩, _, en, ht⟩, B, f0⟩ := X
  have b9 : n2 ≤ 1000 := SH.2.2.1
  have hn := A.2.2.2.1
  rw [SH.2.1, ofn_i (by omega)] at hn
  rw [f1, cl_5 (by omega)]
  omega
theorem tb_x8 {κ : zS} {a n nv s w lim q : Nat} {σ : rS} (h1 : 0 < n) (A : atW κ a n) (X : XP6 nv s w lim κ a q σ) (h70 : σ.1 70 = Int32.ofNat q) : tb8 κ a n σ := by
  have e70 := n7_x8 A X h70
  obtain ⟨_, ⟨n2, m, x, SH, _, ⟨f1, _⟩, ⟨b1, b2, b3⟩, _, en, ht⟩, B, f0⟩ := X
  have b9 : n2 ≤ 1000 := SH.2.2.1
  have hn := A.2.2.2.1
  rw [SH.2.1, ofn_i (by omega)] at hn
  have le : n2 ≤ q := by
    refine Decidable.byContradiction (fun c => ?_)
    have y := congrArg Int32.toInt (f1.symm.trans h70)
    rw [ofn_i (by omega), ofn_i (by omega)] at y
    omega
  refine ⟨A, fun j hj => ?_, fun j hj => ?_, e70⟩
  · by_cases c : j < q
    · exact (B j c).1
    · have c2 : j = q := by omega
      rw [c2]
      exact f0 (by omega)
  · rw [en, ofn_i (by omega)] at hj
    have y := ht j (by omega)
    exact ⟨y.1, y.2.1⟩
theorem rC_x8 {κ : zS} {a n nv s w lim q : Nat} {σ : rS} {r g : Int32} (A : atW κ a n) (X : XP6 nv s w lim κ a q σ) (h70 : σ.1 70 = Int32.ofNat q) (S : r = Int32.ofNat (ct8 (ls8 (el8 κ a 0 n)) n) ∧ g = Int32.ofNat (mx8 (gs8 (el8 κ a 0 n) n) n)) : rC8 r g σ := by
  by_cases h0 : n = 0
  · have e := n7_x8 A X h70
    rw [h0] at e S
    unfold rC8
    rw [e]
    exact S
  have T := tb_x8 (Nat.pos_of_ne_zero h0) A X h70
  obtain ⟨l1, l2⟩ := lg_8 T
  unfold rC8
  rw [T.2.2.2, ← l1, ← l2]
  exact S
/-- the reference's tables alike: the same rings -/
theorem rC_r8 {σ τ : rS} {r g : Int32} (h70 : τ.1 70 = σ.1 70) (hr : ∀ g, g = 76 ∨ g = 77 ∨ g = 78 → τ.2.2.1 g = σ.2.2.1 g) : rC8 r g τ ↔ rC8 r g σ := by
  have e1 : edN τ 0 87 1 = edN σ 0 87 1 := by
    funext x y
    refine propext ?_
    unfold edN edI edg rd
    rw [hr 76 (by decide), hr 77 (by decide), hr 78 (by decide)]
    exact ⟨fun ⟨i, i1, i2, i3, i4, _⟩ => ⟨i, i1, i2, i3, i4, Or.inl rfl, Or.inl (by decide)⟩, fun ⟨i, i1, i2, i3, i4, _⟩ => ⟨i, i1, i2, i3, i4, Or.inl rfl, Or.inl (by decide)⟩⟩
  unfold rC8
  rw [h70, e1]
/-- nothing is explored: nothing is counted -/
def no8 (σ : rS) : Prop := σ.1 70 = 0 ∧ σ.1 71 = 0 ∧ σ.1 72 = 0

end
