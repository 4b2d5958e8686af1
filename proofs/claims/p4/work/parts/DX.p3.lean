set_option maxHeartbeats 1600000
/-! the class: Odds' tablesAgree -/
/-- as roG9, whatever the whole is -/
def roH9 (ρ : Nat → Nat) (κ τ : zS) (a n P : Nat) (ρ' : Nat → Nat) : Prop := (∀ b, b < zn κ → ρ' b = ρ b) ∧ agD9 ρ' τ a n P ∧ zF (roF9 ρ κ a) κ τ ∧ (∀ f, f / 100 = 9 ∨ f / 100 = 12 → ∀ b c, zT κ b = c + 1 → zR τ f b = zR κ f b) ∧ zE9 κ τ a
theorem ro_h9 {ρ : Nat → Nat} {κ τ : zS} {a n P : Nat} {ρ' : Nat → Nat} (G : roG9 ρ κ τ a n P ρ') : roH9 ρ κ τ a n P ρ' := ⟨G.1, ag_d9 G.2.1, G.2.2⟩
theorem ro_t9 {C : zC} {n0 a n P : Nat} {ρ ρ' ρ'' : Nat → Nat} {κ τ τ' : zS} (W : zW C n0 κ) (Ta : zT κ a = 9) (G : roH9 ρ κ τ a n P ρ') (H : roG9 ρ' τ τ' a n P ρ'') : roG9 ρ κ τ' a n P ρ'' := by
  obtain ⟨g1, g2, g3, g4, g5⟩ := G
  obtain ⟨h1, h2, h3, h4, h5⟩ := H
  have mn := g3.2.2.2.2.2.2
  refine ⟨fun b hb => (h1 b (by omega)).trans (g1 b hb), h2, g3.tr (h3.mono (fun f b z => ?_)), fun f hf b c hb => ?_, g5.tr h5⟩
  · by_cases l : b < zn κ
    · rcases z with z | z | z
      · left
        rcases z with z | z
        · rw [g1 b l] at z
          exact Or.inl z
        · rw [g4 odCalc (by decide) a 8 Ta] at z
          exact Or.inr z
      · exact Or.inr (Or.inl z)
      · omega
    · exact Or.inr (Or.inr (by omega))
  · obtain ⟨c', hc'⟩ : ∃ c', zT τ b = c' + 1 := ⟨zT τ b - 1, by
      have q := (g3.2.2.2.2.2.1 b (by omega)).1
      omega⟩
    exact (h4 f hf b c' hc').trans (g4 f hf b c hb)
/-- what the comparison leaves alone -/
theorem ro_n9 {C : zC} {n0 a f b c : Nat} {ρ : Nat → Nat} {κ : zS} (W : zW C n0 κ) (T : zT κ b = c + 1) (hf : f / 100 ≠ 8 ∧ f / 100 ≠ 11 ∧ f / 100 ≠ 4) (he : f ≠ odEdges) : ¬ roF9 ρ κ a f b := fun z => by
  have l := (W.2.1 b (by omega)).2
  rcases z with z | z | z
  · rcases z with ⟨_, z | z | z⟩ | ⟨_, z | z | z | z⟩ <;> (rw [z] at hf; revert hf; decide)
  · exact he z.1
  · omega
theorem ro_k9 {C : zC} {n0 a n P : Nat} {ρ ρ' : Nat → Nat} {κ τ : zS} (W : zW C n0 κ) (Ta : zT κ a = 9) (G : roH9 ρ κ τ a n P ρ') : (zR τ odGroups a = zR κ odGroups a ∧ pV9 τ (zR κ odGroups a) = pV9 κ (zR κ odGroups a) ∧ zI τ hoTotal (zR κ odGroups a) = zI κ hoTotal (zR κ odGroups a) ∧ (hoI κ (zR κ odGroups a) 3000 3 8192 → hoI τ (zR κ odGroups a) 3000 3 8192)) ∧ ∀ f, zr f = some 20 → f / 100 = 9 → zR τ f a = zR κ f a ∧ zA τ (zR τ f a) = zA κ (zR κ f a) ∧ zN τ (zR τ f a) = zN κ (zR κ f a) := by
  have Tg := ty_odGroups W Ta
  obtain ⟨g1, g2, g3, g4, g5⟩ := G
  have n6 : ∀ f, f / 100 = 6 → ¬ roF9 ρ κ a f (zR κ odGroups a) := fun f hf => ro_n9 W Tg ⟨by omega, by omega, by omega⟩ (fun y => by rw [y] at hf; exact absurd hf (by decide))
  have w6 : ∀ f, zr f = some 20 → f / 100 = 6 → zR τ f (zR κ odGroups a) = zR κ f (zR κ odGroups a) ∧ zA τ (zR κ f (zR κ odGroups a)) = zA κ (zR κ f (zR κ odGroups a)) ∧ zN τ (zR κ f (zR κ odGroups a)) = zN κ (zR κ f (zR κ odGroups a)) := fun f h1 h2 => by
    have r := g3.r (n6 f h2)
    have w := (g3.row W h1 (by decide) (Tg.trans h2.symm) (n6 f h2)).1
    rw [r] at w
    exact ⟨r, w, g3.l (W.r h1 (Tg.trans h2.symm))⟩
  have t : zI τ hoTotal (zR κ odGroups a) = zI κ hoTotal (zR κ odGroups a) := g3.i (n6 hoTotal (by decide))
  refine ⟨⟨g4 odGroups (by decide) a 8 Ta, ?_, t, fun H => ?_⟩, fun f h1 h3 => ?_⟩
  · have s := w6 hoStarts (by decide +kernel) (by decide)
    have p := w6 hoPool (by decide +kernel) (by decide)
    funext x i
    unfold pV9
    rw [t, s.1, p.1, s.2.1, p.2.1]
  · refine hoI_f H (fun f hf => g3.i (n6 f hf)) (fun f hf => ?_)
    have q : zr f = some 20 ∧ f / 100 = 6 := by rcases hf with rfl | rfl | rfl <;> decide +kernel
    exact w6 f q.1 q.2
  · have hne : f ≠ odEdges := fun y => by rw [y] at h1; exact absurd h1 (by decide +kernel)
    have T9 : zT κ a = f / 100 := Ta.trans h3.symm
    have n := ro_n9 (a := a) (ρ := ρ) W Ta (f := f) ⟨by omega, by omega, by omega⟩ hne
    have r := g3.r n
    refine ⟨r, (g3.row W h1 (by decide) T9 n).1, ?_⟩
    rw [r]
    exact g3.l (W.r h1 T9)
theorem mn_9 {l r : Int32} (l0 : 0 ≤ l.toInt) (r0 : 0 ≤ r.toInt) (h : ¬ (if r < l then r else l) ≤ (1 : Int32)) : 1 ≤ (if r < l then r else l).toInt ∧ (if r < l then r else l).toInt ≤ (if l < r then r else l).toInt ∧ (if l < r then r else l).toInt * (if r < l then r else l).toInt = l.toInt * r.toInt := by
  rw [lei, t1i] at h
  by_cases a : r < l
  · have b : ¬ l < r := by rw [lti] at a ⊢; omega
    rw [if_pos a] at h ⊢
    rw [if_neg b]
    rw [lti] at a
    exact ⟨by omega, by omega, rfl⟩
  · rw [if_neg a] at h ⊢
    by_cases b : l < r
    · rw [if_pos b]
      rw [lti] at b
      exact ⟨by omega, by omega, Int.mul_comm _ _⟩
    · rw [if_neg b]
      rw [lti] at a b
      have e : l.toInt = r.toInt := by omega
      exact ⟨by omega, by omega, by rw [← e]⟩
theorem Od_tablesAgree_c {C : zC} {n0 : Nat} {a0 : Nat} {κ : zS} {Q : Int32 → zS → Prop} (W : zW C n0 κ) (Ta0 : zT κ a0 = 9) (ρ : Nat → Nat) (n9 P9 : Nat) (hp : agD9 ρ κ a0 n9 P9 ∧ (0 < P9 ∧ P9 < pB9 1490) ∧ (grI9 κ a0 ∧ gI9 κ a0 1000 1000) ∧ (∃ c : Int, c ≤ 1000 ∧ plC9 κ κ a0 ((zI κ hoTotal (zR κ odGroups a0)).toInt) c)) (h : ∀ (v : Int32) (κ' : zS), (nb v ∧ ∃ ρ' : Nat → Nat, roH9 ρ κ κ' a0 n9 P9 ρ') → Q v κ') : zRun C 8 mOd_tablesAgree [.ref a0] κ (oI Q noX) := by
  refine Od_tablesAgree_run W Ta0 ?_
  replace W := W.lo (Nat.le_trans W.1.2.1 W.1.2.2) (Nat.le_refl (zn κ))
  unfold w_Od_tablesAgree_0
  obtain ⟨A0, hP, ⟨G0, I0⟩, c9, hc, pl⟩ := hp
  have tM := G0.1.1.2.1
  have L0 := A0.2.2.1.1
  unfold w_Od_tablesAgree_2
  refine ⟨fun n l0 l1 τ => n = ((zI κ hoTotal (zR κ odGroups a0)).toInt - l1.toInt).toNat ∧ (a0 = l0 ∧ (∃ ρ' : Nat → Nat, roH9 ρ κ τ a0 n9 P9 ρ') ∧ (0 ≤ l1.toInt ∧ l1.toInt ≤ (zI κ hoTotal (zR κ odGroups a0)).toInt)), ⟨_, rfl, ?_⟩, ?_⟩
  · exact ⟨rfl, ⟨ρ, fun _ _ => rfl, A0, zF.rf, fun _ _ _ _ _ => rfl, zE9.rf⟩, by decide, by rw [t0i]; exact tM.1⟩  -- j1
  rintro n2 _ x2_1 κ2 W2 T2_0 ⟨hn2, rfl, i2⟩
  obtain ⟨⟨ρ1, G1⟩, l10, l11⟩ := i2
  obtain ⟨⟨eg, pv, tt, hI⟩, rw9⟩ := ro_k9 W Ta0 G1
  have wl := rw9 odLefts (by decide +kernel) (by decide)
  have wr := rw9 odRights (by decide +kernel) (by decide)
  have wb := rw9 odBases (by decide +kernel) (by decide)
  have k1 := cnk l10
  refine ⟨fun c1 => ?_, fun c1 => ?_⟩
  · skip
    refine h _ _ ?_
    · exact ⟨nb_1, ρ1, G1⟩  -- q2
  · skip
    intro T2
    rw [lei, eg, tt] at c1
    have ix := cn1 (x := x2_1) l10 (by omega)
    refine Ho_part_c2 W2 T2 3000 3 8192 ?_ (fun r3 q5 => ?_)
    · rw [eg]
      exact ⟨hI G0.1.1, Or.inr (Or.inr ⟨rfl, rfl, rfl⟩)⟩
    intro W6
    intro M7
    rw [eg, pv] at q5
    refine ⟨fun c8 => ?_, fun c8 => ?_⟩
    · skip
      intro x9 hx9
      refine ⟨_, ?_, rfl, ?_⟩
      · rw [hn2, hx9, ix.2]; omega  -- d4
      · exact ⟨rfl, ⟨ρ1, G1⟩, by rw [hx9, ix.2]; omega, by rw [hx9, ix.2]; omega⟩  -- i5
    · skip
      refine ⟨?_, ?_⟩
      · rw [inb_iff, wl.2.2, L0.1]; omega  -- b6
      refine ⟨?_, ?_⟩
      · rw [inb_iff, wr.2.2, L0.2.1]; omega  -- b7
      intro x10 hx10
      rw [wl.2.1, wr.2.1] at hx10
      have tag : pV9 κ (zR κ odGroups a0) x2_1 0 = 0 := by rw [← q5]; exact c8
      obtain ⟨⟨a1l, a2l⟩, a1r, a2r⟩ := (I0 x2_1 l10 (by omega)).1 tag
      have pq := pl x2_1 l10 (by omega) tag
      refine ⟨fun c11 => ?_, fun c11 => ?_⟩
      · skip
        intro x12 hx12
        refine ⟨_, ?_, rfl, ?_⟩
        · rw [hn2, hx12, ix.2]; omega  -- d8
        · exact ⟨rfl, ⟨ρ1, G1⟩, by rw [hx12, ix.2]; omega, by rw [hx12, ix.2]; omega⟩  -- i9
      · skip
        refine ⟨?_, ?_⟩
        · rw [inb_iff, wb.2.2, L0.2.2.1]; omega  -- b10
        refine ⟨?_, ?_⟩
        · rw [inb_iff, wl.2.2, L0.1]; omega  -- b11
        refine ⟨?_, ?_⟩
        · rw [inb_iff, wr.2.2, L0.2.1]; omega  -- b12
        intro T13
        refine Od_rowsAgree_c W6 T13 ρ1 n9 P9 ?_ (fun r14 κ_15 q16 => ?_)
        · rw [hx10] at c11 ⊢
          have m := mn_9 a1l a1r c11
          rw [wb.2.1, wl.2.1, wr.2.1]
          exact ⟨G1.2.1, hP, pq.1, m.1, m.2.1, by rw [m.2.2]; omega⟩
        intro W17
        intro M18
        obtain ⟨ρ2, G2⟩ := q16
        have G3 := ro_h9 (ro_t9 W Ta0 G1 G2)
        refine ⟨fun c19 => ?_, fun c19 => ?_⟩
        · skip
          intro x20 hx20
          refine ⟨_, ?_, rfl, ?_⟩
          · rw [hn2, hx20, ix.2]; omega  -- d14
          · exact ⟨rfl, ⟨ρ2, G3⟩, by rw [hx20, ix.2]; omega, by rw [hx20, ix.2]; omega⟩  -- i15
        · skip
          refine h _ _ ?_
          · exact ⟨nb_0, ρ2, G3⟩  -- q16
