set_option maxHeartbeats 1600000
/-! the class: Tape's reads, wordOf, kindOf, split, isMain -/
theorem Ta_reads_c {C : zC} {n0 : Nat} {a0 : Nat} {a1 : Int32} {a2 : Int32} {a3 : Nat} {a4 : Int32} {κ : zS} {Q : Int32 → zS → Prop} (W : zW C n0 κ) (Ta0 : zT κ a0 = 13) (Ta3 : isTx C a3)  (hp : taI κ a0 ∧ 0 ≤ a4.toInt ∧ a4.toInt ≤ 65536 ∧ a2.toInt ≤ 65536) (h : ∀ (v : Int32), (True) → Q v κ) : zRun C 10 mTa_reads [.ref a0, .int a1, .int a2, .ref a3, .int a4] κ (oI Q noX) := by
  refine Ta_reads_run W Ta0 Ta3 ?_
  replace W := W.lo (Nat.le_trans W.1.2.1 W.1.2.2) (Nat.le_refl (zn κ))
  unfold w_Ta_reads_0
  unfold w_Ta_reads_3
  refine ⟨fun n l0 l1 l2 l3 l4 l5 τ => n = (a2.toInt - l5.toInt).toNat ∧ (κ = τ ∧ a0 = l0 ∧ a1 = l1 ∧ a2 = l2 ∧ a3 = l3 ∧ a4 = l4 ∧ 0 ≤ l5.toInt), ⟨_, rfl, ?_⟩, ?_⟩
  · exact ⟨rfl, rfl, rfl, rfl, rfl, rfl, by decide⟩  -- j1
  rintro n3 _ _ _ _ _ x3_5 _ W3 T3_0 T3_1 ⟨hn3, rfl, rfl, rfl, rfl, rfl, rfl, i3⟩
  refine ⟨fun c1 => ?_, fun c1 => ?_⟩
  · skip
    refine h _ ?_
    · trivial  -- q2
  · skip
    intro T2
    refine St_length_c W3 T2  (fun r3 q5 => ?_)
    intro W6
    intro M7
    refine ⟨fun c8 => ?_, fun c8 => ?_⟩
    · skip
      refine h _ ?_
      · trivial  -- q3
    · skip
      intro T9
      refine Ta_byteAt_c W6 T9  ?_ (fun r10 q12 => ?_)
      · exact hp.1  -- p4
      intro W13
      intro M14
      intro T15
      refine St_charAt_c W13 T15  ?_ (fun r16 q18 => ?_)
      · rw [lei] at c1 c8
        have e : (a4 + x3_5).toInt = a4.toInt + x3_5.toInt := add_i (by omega) (by omega)
        rw [e]
        rw [q5, e] at c8
        omega
      intro W19
      intro M20
      refine ⟨fun c21 => ?_, fun c21 => ?_⟩
      · skip
        intro x22 hx22
        refine ⟨_, ?_, rfl, ?_⟩
        · rw [lei] at c1
          have e1 := inc_i (x := x3_5) (y := a2) i3 (by omega)
          rw [hn3, hx22, e1]; omega
        · rw [lei] at c1
          have e1 := inc_i (x := x3_5) (y := a2) i3 (by omega)
          exact ⟨rfl, rfl, rfl, rfl, rfl, rfl, by rw [hx22, e1]; omega⟩
      · skip
        refine h _ ?_
        · trivial  -- q8

theorem Ta_wordOf_c {C : zC} {n0 : Nat} {a0 : Nat} {a1 : Int32} {a2 : Int32} {κ : zS} {Q : Int32 → zS → Prop} (W : zW C n0 κ) (Ta0 : zT κ a0 = 13)  (hp : taI κ a0) (h : ∀ (v : Int32), (True) → Q v κ) : zRun C 11 mTa_wordOf [.ref a0, .int a1, .int a2] κ (oI Q noX) := by
  refine Ta_wordOf_run W Ta0 ?_
  replace W := W.lo (Nat.le_trans W.1.2.1 W.1.2.2) (Nat.le_refl (zn κ))
  unfold w_Ta_wordOf_0
  have tb := txL_b (W.1.1.2 0 (Or.inl rfl))
  unfold w_Ta_wordOf_10
  refine ⟨fun n l0 l1 l2 l3 l4 l5 τ => n = (txL C (C.1 0) - l5.toInt).toNat ∧ (κ = τ ∧ a0 = l0 ∧ a1 = l1 ∧ a2 = l2 ∧ (0 ≤ l5.toInt ∧ l5.toInt ≤ txL C (C.1 0)) ∧ (0 ≤ l4.toInt ∧ l4.toInt ≤ 65536)), ⟨_, rfl, ?_⟩, ?_⟩
  · exact ⟨rfl, rfl, rfl, rfl, ⟨by decide, by rw [t0i]; omega⟩, by decide, by decide⟩  -- j1
  rintro n10 _ _ _ x10_3 x10_4 x10_5 _ W10 T10_0 ⟨hn10, rfl, rfl, rfl, rfl, i10⟩
  have hj62 : ∀ (l0 : Nat) (l1 : Int32) (l2 : Int32) (l3 : Int32) (l5 : Int32) (τ : zS), zW C (zn κ) τ → zT τ l0 = 13 → (κ = τ ∧ a0 = l0 ∧ a1 = l1 ∧ a2 = l2 ∧ l5 = x10_5 ∧ l5.toInt < txL C (C.1 0)) → w_Ta_wordOf_62 C (zn κ) Q (fun (l0' : Nat) (l1' : Int32) (l2' : Int32) (l3' : Int32) (l4' : Int32) (l5' : Int32) (τ : zS) => ∃ k < n10, (fun (n : Nat) (l0 : Nat) (l1 : Int32) (l2 : Int32) (l3 : Int32) (l4 : Int32) (l5 : Int32) (τ : zS) => n = (txL C (C.1 0) - l5.toInt).toNat ∧ (κ = τ ∧ a0 = l0 ∧ a1 = l1 ∧ a2 = l2 ∧ (0 ≤ l5.toInt ∧ l5.toInt ≤ txL C (C.1 0)) ∧ (0 ≤ l4.toInt ∧ l4.toInt ≤ 65536))) k l0' l1' l2' l3' l4' l5' τ) l0 l1 l2 l3 l5 τ := by
    rintro _ _ _ y62_3 y62_5 _ W62 T62_0 ⟨rfl, rfl, rfl, rfl, j62⟩
    unfold w_Ta_wordOf_62
    intro x1 hx1
    intro x2 hx2
    intro x3 hx3
    refine ⟨_, ?_, rfl, ?_⟩
    · obtain ⟨e, l⟩ := j62
      have l0 := i10.1.1
      have e1 : (y62_5 + 1).toInt = y62_5.toInt + 1 := by rw [add_i (by rw [t1i, e]; omega) (by rw [t1i]; omega), t1i]
      rw [hn10, hx3, e1, e]; rw [e] at l; omega
    · obtain ⟨e, l⟩ := j62
      have l0 := i10.1.1
      have e1 : (y62_5 + 1).toInt = y62_5.toInt + 1 := by rw [add_i (by rw [t1i, e]; omega) (by rw [t1i]; omega), t1i]
      exact ⟨rfl, rfl, rfl, rfl, ⟨by rw [hx3, e1, e]; omega, by rw [hx3, e1]; omega⟩, by rw [hx2, e1, e]; omega, by rw [hx2, e1]; omega⟩
  intro T4
  refine St_length_c W10 T4  (fun r5 q7 => ?_)
  intro W8
  intro M9
  refine ⟨fun c10 => ?_, fun c10 => ?_⟩
  · skip
    refine h _ ?_
    · trivial  -- q4
  · skip
    rw [lei, q7] at c10
    have l0 := i10.1
    have e1 : (x10_5 + 1).toInt = x10_5.toInt + 1 := by rw [add_i (by rw [t1i]; omega) (by rw [t1i]; omega), t1i]
    refine ⟨fun c11 => ?_, fun c11 => ?_⟩
    · skip
      refine h _ ?_
      · trivial  -- q5
    · skip
      intro T12
      refine St_charAt_c W8 T12  ?_ (fun r13 q15 => ?_)
      · exact ⟨l0.1, by omega⟩  -- p6
      intro W16
      intro M17
      refine ⟨fun c18 => ?_, fun c18 => ?_⟩
      · skip
        intro x19 hx19
        refine ⟨_, ?_, rfl, ?_⟩
        · rw [hn10, hx19, e1]; omega  -- d7
        · exact ⟨rfl, rfl, rfl, rfl, ⟨by rw [hx19, e1]; omega, by rw [hx19, e1]; omega⟩, i10.2⟩  -- i8
      · skip
        refine ⟨fun c20 => ?_, fun c20 => ?_⟩
        · skip
          refine hj62 _ _ _ _ _ _ W16 ?_ ?_
          · exact T10_0  -- t9
          · exact ⟨rfl, rfl, rfl, rfl, rfl, by omega⟩  -- k10
        · skip
          intro T21
          intro T22
          refine Ta_reads_c W16 T21 T22  ?_ (fun r23 q25 => ?_)
          · have e8 : (8 : Int32).toInt = 8 := rfl
            rw [lei, e8] at c11
            exact ⟨hp, i10.2.1, i10.2.2, by omega⟩
          intro W26
          intro M27
          refine ⟨fun c28 => ?_, fun c28 => ?_⟩
          · skip
            refine hj62 _ _ _ _ _ _ W26 ?_ ?_
            · exact T10_0  -- t12
            · exact ⟨rfl, rfl, rfl, rfl, rfl, by omega⟩  -- k13
          · skip
            refine h _ ?_
            · trivial  -- q14

theorem Ta_kindOf_c {C : zC} {n0 : Nat} {a0 : Nat} {a1 : Int32} {a2 : Int32} {κ : zS} {Q : Int32 → zS → Prop} (W : zW C n0 κ) (Ta0 : zT κ a0 = 13)  (hp : taI κ a0) (h : ∀ (v : Int32), (True) → Q v κ) : zRun C 12 mTa_kindOf [.ref a0, .int a1, .int a2] κ (oI Q noX) := by
  refine Ta_kindOf_run W Ta0 ?_
  replace W := W.lo (Nat.le_trans W.1.2.1 W.1.2.2) (Nat.le_refl (zn κ))
  unfold w_Ta_kindOf_0
  intro T1
  refine Ta_byteAt_c W T1  ?_ (fun r2 q4 => ?_)
  · exact hp  -- p1
  intro W5
  intro M6
  refine Ta_isLetter_c W5   (fun r7 q9 => ?_)
  intro W10
  intro M11
  refine ⟨fun c12 => ?_, fun c12 => ?_⟩
  · skip
    refine Ta_isDigit_c W10   (fun r13 q15 => ?_)
    intro W16
    intro M17
    refine ⟨fun c18 => ?_, fun c18 => ?_⟩
    · skip
      refine ⟨fun c19 => ?_, fun c19 => ?_⟩
      · skip
        intro T20
        refine St_indexOf_c W16 T20  (fun r21 q23 => ?_)
        intro W24
        intro M25
        refine ⟨fun c26 => ?_, fun c26 => ?_⟩
        · skip
          refine h _ ?_
          · trivial  -- q2
        · skip
          refine h _ ?_
          · trivial  -- q3
      · skip
        refine ⟨fun c27 => ?_, fun c27 => ?_⟩
        · skip
          refine ⟨fun c28 => ?_, fun c28 => ?_⟩
          · skip
            refine ⟨fun c29 => ?_, fun c29 => ?_⟩
            · skip
              refine h _ ?_
              · trivial  -- q4
            · skip
              refine h _ ?_
              · trivial  -- q5
          · skip
            refine h _ ?_
            · trivial  -- q6
        · skip
          refine h _ ?_
          · trivial  -- q7
    · skip
      refine ⟨fun c30 => ?_, fun c30 => ?_⟩
      · skip
        refine h _ ?_
        · trivial  -- q8
      · skip
        refine h _ ?_
        · trivial  -- q9
  · skip
    refine ⟨fun c31 => ?_, fun c31 => ?_⟩
    · skip
      intro T32
      refine Ta_wordOf_c W10 T32  ?_ (fun r33 q35 => ?_)
      · exact hp  -- p10
      intro W36
      intro M37
      refine h _ ?_
      · trivial  -- q11
    · skip
      refine h _ ?_
      · trivial  -- q12

theorem Ta_isMain_c {C : zC} {n0 : Nat} {a0 : Nat} {a1 : Int32} {κ : zS} {Q : Int32 → zS → Prop} (W : zW C n0 κ) (Ta0 : zT κ a0 = 13)  (hp : taI κ a0 ∧ tokI κ a0) (h : ∀ (v : Int32), (True) → Q v κ) : zRun C 11 mTa_isMain [.ref a0, .int a1] κ (oI Q noX) := by
  refine Ta_isMain_run W Ta0 ?_
  replace W := W.lo (Nat.le_trans W.1.2.1 W.1.2.2) (Nat.le_refl (zn κ))
  unfold w_Ta_isMain_0
  refine ⟨fun c1 => ?_, fun c1 => ?_⟩
  · skip
    refine h _ ?_
    · trivial  -- q1
  · skip
    refine ⟨fun c2 => ?_, fun c2 => ?_⟩
    · skip
      refine h _ ?_
      · trivial  -- q2
    · skip
      refine ⟨?_, ?_⟩
      · have B := hp.1.2
        rw [lti, t0i] at c1
        rw [lei] at c2
        rw [inb_iff]; omega
      refine ⟨fun c3 => ?_, fun c3 => ?_⟩
      · skip
        refine h _ ?_
        · trivial  -- q4
      · skip
        refine ⟨?_, ?_⟩
        · have B := hp.1.2
          rw [lti, t0i] at c1
          rw [lei] at c2
          rw [inb_iff]; omega
        intro T4
        intro T5
        refine Ta_reads_c W T4 T5  ?_ (fun r6 q8 => ?_)
        · exact ⟨hp.1, by decide, by decide, by decide⟩  -- p6
        intro W9
        intro M10
        refine ⟨fun c11 => ?_, fun c11 => ?_⟩
        · skip
          refine h _ ?_
          · trivial  -- q7
        · skip
          refine h _ ?_
          · trivial  -- q8

/-- behind one more token -/
theorem sp_t {κ κ9 κ4 : zS} {a0 : Nat} {x : Int32} (F : zF (objF a0) κ κ9) (tt : (zI κ9 taTotal a0).toInt = x.toInt) (l0 : 0 ≤ x.toInt) (l1 : x.toInt ≤ 10241) (rB : zR κ9 taBytes a0 = zR κ taBytes a0) (iL : zI κ9 taLength a0 = zI κ taLength a0) (q : zF (objF a0) κ9 κ4 ∧ taI κ4 a0 ∧ tokI κ4 a0 ∧ zI κ4 taTotal a0 = zI κ9 taTotal a0 + 1 ∧ (∀ f, f ≠ taTotal → zI κ4 f a0 = zI κ9 f a0) ∧ zR κ4 taBytes a0 = zR κ9 taBytes a0) : zF (objF a0) κ κ4 ∧ taI κ4 a0 ∧ tokI κ4 a0 ∧ (zI κ4 taTotal a0).toInt = x.toInt + 1 ∧ zR κ4 taBytes a0 = zR κ taBytes a0 ∧ zI κ4 taLength a0 = zI κ taLength a0 := by
  obtain ⟨Z, I2, J2, t2, f2, b2⟩ := q
  refine ⟨F.tr Z, I2, J2, ?_, b2.trans rB, (f2 taLength (by decide)).trans iL⟩
  rw [t2, add_i (by rw [t1i]; omega) (by rw [t1i]; omega), t1i, tt]
theorem Ta_split_c {C : zC} {n0 : Nat} {a0 : Nat} {κ : zS} {Q : zS → Prop} (W : zW C n0 κ) (Ta0 : zT κ a0 = 13)  (hp : taI κ a0 ∧ tokI κ a0 ∧ (zI κ taLength a0).toInt ≤ 10240) (h : ∀ (κ' : zS), (zF (objF a0) κ κ' ∧ taI κ' a0 ∧ tokI κ' a0 ∧ (zI κ' taTotal a0).toInt ≤ 10242 ∧ zR κ' taBytes a0 = zR κ taBytes a0 ∧ zI κ' taLength a0 = zI κ taLength a0) → Q κ') : zRun C 13 mTa_split [.ref a0] κ (oV Q noX) := by
  refine Ta_split_run W Ta0 ?_
  replace W := W.lo (Nat.le_trans W.1.2.1 W.1.2.2) (Nat.le_refl (zn κ))
  unfold w_Ta_split_0
  obtain ⟨H, K, p0⟩ := hp
  have B := H.1
  intro κ_1 hκ_1
  intro W2
  unfold w_Ta_split_9
  refine ⟨fun n l0 l1 l2 τ => n = ((zI κ taLength a0).toInt + 1 - l2.toInt).toNat ∧ (a0 = l0 ∧ zF (objF a0) κ τ ∧ taI τ a0 ∧ tokI τ a0 ∧ (zI τ taTotal a0).toInt = l2.toInt ∧ 0 ≤ l2.toInt ∧ zR τ taBytes a0 = zR κ taBytes a0 ∧ zI τ taLength a0 = zI κ taLength a0 ∧ (0 ≤ l1.toInt ∧ l1.toInt ≤ (zI κ taLength a0).toInt) ∧ l2.toInt ≤ (zI κ taLength a0).toInt + 1), ⟨_, rfl, ?_⟩, ?_⟩
  · have F1 : zF (objF a0) κ κ_1 := by rw [hκ_1]; exact zF_ui rfl
    have t1 : zI κ_1 taTotal a0 = 0 := by rw [hκ_1]; exact if_pos ⟨rfl, rfl⟩
    have l1 : zI κ_1 taLength a0 = zI κ taLength a0 := by rw [hκ_1]; rfl
    have r1 : zR κ_1 = zR κ := by rw [hκ_1]; rfl
    have n1 : zN κ_1 = zN κ := by rw [hκ_1]; rfl
    have a1 : zA κ_1 = zA κ := by rw [hκ_1]; rfl
    refine ⟨rfl, F1, ?_, ?_, by rw [t1], by decide, by rw [r1], l1, ⟨by decide, by rw [t0i]; omega⟩, by rw [t0i]; omega⟩
    · unfold taI
      rw [r1, n1, l1, t1]
      exact ⟨H.1, by decide, by rw [t0i]; omega, H.2.2.2⟩
    · unfold tokI
      rw [r1, n1, a1]
      exact K
  rintro n9 _ x9_1 x9_2 κ9 W9 T9_0 ⟨hn9, rfl, i9⟩
  have hj61 : ∀ (l0 : Nat) (l1 : Int32) (l2 : Int32) (l3 : Int32) (s0 : Int32) (τ : zS), zW C (zn κ) τ → zT τ l0 = 13 → (a0 = l0 ∧ τ = κ9 ∧ l2 = x9_2 ∧ 0 ≤ l1.toInt ∧ 0 ≤ l3.toInt ∧ l1.toInt + l3.toInt ≤ (zI κ taLength a0).toInt ∧ x9_2.toInt ≤ (zI κ taLength a0).toInt) → w_Ta_split_61 C (zn κ) Q (fun (l0' : Nat) (l1' : Int32) (l2' : Int32) (τ : zS) => ∃ k < n9, (fun (n : Nat) (l0 : Nat) (l1 : Int32) (l2 : Int32) (τ : zS) => n = ((zI κ taLength a0).toInt + 1 - l2.toInt).toNat ∧ (a0 = l0 ∧ zF (objF a0) κ τ ∧ taI τ a0 ∧ tokI τ a0 ∧ (zI τ taTotal a0).toInt = l2.toInt ∧ 0 ≤ l2.toInt ∧ zR τ taBytes a0 = zR κ taBytes a0 ∧ zI τ taLength a0 = zI κ taLength a0 ∧ (0 ≤ l1.toInt ∧ l1.toInt ≤ (zI κ taLength a0).toInt) ∧ l2.toInt ≤ (zI κ taLength a0).toInt + 1)) k l0' l1' l2' τ) l0 l1 l2 l3 s0 τ := by
    rintro _ y61_1 y61_2 y61_3 y61_s0 τ61 W61 T61_0 ⟨rfl, j61⟩
    unfold w_Ta_split_61
    intro T3
    refine Ta_addToken_c W61 T3  ?_ (fun κ_4 q5 => ?_)
    · obtain ⟨F, I, J, tt, l0, rB, iL, p1, p2⟩ := i9
      obtain ⟨et, e2, y0, y1, y2, y3⟩ := j61
      have B9 := I.1
      rw [iL] at B9
      rw [et]
      exact ⟨I, J, by rw [tt]; omega, y0, y1, by omega⟩
    intro W6
    intro M7
    refine ⟨fun c8 => ?_, fun c8 => ?_⟩
    · skip
      refine h _ ?_
      · obtain ⟨F, I, J, tt, l0, rB, iL, p1, p2⟩ := i9
        obtain ⟨et, e2, y0, y1, y2, y3⟩ := j61
        rw [et] at q5
        obtain ⟨g1, g2, g3, g4, g5, g6⟩ := sp_t F tt l0 (by omega) rB iL q5
        exact ⟨g1, g2, g3, by omega, g5, g6⟩
    · skip
      refine ⟨fun c9 => ?_, fun c9 => ?_⟩
      · skip
        intro x10 hx10
        intro x11 hx11
        refine ⟨_, ?_, rfl, ?_⟩
        · obtain ⟨F, I, J, tt, l0, rB, iL, p1, p2⟩ := i9
          obtain ⟨et, e2, y0, y1, y2, y3⟩ := j61
          have e1 : (x9_2 + 1).toInt = x9_2.toInt + 1 := by rw [add_i (by rw [t1i]; omega) (by rw [t1i]; omega), t1i]
          rw [hn9, hx11, e2, e1]; omega
        · obtain ⟨F, I, J, tt, l0, rB, iL, p1, p2⟩ := i9
          obtain ⟨et, e2, y0, y1, y2, y3⟩ := j61
          have e1 : (x9_2 + 1).toInt = x9_2.toInt + 1 := by rw [add_i (by rw [t1i]; omega) (by rw [t1i]; omega), t1i]
          have e3 : (y61_1 + y61_3).toInt = y61_1.toInt + y61_3.toInt := add_i (by omega) (by omega)
          rw [et] at q5
          obtain ⟨g1, g2, g3, g4, g5, g6⟩ := sp_t F tt l0 (by omega) rB iL q5
          exact ⟨rfl, g1, g2, g3, by rw [hx11, e2, e1]; exact g4, by rw [hx11, e2, e1]; omega, g5, g6, ⟨by rw [hx10, e3]; omega, by rw [hx10, e3]; omega⟩, by rw [hx11, e2, e1]; omega⟩
      · skip
        refine h _ ?_
        · obtain ⟨F, I, J, tt, l0, rB, iL, p1, p2⟩ := i9
          obtain ⟨et, e2, y0, y1, y2, y3⟩ := j61
          rw [et] at q5
          obtain ⟨g1, g2, g3, g4, g5, g6⟩ := sp_t F tt l0 (by omega) rB iL q5
          exact ⟨g1, g2, g3, by omega, g5, g6⟩
  have hj40 : ∀ (l0 : Nat) (l1 : Int32) (l2 : Int32) (s0 : Int32) (τ : zS), zW C (zn κ) τ → zT τ l0 = 13 → (a0 = l0 ∧ τ = κ9 ∧ l2 = x9_2 ∧ 0 ≤ l1.toInt ∧ l1.toInt ≤ (zI κ taLength a0).toInt ∧ 0 ≤ s0.toInt ∧ l1.toInt + s0.toInt ≤ (zI κ taLength a0).toInt ∧ x9_2.toInt ≤ (zI κ taLength a0).toInt) → w_Ta_split_40 C (zn κ) Q (fun (l0' : Nat) (l1' : Int32) (l2' : Int32) (τ : zS) => ∃ k < n9, (fun (n : Nat) (l0 : Nat) (l1 : Int32) (l2 : Int32) (τ : zS) => n = ((zI κ taLength a0).toInt + 1 - l2.toInt).toNat ∧ (a0 = l0 ∧ zF (objF a0) κ τ ∧ taI τ a0 ∧ tokI τ a0 ∧ (zI τ taTotal a0).toInt = l2.toInt ∧ 0 ≤ l2.toInt ∧ zR τ taBytes a0 = zR κ taBytes a0 ∧ zI τ taLength a0 = zI κ taLength a0 ∧ (0 ≤ l1.toInt ∧ l1.toInt ≤ (zI κ taLength a0).toInt) ∧ l2.toInt ≤ (zI κ taLength a0).toInt + 1)) k l0' l1' l2' τ) l0 l1 l2 s0 τ := by
    rintro _ y40_1 y40_2 y40_s0 τ40 W40 T40_0 ⟨rfl, j40⟩
    unfold w_Ta_split_40
    refine ⟨fun c12 => ?_, fun c12 => ?_⟩
    · skip
      refine hj61 _ _ _ _ _ _ W40 ?_ ?_
      · exact T40_0  -- t7
      · obtain ⟨et, e2, y0, y1, y2, y3, y4⟩ := j40
        exact ⟨rfl, et, e2, y0, y2, y3, y4⟩
    · skip
      intro T13
      refine Ta_kindOf_c W40 T13  ?_ (fun r14 q16 => ?_)
      · rw [j40.1]; exact i9.2.1  -- p9
      intro W17
      intro M18
      refine hj61 _ _ _ _ _ _ W17 ?_ ?_
      · exact T40_0  -- t10
      · obtain ⟨et, e2, y0, y1, y2, y3, y4⟩ := j40
        exact ⟨rfl, et, e2, y0, y2, y3, y4⟩
  refine ⟨fun c19 => ?_, fun c19 => ?_⟩
  · skip
    refine h _ ?_
    · obtain ⟨F, I, J, tt, l0, rB, iL, p1, p2⟩ := i9
      exact ⟨F, I, J, by omega, rB, iL⟩
  · skip
    intro T20
    refine Ta_skipBlanks_c W9 T20  ?_ (fun r21 q23 => ?_)
    · obtain ⟨F, I, J, tt, l0, rB, iL, p1, p2⟩ := i9
      exact ⟨I, p1.1, by rw [iL]; exact p1.2⟩
    intro W24
    intro M25
    refine ⟨fun c26 => ?_, fun c26 => ?_⟩
    · skip
      refine hj40 _ _ _ _ _ W24 ?_ ?_
      · exact T9_0  -- t14
      · obtain ⟨F, I, J, tt, l0, rB, iL, p1, p2⟩ := i9
        rw [lti, iL] at c19
        rw [iL] at q23
        exact ⟨rfl, rfl, rfl, by omega, by omega, by decide, by rw [t0i]; omega, by omega⟩
    · skip
      intro T27
      refine Ta_sizeAt_c W24 T27  ?_ (fun r28 q30 => ?_)
      · obtain ⟨F, I, J, tt, l0, rB, iL, p1, p2⟩ := i9
        rw [lei] at c26
        exact ⟨I, by omega, by omega⟩
      intro W31
      intro M32
      refine hj40 _ _ _ _ _ W31 ?_ ?_
      · exact T9_0  -- t17
      · obtain ⟨F, I, J, tt, l0, rB, iL, p1, p2⟩ := i9
        rw [lti, iL] at c19
        rw [iL] at q23 q30
        exact ⟨rfl, rfl, rfl, by omega, by omega, by omega, by omega, by omega⟩
