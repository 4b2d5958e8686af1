set_option maxHeartbeats 1600000
/-! texts by what they hold -/
/-- what a text holds -/
def txC5 (C : zC) (a : Nat) : List Int32 := match (C.2.1).find? (fun x => x.1 == a) with
  | some x => match (C.2.1).find? (fun z => z.2.1 == x.2.1) with
    | some y => y.2.2
    | none => []
  | none => []
theorem txC_e5 {C : zC} {a : Nat} {x y : Nat × Nat × List Int32} (h : txX C a x y) : txC5 C a = y.2.2 := by
  unfold txC5
  rw [h.1]
  show (match (C.2.1).find? (fun z => z.2.1 == x.2.1) with | some y => y.2.2 | none => []) = _
  rw [h.2.1]
theorem txL_5 {C : zC} {a : Nat} (h : isTx C a) : txL C a = (txC5 C a).length := by
  obtain ⟨x, y, hx⟩ := txX_of h
  rw [txL_e hx, txC_e5 hx]
def ch5 (l : List Int32) (i : Int32) : Int32 := ((l.getD i.toNatClampNeg 0 &&& 255).toUInt32 % 65536).toInt32
theorem jChar1_q5 {C : zC} {n0 a : Nat} {i : Int32} {κ : zS} {x y : Nat × Nat × List Int32} {Q : Int32 → zS → Prop} (W : zW C n0 κ) (hx : txX C a x y) (h0 : 0 ≤ i.toInt) (h1 : i.toInt < y.2.2.length) (h : ∀ v, chOK v ∧ v = ch5 y.2.2 i → Q v κ) : zRun C 2 jChar1 [.ref x.2.1, .int i] κ (oI Q noX) := by
  replace W := W.lo (Nat.le_trans W.1.2.1 W.1.2.2) (Nat.le_refl (zn κ))
  have hL := ofn_i (n := y.2.2.length) (Nat.le_trans hx.2.2.2.2 (by decide))
  refine z_run (m_ent _ 0) ?_
  refine y_iln dq_ch1_0 rfl ?_
  refine y_aln dq_ch1_1 rfl ?_
  refine y_tln W dq_ch1_2 hx ?_
  refine y_cals (As := [.int i, .int (Int32.ofNat y.2.2.length)]) (rest := []) W dq_ch1_3 rfl (j := 414) (by decide +kernel) (by decide +kernel) rfl rfl rfl (Nat.le_of_ble_eq_true rfl) (Nat.le_refl 1) (Nat.le_of_ble_eq_true rfl) (jCk0_c (Q := fun κ' => κ' = κ) W h0 (by rw [hL]; exact h1) rfl) (fun v κ' w9 m9 p9 => ezV (fun κ' w m p => ?_) w9 m9 p9) (fun cls κ' p9 => show False from thrV (X := noX) p9)
  subst p
  refine y_aln dq_ch1_6 rfl ?_
  refine y_iln dq_ch1_7 rfl ?_
  refine y_tld w dq_ch1_8 hx (by rw [inb_iff]; exact ⟨h0, h1⟩) ?_
  refine y_si dq_ch1_9 (x := 255) (by decide) ?_
  refine y_iand dq_ch1_12 ?_
  refine y_i2c dq_ch1_13 ?_
  exact y_ri w dq_ch1_14 rfl ch_and (h _ ⟨ch_and, rfl⟩)

theorem St_charAt_q5 {C : zC} {n0 : Nat} {a0 : Nat} {a1 : Int32} {κ : zS} {Q : Int32 → zS → Prop} (W : zW C n0 κ) (Ta0 : isTx C a0) (hp : 0 ≤ a1.toInt ∧ a1.toInt < txL C a0) (h : ∀ (v : Int32), (v = ch5 (txC5 C a0) a1) → Q v κ) : zRun C 9 mSt_charAt [.ref a0, .int a1] κ (oI Q noX) := by
  obtain ⟨x, y, hx⟩ := txX_of Ta0
  rw [txL_e hx] at hp
  refine zRun.up (d := 3) (by decide) ?_
  replace W := W.lo (Nat.le_trans W.1.2.1 W.1.2.2) (Nat.le_refl (zn κ))
  refine z_run (m_ent _ 0) ?_
  refine y_aln dq_ch0_0 rfl ?_
  refine y_calt (As := []) W dq_ch0_1 rfl (j := 418) (by decide +kernel) rfl ⟨rfl, by decide, rfl⟩ rfl (Nat.le_of_ble_eq_true rfl) (Nat.zero_le 2) (Nat.le_of_ble_eq_true rfl) Ta0 (jLatin_c (Q := fun z κ' => z = 1 ∧ κ' = κ) W Ta0 ⟨rfl, rfl⟩) (fun v κ' w9 m9 p9 => ezI (fun z κ' w m p => ?_) w9 m9 p9) (fun cls κ' p9 => False.elim (show False from thrI (X := noX) p9))
  obtain ⟨rfl, rfl⟩ := p
  refine y_i ((1 : Int32) = 0) dq_ch0_4 (t := 16) rfl rfl (fun c => absurd c (by decide)) (fun _ => ?_)
  refine y_aln dq_ch0_7 rfl ?_
  refine y_tgv w dq_ch0_8 rfl rfl Ta0 hx ?_
  refine y_iln dq_ch0_11 rfl ?_
  refine y_cals (As := [.ref x.2.1, .int a1]) (rest := []) w dq_ch0_12 rfl (j := 421) (by decide +kernel) (by decide +kernel) rfl rfl rfl (Nat.le_of_ble_eq_true rfl) (Nat.le_refl 2) (Nat.le_of_ble_eq_true rfl) (jChar1_q5 (Q := fun z κ2 => (chOK z ∧ z = ch5 y.2.2 a1) ∧ κ2 = κ') w hx hp.1 hp.2 (fun v hv => ⟨hv, rfl⟩)) (fun v κ2 w9 m9 p9 => ezI (fun z κ2 w2 m2 p2 => ?_) w9 m9 p9) (fun cls κ' p9 => show False from thrI (X := noX) p9)
  obtain ⟨⟨hz, hz5⟩, rfl⟩ := p2
  exact y_ri w2 dq_ch0_15 rfl hz (h _ (by rw [txC_e5 hx]; exact hz5))

def ca5 (c : Int32) : Bool := decide (0 ≤ c) && decide (c ≤ 255)
/-- whether a byte stands in a text -/
def bt5 (c : Int32) : Int32 := (c.toInt8).toInt32
theorem jCan_q5 {C : zC} {n0 : Nat} {c : Int32} {κ : zS} {Q : Int32 → zS → Prop} (W : zW C n0 κ) (h : ∀ v, (v = 0 ∨ v = 1) ∧ (v ≠ 0 ↔ (0 ≤ c ∧ c ≤ 255)) → Q v κ) : zRun C 0 jCan [.int c] κ (oI Q noX) := by
  replace W := W.lo (Nat.le_trans W.1.2.1 W.1.2.2) (Nat.le_refl (zn κ))
  refine z_run (m_ent _ 0) ?_
  refine y_iln dq_can_0 rfl ?_
  refine y_i (c < 0) dq_can_1 (t := 15) rfl rfl (fun c1 => ?_) (fun c1 => ?_)
  · refine y_ic dq_can_15 zi_0 ?_
    exact y_ri W dq_can_16 rfl ⟨rfl, rfl⟩ (h _ ⟨Or.inl rfl, fun z => absurd rfl z, fun z => absurd z.1 (Int32.not_le.mpr c1)⟩)
  · refine y_iln dq_can_4 rfl ?_
    refine y_si dq_can_5 (x := 255) (by decide) ?_
    refine y_ii ((255 : Int32) < c) dq_can_8 (t := 15) rfl rfl (fun c2 => ?_) (fun c2 => ?_)
    · refine y_ic dq_can_15 zi_0 ?_
      exact y_ri W dq_can_16 rfl ⟨rfl, rfl⟩ (h _ ⟨Or.inl rfl, fun z => absurd rfl z, fun z => absurd z.2 (Int32.not_le.mpr c2)⟩)
    · refine y_ic dq_can_11 zi_1 ?_
      refine y_goto dq_can_12 (t := 16) rfl ?_
      exact y_ri W dq_can_16 rfl ⟨rfl, rfl⟩ (h _ ⟨Or.inr rfl, fun _ => ⟨Int32.not_lt.mp c1, Int32.not_lt.mp c2⟩, fun _ => by decide⟩)

theorem jIxC_q5 {C : zC} {n0 a : Nat} {c f mx : Int32} {κ : zS} {x y : Nat × Nat × List Int32} {Q : Int32 → zS → Prop} (W : zW C n0 κ) (hx : txX C a x y) (h0 : 0 ≤ f.toInt) (h1 : mx.toInt ≤ y.2.2.length) (h : ∀ v, (0 ≤ v.toInt ↔ ∃ j : Nat, f.toInt ≤ j ∧ (j : Int) < mx.toInt ∧ y.2.2.getD j 0 = bt5 c) → Q v κ) : zRun C 0 jIxC [.ref x.2.1, .int c, .int f, .int mx] κ (oI Q noX) := by
  replace W := W.lo (Nat.le_trans W.1.2.1 W.1.2.2) (Nat.le_refl (zn κ))
  have key : ∀ (m : Nat) (b k : Int32), 0 ≤ k.toInt → mx.toInt - k.toInt ≤ m → (∀ v : Int32, (0 ≤ v.toInt ↔ ∃ j : Nat, k.toInt ≤ j ∧ (j : Int) < mx.toInt ∧ y.2.2.getD j 0 = b) → Q v κ) → zG C (zn κ) 0 jIxC 7 [some (.ref x.2.1), some (.int c), some (.int f), some (.int mx), some (.int b), some (.int k)] [] κ (oI Q noX) := by
    intro m
    induction m with
    | zero =>
      intro b k k0 km hq
      refine y_il dq_ixc_7 rfl ?_
      refine y_iln dq_ixc_9 rfl ?_
      refine y_ii (mx ≤ k) dq_ixc_10 (t := 31) rfl rfl (fun _ => ?_) (fun z => absurd (by rw [lei]; omega) z)
      refine y_ic dq_ixc_31 (x := -1) (by decide) ?_
      exact y_ri W dq_ixc_32 rfl ⟨rfl, rfl⟩ (hq _ ⟨fun z => absurd z (by decide), fun ⟨j, a, b, _⟩ => by omega⟩)
    | succ m ih =>
      intro b k k0 km hq
      refine y_il dq_ixc_7 rfl ?_
      refine y_iln dq_ixc_9 rfl ?_
      refine y_ii (mx ≤ k) dq_ixc_10 (t := 31) rfl rfl (fun z => ?_) (fun z => ?_)
      · refine y_ic dq_ixc_31 (x := -1) (by decide) ?_
        exact y_ri W dq_ixc_32 rfl ⟨rfl, rfl⟩ (hq _ ⟨fun z9 => absurd z9 (by decide), fun ⟨j, a, b, _⟩ => by rw [lei] at z; omega⟩)
      · rw [lei] at z
        have e1 := inc_i (x := k) (y := mx) k0 (by omega)
        refine y_aln dq_ixc_13 rfl ?_
        refine y_il dq_ixc_14 rfl ?_
        refine y_tld W dq_ixc_16 hx (by rw [inb_iff]; omega) ?_
        refine y_il dq_ixc_17 rfl ?_
        refine y_iin (y.2.2.getD k.toNatClampNeg 0 = b) dq_ixc_19 (t := 25) rfl rfl (fun e9 => ?_) (fun e9 => ?_)
        · refine y_incb dq_ixc_25 zi_1 rfl (by decide) (fun z hz => ?_)
          refine y_goto dq_ixc_28 (t := 7) rfl ?_
          exact ih b z (by rw [hz, e1]; omega) (by rw [hz, e1]; omega) (fun v hv => hq v (hv.trans ⟨fun ⟨j, a, b, c9⟩ => ⟨j, by rw [hz, e1] at a; omega, b, c9⟩, fun ⟨j, a, b, c9⟩ => ⟨j, by
            rw [hz, e1]
            have kk := cnk k0
            have ne : j ≠ k.toNatClampNeg := fun q => e9 (by rw [← q]; exact c9)
            omega, b, c9⟩⟩))
        · refine y_il dq_ixc_22 rfl ?_
          exact y_ri W dq_ixc_24 rfl ⟨rfl, rfl⟩ (hq _ ⟨fun _ => ⟨k.toNatClampNeg, by have := cnk k0; omega, by have := cnk k0; omega, e9⟩, fun _ => k0⟩)
  refine z_run (m_ent _ 2) ?_
  refine y_iln dq_ixc_0 rfl ?_
  refine y_i2b dq_ixc_1 ?_
  refine y_is dq_ixc_2 (by decide) rfl ?_
  refine y_iln dq_ixc_4 rfl ?_
  refine y_is dq_ixc_5 (by decide) rfl ?_
  exact key (mx.toInt - f.toInt).toNat _ f h0 (by omega) h

theorem jIx1_q5 {C : zC} {n0 a : Nat} {c : Int32} {κ : zS} {x y : Nat × Nat × List Int32} {Q : Int32 → zS → Prop} (W : zW C n0 κ) (hx : txX C a x y) (h : ∀ v, (0 ≤ v.toInt ↔ (0 ≤ c ∧ c ≤ 255) ∧ ∃ j : Nat, j < y.2.2.length ∧ y.2.2.getD j 0 = bt5 c) → Q v κ) : zRun C 1 jIx1 [.ref x.2.1, .int c, .int 0, .int (Int32.ofNat y.2.2.length)] κ (oI Q noX) := by
  replace W := W.lo (Nat.le_trans W.1.2.1 W.1.2.2) (Nat.le_refl (zn κ))
  have hL := ofn_i (n := y.2.2.length) (Nat.le_trans hx.2.2.2.2 (by decide))
  refine z_run (m_ent _ 0) ?_
  refine y_iln dq_ix1_0 rfl ?_
  refine y_cals (As := [.int c]) (rest := []) W dq_ix1_1 rfl (j := 420) (by decide +kernel) (by decide +kernel) rfl rfl rfl (Nat.le_of_ble_eq_true rfl) (Nat.le_refl 0) (Nat.le_of_ble_eq_true rfl) (jCan_q5 (Q := fun z κ' => ((z = 0 ∨ z = 1) ∧ (z ≠ 0 ↔ (0 ≤ c ∧ c ≤ 255))) ∧ κ' = κ) W (fun _ q => ⟨q, rfl⟩)) (fun v κ' w9 m9 p9 => ezI (fun z κ' w m p => ?_) w9 m9 p9) (fun cls κ' p9 => show False from thrI (X := noX) p9)
  obtain ⟨⟨hz1, hz2⟩, rfl⟩ := p
  refine y_in (z = 0) dq_ix1_4 (t := 9) rfl rfl (fun c4 => ?_) (fun c4 => ?_)
  · refine y_iln dq_ix1_9 rfl ?_
    refine y_ic dq_ix1_10 zi_0 ?_
    refine y_max dq_ix1_11 rfl (by decide +kernel) (Nat.le_refl 1) (Nat.le_of_ble_eq_true rfl) ?_
    obtain ⟨g, hg⟩ : ∃ g, g = (if (0 : Int32) < 0 then (0 : Int32) else 0) := ⟨_, rfl⟩
    rw [← hg]
    have g1 : g = 0 := by rw [hg]; rfl
    have g0 : 0 ≤ g.toInt := by rw [g1]; decide
    refine y_isn dq_ix1_14 (by decide) rfl ?_
    refine y_iln dq_ix1_15 rfl ?_
    refine y_aln dq_ix1_16 rfl ?_
    refine y_tln w dq_ix1_17 hx ?_
    refine y_min dq_ix1_18 rfl (by decide +kernel) (Nat.le_refl 1) (Nat.le_of_ble_eq_true rfl) ?_
    obtain ⟨q, hq⟩ : ∃ q, q = (if Int32.ofNat y.2.2.length < Int32.ofNat y.2.2.length then Int32.ofNat y.2.2.length else Int32.ofNat y.2.2.length) := ⟨_, rfl⟩
    rw [← hq]
    have q1 : q = Int32.ofNat y.2.2.length := by rw [hq]; exact if_neg (fun z => Int32.lt_irrefl z)
    have q0 : q.toInt ≤ y.2.2.length := by rw [q1, hL]; exact Int.le_refl _
    refine y_isn dq_ix1_21 (by decide) rfl ?_
    refine y_iln dq_ix1_22 rfl ?_
    refine y_iln dq_ix1_23 rfl ?_
    refine y_ii (g < q) dq_ix1_24 (t := 29) rfl rfl (fun c24 => ?_) (fun c24 => ?_)
    · refine y_aln dq_ix1_29 rfl ?_
      refine y_iln dq_ix1_30 rfl ?_
      refine y_iln dq_ix1_31 rfl ?_
      refine y_iln dq_ix1_32 rfl ?_
      refine y_cals (As := [.ref x.2.1, .int c, .int g, .int q]) (rest := []) w dq_ix1_33 rfl (j := 422) (by decide +kernel) (by decide +kernel) rfl rfl rfl (Nat.le_of_ble_eq_true rfl) (Nat.le_refl 0) (Nat.le_of_ble_eq_true rfl) (jIxC_q5 (Q := fun z κ2 => (0 ≤ z.toInt ↔ ∃ j : Nat, g.toInt ≤ j ∧ (j : Int) < q.toInt ∧ y.2.2.getD j 0 = bt5 c) ∧ κ2 = κ') w hx g0 q0 (fun _ q => ⟨q, rfl⟩)) (fun v κ2 w9 m9 p9 => ezI (fun z κ2 w2 m2 p2 => ?_) w9 m9 p9) (fun cls κ' p9 => show False from thrI (X := noX) p9)
      obtain ⟨p3, rfl⟩ := p2
      exact y_ri w2 dq_ix1_36 rfl ⟨rfl, rfl⟩ (h _ (p3.trans ⟨fun ⟨j, a, b, c9⟩ => ⟨hz2.mp c4, j, by rw [q1, hL] at b; omega, c9⟩, fun ⟨_, j, a, c9⟩ => ⟨j, by rw [g1]; exact Int.natCast_nonneg j, by rw [q1, hL]; omega, c9⟩⟩))
    · refine y_ic dq_ix1_27 (x := -1) (by decide) ?_
      exact y_ri w dq_ix1_28 rfl ⟨rfl, rfl⟩ (h _ ⟨fun z9 => absurd z9 (by decide), fun ⟨_, j, a, _⟩ => by
        exfalso
        rw [lti, g1, t0i, q1, hL] at c24
        omega⟩)
  · refine y_ic dq_ix1_7 (x := -1) (by decide) ?_
    exact y_ri w dq_ix1_8 rfl ⟨rfl, rfl⟩ (h _ ⟨fun z9 => absurd z9 (by decide), fun q9 => absurd (hz2.mpr q9.1) (fun q => q c4)⟩)

theorem jIx2_q5 {C : zC} {n0 a : Nat} {c : Int32} {κ : zS} {Q : Int32 → zS → Prop} (W : zW C n0 κ) (hB : isTx C a) (h : ∀ v, (0 ≤ v.toInt ↔ (0 ≤ c ∧ c ≤ 255) ∧ ∃ j : Nat, j < (txC5 C a).length ∧ (txC5 C a).getD j 0 = bt5 c) → Q v κ) : zRun C 2 jIx2 [.ref a, .int c, .int 0] κ (oI Q noX) := by
  obtain ⟨x, y, hx⟩ := txX_of hB
  replace W := W.lo (Nat.le_trans W.1.2.1 W.1.2.2) (Nat.le_refl (zn κ))
  refine z_run (m_ent _ 0) ?_
  refine y_aln dq_ix2_0 rfl ?_
  refine y_calt (As := []) W dq_ix2_1 rfl (j := 418) (by decide +kernel) rfl ⟨rfl, by decide, rfl⟩ rfl (Nat.le_of_ble_eq_true rfl) (Nat.zero_le 1) (Nat.le_of_ble_eq_true rfl) hB (jLatin_c (Q := fun z κ' => z = 1 ∧ κ' = κ) W hB ⟨rfl, rfl⟩) (fun v κ' w9 m9 p9 => ezI (fun z κ' w m p => ?_) w9 m9 p9) (fun cls κ' p9 => False.elim (show False from thrI (X := noX) p9))
  obtain ⟨rfl, rfl⟩ := p
  refine y_i ((1 : Int32) = 0) dq_ix2_4 (t := 23) rfl rfl (fun c => absurd c (by decide)) (fun _ => ?_)
  refine y_aln dq_ix2_7 rfl ?_
  refine y_tgv w dq_ix2_8 rfl rfl hB hx ?_
  refine y_iln dq_ix2_11 rfl ?_
  refine y_iln dq_ix2_12 rfl ?_
  refine y_aln dq_ix2_13 rfl ?_
  refine y_calt (As := []) w dq_ix2_14 rfl (j := 419) (by decide +kernel) rfl ⟨rfl, by decide, rfl⟩ rfl (Nat.le_of_ble_eq_true rfl) (Nat.le_refl 1) (Nat.le_of_ble_eq_true rfl) hB (jLen_c (Q := fun z κ2 => z = Int32.ofNat (txL C a) ∧ κ2 = κ') w hB ⟨rfl, rfl⟩) (fun v κ2 w9 m9 p9 => ezI (fun z κ2 w2 m2 p2 => ?_) w9 m9 p9) (fun cls κ' p9 => False.elim (show False from thrI (X := noX) p9))
  obtain ⟨rfl, rfl⟩ := p2
  rw [txL_e hx]
  refine y_cals (As := [.ref x.2.1, .int c, .int 0, .int (Int32.ofNat y.2.2.length)]) (rest := []) w2 dq_ix2_17 rfl (j := 423) (by decide +kernel) (by decide +kernel) rfl rfl rfl (Nat.le_of_ble_eq_true rfl) (Nat.le_refl 1) (Nat.le_of_ble_eq_true rfl) (jIx1_q5 (Q := fun z κ3 => (0 ≤ z.toInt ↔ (0 ≤ c ∧ c ≤ 255) ∧ ∃ j : Nat, j < y.2.2.length ∧ y.2.2.getD j 0 = bt5 c) ∧ κ3 = κ2) w2 hx (fun _ q => ⟨q, rfl⟩)) (fun v κ3 w9 m9 p9 => ezI (fun z κ3 w3 m3 p3 => ?_) w9 m9 p9) (fun cls κ' p9 => show False from thrI (X := noX) p9)
  obtain ⟨p4, rfl⟩ := p3
  refine y_goto dq_ix2_20 (t := 36) rfl ?_
  exact y_ri w3 dq_ix2_36 rfl ⟨rfl, rfl⟩ (h _ (by rw [txC_e5 hx]; exact p4))

theorem St_indexOf_q5 {C : zC} {n0 : Nat} {a0 : Nat} {a1 : Int32} {κ : zS} {Q : Int32 → zS → Prop} (W : zW C n0 κ) (Ta0 : isTx C a0) (h : ∀ (v : Int32), (0 ≤ v.toInt ↔ (0 ≤ a1 ∧ a1 ≤ 255) ∧ ∃ j : Nat, j < (txC5 C a0).length ∧ (txC5 C a0).getD j 0 = bt5 a1) → Q v κ) : zRun C 9 mSt_indexOf [.ref a0, .int a1] κ (oI Q noX) := by
  refine zRun.up (d := 3) (by decide) ?_
  replace W := W.lo (Nat.le_trans W.1.2.1 W.1.2.2) (Nat.le_refl (zn κ))
  refine z_run (m_ent _ 0) ?_
  refine y_aln dq_ix3_0 rfl ?_
  refine y_iln dq_ix3_1 rfl ?_
  refine y_ic dq_ix3_2 zi_0 ?_
  refine y_calt (As := [.int a1, .int 0]) W dq_ix3_3 rfl (j := 417) (by decide +kernel) rfl ⟨rfl, by decide, rfl⟩ rfl (Nat.le_of_ble_eq_true rfl) (Nat.le_refl 2) (Nat.le_of_ble_eq_true rfl) Ta0 (jIx2_q5 (Q := fun z κ' => (0 ≤ z.toInt ↔ (0 ≤ a1 ∧ a1 ≤ 255) ∧ ∃ j : Nat, j < (txC5 C a0).length ∧ (txC5 C a0).getD j 0 = bt5 a1) ∧ κ' = κ) W Ta0 (fun _ q => ⟨q, rfl⟩)) (fun v κ' w9 m9 p9 => ezI (fun z κ' w m p => ?_) w9 m9 p9) (fun cls κ' p9 => False.elim (show False from thrI (X := noX) p9))
  obtain ⟨p1, rfl⟩ := p
  exact y_ri w dq_ix3_6 rfl ⟨rfl, rfl⟩ (h _ p1)

def wt5 : List Int32 := [118, 97, 114, 32] ++ [97, 114, 114, 32] ++ [102, 117, 110, 99, 32] ++ [108, 111, 99, 97, 108, 32] ++ [105, 102, 32] ++ [101, 108, 115, 101, 32] ++ [119, 104, 105, 108, 101, 32] ++ [114, 101, 116, 117, 114, 110, 32] ++ [111, 98, 115, 101, 114, 118, 101, 32] ++ [103, 97, 105, 110, 32] ++ [112, 105, 99, 107, 32] ++ [102, 108, 105, 112, 32] ++ [99, 104, 111, 111, 115, 101, 32]
def sn5 : List Int32 := [40, 41, 123, 125, 91, 93, 59, 44, 58, 126, 61, 60, 62, 43, 45, 42, 47, 37, 38, 124, 33]
def mn5 : List Int32 := [109, 97, 105, 110]
def tx5 (C : zC) : Prop := txC5 C (C.1 0) = wt5 ∧ txC5 C (C.1 1) = sn5 ∧ txC5 C (C.1 3) = mn5
def ix5 (l : List Int32) (c : Int32) : Int32 := if (0 ≤ c ∧ c ≤ 255) ∧ bt5 c ∈ l then 0 else -1
theorem ix_5 {v c : Int32} {l : List Int32} (h : 0 ≤ v.toInt ↔ (0 ≤ c ∧ c ≤ 255) ∧ ∃ j : Nat, j < l.length ∧ l.getD j 0 = bt5 c) : v < 0 ↔ ix5 l c < 0 := by
  have hm : (∃ j : Nat, j < l.length ∧ l.getD j 0 = bt5 c) ↔ bt5 c ∈ l := by
    constructor
    · rintro ⟨j, hj, e⟩
      rw [List.getD_eq_getElem?_getD, List.getElem?_eq_getElem hj] at e
      rw [← e]
      exact List.getElem_mem hj
    · intro hb
      obtain ⟨j, hj, e⟩ := List.getElem_of_mem hb
      refine ⟨j, hj, ?_⟩
      rw [List.getD_eq_getElem?_getD, List.getElem?_eq_getElem hj]
      exact e
  rw [hm] at h
  unfold ix5
  rw [lti, t0i]
  by_cases z : (0 ≤ c ∧ c ≤ 255) ∧ bt5 c ∈ l
  · rw [if_pos z]
    have a := h.mpr z
    exact ⟨fun q => by omega, fun q => absurd q (by decide)⟩
  · rw [if_neg z]
    have a : ¬ 0 ≤ v.toInt := fun q => z (h.mp q)
    exact ⟨fun _ => by decide, fun _ => by omega⟩
theorem St_length_r5 {C : zC} {n0 : Nat} {a0 : Nat} {κ : zS} {Q : Int32 → zS → Prop} (W : zW C n0 κ) (Ta0 : isTx C a0) (h : ∀ (v : Int32), ((v.toInt = txL C a0) ∧ v = Int32.ofNat (txC5 C a0).length) → Q v κ) : zRun C 9 mSt_length [.ref a0] κ (oI Q noX) :=
  zRun.up (by decide) (jLen_c W Ta0 (h _ ⟨ofn_i (Nat.le_trans (txL_b Ta0) (by decide)), by rw [txL_5 Ta0]⟩))
theorem St_charAt_r5 {C : zC} {n0 : Nat} {a0 : Nat} {a1 : Int32} {κ : zS} {Q : Int32 → zS → Prop} (W : zW C n0 κ) (Ta0 : isTx C a0) (hp : 0 ≤ a1.toInt ∧ a1.toInt < txL C a0) (h : ∀ (v : Int32), ((True) ∧ v = ch5 (txC5 C a0) a1) → Q v κ) : zRun C 9 mSt_charAt [.ref a0, .int a1] κ (oI Q noX) := St_charAt_q5 W Ta0 hp (fun v q => h v ⟨trivial, q⟩)
theorem St_indexOf_r5 {C : zC} {n0 : Nat} {a0 : Nat} {a1 : Int32} {κ : zS} {Q : Int32 → zS → Prop} (W : zW C n0 κ) (Ta0 : isTx C a0) (h : ∀ (v : Int32), ((True) ∧ (0 ≤ v.toInt ↔ (0 ≤ a1 ∧ a1 ≤ 255) ∧ ∃ j : Nat, j < (txC5 C a0).length ∧ (txC5 C a0).getD j 0 = bt5 a1)) → Q v κ) : zRun C 9 mSt_indexOf [.ref a0, .int a1] κ (oI Q noX) := St_indexOf_q5 W Ta0 (fun v q => h v ⟨trivial, q⟩)
