set_option maxHeartbeats 1600000
/-! String's methods, by hand -/
theorem dq_coder_0 : decode cJ0_coder_7d493 0 = .ok (.getstatic 38, 3) := by decide +kernel
theorem dq_coder_3 : decode cJ0_coder_7d493 3 = .ok (.ifCond .eq 10, 3) := by decide +kernel
theorem dq_coder_6 : decode cJ0_coder_7d493 6 = .ok (.aload_n 0, 1) := by decide +kernel
theorem dq_coder_7 : decode cJ0_coder_7d493 7 = .ok (.getfield 15, 3) := by decide +kernel
theorem dq_coder_10 : decode cJ0_coder_7d493 10 = .ok (.goto 4, 3) := by decide +kernel
theorem dq_coder_14 : decode cJ0_coder_7d493 14 = .ok (.ireturn, 1) := by decide +kernel
theorem dq_lat_0 : decode cJ0_isLatin1_aae02 0 = .ok (.getstatic 38, 3) := by decide +kernel
theorem dq_lat_3 : decode cJ0_isLatin1_aae02 3 = .ok (.ifCond .eq 14, 3) := by decide +kernel
theorem dq_lat_6 : decode cJ0_isLatin1_aae02 6 = .ok (.aload_n 0, 1) := by decide +kernel
theorem dq_lat_7 : decode cJ0_isLatin1_aae02 7 = .ok (.getfield 15, 3) := by decide +kernel
theorem dq_lat_10 : decode cJ0_isLatin1_aae02 10 = .ok (.ifCond .ne 7, 3) := by decide +kernel
theorem dq_lat_13 : decode cJ0_isLatin1_aae02 13 = .ok (.iconst 1, 1) := by decide +kernel
theorem dq_lat_14 : decode cJ0_isLatin1_aae02 14 = .ok (.goto 4, 3) := by decide +kernel
theorem dq_lat_18 : decode cJ0_isLatin1_aae02 18 = .ok (.ireturn, 1) := by decide +kernel
theorem dq_len_0 : decode cJ0_length_8abf5 0 = .ok (.aload_n 0, 1) := by decide +kernel
theorem dq_len_1 : decode cJ0_length_8abf5 1 = .ok (.getfield 9, 3) := by decide +kernel
theorem dq_len_4 : decode cJ0_length_8abf5 4 = .ok (.arraylength, 1) := by decide +kernel
theorem dq_len_5 : decode cJ0_length_8abf5 5 = .ok (.aload_n 0, 1) := by decide +kernel
theorem dq_len_6 : decode cJ0_length_8abf5 6 = .ok (.invokevirtual 335, 3) := by decide +kernel
theorem dq_len_9 : decode cJ0_length_8abf5 9 = .ok (.ishr, 1) := by decide +kernel
theorem dq_len_10 : decode cJ0_length_8abf5 10 = .ok (.ireturn, 1) := by decide +kernel
theorem dq_ck3_0 : decode cJ3_checkIndex_8e157 0 = .ok (.iload_n 0, 1) := by decide +kernel
theorem dq_ck3_1 : decode cJ3_checkIndex_8e157 1 = .ok (.ifCond .lt 8, 3) := by decide +kernel
theorem dq_ck3_4 : decode cJ3_checkIndex_8e157 4 = .ok (.iload_n 0, 1) := by decide +kernel
theorem dq_ck3_5 : decode cJ3_checkIndex_8e157 5 = .ok (.iload_n 1, 1) := by decide +kernel
theorem dq_ck3_6 : decode cJ3_checkIndex_8e157 6 = .ok (.if_icmp .lt 10, 3) := by decide +kernel
theorem dq_ck3_16 : decode cJ3_checkIndex_8e157 16 = .ok (.iload_n 0, 1) := by decide +kernel
theorem dq_ck3_17 : decode cJ3_checkIndex_8e157 17 = .ok (.ireturn, 1) := by decide +kernel
theorem dq_ck0_0 : decode cJ0_checkIndex_df160 0 = .ok (.iload_n 0, 1) := by decide +kernel
theorem dq_ck0_1 : decode cJ0_checkIndex_df160 1 = .ok (.iload_n 1, 1) := by decide +kernel
theorem dq_ck0_2 : decode cJ0_checkIndex_df160 2 = .ok (.getstatic 1053, 3) := by decide +kernel
theorem dq_ck0_5 : decode cJ0_checkIndex_df160 5 = .ok (.invokestatic 1059, 3) := by decide +kernel
theorem dq_ck0_8 : decode cJ0_checkIndex_df160 8 = .ok (.pop, 1) := by decide +kernel
theorem dq_ck0_9 : decode cJ0_checkIndex_df160 9 = .ok (.return_, 1) := by decide +kernel
theorem dq_ch1_0 : decode cJ1_charAt_3b067 0 = .ok (.iload_n 1, 1) := by decide +kernel
theorem dq_ch1_1 : decode cJ1_charAt_3b067 1 = .ok (.aload_n 0, 1) := by decide +kernel
theorem dq_ch1_2 : decode cJ1_charAt_3b067 2 = .ok (.arraylength, 1) := by decide +kernel
theorem dq_ch1_3 : decode cJ1_charAt_3b067 3 = .ok (.invokestatic 9, 3) := by decide +kernel
theorem dq_ch1_6 : decode cJ1_charAt_3b067 6 = .ok (.aload_n 0, 1) := by decide +kernel
theorem dq_ch1_7 : decode cJ1_charAt_3b067 7 = .ok (.iload_n 1, 1) := by decide +kernel
theorem dq_ch1_8 : decode cJ1_charAt_3b067 8 = .ok (.baload, 1) := by decide +kernel
theorem dq_ch1_9 : decode cJ1_charAt_3b067 9 = .ok (.sipush 255, 3) := by decide +kernel
theorem dq_ch1_12 : decode cJ1_charAt_3b067 12 = .ok (.iand, 1) := by decide +kernel
theorem dq_ch1_13 : decode cJ1_charAt_3b067 13 = .ok (.i2c, 1) := by decide +kernel
theorem dq_ch1_14 : decode cJ1_charAt_3b067 14 = .ok (.ireturn, 1) := by decide +kernel
theorem dq_ch0_0 : decode cJ0_charAt_5068e 0 = .ok (.aload_n 0, 1) := by decide +kernel
theorem dq_ch0_1 : decode cJ0_charAt_5068e 1 = .ok (.invokevirtual 492, 3) := by decide +kernel
theorem dq_ch0_4 : decode cJ0_charAt_5068e 4 = .ok (.ifCond .eq 12, 3) := by decide +kernel
theorem dq_ch0_7 : decode cJ0_charAt_5068e 7 = .ok (.aload_n 0, 1) := by decide +kernel
theorem dq_ch0_8 : decode cJ0_charAt_5068e 8 = .ok (.getfield 9, 3) := by decide +kernel
theorem dq_ch0_11 : decode cJ0_charAt_5068e 11 = .ok (.iload_n 1, 1) := by decide +kernel
theorem dq_ch0_12 : decode cJ0_charAt_5068e 12 = .ok (.invokestatic 495, 3) := by decide +kernel
theorem dq_ch0_15 : decode cJ0_charAt_5068e 15 = .ok (.ireturn, 1) := by decide +kernel
theorem dq_can_0 : decode cJ1_canEncode_9a6ad 0 = .ok (.iload_n 0, 1) := by decide +kernel
theorem dq_can_1 : decode cJ1_canEncode_9a6ad 1 = .ok (.ifCond .lt 14, 3) := by decide +kernel
theorem dq_can_4 : decode cJ1_canEncode_9a6ad 4 = .ok (.iload_n 0, 1) := by decide +kernel
theorem dq_can_5 : decode cJ1_canEncode_9a6ad 5 = .ok (.sipush 255, 3) := by decide +kernel
theorem dq_can_8 : decode cJ1_canEncode_9a6ad 8 = .ok (.if_icmp .gt 7, 3) := by decide +kernel
theorem dq_can_11 : decode cJ1_canEncode_9a6ad 11 = .ok (.iconst 1, 1) := by decide +kernel
theorem dq_can_12 : decode cJ1_canEncode_9a6ad 12 = .ok (.goto 4, 3) := by decide +kernel
theorem dq_can_15 : decode cJ1_canEncode_9a6ad 15 = .ok (.iconst 0, 1) := by decide +kernel
theorem dq_can_16 : decode cJ1_canEncode_9a6ad 16 = .ok (.ireturn, 1) := by decide +kernel
theorem dq_ixc_0 : decode cJ1_indexOfChar_4cfef 0 = .ok (.iload_n 1, 1) := by decide +kernel
theorem dq_ixc_1 : decode cJ1_indexOfChar_4cfef 1 = .ok (.i2b, 1) := by decide +kernel
theorem dq_ixc_2 : decode cJ1_indexOfChar_4cfef 2 = .ok (.istore 4, 2) := by decide +kernel
theorem dq_ixc_4 : decode cJ1_indexOfChar_4cfef 4 = .ok (.iload_n 2, 1) := by decide +kernel
theorem dq_ixc_5 : decode cJ1_indexOfChar_4cfef 5 = .ok (.istore 5, 2) := by decide +kernel
theorem dq_ixc_7 : decode cJ1_indexOfChar_4cfef 7 = .ok (.iload 5, 2) := by decide +kernel
theorem dq_ixc_9 : decode cJ1_indexOfChar_4cfef 9 = .ok (.iload_n 3, 1) := by decide +kernel
theorem dq_ixc_10 : decode cJ1_indexOfChar_4cfef 10 = .ok (.if_icmp .ge 21, 3) := by decide +kernel
theorem dq_ixc_13 : decode cJ1_indexOfChar_4cfef 13 = .ok (.aload_n 0, 1) := by decide +kernel
theorem dq_ixc_14 : decode cJ1_indexOfChar_4cfef 14 = .ok (.iload 5, 2) := by decide +kernel
theorem dq_ixc_16 : decode cJ1_indexOfChar_4cfef 16 = .ok (.baload, 1) := by decide +kernel
theorem dq_ixc_17 : decode cJ1_indexOfChar_4cfef 17 = .ok (.iload 4, 2) := by decide +kernel
theorem dq_ixc_19 : decode cJ1_indexOfChar_4cfef 19 = .ok (.if_icmp .ne 6, 3) := by decide +kernel
theorem dq_ixc_22 : decode cJ1_indexOfChar_4cfef 22 = .ok (.iload 5, 2) := by decide +kernel
theorem dq_ixc_24 : decode cJ1_indexOfChar_4cfef 24 = .ok (.ireturn, 1) := by decide +kernel
theorem dq_ixc_25 : decode cJ1_indexOfChar_4cfef 25 = .ok (.iinc 5 1, 3) := by decide +kernel
theorem dq_ixc_28 : decode cJ1_indexOfChar_4cfef 28 = .ok (.goto (-21), 3) := by decide +kernel
theorem dq_ixc_31 : decode cJ1_indexOfChar_4cfef 31 = .ok (.iconst (-1), 1) := by decide +kernel
theorem dq_ixc_32 : decode cJ1_indexOfChar_4cfef 32 = .ok (.ireturn, 1) := by decide +kernel
theorem dq_ix1_0 : decode cJ1_indexOf_4cfef 0 = .ok (.iload_n 1, 1) := by decide +kernel
theorem dq_ix1_1 : decode cJ1_indexOf_4cfef 1 = .ok (.invokestatic 88, 3) := by decide +kernel
theorem dq_ix1_4 : decode cJ1_indexOf_4cfef 4 = .ok (.ifCond .ne 5, 3) := by decide +kernel
theorem dq_ix1_7 : decode cJ1_indexOf_4cfef 7 = .ok (.iconst (-1), 1) := by decide +kernel
theorem dq_ix1_8 : decode cJ1_indexOf_4cfef 8 = .ok (.ireturn, 1) := by decide +kernel
theorem dq_ix1_9 : decode cJ1_indexOf_4cfef 9 = .ok (.iload_n 2, 1) := by decide +kernel
theorem dq_ix1_10 : decode cJ1_indexOf_4cfef 10 = .ok (.iconst 0, 1) := by decide +kernel
theorem dq_ix1_11 : decode cJ1_indexOf_4cfef 11 = .ok (.invokestatic 92, 3) := by decide +kernel
theorem dq_ix1_14 : decode cJ1_indexOf_4cfef 14 = .ok (.istore_n 2, 1) := by decide +kernel
theorem dq_ix1_15 : decode cJ1_indexOf_4cfef 15 = .ok (.iload_n 3, 1) := by decide +kernel
theorem dq_ix1_16 : decode cJ1_indexOf_4cfef 16 = .ok (.aload_n 0, 1) := by decide +kernel
theorem dq_ix1_17 : decode cJ1_indexOf_4cfef 17 = .ok (.arraylength, 1) := by decide +kernel
theorem dq_ix1_18 : decode cJ1_indexOf_4cfef 18 = .ok (.invokestatic 38, 3) := by decide +kernel
theorem dq_ix1_21 : decode cJ1_indexOf_4cfef 21 = .ok (.istore_n 3, 1) := by decide +kernel
theorem dq_ix1_22 : decode cJ1_indexOf_4cfef 22 = .ok (.iload_n 2, 1) := by decide +kernel
theorem dq_ix1_23 : decode cJ1_indexOf_4cfef 23 = .ok (.iload_n 3, 1) := by decide +kernel
theorem dq_ix1_24 : decode cJ1_indexOf_4cfef 24 = .ok (.if_icmp .lt 5, 3) := by decide +kernel
theorem dq_ix1_27 : decode cJ1_indexOf_4cfef 27 = .ok (.iconst (-1), 1) := by decide +kernel
theorem dq_ix1_28 : decode cJ1_indexOf_4cfef 28 = .ok (.ireturn, 1) := by decide +kernel
theorem dq_ix1_29 : decode cJ1_indexOf_4cfef 29 = .ok (.aload_n 0, 1) := by decide +kernel
theorem dq_ix1_30 : decode cJ1_indexOf_4cfef 30 = .ok (.iload_n 1, 1) := by decide +kernel
theorem dq_ix1_31 : decode cJ1_indexOf_4cfef 31 = .ok (.iload_n 2, 1) := by decide +kernel
theorem dq_ix1_32 : decode cJ1_indexOf_4cfef 32 = .ok (.iload_n 3, 1) := by decide +kernel
theorem dq_ix1_33 : decode cJ1_indexOf_4cfef 33 = .ok (.invokestatic 95, 3) := by decide +kernel
theorem dq_ix1_36 : decode cJ1_indexOf_4cfef 36 = .ok (.ireturn, 1) := by decide +kernel
theorem dq_ix2_0 : decode cJ0_indexOf_7cf53 0 = .ok (.aload_n 0, 1) := by decide +kernel
theorem dq_ix2_1 : decode cJ0_indexOf_7cf53 1 = .ok (.invokevirtual 492, 3) := by decide +kernel
theorem dq_ix2_4 : decode cJ0_indexOf_7cf53 4 = .ok (.ifCond .eq 19, 3) := by decide +kernel
theorem dq_ix2_7 : decode cJ0_indexOf_7cf53 7 = .ok (.aload_n 0, 1) := by decide +kernel
theorem dq_ix2_8 : decode cJ0_indexOf_7cf53 8 = .ok (.getfield 9, 3) := by decide +kernel
theorem dq_ix2_11 : decode cJ0_indexOf_7cf53 11 = .ok (.iload_n 1, 1) := by decide +kernel
theorem dq_ix2_12 : decode cJ0_indexOf_7cf53 12 = .ok (.iload_n 2, 1) := by decide +kernel
theorem dq_ix2_13 : decode cJ0_indexOf_7cf53 13 = .ok (.aload_n 0, 1) := by decide +kernel
theorem dq_ix2_14 : decode cJ0_indexOf_7cf53 14 = .ok (.invokevirtual 505, 3) := by decide +kernel
theorem dq_ix2_17 : decode cJ0_indexOf_7cf53 17 = .ok (.invokestatic 637, 3) := by decide +kernel
theorem dq_ix2_20 : decode cJ0_indexOf_7cf53 20 = .ok (.goto 16, 3) := by decide +kernel
theorem dq_ix2_36 : decode cJ0_indexOf_7cf53 36 = .ok (.ireturn, 1) := by decide +kernel
theorem dq_ix3_0 : decode cJ0_indexOf_0f7a4 0 = .ok (.aload_n 0, 1) := by decide +kernel
theorem dq_ix3_1 : decode cJ0_indexOf_0f7a4 1 = .ok (.iload_n 1, 1) := by decide +kernel
theorem dq_ix3_2 : decode cJ0_indexOf_0f7a4 2 = .ok (.iconst 0, 1) := by decide +kernel
theorem dq_ix3_3 : decode cJ0_indexOf_0f7a4 3 = .ok (.invokevirtual 633, 3) := by decide +kernel
theorem dq_ix3_6 : decode cJ0_indexOf_0f7a4 6 = .ok (.ireturn, 1) := by decide +kernel
abbrev jCoder : dM := (yJ0_coder_7d493, cJ0_coder_7d493, 1, (some .byte), false, 0, 0)
abbrev jLatin : dM := (yJ0_isLatin1_aae02, cJ0_isLatin1_aae02, 1, (some .boolean), false, 0, 0)
abbrev jCk3 : dM := (yJ3_checkIndex_8e157, cJ3_checkIndex_8e157, 3, (some .int), true, 103, 3)
abbrev jCk0 : dM := (yJ0_checkIndex_df160, cJ0_checkIndex_df160, 2, none, true, 0, 2)
abbrev jChar1 : dM := (yJ1_charAt_3b067, cJ1_charAt_3b067, 2, (some .char), true, 101, 2)
abbrev jCan : dM := (yJ1_canEncode_9a6ad, cJ1_canEncode_9a6ad, 1, (some .boolean), true, 101, 1)
abbrev jIxC : dM := (yJ1_indexOfChar_4cfef, cJ1_indexOfChar_4cfef, 6, (some .int), true, 101, 4)
abbrev jIx1 : dM := (yJ1_indexOf_4cfef, cJ1_indexOf_4cfef, 4, (some .int), true, 101, 4)
abbrev jIx2 : dM := (yJ0_indexOf_7cf53, cJ0_indexOf_7cf53, 3, (some .int), false, 0, 2)
/-- a text: its object's entry, its row's entry -/
def txX (C : zC) (a : Nat) (x y : Nat × Nat × List Int32) : Prop := (C.2.1).find? (fun x => x.1 == a) = some x ∧ (C.2.1).find? (fun z => z.2.1 == x.2.1) = some y ∧ x.2.1 < yb C ∧ (yh C).2 x.2.1 = none ∧ y.2.2.length ≤ 65536
theorem txX_of {C : zC} {a : Nat} (h : isTx C a) : ∃ x y, txX C a x y := h.2.1.2
/-- how long a text is -/
def txL (C : zC) (a : Nat) : Nat := match (C.2.1).find? (fun x => x.1 == a) with
  | some x => match (C.2.1).find? (fun z => z.2.1 == x.2.1) with
    | some y => y.2.2.length
    | none => 0
  | none => 0
theorem txL_e {C : zC} {a : Nat} {x y : Nat × Nat × List Int32} (h : txX C a x y) : txL C a = y.2.2.length := by
  unfold txL
  rw [h.1]
  show (match (C.2.1).find? (fun z => z.2.1 == x.2.1) with | some y => y.2.2.length | none => 0) = _
  rw [h.2.1]
theorem txL_b {C : zC} {a : Nat} (h : isTx C a) : txL C a ≤ 65536 := by
  obtain ⟨x, y, hx⟩ := txX_of h
  rw [txL_e hx]; exact hx.2.2.2.2
theorem zH_no {C : zC} {n0 a : Nat} {κ : zS} (W : zW C n0 κ) (hb : a < yb C) (hn : (yh C).2 a = none) : (zH C κ).2 a = none := by
  show (if zT κ a = 0 then _ else _) = _
  by_cases e : zT κ a = 0
  · rw [if_pos e]; exact hn
  · have := (W.2.1 a e).1.1; omega
theorem y_tgv {C : zC} {n0 d : Nat} {r : dM} {pc : Nat} {L : List (Option Value)} {st : List Value} {κ : zS} {Q : zU → zS → Prop} {idx a : Nat} {x y : Nat × Nat × List Int32} (W : zW C n0 κ) (hd : decode r.2.1 pc = .ok (.getfield idx, 3)) (ho : r.2.2.2.2.2.1 = 0) (hf : (tSF 0).lookup idx = some true) (hB : isTx C a) (hx : txX C a x y) (K : zG C n0 d r (pc + 3) L (.ref x.2.1 :: st) κ Q) : zG C n0 d r pc L (.ref a :: st) κ Q := by
  refine y_h0 hd rfl (fun _ => rfl) (fun cs ss => ?_) ⟨rfl, rfl⟩ zM.rf K
  have hz : (zH C κ).2 a = none := zH_no W hB.2.1.1 hB.2.2
  have h1 : dgetf (yEn C) r.2.2.2.2.2.1 3 idx (.ref a :: st) (zH C κ) cs ss = none := by
    unfold dgetf
    simp only [hz]
  have h2 : dgets (yEn C) r.2.2.2.2.2.1 3 idx (.ref a :: st) (zH C κ) cs ss = some (.ref x.2.1 :: st, zH C κ, cs, ss) := by
    have e1 : (eTL (yEn C)).find? (fun x => x.1 == a) = some x := hx.1
    have e2 : eSF (yEn C) 0 idx = some true := hf
    unfold dgets
    rw [ho]
    simp only [e1, e2, if_true]
  show dor (dgetf (yEn C) r.2.2.2.2.2.1 3 idx (.ref a :: st) (zH C κ) cs ss) (dgets (yEn C) r.2.2.2.2.2.1 3 idx (.ref a :: st) (zH C κ) cs ss) = _
  rw [h1, h2]
  rfl
theorem y_tgc {C : zC} {n0 d : Nat} {r : dM} {pc : Nat} {L : List (Option Value)} {st : List Value} {κ : zS} {Q : zU → zS → Prop} {idx a : Nat} {x y : Nat × Nat × List Int32} (W : zW C n0 κ) (hd : decode r.2.1 pc = .ok (.getfield idx, 3)) (ho : r.2.2.2.2.2.1 = 0) (hf : (tSF 0).lookup idx = some false) (hB : isTx C a) (hx : txX C a x y) (K : zG C n0 d r (pc + 3) L (.int 0 :: st) κ Q) : zG C n0 d r pc L (.ref a :: st) κ Q := by
  refine y_h0 hd rfl (fun _ => rfl) (fun cs ss => ?_) ⟨rfl, rfl⟩ zM.rf K
  have hz : (zH C κ).2 a = none := zH_no W hB.2.1.1 hB.2.2
  have h1 : dgetf (yEn C) r.2.2.2.2.2.1 3 idx (.ref a :: st) (zH C κ) cs ss = none := by
    unfold dgetf
    simp only [hz]
  have h2 : dgets (yEn C) r.2.2.2.2.2.1 3 idx (.ref a :: st) (zH C κ) cs ss = some (.int 0 :: st, zH C κ, cs, ss) := by
    have e1 : (eTL (yEn C)).find? (fun x => x.1 == a) = some x := hx.1
    have e2 : eSF (yEn C) 0 idx = some false := hf
    unfold dgets
    rw [ho]
    simp only [e1, e2, if_true]
  show dor (dgetf (yEn C) r.2.2.2.2.2.1 3 idx (.ref a :: st) (zH C κ) cs ss) (dgets (yEn C) r.2.2.2.2.2.1 3 idx (.ref a :: st) (zH C κ) cs ss) = _
  rw [h1, h2]
  rfl
theorem y_gst {C : zC} {n0 d : Nat} {r : dM} {pc : Nat} {L : List (Option Value)} {st : List Value} {κ : zS} {Q : zU → zS → Prop} {idx : Nat} {v : Value} (hd : decode r.2.1 pc = .ok (.getstatic idx, 3)) (ho : r.2.2.2.2.2.1 = 0) (hv : gSt C.1 0 idx = some v) (K : zG C n0 d r (pc + 3) L (v :: st) κ Q) : zG C n0 d r pc L st κ Q := by
  refine y_h0 hd rfl (fun _ => rfl) (fun cs ss => ?_) ⟨rfl, rfl⟩ zM.rf K
  show dldc 3 3 (eGS (yEn C) r.2.2.2.2.2.1 idx) st (zH C κ) cs ss = _
  have e : eGS (yEn C) 0 idx = some v := hv
  rw [ho, e]
  rfl
theorem y_tln {C : zC} {n0 d : Nat} {r : dM} {pc : Nat} {L : List (Option Value)} {st : List Value} {κ : zS} {Q : zU → zS → Prop} {a : Nat} {x y : Nat × Nat × List Int32} (W : zW C n0 κ) (hd : decode r.2.1 pc = .ok (.arraylength, 1)) (hx : txX C a x y) (K : zG C n0 d r (pc + 1) L (.int (Int32.ofNat y.2.2.length) :: st) κ Q) : zG C n0 d r pc L (.ref x.2.1 :: st) κ Q := by
  refine y_h0 hd rfl (fun _ => rfl) (fun cs ss => ?_) ⟨rfl, rfl⟩ zM.rf K
  have hz : (zH C κ).2 x.2.1 = none := zH_no W hx.2.2.1 hx.2.2.2.1
  have h1 : dalen 1 (.ref x.2.1 :: st) (zH C κ) cs ss = none := by
    unfold dalen
    simp only [hz]
  have h2 : dslen (yEn C) 1 (.ref x.2.1 :: st) (zH C κ) cs ss = some (.int (Int32.ofNat y.2.2.length) :: st, zH C κ, cs, ss) := by
    have e1 : (eTL (yEn C)).find? (fun z => z.2.1 == x.2.1) = some y := hx.2.1
    unfold dslen
    simp only [e1, if_true]
  show dor (dalen 1 (.ref x.2.1 :: st) (zH C κ) cs ss) (dslen (yEn C) 1 (.ref x.2.1 :: st) (zH C κ) cs ss) = _
  rw [h1, h2]
  rfl
theorem y_tld {C : zC} {n0 d : Nat} {r : dM} {pc : Nat} {L : List (Option Value)} {st : List Value} {κ : zS} {Q : zU → zS → Prop} {a : Nat} {x y : Nat × Nat × List Int32} {i : Int32} (W : zW C n0 κ) (hd : decode r.2.1 pc = .ok (.baload, 1)) (hx : txX C a x y) (hi : inb i y.2.2.length) (K : zG C n0 d r (pc + 1) L (.int (y.2.2.getD i.toNatClampNeg 0) :: st) κ Q) : zG C n0 d r pc L (.int i :: .ref x.2.1 :: st) κ Q := by
  refine y_h0 hd rfl (fun _ => rfl) (fun cs ss => ?_) ⟨rfl, rfl⟩ zM.rf K
  have hz : (zH C κ).2 x.2.1 = none := zH_no W hx.2.2.1 hx.2.2.2.1
  have h1 : ∀ t, daldI t 1 (.int i :: .ref x.2.1 :: st) (zH C κ) cs ss = none := fun t => by
    unfold daldI
    simp only [hz]
  have h2 : dsld (yEn C) 1 (.int i :: .ref x.2.1 :: st) (zH C κ) cs ss = some (.int (y.2.2.getD i.toNatClampNeg 0) :: st, zH C κ, cs, ss) := by
    have e1 : (eTL (yEn C)).find? (fun z => z.2.1 == x.2.1) = some y := hx.2.1
    unfold dsld
    simp only [e1]
    exact if_pos ⟨trivial, hi⟩
  show dor (daldI 1 1 (.int i :: .ref x.2.1 :: st) (zH C κ) cs ss) (dor (daldI 3 1 (.int i :: .ref x.2.1 :: st) (zH C κ) cs ss) (dsld (yEn C) 1 (.int i :: .ref x.2.1 :: st) (zH C κ) cs ss)) = _
  rw [h1 1, h1 3, h2]
  rfl
theorem jCoder_c {C : zC} {n0 a : Nat} {κ : zS} {Q : Int32 → zS → Prop} (W : zW C n0 κ) (hB : isTx C a) (h : Q 0 κ) : zRun C 0 jCoder [.ref a] κ (oI Q noX) := by
  obtain ⟨x, y, hx⟩ := txX_of hB
  replace W := W.lo (Nat.le_trans W.1.2.1 W.1.2.2) (Nat.le_refl (zn κ))
  refine z_run (m_ent _ 0) ?_
  refine y_gst dq_coder_0 rfl (v := .int 1) rfl ?_
  refine y_i ((1 : Int32) = 0) dq_coder_3 (t := 13) rfl rfl (fun c => absurd c (by decide)) (fun _ => ?_)
  refine y_aln dq_coder_6 rfl ?_
  refine y_tgc W dq_coder_7 rfl rfl hB hx ?_
  refine y_goto dq_coder_10 (t := 14) rfl ?_
  exact y_ri W dq_coder_14 rfl ⟨rfl, rfl⟩ h
theorem jLatin_c {C : zC} {n0 a : Nat} {κ : zS} {Q : Int32 → zS → Prop} (W : zW C n0 κ) (hB : isTx C a) (h : Q 1 κ) : zRun C 0 jLatin [.ref a] κ (oI Q noX) := by
  obtain ⟨x, y, hx⟩ := txX_of hB
  replace W := W.lo (Nat.le_trans W.1.2.1 W.1.2.2) (Nat.le_refl (zn κ))
  refine z_run (m_ent _ 0) ?_
  refine y_gst dq_lat_0 rfl (v := .int 1) rfl ?_
  refine y_i ((1 : Int32) = 0) dq_lat_3 (t := 17) rfl rfl (fun c => absurd c (by decide)) (fun _ => ?_)
  refine y_aln dq_lat_6 rfl ?_
  refine y_tgc W dq_lat_7 rfl rfl hB hx ?_
  refine y_in ((0 : Int32) = 0) dq_lat_10 (t := 17) rfl rfl (fun c => absurd rfl c) (fun _ => ?_)
  refine y_ic dq_lat_13 zi_1 ?_
  refine y_goto dq_lat_14 (t := 18) rfl ?_
  exact y_ri W dq_lat_18 rfl ⟨rfl, rfl⟩ h
theorem jLen_c {C : zC} {n0 a : Nat} {κ : zS} {Q : Int32 → zS → Prop} (W : zW C n0 κ) (hB : isTx C a) (h : Q (Int32.ofNat (txL C a)) κ) : zRun C 1 mSt_length [.ref a] κ (oI Q noX) := by
  obtain ⟨x, y, hx⟩ := txX_of hB
  rw [txL_e hx] at h
  replace W := W.lo (Nat.le_trans W.1.2.1 W.1.2.2) (Nat.le_refl (zn κ))
  refine z_run (m_ent _ 0) ?_
  refine y_aln dq_len_0 rfl ?_
  refine y_tgv W dq_len_1 rfl rfl hB hx ?_
  refine y_tln W dq_len_4 hx ?_
  refine y_aln dq_len_5 rfl ?_
  refine y_calt (As := []) W dq_len_6 rfl (j := 415) (by decide +kernel) rfl ⟨rfl, by decide, rfl⟩ rfl (Nat.le_of_ble_eq_true rfl) (Nat.le_refl 0) (Nat.le_of_ble_eq_true rfl) hB (jCoder_c (Q := fun z κ' => z = 0 ∧ κ' = κ) W hB ⟨rfl, rfl⟩) (fun v κ' w9 m9 p9 => ezI (fun z κ' w m p => ?_) w9 m9 p9) (fun cls κ' p9 => False.elim (show False from thrI (X := noX) p9))
  obtain ⟨rfl, rfl⟩ := p
  refine y_ishr dq_len_9 ?_
  have e : Int32.ofNat y.2.2.length >>> ((0 : Int32) &&& 31) = Int32.ofNat y.2.2.length := by
    have e0 : ((0 : Int32) &&& 31) = 0 := by decide
    rw [e0]
    exact Int32.shiftRight_zero
  rw [e]
  exact y_ri w dq_len_10 rfl ⟨rfl, rfl⟩ h
theorem St_length_c {C : zC} {n0 : Nat} {a0 : Nat} {κ : zS} {Q : Int32 → zS → Prop} (W : zW C n0 κ) (Ta0 : isTx C a0) (h : ∀ (v : Int32), (v.toInt = txL C a0) → Q v κ) : zRun C 9 mSt_length [.ref a0] κ (oI Q noX) :=
  zRun.up (by decide) (jLen_c W Ta0 (h _ (ofn_i (Nat.le_trans (txL_b Ta0) (by decide)))))
theorem jCk3_c {C : zC} {n0 : Nat} {i n : Int32} {v : Value} {κ : zS} {Q : Int32 → zS → Prop} (W : zW C n0 κ) (hv : v = .null ∨ ∃ q, v = .ref q) (h0 : 0 ≤ i.toInt) (h1 : i.toInt < n.toInt) (h : Q i κ) : zRun C 0 jCk3 [.int i, .int n, v] κ (oI Q noX) := by
  replace W := W.lo (Nat.le_trans W.1.2.1 W.1.2.2) (Nat.le_refl (zn κ))
  have hi : ¬ i < 0 := by rw [lti, t0i]; omega
  have hn : i < n := by rw [lti]; exact h1
  rcases hv with rfl | ⟨q, rfl⟩
  · refine z_run (m_ent _ 0) ?_
    refine y_iln dq_ck3_0 rfl ?_
    refine y_i (i < 0) dq_ck3_1 (t := 9) rfl rfl (fun c => absurd c hi) (fun _ => ?_)
    refine y_iln dq_ck3_4 rfl ?_
    refine y_iln dq_ck3_5 rfl ?_
    refine y_ii (i < n) dq_ck3_6 (t := 16) rfl rfl (fun _ => ?_) (fun c => absurd hn c)
    refine y_iln dq_ck3_16 rfl ?_
    exact y_ri W dq_ck3_17 rfl ⟨rfl, rfl⟩ h
  · refine z_run (m_ent _ 0) ?_
    refine y_iln dq_ck3_0 rfl ?_
    refine y_i (i < 0) dq_ck3_1 (t := 9) rfl rfl (fun c => absurd c hi) (fun _ => ?_)
    refine y_iln dq_ck3_4 rfl ?_
    refine y_iln dq_ck3_5 rfl ?_
    refine y_ii (i < n) dq_ck3_6 (t := 16) rfl rfl (fun _ => ?_) (fun c => absurd hn c)
    refine y_iln dq_ck3_16 rfl ?_
    exact y_ri W dq_ck3_17 rfl ⟨rfl, rfl⟩ h
theorem jCk0_c {C : zC} {n0 : Nat} {i n : Int32} {κ : zS} {Q : zS → Prop} (W : zW C n0 κ) (h0 : 0 ≤ i.toInt) (h1 : i.toInt < n.toInt) (h : Q κ) : zRun C 1 jCk0 [.int i, .int n] κ (oV Q noX) := by
  replace W := W.lo (Nat.le_trans W.1.2.1 W.1.2.2) (Nat.le_refl (zn κ))
  refine z_run (m_ent _ 0) ?_
  refine y_iln dq_ck0_0 rfl ?_
  refine y_iln dq_ck0_1 rfl ?_
  obtain ⟨v, hv⟩ : ∃ v, v = pvV C.1 := ⟨_, rfl⟩
  refine y_gst dq_ck0_2 rfl (v := v) (by rw [hv]; rfl) ?_
  have hp : v = .null ∨ ∃ q, v = .ref q := by
    rw [hv]
    unfold pvV
    split
    · exact Or.inl rfl
    · exact Or.inr ⟨_, rfl⟩
  have hl : (lg_sl [.int i, .int n, v]).length ≤ 3 := by
    rcases hp with rfl | ⟨q, rfl⟩ <;> exact Nat.le_of_ble_eq_true rfl
  refine y_cals (As := [.int i, .int n, v]) (rest := []) W dq_ck0_5 rfl (j := 429) (by decide +kernel) (by decide +kernel) rfl rfl rfl hl (Nat.le_refl 0) (Nat.le_of_ble_eq_true rfl) (jCk3_c (Q := fun z κ' => z = i ∧ κ' = κ) W hp h0 h1 ⟨rfl, rfl⟩) (fun v κ' w9 m9 p9 => ezI (fun z κ' w m p => ?_) w9 m9 p9) (fun cls κ' p9 => show False from thrI (X := noX) p9)
  obtain ⟨rfl, rfl⟩ := p
  refine y_pop dq_ck0_8 rfl ?_
  exact y_rv w dq_ck0_9 rfl h
/-- a char -/
def chOK (v : Int32) : Prop := narrow .char (.int v) = .int v ∧ fits .char (.int v) = true
theorem ch_tab : ∀ n, n < 256 → (((Int32.ofNat n).toUInt32 % 65536).toInt32.toUInt32.toUInt16.toUInt32.toInt32 = ((Int32.ofNat n).toUInt32 % 65536).toInt32 ∧ (decide (0 ≤ ((Int32.ofNat n).toUInt32 % 65536).toInt32) && decide (((Int32.ofNat n).toUInt32 % 65536).toInt32 ≤ 65535)) = true) := by decide +kernel
theorem ch_and {b : Int32} : chOK ((b &&& 255).toUInt32 % 65536).toInt32 := by
  have a := andi_i (x := b) (m := 255) (by decide)
  have e255 : (255 : Int32).toInt = 255 := rfl
  rw [e255] at a
  have k := cnk a.1
  have e : Int32.ofNat (b &&& 255).toNatClampNeg = b &&& 255 := Int32.ofNat_toNatClampNeg _ (by rw [lei, t0i]; exact a.1)
  have t := ch_tab (b &&& 255).toNatClampNeg (by omega)
  rw [e] at t
  exact ⟨congrArg Value.int t.1, t.2⟩
theorem jChar1_c {C : zC} {n0 a : Nat} {i : Int32} {κ : zS} {x y : Nat × Nat × List Int32} {Q : Int32 → zS → Prop} (W : zW C n0 κ) (hx : txX C a x y) (h0 : 0 ≤ i.toInt) (h1 : i.toInt < y.2.2.length) (h : ∀ v, chOK v → Q v κ) : zRun C 2 jChar1 [.ref x.2.1, .int i] κ (oI Q noX) := by
  replace W := W.lo (Nat.le_trans W.1.2.1 W.1.2.2) (Nat.le_refl (zn κ))
  have hL := ofn_i (n := y.2.2.length) (Nat.le_trans hx.2.2.2.2 (by decide))
  refine z_run (m_ent _ 0) ?_
  refine y_iln dq_ch1_0 rfl ?_
  refine y_aln dq_ch1_1 rfl ?_
  refine y_tln W dq_ch1_2 hx ?_
  refine y_cals (As := [.int i, .int (Int32.ofNat y.2.2.length)]) (rest := []) W dq_ch1_3 rfl (j := 414) (by decide +kernel) (by decide +kernel) rfl rfl rfl (Nat.le_of_ble_eq_true rfl) (Nat.le_refl 1) (Nat.le_of_ble_eq_true rfl) (jCk0_c (Q := fun κ' => κ' = κ) W h0 (by rw [hL]; exact h1) rfl) (fun v κ' w9 m9 p9 => ezV (fun κ' w m p => ?_) w9 m9 p9) (fun cls κ' p9 => show False from thrV (X := noX) p9)
  subst p
  refine y_aln dq_ch1_6 rfl ?_
  refine y_iln dq_ch1_7 rfl ?_
  refine y_tld w dq_ch1_8 hx (by rw [inb_iff]; exact ⟨h0, h1⟩) ?_
  refine y_si dq_ch1_9 (x := 255) (by decide) ?_
  refine y_iand dq_ch1_12 ?_
  refine y_i2c dq_ch1_13 ?_
  exact y_ri w dq_ch1_14 rfl ch_and (h _ ch_and)
theorem St_charAt_c {C : zC} {n0 : Nat} {a0 : Nat} {a1 : Int32} {κ : zS} {Q : Int32 → zS → Prop} (W : zW C n0 κ) (Ta0 : isTx C a0) (hp : 0 ≤ a1.toInt ∧ a1.toInt < txL C a0) (h : ∀ (v : Int32), (True) → Q v κ) : zRun C 9 mSt_charAt [.ref a0, .int a1] κ (oI Q noX) := by
  obtain ⟨x, y, hx⟩ := txX_of Ta0
  rw [txL_e hx] at hp
  refine zRun.up (d := 3) (by decide) ?_
  replace W := W.lo (Nat.le_trans W.1.2.1 W.1.2.2) (Nat.le_refl (zn κ))
  refine z_run (m_ent _ 0) ?_
  refine y_aln dq_ch0_0 rfl ?_
  refine y_calt (As := []) W dq_ch0_1 rfl (j := 418) (by decide +kernel) rfl ⟨rfl, by decide, rfl⟩ rfl (Nat.le_of_ble_eq_true rfl) (Nat.zero_le 2) (Nat.le_of_ble_eq_true rfl) Ta0 (jLatin_c (Q := fun z κ' => z = 1 ∧ κ' = κ) W Ta0 ⟨rfl, rfl⟩) (fun v κ' w9 m9 p9 => ezI (fun z κ' w m p => ?_) w9 m9 p9) (fun cls κ' p9 => False.elim (show False from thrI (X := noX) p9))
  obtain ⟨rfl, rfl⟩ := p
  refine y_i ((1 : Int32) = 0) dq_ch0_4 (t := 16) rfl rfl (fun c => absurd c (by decide)) (fun _ => ?_)
  refine y_aln dq_ch0_7 rfl ?_
  refine y_tgv w dq_ch0_8 rfl rfl Ta0 hx ?_
  refine y_iln dq_ch0_11 rfl ?_
  refine y_cals (As := [.ref x.2.1, .int a1]) (rest := []) w dq_ch0_12 rfl (j := 421) (by decide +kernel) (by decide +kernel) rfl rfl rfl (Nat.le_of_ble_eq_true rfl) (Nat.le_refl 2) (Nat.le_of_ble_eq_true rfl) (jChar1_c (Q := fun z κ2 => chOK z ∧ κ2 = κ') w hx hp.1 hp.2 (fun v hv => ⟨hv, rfl⟩)) (fun v κ2 w9 m9 p9 => ezI (fun z κ2 w2 m2 p2 => ?_) w9 m9 p9) (fun cls κ' p9 => show False from thrI (X := noX) p9)
  obtain ⟨hz, rfl⟩ := p2
  exact y_ri w2 dq_ch0_15 rfl hz (h _ trivial)
theorem jCan_c {C : zC} {n0 : Nat} {c : Int32} {κ : zS} {Q : Int32 → zS → Prop} (W : zW C n0 κ) (h : ∀ v, Q v κ) : zRun C 0 jCan [.int c] κ (oI Q noX) := by
  replace W := W.lo (Nat.le_trans W.1.2.1 W.1.2.2) (Nat.le_refl (zn κ))
  refine z_run (m_ent _ 0) ?_
  refine y_iln dq_can_0 rfl ?_
  refine y_i (c < 0) dq_can_1 (t := 15) rfl rfl (fun _ => ?_) (fun _ => ?_)
  · refine y_ic dq_can_15 zi_0 ?_
    exact y_ri W dq_can_16 rfl ⟨rfl, rfl⟩ (h _)
  · refine y_iln dq_can_4 rfl ?_
    refine y_si dq_can_5 (x := 255) (by decide) ?_
    refine y_ii ((255 : Int32) < c) dq_can_8 (t := 15) rfl rfl (fun _ => ?_) (fun _ => ?_)
    · refine y_ic dq_can_15 zi_0 ?_
      exact y_ri W dq_can_16 rfl ⟨rfl, rfl⟩ (h _)
    · refine y_ic dq_can_11 zi_1 ?_
      refine y_goto dq_can_12 (t := 16) rfl ?_
      exact y_ri W dq_can_16 rfl ⟨rfl, rfl⟩ (h _)
theorem jIxC_c {C : zC} {n0 a : Nat} {c f mx : Int32} {κ : zS} {x y : Nat × Nat × List Int32} {Q : Int32 → zS → Prop} (W : zW C n0 κ) (hx : txX C a x y) (h0 : 0 ≤ f.toInt) (h1 : mx.toInt ≤ y.2.2.length) (h : ∀ v, Q v κ) : zRun C 0 jIxC [.ref x.2.1, .int c, .int f, .int mx] κ (oI Q noX) := by
  replace W := W.lo (Nat.le_trans W.1.2.1 W.1.2.2) (Nat.le_refl (zn κ))
  have key : ∀ (m : Nat) (b k : Int32), 0 ≤ k.toInt → mx.toInt - k.toInt ≤ m → zG C (zn κ) 0 jIxC 7 [some (.ref x.2.1), some (.int c), some (.int f), some (.int mx), some (.int b), some (.int k)] [] κ (oI Q noX) := by
    intro m
    induction m with
    | zero =>
      intro b k k0 km
      refine y_il dq_ixc_7 rfl ?_
      refine y_iln dq_ixc_9 rfl ?_
      refine y_ii (mx ≤ k) dq_ixc_10 (t := 31) rfl rfl (fun _ => ?_) (fun z => absurd (by rw [lei]; omega) z)
      refine y_ic dq_ixc_31 (x := -1) (by decide) ?_
      exact y_ri W dq_ixc_32 rfl ⟨rfl, rfl⟩ (h _)
    | succ m ih =>
      intro b k k0 km
      refine y_il dq_ixc_7 rfl ?_
      refine y_iln dq_ixc_9 rfl ?_
      refine y_ii (mx ≤ k) dq_ixc_10 (t := 31) rfl rfl (fun _ => ?_) (fun z => ?_)
      · refine y_ic dq_ixc_31 (x := -1) (by decide) ?_
        exact y_ri W dq_ixc_32 rfl ⟨rfl, rfl⟩ (h _)
      · rw [lei] at z
        have e1 := inc_i (x := k) (y := mx) k0 (by omega)
        refine y_aln dq_ixc_13 rfl ?_
        refine y_il dq_ixc_14 rfl ?_
        refine y_tld W dq_ixc_16 hx (by rw [inb_iff]; omega) ?_
        refine y_il dq_ixc_17 rfl ?_
        refine y_iin (y.2.2.getD k.toNatClampNeg 0 = b) dq_ixc_19 (t := 25) rfl rfl (fun _ => ?_) (fun _ => ?_)
        · refine y_incb dq_ixc_25 zi_1 rfl (by decide) (fun z hz => ?_)
          refine y_goto dq_ixc_28 (t := 7) rfl ?_
          exact ih b z (by rw [hz, e1]; omega) (by rw [hz, e1]; omega)
        · refine y_il dq_ixc_22 rfl ?_
          exact y_ri W dq_ixc_24 rfl ⟨rfl, rfl⟩ (h _)
  refine z_run (m_ent _ 2) ?_
  refine y_iln dq_ixc_0 rfl ?_
  refine y_i2b dq_ixc_1 ?_
  refine y_is dq_ixc_2 (by decide) rfl ?_
  refine y_iln dq_ixc_4 rfl ?_
  refine y_is dq_ixc_5 (by decide) rfl ?_
  exact key (mx.toInt - f.toInt).toNat _ f h0 (by omega)
theorem jIx1_c {C : zC} {n0 a : Nat} {c f mx : Int32} {κ : zS} {x y : Nat × Nat × List Int32} {Q : Int32 → zS → Prop} (W : zW C n0 κ) (hx : txX C a x y) (h : ∀ v, Q v κ) : zRun C 1 jIx1 [.ref x.2.1, .int c, .int f, .int mx] κ (oI Q noX) := by
  replace W := W.lo (Nat.le_trans W.1.2.1 W.1.2.2) (Nat.le_refl (zn κ))
  have hL := ofn_i (n := y.2.2.length) (Nat.le_trans hx.2.2.2.2 (by decide))
  refine z_run (m_ent _ 0) ?_
  refine y_iln dq_ix1_0 rfl ?_
  refine y_cals (As := [.int c]) (rest := []) W dq_ix1_1 rfl (j := 420) (by decide +kernel) (by decide +kernel) rfl rfl rfl (Nat.le_of_ble_eq_true rfl) (Nat.le_refl 0) (Nat.le_of_ble_eq_true rfl) (jCan_c (Q := fun z κ' => κ' = κ) W (fun _ => rfl)) (fun v κ' w9 m9 p9 => ezI (fun z κ' w m p => ?_) w9 m9 p9) (fun cls κ' p9 => show False from thrI (X := noX) p9)
  subst p
  refine y_in (z = 0) dq_ix1_4 (t := 9) rfl rfl (fun _ => ?_) (fun _ => ?_)
  · refine y_iln dq_ix1_9 rfl ?_
    refine y_ic dq_ix1_10 zi_0 ?_
    refine y_max dq_ix1_11 rfl (by decide +kernel) (Nat.le_refl 1) (Nat.le_of_ble_eq_true rfl) ?_
    obtain ⟨g, hg⟩ : ∃ g, g = (if f < 0 then 0 else f) := ⟨_, rfl⟩
    rw [← hg]
    have g0 : 0 ≤ g.toInt := by
      rw [hg]
      split
      · decide
      · rename_i z9
        rw [lti, t0i] at z9
        omega
    refine y_isn dq_ix1_14 (by decide) rfl ?_
    refine y_iln dq_ix1_15 rfl ?_
    refine y_aln dq_ix1_16 rfl ?_
    refine y_tln w dq_ix1_17 hx ?_
    refine y_min dq_ix1_18 rfl (by decide +kernel) (Nat.le_refl 1) (Nat.le_of_ble_eq_true rfl) ?_
    obtain ⟨q, hq⟩ : ∃ q, q = (if Int32.ofNat y.2.2.length < mx then Int32.ofNat y.2.2.length else mx) := ⟨_, rfl⟩
    rw [← hq]
    have q0 : q.toInt ≤ y.2.2.length := by
      rw [hq]
      split
      · rw [hL]; exact Int.le_refl _
      · rename_i z9
        rw [lti, hL] at z9
        omega
    refine y_isn dq_ix1_21 (by decide) rfl ?_
    refine y_iln dq_ix1_22 rfl ?_
    refine y_iln dq_ix1_23 rfl ?_
    refine y_ii (g < q) dq_ix1_24 (t := 29) rfl rfl (fun _ => ?_) (fun _ => ?_)
    · refine y_aln dq_ix1_29 rfl ?_
      refine y_iln dq_ix1_30 rfl ?_
      refine y_iln dq_ix1_31 rfl ?_
      refine y_iln dq_ix1_32 rfl ?_
      refine y_cals (As := [.ref x.2.1, .int c, .int g, .int q]) (rest := []) w dq_ix1_33 rfl (j := 422) (by decide +kernel) (by decide +kernel) rfl rfl rfl (Nat.le_of_ble_eq_true rfl) (Nat.le_refl 0) (Nat.le_of_ble_eq_true rfl) (jIxC_c (Q := fun z κ2 => κ2 = κ') w hx g0 q0 (fun _ => rfl)) (fun v κ2 w9 m9 p9 => ezI (fun z κ2 w2 m2 p2 => ?_) w9 m9 p9) (fun cls κ' p9 => show False from thrI (X := noX) p9)
      subst p2
      exact y_ri w2 dq_ix1_36 rfl ⟨rfl, rfl⟩ (h _)
    · refine y_ic dq_ix1_27 (x := -1) (by decide) ?_
      exact y_ri w dq_ix1_28 rfl ⟨rfl, rfl⟩ (h _)
  · refine y_ic dq_ix1_7 (x := -1) (by decide) ?_
    exact y_ri w dq_ix1_8 rfl ⟨rfl, rfl⟩ (h _)
theorem jIx2_c {C : zC} {n0 a : Nat} {c f : Int32} {κ : zS} {Q : Int32 → zS → Prop} (W : zW C n0 κ) (hB : isTx C a) (h : ∀ v, Q v κ) : zRun C 2 jIx2 [.ref a, .int c, .int f] κ (oI Q noX) := by
  obtain ⟨x, y, hx⟩ := txX_of hB
  replace W := W.lo (Nat.le_trans W.1.2.1 W.1.2.2) (Nat.le_refl (zn κ))
  refine z_run (m_ent _ 0) ?_
  refine y_aln dq_ix2_0 rfl ?_
  refine y_calt (As := []) W dq_ix2_1 rfl (j := 418) (by decide +kernel) rfl ⟨rfl, by decide, rfl⟩ rfl (Nat.le_of_ble_eq_true rfl) (Nat.zero_le 1) (Nat.le_of_ble_eq_true rfl) hB (jLatin_c (Q := fun z κ' => z = 1 ∧ κ' = κ) W hB ⟨rfl, rfl⟩) (fun v κ' w9 m9 p9 => ezI (fun z κ' w m p => ?_) w9 m9 p9) (fun cls κ' p9 => False.elim (show False from thrI (X := noX) p9))
  obtain ⟨rfl, rfl⟩ := p
  refine y_i ((1 : Int32) = 0) dq_ix2_4 (t := 23) rfl rfl (fun c => absurd c (by decide)) (fun _ => ?_)
  refine y_aln dq_ix2_7 rfl ?_
  refine y_tgv w dq_ix2_8 rfl rfl hB hx ?_
  refine y_iln dq_ix2_11 rfl ?_
  refine y_iln dq_ix2_12 rfl ?_
  refine y_aln dq_ix2_13 rfl ?_
  refine y_calt (As := []) w dq_ix2_14 rfl (j := 419) (by decide +kernel) rfl ⟨rfl, by decide, rfl⟩ rfl (Nat.le_of_ble_eq_true rfl) (Nat.le_refl 1) (Nat.le_of_ble_eq_true rfl) hB (jLen_c (Q := fun z κ2 => κ2 = κ') w hB rfl) (fun v κ2 w9 m9 p9 => ezI (fun z κ2 w2 m2 p2 => ?_) w9 m9 p9) (fun cls κ' p9 => False.elim (show False from thrI (X := noX) p9))
  subst p2
  refine y_cals (As := [.ref x.2.1, .int c, .int f, .int z]) (rest := []) w2 dq_ix2_17 rfl (j := 423) (by decide +kernel) (by decide +kernel) rfl rfl rfl (Nat.le_of_ble_eq_true rfl) (Nat.le_refl 1) (Nat.le_of_ble_eq_true rfl) (jIx1_c (Q := fun z κ3 => κ3 = κ2) w2 hx (fun _ => rfl)) (fun v κ3 w9 m9 p9 => ezI (fun z κ3 w3 m3 p3 => ?_) w9 m9 p9) (fun cls κ' p9 => show False from thrI (X := noX) p9)
  subst p3
  refine y_goto dq_ix2_20 (t := 36) rfl ?_
  exact y_ri w3 dq_ix2_36 rfl ⟨rfl, rfl⟩ (h _)
theorem St_indexOf_c {C : zC} {n0 : Nat} {a0 : Nat} {a1 : Int32} {κ : zS} {Q : Int32 → zS → Prop} (W : zW C n0 κ) (Ta0 : isTx C a0) (h : ∀ (v : Int32), (True) → Q v κ) : zRun C 9 mSt_indexOf [.ref a0, .int a1] κ (oI Q noX) := by
  refine zRun.up (d := 3) (by decide) ?_
  replace W := W.lo (Nat.le_trans W.1.2.1 W.1.2.2) (Nat.le_refl (zn κ))
  refine z_run (m_ent _ 0) ?_
  refine y_aln dq_ix3_0 rfl ?_
  refine y_iln dq_ix3_1 rfl ?_
  refine y_ic dq_ix3_2 zi_0 ?_
  refine y_calt (As := [.int a1, .int 0]) W dq_ix3_3 rfl (j := 417) (by decide +kernel) rfl ⟨rfl, by decide, rfl⟩ rfl (Nat.le_of_ble_eq_true rfl) (Nat.le_refl 2) (Nat.le_of_ble_eq_true rfl) Ta0 (jIx2_c (Q := fun z κ' => κ' = κ) W Ta0 (fun _ => rfl)) (fun v κ' w9 m9 p9 => ezI (fun z κ' w m p => ?_) w9 m9 p9) (fun cls κ' p9 => False.elim (show False from thrI (X := noX) p9))
  subst p
  exact y_ri w dq_ix3_6 rfl ⟨rfl, rfl⟩ (h _ trivial)
