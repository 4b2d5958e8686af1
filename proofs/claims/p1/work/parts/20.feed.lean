def wq_c_X10_widen : List Cond := .code yX10_widen cX10_widen 2 none :: ([.fieldLink RX10 9 "ChanceWorks$Tape" "bytes" "[B"] ++ (u_ws RX10 TX10 6))
theorem i_c_X10_widen_X10 : ∀ w ∈ u_ws RX10 TX10 6, w ∈ wq_c_X10_widen := fun w h => List.mem_cons_of_mem _ (List.mem_append_right _ (h))
set_option maxHeartbeats 4000000 in
set_option maxRecDepth 100000 in
theorem c_X10_widen (l : Launch) (D : va_G) (cy : Nat → ClassId) (q1 q2 q3 q4 q5 : Nat) (f0 : Nat → Int32) (sz : Nat) : Met l yX10_widen wq_c_X10_widen ({ frames := 0, cells := 0, slots := 0, locals := 0 }) (va_Pc [.ref q1, .int 20] (fun U => U.heap.size = sz ∧ va_P D vwCl [(q1, .inr (13, [.ref q2, .int 0, .ref q3, .ref q4, .ref q5, .int 0])), (q2, .inl (cy 1, 240, .inl f0))] U.heap ∧ kK D cy U ∧ va_D (fun _ => True) [(q1, .inr (13, [.ref q2, .int 0, .ref q3, .ref q4, .ref q5, .int 0])), (q2, .inl (cy 1, 240, .inl f0))])) (va_Qv (fun (_ : Unit) => (True)) (fun _ t => va_P D vwCl [(q1, .inr (13, [.ref q2, .int 0, .ref q3, .ref q4, .ref q5, .int 0])), (q2, .inl (cy 1, 240, .inl f0))] t.heap ∧ va_D (va_A [(q1, .inr (13, [.ref q2, .int 0, .ref q3, .ref q4, .ref q5, .int 0])), (q2, .inl (cy 1, 240, .inl f0))] sz) [(q1, .inr (13, [.ref q2, .int 0, .ref q3, .ref q4, .ref q5, .int 0])), (q2, .inl (cy 1, 240, .inl f0))]) (va_A [(q1, .inr (13, [.ref q2, .int 0, .ref q3, .ref q4, .ref q5, .int 0])), (q2, .inl (cy 1, 240, .inl f0))] sz)) 0 0 (va_A [(q1, .inr (13, [.ref q2, .int 0, .ref q3, .ref q4, .ref q5, .int 0])), (q2, .inl (cy 1, 240, .inl f0))] sz) := by
  refine Met.ofW (cc := cX10_widen) (maxL := 2) (ret := none) (by decide) rfl ?_
  intro p e s m args below meth c s₁ B hml hv
  obtain ⟨rfl, hsz, hP, hKK, hD0⟩ := hv
  have hK := hKK.1
  have hx := B.exec
  have hb := B.bytes
  have hr := B.returns
  have hts := atoms_spec (ws := wq_c_X10_widen) B.pre
  have hown : s.vm.findClass RX10 = some m.cls := findClass_of_methodNamed B.named
  have hlocks := B.notSynchronized
  subst hsz
  have hD := hD0.self (sz := s.heap.size)
  generalize hAe : va_A [(q1, .inr (13, [.ref q2, .int 0, .ref q3, .ref q4, .ref q5, .int 0])), (q2, .inl (cy 1, 240, .inl f0))] s.heap.size = A at hD ⊢
  have hA : ∀ q : Nat, s.heap.size ≤ q → A q := fun q h => by rw [← hAe]; exact Or.inr h
  obtain ⟨H, hS, hP, hgo⟩ : ∃ H, va_S A s.heap H [] ∧ va_P D vwCl [(q1, .inr (13, [.ref q2, .int 0, .ref q3, .ref q4, .ref q5, .int 0])), (q2, .inl (cy 1, 240, .inl f0))] H ∧ H = s.heap := ⟨s.heap, va_S.rf, hP, rfl⟩
  rw [← hgo]
  have hl := lv_entry ([.ref q1, .int 20]) (n := 2) (Nat.le_of_ble_eq_true rfl)
  rw [lg_entry_eq]
  generalize (lg_sl ([.ref q1, .int 20]) ++ List.replicate (2 - (lg_sl ([.ref q1, .int 20])).length) Slot.unset).toArray = ls at hl ⊢
  have hl : lv_has ls 2 [(0, .ref q1), (1, .int 20)] := hl
  refine lv_iload_n hx hb dX10_widen_0 rfl (lv_at hl 1 rfl) ?_
  refine lv_aload_n hx hb dX10_widen_1 rfl (lv_at hl 0 rfl) ?_
  refine va_get (D := D) (ci := 13) (v := .ref q2) (C := RX10) (T := TX10) (N := 6) hx hb hts i_c_X10_widen_X10 hown hK hP 0 rfl rfl 0 (by decide) (hts (.fieldLink RX10 9 "ChanceWorks$Tape" "bytes" "[B") (List.mem_of_getElem? (i := 1) rfl)) (fun _ h9 => h9) rfl dX10_widen_2 ?_
  refine va_alen (v := 240) hx hb hK hP 1 1 rfl rfl rfl dX10_widen_5 ?_
  refine lv_icmp_le (tgt := 23) hx hb dX10_widen_6 (by decide) (fun _ => ?_) (fun c9 => absurd (by decide) c9)
  refine W.widen (k := 0) (n := 0) (Nat.le_of_ble_eq_true rfl) (Nat.le_of_ble_eq_true rfl) ?_
  exact W.vret hx hb hr (fun t ht hW => ⟨⟨(), rfl, trivial, by rw [ht]; exact hP, hD⟩, hS.F ht⟩) hS.2.2 dX10_widen_23
def wq_c_X10_addWord0 : List Cond := .code yX10_addWord cX10_addWord 3 none :: ([.fieldLink RX10 31 "ChanceWorks$Tape" "length" "I", .fieldLink RX10 9 "ChanceWorks$Tape" "bytes" "[B"] ++ (u_ws RX10 TX10 6))
theorem i_c_X10_addWord0_X10 : ∀ w ∈ u_ws RX10 TX10 6, w ∈ wq_c_X10_addWord0 := fun w h => List.mem_cons_of_mem _ (List.mem_append_right _ (h))
set_option maxHeartbeats 4000000 in
set_option maxRecDepth 100000 in
theorem c_X10_addWord0 (l : Launch) (D : va_G) (cy : Nat → ClassId) (q1 q2 q3 q4 q5 : Nat) (p1 : Int32) (f0 : Nat → Int32) (sz : Nat) : Met l yX10_addWord wq_c_X10_addWord0 ({ frames := 0, cells := 0, slots := 0, locals := 0 }) (va_Pc [.ref q1, .int p1] (fun U => U.heap.size = sz ∧ va_P D vwCl [(q1, .inr (13, [.ref q2, .int 0, .ref q3, .ref q4, .ref q5, .int 0])), (q2, .inl (cy 1, 240, .inl f0))] U.heap ∧ kK D cy U ∧ va_D (fun _ => True) [(q1, .inr (13, [.ref q2, .int 0, .ref q3, .ref q4, .ref q5, .int 0])), (q2, .inl (cy 1, 240, .inl f0))])) (va_Qv (fun (_ : Unit) => (True)) (fun _ t => ∃ (f12 : Nat → Int32), va_P D vwCl [(q1, .inr (13, [.ref q2, .int 4, .ref q3, .ref q4, .ref q5, .int 0])), (q2, .inl (cy 1, 240, .inl f12))] t.heap ∧ va_D (va_A [(q1, .inr (13, [.ref q2, .int 0, .ref q3, .ref q4, .ref q5, .int 0])), (q2, .inl (cy 1, 240, .inl f0))] sz) [(q1, .inr (13, [.ref q2, .int 4, .ref q3, .ref q4, .ref q5, .int 0])), (q2, .inl (cy 1, 240, .inl f12))]) (va_A [(q1, .inr (13, [.ref q2, .int 0, .ref q3, .ref q4, .ref q5, .int 0])), (q2, .inl (cy 1, 240, .inl f0))] sz)) 0 0 (va_A [(q1, .inr (13, [.ref q2, .int 0, .ref q3, .ref q4, .ref q5, .int 0])), (q2, .inl (cy 1, 240, .inl f0))] sz) := by
  refine Met.ofW (cc := cX10_addWord) (maxL := 3) (ret := none) (by decide) rfl ?_
  intro p e s m args below meth c s₁ B hml hv
  obtain ⟨rfl, hsz, hP, hKK, hD0⟩ := hv
  have hK := hKK.1
  have hx := B.exec
  have hb := B.bytes
  have hr := B.returns
  have hts := atoms_spec (ws := wq_c_X10_addWord0) B.pre
  have hown : s.vm.findClass RX10 = some m.cls := findClass_of_methodNamed B.named
  have hlocks := B.notSynchronized
  subst hsz
  have hD := hD0.self (sz := s.heap.size)
  generalize hAe : va_A [(q1, .inr (13, [.ref q2, .int 0, .ref q3, .ref q4, .ref q5, .int 0])), (q2, .inl (cy 1, 240, .inl f0))] s.heap.size = A at hD ⊢
  have hA : ∀ q : Nat, s.heap.size ≤ q → A q := fun q h => by rw [← hAe]; exact Or.inr h
  obtain ⟨H, hS, hP, hgo⟩ : ∃ H, va_S A s.heap H [] ∧ va_P D vwCl [(q1, .inr (13, [.ref q2, .int 0, .ref q3, .ref q4, .ref q5, .int 0])), (q2, .inl (cy 1, 240, .inl f0))] H ∧ H = s.heap := ⟨s.heap, va_S.rf, hP, rfl⟩
  rw [← hgo]
  have hl := lv_entry ([.ref q1, .int p1]) (n := 3) (Nat.le_of_ble_eq_true rfl)
  rw [lg_entry_eq]
  generalize (lg_sl ([.ref q1, .int p1]) ++ List.replicate (3 - (lg_sl ([.ref q1, .int p1])).length) Slot.unset).toArray = ls at hl ⊢
  have hl : lv_has ls 3 [(0, .ref q1), (1, .int p1)] := hl
  refine lv_bipush (v := 24) hx hb dX10_addWord_0 (by decide) ?_
  refine lv_istore_n (lv' := [(2, .int 24), (0, .ref q1), (1, .int p1)]) hx hb dX10_addWord_2 rfl hl (by decide) rfl (fun ls hl => ?_)
  refine lv_iload_n hx hb dX10_addWord_3 rfl (lv_at hl 0 rfl) ?_
  refine lv_if_lt (tgt := 48) hx hb dX10_addWord_4 (by decide) (fun c9 => absurd c9 (by decide)) (fun _ => ?_)
  refine lv_aload_n hx hb dX10_addWord_7 rfl (lv_at hl 1 rfl) ?_
  refine va_get (D := D) (ci := 13) (v := .int 0) (C := RX10) (T := TX10) (N := 6) hx hb hts i_c_X10_addWord0_X10 hown hK hP 0 rfl rfl 1 (by decide) (hts (.fieldLink RX10 31 "ChanceWorks$Tape" "length" "I") (List.mem_of_getElem? (i := 1) rfl)) (fun _ h9 => h9) rfl dX10_addWord_8 ?_
  refine lv_aload_n hx hb dX10_addWord_11 rfl (lv_at hl 1 rfl) ?_
  refine va_get (D := D) (ci := 13) (v := .ref q2) (C := RX10) (T := TX10) (N := 6) hx hb hts i_c_X10_addWord0_X10 hown hK hP 0 rfl rfl 0 (by decide) (hts (.fieldLink RX10 9 "ChanceWorks$Tape" "bytes" "[B") (List.mem_of_getElem? (i := 2) rfl)) (fun _ h9 => h9) rfl dX10_addWord_12 ?_
  refine va_alen (v := 240) hx hb hK hP 1 1 rfl rfl rfl dX10_addWord_15 ?_
  refine lv_icmp_ge (tgt := 48) hx hb dX10_addWord_16 (by decide) (fun c9 => absurd c9 (by decide)) (fun _ => ?_)
  refine lv_aload_n hx hb dX10_addWord_19 rfl (lv_at hl 1 rfl) ?_
  refine va_get (D := D) (ci := 13) (v := .ref q2) (C := RX10) (T := TX10) (N := 6) hx hb hts i_c_X10_addWord0_X10 hown hK hP 0 rfl rfl 0 (by decide) (hts (.fieldLink RX10 9 "ChanceWorks$Tape" "bytes" "[B") (List.mem_of_getElem? (i := 2) rfl)) (fun _ h9 => h9) rfl dX10_addWord_20 ?_
  refine lv_aload_n hx hb dX10_addWord_23 rfl (lv_at hl 1 rfl) ?_
  refine va_get (D := D) (ci := 13) (v := .int 0) (C := RX10) (T := TX10) (N := 6) hx hb hts i_c_X10_addWord0_X10 hown hK hP 0 rfl rfl 1 (by decide) (hts (.fieldLink RX10 31 "ChanceWorks$Tape" "length" "I") (List.mem_of_getElem? (i := 1) rfl)) (fun _ h9 => h9) rfl dX10_addWord_24 ?_
  refine lv_iload_n hx hb dX10_addWord_27 rfl (lv_at hl 2 rfl) ?_
  refine lv_iload_n hx hb dX10_addWord_28 rfl (lv_at hl 0 rfl) ?_
  refine lv_ishr hx hb dX10_addWord_29 ?_
  refine lv_topi (fun v1 e_v1 => ?_)
  obtain ⟨v2, e_v2⟩ : ∃ z : Int32, z = v1.toInt8.toInt32 := ⟨_, rfl⟩
  refine lv_i2b (v := v2) hx hb dX10_addWord_30 e_v2.symm ?_
  refine va_bast hx hb hK hP hD hS 1 1 rfl rfl (by unfold vp_in; decide) dX10_addWord_31 (fun H locs hP hD hS => ?_)
  have hP : va_P D vwCl [(q1, .inr (13, [.ref q2, .int 0, .ref q3, .ref q4, .ref q5, .int 0])), (q2, .inl (cy 1, 240, .inl (upd f0 0 (vp_nar .byte v2))))] H := hP
  have hD : va_D A [(q1, .inr (13, [.ref q2, .int 0, .ref q3, .ref q4, .ref q5, .int 0])), (q2, .inl (cy 1, 240, .inl (upd f0 0 (vp_nar .byte v2))))] := hD
  generalize (upd f0 0 (vp_nar .byte v2)) = f3 at hP hD
  refine lv_aload_n hx hb dX10_addWord_32 rfl (lv_at hl 1 rfl) ?_
  refine lv_dup hx hb dX10_addWord_33 rfl ?_
  refine va_get (D := D) (ci := 13) (v := .int 0) (C := RX10) (T := TX10) (N := 6) hx hb hts i_c_X10_addWord0_X10 hown hK hP 0 rfl rfl 1 (by decide) (hts (.fieldLink RX10 31 "ChanceWorks$Tape" "length" "I") (List.mem_of_getElem? (i := 1) rfl)) (fun _ h9 => h9) rfl dX10_addWord_34 ?_
  refine lv_iconst (v := 1) hx hb dX10_addWord_37 (by decide) ?_
  refine lv_iadd hx hb dX10_addWord_38 ?_
  rw [show (0 : Int32) + 1 = 1 by decide]
  refine va_put (D := D) (ci := 13) (v := .int 1) (ty := .int) (C := RX10) (T := TX10) (N := 6) hx hb hts i_c_X10_addWord0_X10 tyX10 tyX10_ok nmX10 hown hK hP hD hS 0 rfl rfl 1 (by decide) (hts (.fieldLink RX10 31 "ChanceWorks$Tape" "length" "I") (List.mem_of_getElem? (i := 1) rfl)) (fun _ h9 => h9) rfl (by decide +kernel) rfl rfl (Nat.le_of_ble_eq_true rfl) dX10_addWord_39 (fun H locs hP hD hS => ?_)
  have hP : va_P D vwCl [(q1, .inr (13, [.ref q2, .int 1, .ref q3, .ref q4, .ref q5, .int 0])), (q2, .inl (cy 1, 240, .inl f3))] H := hP
  have hD : va_D A [(q1, .inr (13, [.ref q2, .int 1, .ref q3, .ref q4, .ref q5, .int 0])), (q2, .inl (cy 1, 240, .inl f3))] := hD
  refine lv_iinc (v := 16) (lv' := [(2, .int 16), (0, .ref q1), (1, .int p1)]) hx hb dX10_addWord_42 hl (k := 0) rfl (by decide) (by decide) rfl (fun ls hl => ?_)
  refine lv_goto (tgt := 3) hx hb dX10_addWord_45 (by decide) ?_
  refine lv_iload_n hx hb dX10_addWord_3 rfl (lv_at hl 0 rfl) ?_
  refine lv_if_lt (tgt := 48) hx hb dX10_addWord_4 (by decide) (fun c9 => absurd c9 (by decide)) (fun _ => ?_)
  refine lv_aload_n hx hb dX10_addWord_7 rfl (lv_at hl 1 rfl) ?_
  refine va_get (D := D) (ci := 13) (v := .int 1) (C := RX10) (T := TX10) (N := 6) hx hb hts i_c_X10_addWord0_X10 hown hK hP 0 rfl rfl 1 (by decide) (hts (.fieldLink RX10 31 "ChanceWorks$Tape" "length" "I") (List.mem_of_getElem? (i := 1) rfl)) (fun _ h9 => h9) rfl dX10_addWord_8 ?_
  refine lv_aload_n hx hb dX10_addWord_11 rfl (lv_at hl 1 rfl) ?_
  refine va_get (D := D) (ci := 13) (v := .ref q2) (C := RX10) (T := TX10) (N := 6) hx hb hts i_c_X10_addWord0_X10 hown hK hP 0 rfl rfl 0 (by decide) (hts (.fieldLink RX10 9 "ChanceWorks$Tape" "bytes" "[B") (List.mem_of_getElem? (i := 2) rfl)) (fun _ h9 => h9) rfl dX10_addWord_12 ?_
  refine va_alen (v := 240) hx hb hK hP 1 1 rfl rfl rfl dX10_addWord_15 ?_
  refine lv_icmp_ge (tgt := 48) hx hb dX10_addWord_16 (by decide) (fun c9 => absurd c9 (by decide)) (fun _ => ?_)
  refine lv_aload_n hx hb dX10_addWord_19 rfl (lv_at hl 1 rfl) ?_
  refine va_get (D := D) (ci := 13) (v := .ref q2) (C := RX10) (T := TX10) (N := 6) hx hb hts i_c_X10_addWord0_X10 hown hK hP 0 rfl rfl 0 (by decide) (hts (.fieldLink RX10 9 "ChanceWorks$Tape" "bytes" "[B") (List.mem_of_getElem? (i := 2) rfl)) (fun _ h9 => h9) rfl dX10_addWord_20 ?_
  refine lv_aload_n hx hb dX10_addWord_23 rfl (lv_at hl 1 rfl) ?_
  refine va_get (D := D) (ci := 13) (v := .int 1) (C := RX10) (T := TX10) (N := 6) hx hb hts i_c_X10_addWord0_X10 hown hK hP 0 rfl rfl 1 (by decide) (hts (.fieldLink RX10 31 "ChanceWorks$Tape" "length" "I") (List.mem_of_getElem? (i := 1) rfl)) (fun _ h9 => h9) rfl dX10_addWord_24 ?_
  refine lv_iload_n hx hb dX10_addWord_27 rfl (lv_at hl 2 rfl) ?_
  refine lv_iload_n hx hb dX10_addWord_28 rfl (lv_at hl 0 rfl) ?_
  refine lv_ishr hx hb dX10_addWord_29 ?_
  refine lv_topi (fun v4 e_v4 => ?_)
  obtain ⟨v5, e_v5⟩ : ∃ z : Int32, z = v4.toInt8.toInt32 := ⟨_, rfl⟩
  refine lv_i2b (v := v5) hx hb dX10_addWord_30 e_v5.symm ?_
  refine va_bast hx hb hK hP hD hS 1 1 rfl rfl (by unfold vp_in; decide) dX10_addWord_31 (fun H locs hP hD hS => ?_)
  have hP : va_P D vwCl [(q1, .inr (13, [.ref q2, .int 1, .ref q3, .ref q4, .ref q5, .int 0])), (q2, .inl (cy 1, 240, .inl (upd f3 1 (vp_nar .byte v5))))] H := hP
  have hD : va_D A [(q1, .inr (13, [.ref q2, .int 1, .ref q3, .ref q4, .ref q5, .int 0])), (q2, .inl (cy 1, 240, .inl (upd f3 1 (vp_nar .byte v5))))] := hD
  generalize (upd f3 1 (vp_nar .byte v5)) = f6 at hP hD
  refine lv_aload_n hx hb dX10_addWord_32 rfl (lv_at hl 1 rfl) ?_
  refine lv_dup hx hb dX10_addWord_33 rfl ?_
  refine va_get (D := D) (ci := 13) (v := .int 1) (C := RX10) (T := TX10) (N := 6) hx hb hts i_c_X10_addWord0_X10 hown hK hP 0 rfl rfl 1 (by decide) (hts (.fieldLink RX10 31 "ChanceWorks$Tape" "length" "I") (List.mem_of_getElem? (i := 1) rfl)) (fun _ h9 => h9) rfl dX10_addWord_34 ?_
  refine lv_iconst (v := 1) hx hb dX10_addWord_37 (by decide) ?_
  refine lv_iadd hx hb dX10_addWord_38 ?_
  rw [show (1 : Int32) + 1 = 2 by decide]
  refine va_put (D := D) (ci := 13) (v := .int 2) (ty := .int) (C := RX10) (T := TX10) (N := 6) hx hb hts i_c_X10_addWord0_X10 tyX10 tyX10_ok nmX10 hown hK hP hD hS 0 rfl rfl 1 (by decide) (hts (.fieldLink RX10 31 "ChanceWorks$Tape" "length" "I") (List.mem_of_getElem? (i := 1) rfl)) (fun _ h9 => h9) rfl (by decide +kernel) rfl rfl (Nat.le_of_ble_eq_true rfl) dX10_addWord_39 (fun H locs hP hD hS => ?_)
  have hP : va_P D vwCl [(q1, .inr (13, [.ref q2, .int 2, .ref q3, .ref q4, .ref q5, .int 0])), (q2, .inl (cy 1, 240, .inl f6))] H := hP
  have hD : va_D A [(q1, .inr (13, [.ref q2, .int 2, .ref q3, .ref q4, .ref q5, .int 0])), (q2, .inl (cy 1, 240, .inl f6))] := hD
  refine lv_iinc (v := 8) (lv' := [(2, .int 8), (0, .ref q1), (1, .int p1)]) hx hb dX10_addWord_42 hl (k := 0) rfl (by decide) (by decide) rfl (fun ls hl => ?_)
  refine lv_goto (tgt := 3) hx hb dX10_addWord_45 (by decide) ?_
  refine lv_iload_n hx hb dX10_addWord_3 rfl (lv_at hl 0 rfl) ?_
  refine lv_if_lt (tgt := 48) hx hb dX10_addWord_4 (by decide) (fun c9 => absurd c9 (by decide)) (fun _ => ?_)
  refine lv_aload_n hx hb dX10_addWord_7 rfl (lv_at hl 1 rfl) ?_
  refine va_get (D := D) (ci := 13) (v := .int 2) (C := RX10) (T := TX10) (N := 6) hx hb hts i_c_X10_addWord0_X10 hown hK hP 0 rfl rfl 1 (by decide) (hts (.fieldLink RX10 31 "ChanceWorks$Tape" "length" "I") (List.mem_of_getElem? (i := 1) rfl)) (fun _ h9 => h9) rfl dX10_addWord_8 ?_
  refine lv_aload_n hx hb dX10_addWord_11 rfl (lv_at hl 1 rfl) ?_
  refine va_get (D := D) (ci := 13) (v := .ref q2) (C := RX10) (T := TX10) (N := 6) hx hb hts i_c_X10_addWord0_X10 hown hK hP 0 rfl rfl 0 (by decide) (hts (.fieldLink RX10 9 "ChanceWorks$Tape" "bytes" "[B") (List.mem_of_getElem? (i := 2) rfl)) (fun _ h9 => h9) rfl dX10_addWord_12 ?_
  refine va_alen (v := 240) hx hb hK hP 1 1 rfl rfl rfl dX10_addWord_15 ?_
  refine lv_icmp_ge (tgt := 48) hx hb dX10_addWord_16 (by decide) (fun c9 => absurd c9 (by decide)) (fun _ => ?_)
  refine lv_aload_n hx hb dX10_addWord_19 rfl (lv_at hl 1 rfl) ?_
  refine va_get (D := D) (ci := 13) (v := .ref q2) (C := RX10) (T := TX10) (N := 6) hx hb hts i_c_X10_addWord0_X10 hown hK hP 0 rfl rfl 0 (by decide) (hts (.fieldLink RX10 9 "ChanceWorks$Tape" "bytes" "[B") (List.mem_of_getElem? (i := 2) rfl)) (fun _ h9 => h9) rfl dX10_addWord_20 ?_
  refine lv_aload_n hx hb dX10_addWord_23 rfl (lv_at hl 1 rfl) ?_
  refine va_get (D := D) (ci := 13) (v := .int 2) (C := RX10) (T := TX10) (N := 6) hx hb hts i_c_X10_addWord0_X10 hown hK hP 0 rfl rfl 1 (by decide) (hts (.fieldLink RX10 31 "ChanceWorks$Tape" "length" "I") (List.mem_of_getElem? (i := 1) rfl)) (fun _ h9 => h9) rfl dX10_addWord_24 ?_
  refine lv_iload_n hx hb dX10_addWord_27 rfl (lv_at hl 2 rfl) ?_
  refine lv_iload_n hx hb dX10_addWord_28 rfl (lv_at hl 0 rfl) ?_
  refine lv_ishr hx hb dX10_addWord_29 ?_
  refine lv_topi (fun v7 e_v7 => ?_)
  obtain ⟨v8, e_v8⟩ : ∃ z : Int32, z = v7.toInt8.toInt32 := ⟨_, rfl⟩
  refine lv_i2b (v := v8) hx hb dX10_addWord_30 e_v8.symm ?_
  refine va_bast hx hb hK hP hD hS 1 1 rfl rfl (by unfold vp_in; decide) dX10_addWord_31 (fun H locs hP hD hS => ?_)
  have hP : va_P D vwCl [(q1, .inr (13, [.ref q2, .int 2, .ref q3, .ref q4, .ref q5, .int 0])), (q2, .inl (cy 1, 240, .inl (upd f6 2 (vp_nar .byte v8))))] H := hP
  have hD : va_D A [(q1, .inr (13, [.ref q2, .int 2, .ref q3, .ref q4, .ref q5, .int 0])), (q2, .inl (cy 1, 240, .inl (upd f6 2 (vp_nar .byte v8))))] := hD
  generalize (upd f6 2 (vp_nar .byte v8)) = f9 at hP hD
  refine lv_aload_n hx hb dX10_addWord_32 rfl (lv_at hl 1 rfl) ?_
  refine lv_dup hx hb dX10_addWord_33 rfl ?_
  refine va_get (D := D) (ci := 13) (v := .int 2) (C := RX10) (T := TX10) (N := 6) hx hb hts i_c_X10_addWord0_X10 hown hK hP 0 rfl rfl 1 (by decide) (hts (.fieldLink RX10 31 "ChanceWorks$Tape" "length" "I") (List.mem_of_getElem? (i := 1) rfl)) (fun _ h9 => h9) rfl dX10_addWord_34 ?_
  refine lv_iconst (v := 1) hx hb dX10_addWord_37 (by decide) ?_
  refine lv_iadd hx hb dX10_addWord_38 ?_
  rw [show (2 : Int32) + 1 = 3 by decide]
  refine va_put (D := D) (ci := 13) (v := .int 3) (ty := .int) (C := RX10) (T := TX10) (N := 6) hx hb hts i_c_X10_addWord0_X10 tyX10 tyX10_ok nmX10 hown hK hP hD hS 0 rfl rfl 1 (by decide) (hts (.fieldLink RX10 31 "ChanceWorks$Tape" "length" "I") (List.mem_of_getElem? (i := 1) rfl)) (fun _ h9 => h9) rfl (by decide +kernel) rfl rfl (Nat.le_of_ble_eq_true rfl) dX10_addWord_39 (fun H locs hP hD hS => ?_)
  have hP : va_P D vwCl [(q1, .inr (13, [.ref q2, .int 3, .ref q3, .ref q4, .ref q5, .int 0])), (q2, .inl (cy 1, 240, .inl f9))] H := hP
  have hD : va_D A [(q1, .inr (13, [.ref q2, .int 3, .ref q3, .ref q4, .ref q5, .int 0])), (q2, .inl (cy 1, 240, .inl f9))] := hD
  refine lv_iinc (v := 0) (lv' := [(2, .int 0), (0, .ref q1), (1, .int p1)]) hx hb dX10_addWord_42 hl (k := 0) rfl (by decide) (by decide) rfl (fun ls hl => ?_)
  refine lv_goto (tgt := 3) hx hb dX10_addWord_45 (by decide) ?_
  refine lv_iload_n hx hb dX10_addWord_3 rfl (lv_at hl 0 rfl) ?_
  refine lv_if_lt (tgt := 48) hx hb dX10_addWord_4 (by decide) (fun c9 => absurd c9 (by decide)) (fun _ => ?_)
  refine lv_aload_n hx hb dX10_addWord_7 rfl (lv_at hl 1 rfl) ?_
  refine va_get (D := D) (ci := 13) (v := .int 3) (C := RX10) (T := TX10) (N := 6) hx hb hts i_c_X10_addWord0_X10 hown hK hP 0 rfl rfl 1 (by decide) (hts (.fieldLink RX10 31 "ChanceWorks$Tape" "length" "I") (List.mem_of_getElem? (i := 1) rfl)) (fun _ h9 => h9) rfl dX10_addWord_8 ?_
  refine lv_aload_n hx hb dX10_addWord_11 rfl (lv_at hl 1 rfl) ?_
  refine va_get (D := D) (ci := 13) (v := .ref q2) (C := RX10) (T := TX10) (N := 6) hx hb hts i_c_X10_addWord0_X10 hown hK hP 0 rfl rfl 0 (by decide) (hts (.fieldLink RX10 9 "ChanceWorks$Tape" "bytes" "[B") (List.mem_of_getElem? (i := 2) rfl)) (fun _ h9 => h9) rfl dX10_addWord_12 ?_
  refine va_alen (v := 240) hx hb hK hP 1 1 rfl rfl rfl dX10_addWord_15 ?_
  refine lv_icmp_ge (tgt := 48) hx hb dX10_addWord_16 (by decide) (fun c9 => absurd c9 (by decide)) (fun _ => ?_)
  refine lv_aload_n hx hb dX10_addWord_19 rfl (lv_at hl 1 rfl) ?_
  refine va_get (D := D) (ci := 13) (v := .ref q2) (C := RX10) (T := TX10) (N := 6) hx hb hts i_c_X10_addWord0_X10 hown hK hP 0 rfl rfl 0 (by decide) (hts (.fieldLink RX10 9 "ChanceWorks$Tape" "bytes" "[B") (List.mem_of_getElem? (i := 2) rfl)) (fun _ h9 => h9) rfl dX10_addWord_20 ?_
  refine lv_aload_n hx hb dX10_addWord_23 rfl (lv_at hl 1 rfl) ?_
  refine va_get (D := D) (ci := 13) (v := .int 3) (C := RX10) (T := TX10) (N := 6) hx hb hts i_c_X10_addWord0_X10 hown hK hP 0 rfl rfl 1 (by decide) (hts (.fieldLink RX10 31 "ChanceWorks$Tape" "length" "I") (List.mem_of_getElem? (i := 1) rfl)) (fun _ h9 => h9) rfl dX10_addWord_24 ?_
  refine lv_iload_n hx hb dX10_addWord_27 rfl (lv_at hl 2 rfl) ?_
  refine lv_iload_n hx hb dX10_addWord_28 rfl (lv_at hl 0 rfl) ?_
  refine lv_ishr hx hb dX10_addWord_29 ?_
  refine lv_topi (fun v10 e_v10 => ?_)
  obtain ⟨v11, e_v11⟩ : ∃ z : Int32, z = v10.toInt8.toInt32 := ⟨_, rfl⟩
  refine lv_i2b (v := v11) hx hb dX10_addWord_30 e_v11.symm ?_
  refine va_bast hx hb hK hP hD hS 1 1 rfl rfl (by unfold vp_in; decide) dX10_addWord_31 (fun H locs hP hD hS => ?_)
  have hP : va_P D vwCl [(q1, .inr (13, [.ref q2, .int 3, .ref q3, .ref q4, .ref q5, .int 0])), (q2, .inl (cy 1, 240, .inl (upd f9 3 (vp_nar .byte v11))))] H := hP
  have hD : va_D A [(q1, .inr (13, [.ref q2, .int 3, .ref q3, .ref q4, .ref q5, .int 0])), (q2, .inl (cy 1, 240, .inl (upd f9 3 (vp_nar .byte v11))))] := hD
  generalize (upd f9 3 (vp_nar .byte v11)) = f12 at hP hD
  refine lv_aload_n hx hb dX10_addWord_32 rfl (lv_at hl 1 rfl) ?_
  refine lv_dup hx hb dX10_addWord_33 rfl ?_
  refine va_get (D := D) (ci := 13) (v := .int 3) (C := RX10) (T := TX10) (N := 6) hx hb hts i_c_X10_addWord0_X10 hown hK hP 0 rfl rfl 1 (by decide) (hts (.fieldLink RX10 31 "ChanceWorks$Tape" "length" "I") (List.mem_of_getElem? (i := 1) rfl)) (fun _ h9 => h9) rfl dX10_addWord_34 ?_
  refine lv_iconst (v := 1) hx hb dX10_addWord_37 (by decide) ?_
  refine lv_iadd hx hb dX10_addWord_38 ?_
  rw [show (3 : Int32) + 1 = 4 by decide]
  refine va_put (D := D) (ci := 13) (v := .int 4) (ty := .int) (C := RX10) (T := TX10) (N := 6) hx hb hts i_c_X10_addWord0_X10 tyX10 tyX10_ok nmX10 hown hK hP hD hS 0 rfl rfl 1 (by decide) (hts (.fieldLink RX10 31 "ChanceWorks$Tape" "length" "I") (List.mem_of_getElem? (i := 1) rfl)) (fun _ h9 => h9) rfl (by decide +kernel) rfl rfl (Nat.le_of_ble_eq_true rfl) dX10_addWord_39 (fun H locs hP hD hS => ?_)
  have hP : va_P D vwCl [(q1, .inr (13, [.ref q2, .int 4, .ref q3, .ref q4, .ref q5, .int 0])), (q2, .inl (cy 1, 240, .inl f12))] H := hP
  have hD : va_D A [(q1, .inr (13, [.ref q2, .int 4, .ref q3, .ref q4, .ref q5, .int 0])), (q2, .inl (cy 1, 240, .inl f12))] := hD
  refine lv_iinc (v := (-8)) (lv' := [(2, .int (-8)), (0, .ref q1), (1, .int p1)]) hx hb dX10_addWord_42 hl (k := 0) rfl (by decide) (by decide) rfl (fun ls hl => ?_)
  refine lv_goto (tgt := 3) hx hb dX10_addWord_45 (by decide) ?_
  refine lv_iload_n hx hb dX10_addWord_3 rfl (lv_at hl 0 rfl) ?_
  refine lv_if_lt (tgt := 48) hx hb dX10_addWord_4 (by decide) (fun _ => ?_) (fun c9 => absurd (by decide) c9)
  refine W.widen (k := 0) (n := 0) (Nat.le_of_ble_eq_true rfl) (Nat.le_of_ble_eq_true rfl) ?_
  exact W.vret hx hb hr (fun t ht hW => ⟨⟨(), rfl, trivial, f12, by rw [ht]; exact hP, hD⟩, hS.F ht⟩) hS.2.2 dX10_addWord_48
def wq_c_X10_addWord4 : List Cond := .code yX10_addWord cX10_addWord 3 none :: ([.fieldLink RX10 31 "ChanceWorks$Tape" "length" "I", .fieldLink RX10 9 "ChanceWorks$Tape" "bytes" "[B"] ++ (u_ws RX10 TX10 6))
theorem i_c_X10_addWord4_X10 : ∀ w ∈ u_ws RX10 TX10 6, w ∈ wq_c_X10_addWord4 := fun w h => List.mem_cons_of_mem _ (List.mem_append_right _ (h))
set_option maxHeartbeats 4000000 in
set_option maxRecDepth 100000 in
theorem c_X10_addWord4 (l : Launch) (D : va_G) (cy : Nat → ClassId) (q1 q2 q3 q4 q5 : Nat) (p1 : Int32) (f0 : Nat → Int32) (sz : Nat) : Met l yX10_addWord wq_c_X10_addWord4 ({ frames := 0, cells := 0, slots := 0, locals := 0 }) (va_Pc [.ref q1, .int p1] (fun U => U.heap.size = sz ∧ va_P D vwCl [(q1, .inr (13, [.ref q2, .int 4, .ref q3, .ref q4, .ref q5, .int 0])), (q2, .inl (cy 1, 240, .inl f0))] U.heap ∧ kK D cy U ∧ va_D (fun _ => True) [(q1, .inr (13, [.ref q2, .int 4, .ref q3, .ref q4, .ref q5, .int 0])), (q2, .inl (cy 1, 240, .inl f0))])) (va_Qv (fun (_ : Unit) => (True)) (fun _ t => ∃ (f12 : Nat → Int32), va_P D vwCl [(q1, .inr (13, [.ref q2, .int 8, .ref q3, .ref q4, .ref q5, .int 0])), (q2, .inl (cy 1, 240, .inl f12))] t.heap ∧ va_D (va_A [(q1, .inr (13, [.ref q2, .int 4, .ref q3, .ref q4, .ref q5, .int 0])), (q2, .inl (cy 1, 240, .inl f0))] sz) [(q1, .inr (13, [.ref q2, .int 8, .ref q3, .ref q4, .ref q5, .int 0])), (q2, .inl (cy 1, 240, .inl f12))]) (va_A [(q1, .inr (13, [.ref q2, .int 4, .ref q3, .ref q4, .ref q5, .int 0])), (q2, .inl (cy 1, 240, .inl f0))] sz)) 0 0 (va_A [(q1, .inr (13, [.ref q2, .int 4, .ref q3, .ref q4, .ref q5, .int 0])), (q2, .inl (cy 1, 240, .inl f0))] sz) := by
  refine Met.ofW (cc := cX10_addWord) (maxL := 3) (ret := none) (by decide) rfl ?_
  intro p e s m args below meth c s₁ B hml hv
  obtain ⟨rfl, hsz, hP, hKK, hD0⟩ := hv
  have hK := hKK.1
  have hx := B.exec
  have hb := B.bytes
  have hr := B.returns
  have hts := atoms_spec (ws := wq_c_X10_addWord4) B.pre
  have hown : s.vm.findClass RX10 = some m.cls := findClass_of_methodNamed B.named
  have hlocks := B.notSynchronized
  subst hsz
  have hD := hD0.self (sz := s.heap.size)
  generalize hAe : va_A [(q1, .inr (13, [.ref q2, .int 4, .ref q3, .ref q4, .ref q5, .int 0])), (q2, .inl (cy 1, 240, .inl f0))] s.heap.size = A at hD ⊢
  have hA : ∀ q : Nat, s.heap.size ≤ q → A q := fun q h => by rw [← hAe]; exact Or.inr h
  obtain ⟨H, hS, hP, hgo⟩ : ∃ H, va_S A s.heap H [] ∧ va_P D vwCl [(q1, .inr (13, [.ref q2, .int 4, .ref q3, .ref q4, .ref q5, .int 0])), (q2, .inl (cy 1, 240, .inl f0))] H ∧ H = s.heap := ⟨s.heap, va_S.rf, hP, rfl⟩
  rw [← hgo]
  have hl := lv_entry ([.ref q1, .int p1]) (n := 3) (Nat.le_of_ble_eq_true rfl)
  rw [lg_entry_eq]
  generalize (lg_sl ([.ref q1, .int p1]) ++ List.replicate (3 - (lg_sl ([.ref q1, .int p1])).length) Slot.unset).toArray = ls at hl ⊢
  have hl : lv_has ls 3 [(0, .ref q1), (1, .int p1)] := hl
  refine lv_bipush (v := 24) hx hb dX10_addWord_0 (by decide) ?_
  refine lv_istore_n (lv' := [(2, .int 24), (0, .ref q1), (1, .int p1)]) hx hb dX10_addWord_2 rfl hl (by decide) rfl (fun ls hl => ?_)
  refine lv_iload_n hx hb dX10_addWord_3 rfl (lv_at hl 0 rfl) ?_
  refine lv_if_lt (tgt := 48) hx hb dX10_addWord_4 (by decide) (fun c9 => absurd c9 (by decide)) (fun _ => ?_)
  refine lv_aload_n hx hb dX10_addWord_7 rfl (lv_at hl 1 rfl) ?_
  refine va_get (D := D) (ci := 13) (v := .int 4) (C := RX10) (T := TX10) (N := 6) hx hb hts i_c_X10_addWord4_X10 hown hK hP 0 rfl rfl 1 (by decide) (hts (.fieldLink RX10 31 "ChanceWorks$Tape" "length" "I") (List.mem_of_getElem? (i := 1) rfl)) (fun _ h9 => h9) rfl dX10_addWord_8 ?_
  refine lv_aload_n hx hb dX10_addWord_11 rfl (lv_at hl 1 rfl) ?_
  refine va_get (D := D) (ci := 13) (v := .ref q2) (C := RX10) (T := TX10) (N := 6) hx hb hts i_c_X10_addWord4_X10 hown hK hP 0 rfl rfl 0 (by decide) (hts (.fieldLink RX10 9 "ChanceWorks$Tape" "bytes" "[B") (List.mem_of_getElem? (i := 2) rfl)) (fun _ h9 => h9) rfl dX10_addWord_12 ?_
  refine va_alen (v := 240) hx hb hK hP 1 1 rfl rfl rfl dX10_addWord_15 ?_
  refine lv_icmp_ge (tgt := 48) hx hb dX10_addWord_16 (by decide) (fun c9 => absurd c9 (by decide)) (fun _ => ?_)
  refine lv_aload_n hx hb dX10_addWord_19 rfl (lv_at hl 1 rfl) ?_
  refine va_get (D := D) (ci := 13) (v := .ref q2) (C := RX10) (T := TX10) (N := 6) hx hb hts i_c_X10_addWord4_X10 hown hK hP 0 rfl rfl 0 (by decide) (hts (.fieldLink RX10 9 "ChanceWorks$Tape" "bytes" "[B") (List.mem_of_getElem? (i := 2) rfl)) (fun _ h9 => h9) rfl dX10_addWord_20 ?_
  refine lv_aload_n hx hb dX10_addWord_23 rfl (lv_at hl 1 rfl) ?_
  refine va_get (D := D) (ci := 13) (v := .int 4) (C := RX10) (T := TX10) (N := 6) hx hb hts i_c_X10_addWord4_X10 hown hK hP 0 rfl rfl 1 (by decide) (hts (.fieldLink RX10 31 "ChanceWorks$Tape" "length" "I") (List.mem_of_getElem? (i := 1) rfl)) (fun _ h9 => h9) rfl dX10_addWord_24 ?_
  refine lv_iload_n hx hb dX10_addWord_27 rfl (lv_at hl 2 rfl) ?_
  refine lv_iload_n hx hb dX10_addWord_28 rfl (lv_at hl 0 rfl) ?_
  refine lv_ishr hx hb dX10_addWord_29 ?_
  refine lv_topi (fun v1 e_v1 => ?_)
  obtain ⟨v2, e_v2⟩ : ∃ z : Int32, z = v1.toInt8.toInt32 := ⟨_, rfl⟩
  refine lv_i2b (v := v2) hx hb dX10_addWord_30 e_v2.symm ?_
  refine va_bast hx hb hK hP hD hS 1 1 rfl rfl (by unfold vp_in; decide) dX10_addWord_31 (fun H locs hP hD hS => ?_)
  have hP : va_P D vwCl [(q1, .inr (13, [.ref q2, .int 4, .ref q3, .ref q4, .ref q5, .int 0])), (q2, .inl (cy 1, 240, .inl (upd f0 4 (vp_nar .byte v2))))] H := hP
  have hD : va_D A [(q1, .inr (13, [.ref q2, .int 4, .ref q3, .ref q4, .ref q5, .int 0])), (q2, .inl (cy 1, 240, .inl (upd f0 4 (vp_nar .byte v2))))] := hD
  generalize (upd f0 4 (vp_nar .byte v2)) = f3 at hP hD
  refine lv_aload_n hx hb dX10_addWord_32 rfl (lv_at hl 1 rfl) ?_
  refine lv_dup hx hb dX10_addWord_33 rfl ?_
  refine va_get (D := D) (ci := 13) (v := .int 4) (C := RX10) (T := TX10) (N := 6) hx hb hts i_c_X10_addWord4_X10 hown hK hP 0 rfl rfl 1 (by decide) (hts (.fieldLink RX10 31 "ChanceWorks$Tape" "length" "I") (List.mem_of_getElem? (i := 1) rfl)) (fun _ h9 => h9) rfl dX10_addWord_34 ?_
  refine lv_iconst (v := 1) hx hb dX10_addWord_37 (by decide) ?_
  refine lv_iadd hx hb dX10_addWord_38 ?_
  rw [show (4 : Int32) + 1 = 5 by decide]
  refine va_put (D := D) (ci := 13) (v := .int 5) (ty := .int) (C := RX10) (T := TX10) (N := 6) hx hb hts i_c_X10_addWord4_X10 tyX10 tyX10_ok nmX10 hown hK hP hD hS 0 rfl rfl 1 (by decide) (hts (.fieldLink RX10 31 "ChanceWorks$Tape" "length" "I") (List.mem_of_getElem? (i := 1) rfl)) (fun _ h9 => h9) rfl (by decide +kernel) rfl rfl (Nat.le_of_ble_eq_true rfl) dX10_addWord_39 (fun H locs hP hD hS => ?_)
  have hP : va_P D vwCl [(q1, .inr (13, [.ref q2, .int 5, .ref q3, .ref q4, .ref q5, .int 0])), (q2, .inl (cy 1, 240, .inl f3))] H := hP
  have hD : va_D A [(q1, .inr (13, [.ref q2, .int 5, .ref q3, .ref q4, .ref q5, .int 0])), (q2, .inl (cy 1, 240, .inl f3))] := hD
  refine lv_iinc (v := 16) (lv' := [(2, .int 16), (0, .ref q1), (1, .int p1)]) hx hb dX10_addWord_42 hl (k := 0) rfl (by decide) (by decide) rfl (fun ls hl => ?_)
  refine lv_goto (tgt := 3) hx hb dX10_addWord_45 (by decide) ?_
  refine lv_iload_n hx hb dX10_addWord_3 rfl (lv_at hl 0 rfl) ?_
  refine lv_if_lt (tgt := 48) hx hb dX10_addWord_4 (by decide) (fun c9 => absurd c9 (by decide)) (fun _ => ?_)
  refine lv_aload_n hx hb dX10_addWord_7 rfl (lv_at hl 1 rfl) ?_
  refine va_get (D := D) (ci := 13) (v := .int 5) (C := RX10) (T := TX10) (N := 6) hx hb hts i_c_X10_addWord4_X10 hown hK hP 0 rfl rfl 1 (by decide) (hts (.fieldLink RX10 31 "ChanceWorks$Tape" "length" "I") (List.mem_of_getElem? (i := 1) rfl)) (fun _ h9 => h9) rfl dX10_addWord_8 ?_
  refine lv_aload_n hx hb dX10_addWord_11 rfl (lv_at hl 1 rfl) ?_
  refine va_get (D := D) (ci := 13) (v := .ref q2) (C := RX10) (T := TX10) (N := 6) hx hb hts i_c_X10_addWord4_X10 hown hK hP 0 rfl rfl 0 (by decide) (hts (.fieldLink RX10 9 "ChanceWorks$Tape" "bytes" "[B") (List.mem_of_getElem? (i := 2) rfl)) (fun _ h9 => h9) rfl dX10_addWord_12 ?_
  refine va_alen (v := 240) hx hb hK hP 1 1 rfl rfl rfl dX10_addWord_15 ?_
  refine lv_icmp_ge (tgt := 48) hx hb dX10_addWord_16 (by decide) (fun c9 => absurd c9 (by decide)) (fun _ => ?_)
  refine lv_aload_n hx hb dX10_addWord_19 rfl (lv_at hl 1 rfl) ?_
  refine va_get (D := D) (ci := 13) (v := .ref q2) (C := RX10) (T := TX10) (N := 6) hx hb hts i_c_X10_addWord4_X10 hown hK hP 0 rfl rfl 0 (by decide) (hts (.fieldLink RX10 9 "ChanceWorks$Tape" "bytes" "[B") (List.mem_of_getElem? (i := 2) rfl)) (fun _ h9 => h9) rfl dX10_addWord_20 ?_
  refine lv_aload_n hx hb dX10_addWord_23 rfl (lv_at hl 1 rfl) ?_
  refine va_get (D := D) (ci := 13) (v := .int 5) (C := RX10) (T := TX10) (N := 6) hx hb hts i_c_X10_addWord4_X10 hown hK hP 0 rfl rfl 1 (by decide) (hts (.fieldLink RX10 31 "ChanceWorks$Tape" "length" "I") (List.mem_of_getElem? (i := 1) rfl)) (fun _ h9 => h9) rfl dX10_addWord_24 ?_
  refine lv_iload_n hx hb dX10_addWord_27 rfl (lv_at hl 2 rfl) ?_
  refine lv_iload_n hx hb dX10_addWord_28 rfl (lv_at hl 0 rfl) ?_
  refine lv_ishr hx hb dX10_addWord_29 ?_
  refine lv_topi (fun v4 e_v4 => ?_)
  obtain ⟨v5, e_v5⟩ : ∃ z : Int32, z = v4.toInt8.toInt32 := ⟨_, rfl⟩
  refine lv_i2b (v := v5) hx hb dX10_addWord_30 e_v5.symm ?_
  refine va_bast hx hb hK hP hD hS 1 1 rfl rfl (by unfold vp_in; decide) dX10_addWord_31 (fun H locs hP hD hS => ?_)
  have hP : va_P D vwCl [(q1, .inr (13, [.ref q2, .int 5, .ref q3, .ref q4, .ref q5, .int 0])), (q2, .inl (cy 1, 240, .inl (upd f3 5 (vp_nar .byte v5))))] H := hP
  have hD : va_D A [(q1, .inr (13, [.ref q2, .int 5, .ref q3, .ref q4, .ref q5, .int 0])), (q2, .inl (cy 1, 240, .inl (upd f3 5 (vp_nar .byte v5))))] := hD
  generalize (upd f3 5 (vp_nar .byte v5)) = f6 at hP hD
  refine lv_aload_n hx hb dX10_addWord_32 rfl (lv_at hl 1 rfl) ?_
  refine lv_dup hx hb dX10_addWord_33 rfl ?_
  refine va_get (D := D) (ci := 13) (v := .int 5) (C := RX10) (T := TX10) (N := 6) hx hb hts i_c_X10_addWord4_X10 hown hK hP 0 rfl rfl 1 (by decide) (hts (.fieldLink RX10 31 "ChanceWorks$Tape" "length" "I") (List.mem_of_getElem? (i := 1) rfl)) (fun _ h9 => h9) rfl dX10_addWord_34 ?_
  refine lv_iconst (v := 1) hx hb dX10_addWord_37 (by decide) ?_
  refine lv_iadd hx hb dX10_addWord_38 ?_
  rw [show (5 : Int32) + 1 = 6 by decide]
  refine va_put (D := D) (ci := 13) (v := .int 6) (ty := .int) (C := RX10) (T := TX10) (N := 6) hx hb hts i_c_X10_addWord4_X10 tyX10 tyX10_ok nmX10 hown hK hP hD hS 0 rfl rfl 1 (by decide) (hts (.fieldLink RX10 31 "ChanceWorks$Tape" "length" "I") (List.mem_of_getElem? (i := 1) rfl)) (fun _ h9 => h9) rfl (by decide +kernel) rfl rfl (Nat.le_of_ble_eq_true rfl) dX10_addWord_39 (fun H locs hP hD hS => ?_)
  have hP : va_P D vwCl [(q1, .inr (13, [.ref q2, .int 6, .ref q3, .ref q4, .ref q5, .int 0])), (q2, .inl (cy 1, 240, .inl f6))] H := hP
  have hD : va_D A [(q1, .inr (13, [.ref q2, .int 6, .ref q3, .ref q4, .ref q5, .int 0])), (q2, .inl (cy 1, 240, .inl f6))] := hD
  refine lv_iinc (v := 8) (lv' := [(2, .int 8), (0, .ref q1), (1, .int p1)]) hx hb dX10_addWord_42 hl (k := 0) rfl (by decide) (by decide) rfl (fun ls hl => ?_)
  refine lv_goto (tgt := 3) hx hb dX10_addWord_45 (by decide) ?_
  refine lv_iload_n hx hb dX10_addWord_3 rfl (lv_at hl 0 rfl) ?_
  refine lv_if_lt (tgt := 48) hx hb dX10_addWord_4 (by decide) (fun c9 => absurd c9 (by decide)) (fun _ => ?_)
  refine lv_aload_n hx hb dX10_addWord_7 rfl (lv_at hl 1 rfl) ?_
  refine va_get (D := D) (ci := 13) (v := .int 6) (C := RX10) (T := TX10) (N := 6) hx hb hts i_c_X10_addWord4_X10 hown hK hP 0 rfl rfl 1 (by decide) (hts (.fieldLink RX10 31 "ChanceWorks$Tape" "length" "I") (List.mem_of_getElem? (i := 1) rfl)) (fun _ h9 => h9) rfl dX10_addWord_8 ?_
  refine lv_aload_n hx hb dX10_addWord_11 rfl (lv_at hl 1 rfl) ?_
  refine va_get (D := D) (ci := 13) (v := .ref q2) (C := RX10) (T := TX10) (N := 6) hx hb hts i_c_X10_addWord4_X10 hown hK hP 0 rfl rfl 0 (by decide) (hts (.fieldLink RX10 9 "ChanceWorks$Tape" "bytes" "[B") (List.mem_of_getElem? (i := 2) rfl)) (fun _ h9 => h9) rfl dX10_addWord_12 ?_
  refine va_alen (v := 240) hx hb hK hP 1 1 rfl rfl rfl dX10_addWord_15 ?_
  refine lv_icmp_ge (tgt := 48) hx hb dX10_addWord_16 (by decide) (fun c9 => absurd c9 (by decide)) (fun _ => ?_)
  refine lv_aload_n hx hb dX10_addWord_19 rfl (lv_at hl 1 rfl) ?_
  refine va_get (D := D) (ci := 13) (v := .ref q2) (C := RX10) (T := TX10) (N := 6) hx hb hts i_c_X10_addWord4_X10 hown hK hP 0 rfl rfl 0 (by decide) (hts (.fieldLink RX10 9 "ChanceWorks$Tape" "bytes" "[B") (List.mem_of_getElem? (i := 2) rfl)) (fun _ h9 => h9) rfl dX10_addWord_20 ?_
  refine lv_aload_n hx hb dX10_addWord_23 rfl (lv_at hl 1 rfl) ?_
  refine va_get (D := D) (ci := 13) (v := .int 6) (C := RX10) (T := TX10) (N := 6) hx hb hts i_c_X10_addWord4_X10 hown hK hP 0 rfl rfl 1 (by decide) (hts (.fieldLink RX10 31 "ChanceWorks$Tape" "length" "I") (List.mem_of_getElem? (i := 1) rfl)) (fun _ h9 => h9) rfl dX10_addWord_24 ?_
  refine lv_iload_n hx hb dX10_addWord_27 rfl (lv_at hl 2 rfl) ?_
  refine lv_iload_n hx hb dX10_addWord_28 rfl (lv_at hl 0 rfl) ?_
  refine lv_ishr hx hb dX10_addWord_29 ?_
  refine lv_topi (fun v7 e_v7 => ?_)
  obtain ⟨v8, e_v8⟩ : ∃ z : Int32, z = v7.toInt8.toInt32 := ⟨_, rfl⟩
  refine lv_i2b (v := v8) hx hb dX10_addWord_30 e_v8.symm ?_
  refine va_bast hx hb hK hP hD hS 1 1 rfl rfl (by unfold vp_in; decide) dX10_addWord_31 (fun H locs hP hD hS => ?_)
  have hP : va_P D vwCl [(q1, .inr (13, [.ref q2, .int 6, .ref q3, .ref q4, .ref q5, .int 0])), (q2, .inl (cy 1, 240, .inl (upd f6 6 (vp_nar .byte v8))))] H := hP
  have hD : va_D A [(q1, .inr (13, [.ref q2, .int 6, .ref q3, .ref q4, .ref q5, .int 0])), (q2, .inl (cy 1, 240, .inl (upd f6 6 (vp_nar .byte v8))))] := hD
  generalize (upd f6 6 (vp_nar .byte v8)) = f9 at hP hD
  refine lv_aload_n hx hb dX10_addWord_32 rfl (lv_at hl 1 rfl) ?_
  refine lv_dup hx hb dX10_addWord_33 rfl ?_
  refine va_get (D := D) (ci := 13) (v := .int 6) (C := RX10) (T := TX10) (N := 6) hx hb hts i_c_X10_addWord4_X10 hown hK hP 0 rfl rfl 1 (by decide) (hts (.fieldLink RX10 31 "ChanceWorks$Tape" "length" "I") (List.mem_of_getElem? (i := 1) rfl)) (fun _ h9 => h9) rfl dX10_addWord_34 ?_
  refine lv_iconst (v := 1) hx hb dX10_addWord_37 (by decide) ?_
  refine lv_iadd hx hb dX10_addWord_38 ?_
  rw [show (6 : Int32) + 1 = 7 by decide]
  refine va_put (D := D) (ci := 13) (v := .int 7) (ty := .int) (C := RX10) (T := TX10) (N := 6) hx hb hts i_c_X10_addWord4_X10 tyX10 tyX10_ok nmX10 hown hK hP hD hS 0 rfl rfl 1 (by decide) (hts (.fieldLink RX10 31 "ChanceWorks$Tape" "length" "I") (List.mem_of_getElem? (i := 1) rfl)) (fun _ h9 => h9) rfl (by decide +kernel) rfl rfl (Nat.le_of_ble_eq_true rfl) dX10_addWord_39 (fun H locs hP hD hS => ?_)
  have hP : va_P D vwCl [(q1, .inr (13, [.ref q2, .int 7, .ref q3, .ref q4, .ref q5, .int 0])), (q2, .inl (cy 1, 240, .inl f9))] H := hP
  have hD : va_D A [(q1, .inr (13, [.ref q2, .int 7, .ref q3, .ref q4, .ref q5, .int 0])), (q2, .inl (cy 1, 240, .inl f9))] := hD
  refine lv_iinc (v := 0) (lv' := [(2, .int 0), (0, .ref q1), (1, .int p1)]) hx hb dX10_addWord_42 hl (k := 0) rfl (by decide) (by decide) rfl (fun ls hl => ?_)
  refine lv_goto (tgt := 3) hx hb dX10_addWord_45 (by decide) ?_
  refine lv_iload_n hx hb dX10_addWord_3 rfl (lv_at hl 0 rfl) ?_
  refine lv_if_lt (tgt := 48) hx hb dX10_addWord_4 (by decide) (fun c9 => absurd c9 (by decide)) (fun _ => ?_)
  refine lv_aload_n hx hb dX10_addWord_7 rfl (lv_at hl 1 rfl) ?_
  refine va_get (D := D) (ci := 13) (v := .int 7) (C := RX10) (T := TX10) (N := 6) hx hb hts i_c_X10_addWord4_X10 hown hK hP 0 rfl rfl 1 (by decide) (hts (.fieldLink RX10 31 "ChanceWorks$Tape" "length" "I") (List.mem_of_getElem? (i := 1) rfl)) (fun _ h9 => h9) rfl dX10_addWord_8 ?_
  refine lv_aload_n hx hb dX10_addWord_11 rfl (lv_at hl 1 rfl) ?_
  refine va_get (D := D) (ci := 13) (v := .ref q2) (C := RX10) (T := TX10) (N := 6) hx hb hts i_c_X10_addWord4_X10 hown hK hP 0 rfl rfl 0 (by decide) (hts (.fieldLink RX10 9 "ChanceWorks$Tape" "bytes" "[B") (List.mem_of_getElem? (i := 2) rfl)) (fun _ h9 => h9) rfl dX10_addWord_12 ?_
  refine va_alen (v := 240) hx hb hK hP 1 1 rfl rfl rfl dX10_addWord_15 ?_
  refine lv_icmp_ge (tgt := 48) hx hb dX10_addWord_16 (by decide) (fun c9 => absurd c9 (by decide)) (fun _ => ?_)
  refine lv_aload_n hx hb dX10_addWord_19 rfl (lv_at hl 1 rfl) ?_
  refine va_get (D := D) (ci := 13) (v := .ref q2) (C := RX10) (T := TX10) (N := 6) hx hb hts i_c_X10_addWord4_X10 hown hK hP 0 rfl rfl 0 (by decide) (hts (.fieldLink RX10 9 "ChanceWorks$Tape" "bytes" "[B") (List.mem_of_getElem? (i := 2) rfl)) (fun _ h9 => h9) rfl dX10_addWord_20 ?_
  refine lv_aload_n hx hb dX10_addWord_23 rfl (lv_at hl 1 rfl) ?_
  refine va_get (D := D) (ci := 13) (v := .int 7) (C := RX10) (T := TX10) (N := 6) hx hb hts i_c_X10_addWord4_X10 hown hK hP 0 rfl rfl 1 (by decide) (hts (.fieldLink RX10 31 "ChanceWorks$Tape" "length" "I") (List.mem_of_getElem? (i := 1) rfl)) (fun _ h9 => h9) rfl dX10_addWord_24 ?_
  refine lv_iload_n hx hb dX10_addWord_27 rfl (lv_at hl 2 rfl) ?_
  refine lv_iload_n hx hb dX10_addWord_28 rfl (lv_at hl 0 rfl) ?_
  refine lv_ishr hx hb dX10_addWord_29 ?_
  refine lv_topi (fun v10 e_v10 => ?_)
  obtain ⟨v11, e_v11⟩ : ∃ z : Int32, z = v10.toInt8.toInt32 := ⟨_, rfl⟩
  refine lv_i2b (v := v11) hx hb dX10_addWord_30 e_v11.symm ?_
  refine va_bast hx hb hK hP hD hS 1 1 rfl rfl (by unfold vp_in; decide) dX10_addWord_31 (fun H locs hP hD hS => ?_)
  have hP : va_P D vwCl [(q1, .inr (13, [.ref q2, .int 7, .ref q3, .ref q4, .ref q5, .int 0])), (q2, .inl (cy 1, 240, .inl (upd f9 7 (vp_nar .byte v11))))] H := hP
  have hD : va_D A [(q1, .inr (13, [.ref q2, .int 7, .ref q3, .ref q4, .ref q5, .int 0])), (q2, .inl (cy 1, 240, .inl (upd f9 7 (vp_nar .byte v11))))] := hD
  generalize (upd f9 7 (vp_nar .byte v11)) = f12 at hP hD
  refine lv_aload_n hx hb dX10_addWord_32 rfl (lv_at hl 1 rfl) ?_
  refine lv_dup hx hb dX10_addWord_33 rfl ?_
  refine va_get (D := D) (ci := 13) (v := .int 7) (C := RX10) (T := TX10) (N := 6) hx hb hts i_c_X10_addWord4_X10 hown hK hP 0 rfl rfl 1 (by decide) (hts (.fieldLink RX10 31 "ChanceWorks$Tape" "length" "I") (List.mem_of_getElem? (i := 1) rfl)) (fun _ h9 => h9) rfl dX10_addWord_34 ?_
  refine lv_iconst (v := 1) hx hb dX10_addWord_37 (by decide) ?_
  refine lv_iadd hx hb dX10_addWord_38 ?_
  rw [show (7 : Int32) + 1 = 8 by decide]
  refine va_put (D := D) (ci := 13) (v := .int 8) (ty := .int) (C := RX10) (T := TX10) (N := 6) hx hb hts i_c_X10_addWord4_X10 tyX10 tyX10_ok nmX10 hown hK hP hD hS 0 rfl rfl 1 (by decide) (hts (.fieldLink RX10 31 "ChanceWorks$Tape" "length" "I") (List.mem_of_getElem? (i := 1) rfl)) (fun _ h9 => h9) rfl (by decide +kernel) rfl rfl (Nat.le_of_ble_eq_true rfl) dX10_addWord_39 (fun H locs hP hD hS => ?_)
  have hP : va_P D vwCl [(q1, .inr (13, [.ref q2, .int 8, .ref q3, .ref q4, .ref q5, .int 0])), (q2, .inl (cy 1, 240, .inl f12))] H := hP
  have hD : va_D A [(q1, .inr (13, [.ref q2, .int 8, .ref q3, .ref q4, .ref q5, .int 0])), (q2, .inl (cy 1, 240, .inl f12))] := hD
  refine lv_iinc (v := (-8)) (lv' := [(2, .int (-8)), (0, .ref q1), (1, .int p1)]) hx hb dX10_addWord_42 hl (k := 0) rfl (by decide) (by decide) rfl (fun ls hl => ?_)
  refine lv_goto (tgt := 3) hx hb dX10_addWord_45 (by decide) ?_
  refine lv_iload_n hx hb dX10_addWord_3 rfl (lv_at hl 0 rfl) ?_
  refine lv_if_lt (tgt := 48) hx hb dX10_addWord_4 (by decide) (fun _ => ?_) (fun c9 => absurd (by decide) c9)
  refine W.widen (k := 0) (n := 0) (Nat.le_of_ble_eq_true rfl) (Nat.le_of_ble_eq_true rfl) ?_
  exact W.vret hx hb hr (fun t ht hW => ⟨⟨(), rfl, trivial, f12, by rw [ht]; exact hP, hD⟩, hS.F ht⟩) hS.2.2 dX10_addWord_48
def wq_c_X10_addWord8 : List Cond := .code yX10_addWord cX10_addWord 3 none :: ([.fieldLink RX10 31 "ChanceWorks$Tape" "length" "I", .fieldLink RX10 9 "ChanceWorks$Tape" "bytes" "[B"] ++ (u_ws RX10 TX10 6))
theorem i_c_X10_addWord8_X10 : ∀ w ∈ u_ws RX10 TX10 6, w ∈ wq_c_X10_addWord8 := fun w h => List.mem_cons_of_mem _ (List.mem_append_right _ (h))
set_option maxHeartbeats 4000000 in
set_option maxRecDepth 100000 in
theorem c_X10_addWord8 (l : Launch) (D : va_G) (cy : Nat → ClassId) (q1 q2 q3 q4 q5 : Nat) (p1 : Int32) (f0 : Nat → Int32) (sz : Nat) : Met l yX10_addWord wq_c_X10_addWord8 ({ frames := 0, cells := 0, slots := 0, locals := 0 }) (va_Pc [.ref q1, .int p1] (fun U => U.heap.size = sz ∧ va_P D vwCl [(q1, .inr (13, [.ref q2, .int 8, .ref q3, .ref q4, .ref q5, .int 0])), (q2, .inl (cy 1, 240, .inl f0))] U.heap ∧ kK D cy U ∧ va_D (fun _ => True) [(q1, .inr (13, [.ref q2, .int 8, .ref q3, .ref q4, .ref q5, .int 0])), (q2, .inl (cy 1, 240, .inl f0))])) (va_Qv (fun (_ : Unit) => (True)) (fun _ t => ∃ (f12 : Nat → Int32), va_P D vwCl [(q1, .inr (13, [.ref q2, .int 12, .ref q3, .ref q4, .ref q5, .int 0])), (q2, .inl (cy 1, 240, .inl f12))] t.heap ∧ va_D (va_A [(q1, .inr (13, [.ref q2, .int 8, .ref q3, .ref q4, .ref q5, .int 0])), (q2, .inl (cy 1, 240, .inl f0))] sz) [(q1, .inr (13, [.ref q2, .int 12, .ref q3, .ref q4, .ref q5, .int 0])), (q2, .inl (cy 1, 240, .inl f12))]) (va_A [(q1, .inr (13, [.ref q2, .int 8, .ref q3, .ref q4, .ref q5, .int 0])), (q2, .inl (cy 1, 240, .inl f0))] sz)) 0 0 (va_A [(q1, .inr (13, [.ref q2, .int 8, .ref q3, .ref q4, .ref q5, .int 0])), (q2, .inl (cy 1, 240, .inl f0))] sz) := by
  refine Met.ofW (cc := cX10_addWord) (maxL := 3) (ret := none) (by decide) rfl ?_
  intro p e s m args below meth c s₁ B hml hv
  obtain ⟨rfl, hsz, hP, hKK, hD0⟩ := hv
  have hK := hKK.1
  have hx := B.exec
  have hb := B.bytes
  have hr := B.returns
  have hts := atoms_spec (ws := wq_c_X10_addWord8) B.pre
  have hown : s.vm.findClass RX10 = some m.cls := findClass_of_methodNamed B.named
  have hlocks := B.notSynchronized
  subst hsz
  have hD := hD0.self (sz := s.heap.size)
  generalize hAe : va_A [(q1, .inr (13, [.ref q2, .int 8, .ref q3, .ref q4, .ref q5, .int 0])), (q2, .inl (cy 1, 240, .inl f0))] s.heap.size = A at hD ⊢
  have hA : ∀ q : Nat, s.heap.size ≤ q → A q := fun q h => by rw [← hAe]; exact Or.inr h
  obtain ⟨H, hS, hP, hgo⟩ : ∃ H, va_S A s.heap H [] ∧ va_P D vwCl [(q1, .inr (13, [.ref q2, .int 8, .ref q3, .ref q4, .ref q5, .int 0])), (q2, .inl (cy 1, 240, .inl f0))] H ∧ H = s.heap := ⟨s.heap, va_S.rf, hP, rfl⟩
  rw [← hgo]
  have hl := lv_entry ([.ref q1, .int p1]) (n := 3) (Nat.le_of_ble_eq_true rfl)
  rw [lg_entry_eq]
  generalize (lg_sl ([.ref q1, .int p1]) ++ List.replicate (3 - (lg_sl ([.ref q1, .int p1])).length) Slot.unset).toArray = ls at hl ⊢
  have hl : lv_has ls 3 [(0, .ref q1), (1, .int p1)] := hl
  refine lv_bipush (v := 24) hx hb dX10_addWord_0 (by decide) ?_
  refine lv_istore_n (lv' := [(2, .int 24), (0, .ref q1), (1, .int p1)]) hx hb dX10_addWord_2 rfl hl (by decide) rfl (fun ls hl => ?_)
  refine lv_iload_n hx hb dX10_addWord_3 rfl (lv_at hl 0 rfl) ?_
  refine lv_if_lt (tgt := 48) hx hb dX10_addWord_4 (by decide) (fun c9 => absurd c9 (by decide)) (fun _ => ?_)
  refine lv_aload_n hx hb dX10_addWord_7 rfl (lv_at hl 1 rfl) ?_
  refine va_get (D := D) (ci := 13) (v := .int 8) (C := RX10) (T := TX10) (N := 6) hx hb hts i_c_X10_addWord8_X10 hown hK hP 0 rfl rfl 1 (by decide) (hts (.fieldLink RX10 31 "ChanceWorks$Tape" "length" "I") (List.mem_of_getElem? (i := 1) rfl)) (fun _ h9 => h9) rfl dX10_addWord_8 ?_
  refine lv_aload_n hx hb dX10_addWord_11 rfl (lv_at hl 1 rfl) ?_
  refine va_get (D := D) (ci := 13) (v := .ref q2) (C := RX10) (T := TX10) (N := 6) hx hb hts i_c_X10_addWord8_X10 hown hK hP 0 rfl rfl 0 (by decide) (hts (.fieldLink RX10 9 "ChanceWorks$Tape" "bytes" "[B") (List.mem_of_getElem? (i := 2) rfl)) (fun _ h9 => h9) rfl dX10_addWord_12 ?_
  refine va_alen (v := 240) hx hb hK hP 1 1 rfl rfl rfl dX10_addWord_15 ?_
  refine lv_icmp_ge (tgt := 48) hx hb dX10_addWord_16 (by decide) (fun c9 => absurd c9 (by decide)) (fun _ => ?_)
  refine lv_aload_n hx hb dX10_addWord_19 rfl (lv_at hl 1 rfl) ?_
  refine va_get (D := D) (ci := 13) (v := .ref q2) (C := RX10) (T := TX10) (N := 6) hx hb hts i_c_X10_addWord8_X10 hown hK hP 0 rfl rfl 0 (by decide) (hts (.fieldLink RX10 9 "ChanceWorks$Tape" "bytes" "[B") (List.mem_of_getElem? (i := 2) rfl)) (fun _ h9 => h9) rfl dX10_addWord_20 ?_
  refine lv_aload_n hx hb dX10_addWord_23 rfl (lv_at hl 1 rfl) ?_
  refine va_get (D := D) (ci := 13) (v := .int 8) (C := RX10) (T := TX10) (N := 6) hx hb hts i_c_X10_addWord8_X10 hown hK hP 0 rfl rfl 1 (by decide) (hts (.fieldLink RX10 31 "ChanceWorks$Tape" "length" "I") (List.mem_of_getElem? (i := 1) rfl)) (fun _ h9 => h9) rfl dX10_addWord_24 ?_
  refine lv_iload_n hx hb dX10_addWord_27 rfl (lv_at hl 2 rfl) ?_
  refine lv_iload_n hx hb dX10_addWord_28 rfl (lv_at hl 0 rfl) ?_
  refine lv_ishr hx hb dX10_addWord_29 ?_
  refine lv_topi (fun v1 e_v1 => ?_)
  obtain ⟨v2, e_v2⟩ : ∃ z : Int32, z = v1.toInt8.toInt32 := ⟨_, rfl⟩
  refine lv_i2b (v := v2) hx hb dX10_addWord_30 e_v2.symm ?_
  refine va_bast hx hb hK hP hD hS 1 1 rfl rfl (by unfold vp_in; decide) dX10_addWord_31 (fun H locs hP hD hS => ?_)
  have hP : va_P D vwCl [(q1, .inr (13, [.ref q2, .int 8, .ref q3, .ref q4, .ref q5, .int 0])), (q2, .inl (cy 1, 240, .inl (upd f0 8 (vp_nar .byte v2))))] H := hP
  have hD : va_D A [(q1, .inr (13, [.ref q2, .int 8, .ref q3, .ref q4, .ref q5, .int 0])), (q2, .inl (cy 1, 240, .inl (upd f0 8 (vp_nar .byte v2))))] := hD
  generalize (upd f0 8 (vp_nar .byte v2)) = f3 at hP hD
  refine lv_aload_n hx hb dX10_addWord_32 rfl (lv_at hl 1 rfl) ?_
  refine lv_dup hx hb dX10_addWord_33 rfl ?_
  refine va_get (D := D) (ci := 13) (v := .int 8) (C := RX10) (T := TX10) (N := 6) hx hb hts i_c_X10_addWord8_X10 hown hK hP 0 rfl rfl 1 (by decide) (hts (.fieldLink RX10 31 "ChanceWorks$Tape" "length" "I") (List.mem_of_getElem? (i := 1) rfl)) (fun _ h9 => h9) rfl dX10_addWord_34 ?_
  refine lv_iconst (v := 1) hx hb dX10_addWord_37 (by decide) ?_
  refine lv_iadd hx hb dX10_addWord_38 ?_
  rw [show (8 : Int32) + 1 = 9 by decide]
  refine va_put (D := D) (ci := 13) (v := .int 9) (ty := .int) (C := RX10) (T := TX10) (N := 6) hx hb hts i_c_X10_addWord8_X10 tyX10 tyX10_ok nmX10 hown hK hP hD hS 0 rfl rfl 1 (by decide) (hts (.fieldLink RX10 31 "ChanceWorks$Tape" "length" "I") (List.mem_of_getElem? (i := 1) rfl)) (fun _ h9 => h9) rfl (by decide +kernel) rfl rfl (Nat.le_of_ble_eq_true rfl) dX10_addWord_39 (fun H locs hP hD hS => ?_)
  have hP : va_P D vwCl [(q1, .inr (13, [.ref q2, .int 9, .ref q3, .ref q4, .ref q5, .int 0])), (q2, .inl (cy 1, 240, .inl f3))] H := hP
  have hD : va_D A [(q1, .inr (13, [.ref q2, .int 9, .ref q3, .ref q4, .ref q5, .int 0])), (q2, .inl (cy 1, 240, .inl f3))] := hD
  refine lv_iinc (v := 16) (lv' := [(2, .int 16), (0, .ref q1), (1, .int p1)]) hx hb dX10_addWord_42 hl (k := 0) rfl (by decide) (by decide) rfl (fun ls hl => ?_)
  refine lv_goto (tgt := 3) hx hb dX10_addWord_45 (by decide) ?_
  refine lv_iload_n hx hb dX10_addWord_3 rfl (lv_at hl 0 rfl) ?_
  refine lv_if_lt (tgt := 48) hx hb dX10_addWord_4 (by decide) (fun c9 => absurd c9 (by decide)) (fun _ => ?_)
  refine lv_aload_n hx hb dX10_addWord_7 rfl (lv_at hl 1 rfl) ?_
  refine va_get (D := D) (ci := 13) (v := .int 9) (C := RX10) (T := TX10) (N := 6) hx hb hts i_c_X10_addWord8_X10 hown hK hP 0 rfl rfl 1 (by decide) (hts (.fieldLink RX10 31 "ChanceWorks$Tape" "length" "I") (List.mem_of_getElem? (i := 1) rfl)) (fun _ h9 => h9) rfl dX10_addWord_8 ?_
  refine lv_aload_n hx hb dX10_addWord_11 rfl (lv_at hl 1 rfl) ?_
  refine va_get (D := D) (ci := 13) (v := .ref q2) (C := RX10) (T := TX10) (N := 6) hx hb hts i_c_X10_addWord8_X10 hown hK hP 0 rfl rfl 0 (by decide) (hts (.fieldLink RX10 9 "ChanceWorks$Tape" "bytes" "[B") (List.mem_of_getElem? (i := 2) rfl)) (fun _ h9 => h9) rfl dX10_addWord_12 ?_
  refine va_alen (v := 240) hx hb hK hP 1 1 rfl rfl rfl dX10_addWord_15 ?_
  refine lv_icmp_ge (tgt := 48) hx hb dX10_addWord_16 (by decide) (fun c9 => absurd c9 (by decide)) (fun _ => ?_)
  refine lv_aload_n hx hb dX10_addWord_19 rfl (lv_at hl 1 rfl) ?_
  refine va_get (D := D) (ci := 13) (v := .ref q2) (C := RX10) (T := TX10) (N := 6) hx hb hts i_c_X10_addWord8_X10 hown hK hP 0 rfl rfl 0 (by decide) (hts (.fieldLink RX10 9 "ChanceWorks$Tape" "bytes" "[B") (List.mem_of_getElem? (i := 2) rfl)) (fun _ h9 => h9) rfl dX10_addWord_20 ?_
  refine lv_aload_n hx hb dX10_addWord_23 rfl (lv_at hl 1 rfl) ?_
  refine va_get (D := D) (ci := 13) (v := .int 9) (C := RX10) (T := TX10) (N := 6) hx hb hts i_c_X10_addWord8_X10 hown hK hP 0 rfl rfl 1 (by decide) (hts (.fieldLink RX10 31 "ChanceWorks$Tape" "length" "I") (List.mem_of_getElem? (i := 1) rfl)) (fun _ h9 => h9) rfl dX10_addWord_24 ?_
  refine lv_iload_n hx hb dX10_addWord_27 rfl (lv_at hl 2 rfl) ?_
  refine lv_iload_n hx hb dX10_addWord_28 rfl (lv_at hl 0 rfl) ?_
  refine lv_ishr hx hb dX10_addWord_29 ?_
  refine lv_topi (fun v4 e_v4 => ?_)
  obtain ⟨v5, e_v5⟩ : ∃ z : Int32, z = v4.toInt8.toInt32 := ⟨_, rfl⟩
  refine lv_i2b (v := v5) hx hb dX10_addWord_30 e_v5.symm ?_
  refine va_bast hx hb hK hP hD hS 1 1 rfl rfl (by unfold vp_in; decide) dX10_addWord_31 (fun H locs hP hD hS => ?_)
  have hP : va_P D vwCl [(q1, .inr (13, [.ref q2, .int 9, .ref q3, .ref q4, .ref q5, .int 0])), (q2, .inl (cy 1, 240, .inl (upd f3 9 (vp_nar .byte v5))))] H := hP
  have hD : va_D A [(q1, .inr (13, [.ref q2, .int 9, .ref q3, .ref q4, .ref q5, .int 0])), (q2, .inl (cy 1, 240, .inl (upd f3 9 (vp_nar .byte v5))))] := hD
  generalize (upd f3 9 (vp_nar .byte v5)) = f6 at hP hD
  refine lv_aload_n hx hb dX10_addWord_32 rfl (lv_at hl 1 rfl) ?_
  refine lv_dup hx hb dX10_addWord_33 rfl ?_
  refine va_get (D := D) (ci := 13) (v := .int 9) (C := RX10) (T := TX10) (N := 6) hx hb hts i_c_X10_addWord8_X10 hown hK hP 0 rfl rfl 1 (by decide) (hts (.fieldLink RX10 31 "ChanceWorks$Tape" "length" "I") (List.mem_of_getElem? (i := 1) rfl)) (fun _ h9 => h9) rfl dX10_addWord_34 ?_
  refine lv_iconst (v := 1) hx hb dX10_addWord_37 (by decide) ?_
  refine lv_iadd hx hb dX10_addWord_38 ?_
  rw [show (9 : Int32) + 1 = 10 by decide]
  refine va_put (D := D) (ci := 13) (v := .int 10) (ty := .int) (C := RX10) (T := TX10) (N := 6) hx hb hts i_c_X10_addWord8_X10 tyX10 tyX10_ok nmX10 hown hK hP hD hS 0 rfl rfl 1 (by decide) (hts (.fieldLink RX10 31 "ChanceWorks$Tape" "length" "I") (List.mem_of_getElem? (i := 1) rfl)) (fun _ h9 => h9) rfl (by decide +kernel) rfl rfl (Nat.le_of_ble_eq_true rfl) dX10_addWord_39 (fun H locs hP hD hS => ?_)
  have hP : va_P D vwCl [(q1, .inr (13, [.ref q2, .int 10, .ref q3, .ref q4, .ref q5, .int 0])), (q2, .inl (cy 1, 240, .inl f6))] H := hP
  have hD : va_D A [(q1, .inr (13, [.ref q2, .int 10, .ref q3, .ref q4, .ref q5, .int 0])), (q2, .inl (cy 1, 240, .inl f6))] := hD
  refine lv_iinc (v := 8) (lv' := [(2, .int 8), (0, .ref q1), (1, .int p1)]) hx hb dX10_addWord_42 hl (k := 0) rfl (by decide) (by decide) rfl (fun ls hl => ?_)
  refine lv_goto (tgt := 3) hx hb dX10_addWord_45 (by decide) ?_
  refine lv_iload_n hx hb dX10_addWord_3 rfl (lv_at hl 0 rfl) ?_
  refine lv_if_lt (tgt := 48) hx hb dX10_addWord_4 (by decide) (fun c9 => absurd c9 (by decide)) (fun _ => ?_)
  refine lv_aload_n hx hb dX10_addWord_7 rfl (lv_at hl 1 rfl) ?_
  refine va_get (D := D) (ci := 13) (v := .int 10) (C := RX10) (T := TX10) (N := 6) hx hb hts i_c_X10_addWord8_X10 hown hK hP 0 rfl rfl 1 (by decide) (hts (.fieldLink RX10 31 "ChanceWorks$Tape" "length" "I") (List.mem_of_getElem? (i := 1) rfl)) (fun _ h9 => h9) rfl dX10_addWord_8 ?_
  refine lv_aload_n hx hb dX10_addWord_11 rfl (lv_at hl 1 rfl) ?_
  refine va_get (D := D) (ci := 13) (v := .ref q2) (C := RX10) (T := TX10) (N := 6) hx hb hts i_c_X10_addWord8_X10 hown hK hP 0 rfl rfl 0 (by decide) (hts (.fieldLink RX10 9 "ChanceWorks$Tape" "bytes" "[B") (List.mem_of_getElem? (i := 2) rfl)) (fun _ h9 => h9) rfl dX10_addWord_12 ?_
  refine va_alen (v := 240) hx hb hK hP 1 1 rfl rfl rfl dX10_addWord_15 ?_
  refine lv_icmp_ge (tgt := 48) hx hb dX10_addWord_16 (by decide) (fun c9 => absurd c9 (by decide)) (fun _ => ?_)
  refine lv_aload_n hx hb dX10_addWord_19 rfl (lv_at hl 1 rfl) ?_
  refine va_get (D := D) (ci := 13) (v := .ref q2) (C := RX10) (T := TX10) (N := 6) hx hb hts i_c_X10_addWord8_X10 hown hK hP 0 rfl rfl 0 (by decide) (hts (.fieldLink RX10 9 "ChanceWorks$Tape" "bytes" "[B") (List.mem_of_getElem? (i := 2) rfl)) (fun _ h9 => h9) rfl dX10_addWord_20 ?_
  refine lv_aload_n hx hb dX10_addWord_23 rfl (lv_at hl 1 rfl) ?_
  refine va_get (D := D) (ci := 13) (v := .int 10) (C := RX10) (T := TX10) (N := 6) hx hb hts i_c_X10_addWord8_X10 hown hK hP 0 rfl rfl 1 (by decide) (hts (.fieldLink RX10 31 "ChanceWorks$Tape" "length" "I") (List.mem_of_getElem? (i := 1) rfl)) (fun _ h9 => h9) rfl dX10_addWord_24 ?_
  refine lv_iload_n hx hb dX10_addWord_27 rfl (lv_at hl 2 rfl) ?_
  refine lv_iload_n hx hb dX10_addWord_28 rfl (lv_at hl 0 rfl) ?_
  refine lv_ishr hx hb dX10_addWord_29 ?_
  refine lv_topi (fun v7 e_v7 => ?_)
  obtain ⟨v8, e_v8⟩ : ∃ z : Int32, z = v7.toInt8.toInt32 := ⟨_, rfl⟩
  refine lv_i2b (v := v8) hx hb dX10_addWord_30 e_v8.symm ?_
  refine va_bast hx hb hK hP hD hS 1 1 rfl rfl (by unfold vp_in; decide) dX10_addWord_31 (fun H locs hP hD hS => ?_)
  have hP : va_P D vwCl [(q1, .inr (13, [.ref q2, .int 10, .ref q3, .ref q4, .ref q5, .int 0])), (q2, .inl (cy 1, 240, .inl (upd f6 10 (vp_nar .byte v8))))] H := hP
  have hD : va_D A [(q1, .inr (13, [.ref q2, .int 10, .ref q3, .ref q4, .ref q5, .int 0])), (q2, .inl (cy 1, 240, .inl (upd f6 10 (vp_nar .byte v8))))] := hD
  generalize (upd f6 10 (vp_nar .byte v8)) = f9 at hP hD
  refine lv_aload_n hx hb dX10_addWord_32 rfl (lv_at hl 1 rfl) ?_
  refine lv_dup hx hb dX10_addWord_33 rfl ?_
  refine va_get (D := D) (ci := 13) (v := .int 10) (C := RX10) (T := TX10) (N := 6) hx hb hts i_c_X10_addWord8_X10 hown hK hP 0 rfl rfl 1 (by decide) (hts (.fieldLink RX10 31 "ChanceWorks$Tape" "length" "I") (List.mem_of_getElem? (i := 1) rfl)) (fun _ h9 => h9) rfl dX10_addWord_34 ?_
  refine lv_iconst (v := 1) hx hb dX10_addWord_37 (by decide) ?_
  refine lv_iadd hx hb dX10_addWord_38 ?_
  rw [show (10 : Int32) + 1 = 11 by decide]
  refine va_put (D := D) (ci := 13) (v := .int 11) (ty := .int) (C := RX10) (T := TX10) (N := 6) hx hb hts i_c_X10_addWord8_X10 tyX10 tyX10_ok nmX10 hown hK hP hD hS 0 rfl rfl 1 (by decide) (hts (.fieldLink RX10 31 "ChanceWorks$Tape" "length" "I") (List.mem_of_getElem? (i := 1) rfl)) (fun _ h9 => h9) rfl (by decide +kernel) rfl rfl (Nat.le_of_ble_eq_true rfl) dX10_addWord_39 (fun H locs hP hD hS => ?_)
  have hP : va_P D vwCl [(q1, .inr (13, [.ref q2, .int 11, .ref q3, .ref q4, .ref q5, .int 0])), (q2, .inl (cy 1, 240, .inl f9))] H := hP
  have hD : va_D A [(q1, .inr (13, [.ref q2, .int 11, .ref q3, .ref q4, .ref q5, .int 0])), (q2, .inl (cy 1, 240, .inl f9))] := hD
  refine lv_iinc (v := 0) (lv' := [(2, .int 0), (0, .ref q1), (1, .int p1)]) hx hb dX10_addWord_42 hl (k := 0) rfl (by decide) (by decide) rfl (fun ls hl => ?_)
  refine lv_goto (tgt := 3) hx hb dX10_addWord_45 (by decide) ?_
  refine lv_iload_n hx hb dX10_addWord_3 rfl (lv_at hl 0 rfl) ?_
  refine lv_if_lt (tgt := 48) hx hb dX10_addWord_4 (by decide) (fun c9 => absurd c9 (by decide)) (fun _ => ?_)
  refine lv_aload_n hx hb dX10_addWord_7 rfl (lv_at hl 1 rfl) ?_
  refine va_get (D := D) (ci := 13) (v := .int 11) (C := RX10) (T := TX10) (N := 6) hx hb hts i_c_X10_addWord8_X10 hown hK hP 0 rfl rfl 1 (by decide) (hts (.fieldLink RX10 31 "ChanceWorks$Tape" "length" "I") (List.mem_of_getElem? (i := 1) rfl)) (fun _ h9 => h9) rfl dX10_addWord_8 ?_
  refine lv_aload_n hx hb dX10_addWord_11 rfl (lv_at hl 1 rfl) ?_
  refine va_get (D := D) (ci := 13) (v := .ref q2) (C := RX10) (T := TX10) (N := 6) hx hb hts i_c_X10_addWord8_X10 hown hK hP 0 rfl rfl 0 (by decide) (hts (.fieldLink RX10 9 "ChanceWorks$Tape" "bytes" "[B") (List.mem_of_getElem? (i := 2) rfl)) (fun _ h9 => h9) rfl dX10_addWord_12 ?_
  refine va_alen (v := 240) hx hb hK hP 1 1 rfl rfl rfl dX10_addWord_15 ?_
  refine lv_icmp_ge (tgt := 48) hx hb dX10_addWord_16 (by decide) (fun c9 => absurd c9 (by decide)) (fun _ => ?_)
  refine lv_aload_n hx hb dX10_addWord_19 rfl (lv_at hl 1 rfl) ?_
  refine va_get (D := D) (ci := 13) (v := .ref q2) (C := RX10) (T := TX10) (N := 6) hx hb hts i_c_X10_addWord8_X10 hown hK hP 0 rfl rfl 0 (by decide) (hts (.fieldLink RX10 9 "ChanceWorks$Tape" "bytes" "[B") (List.mem_of_getElem? (i := 2) rfl)) (fun _ h9 => h9) rfl dX10_addWord_20 ?_
  refine lv_aload_n hx hb dX10_addWord_23 rfl (lv_at hl 1 rfl) ?_
  refine va_get (D := D) (ci := 13) (v := .int 11) (C := RX10) (T := TX10) (N := 6) hx hb hts i_c_X10_addWord8_X10 hown hK hP 0 rfl rfl 1 (by decide) (hts (.fieldLink RX10 31 "ChanceWorks$Tape" "length" "I") (List.mem_of_getElem? (i := 1) rfl)) (fun _ h9 => h9) rfl dX10_addWord_24 ?_
  refine lv_iload_n hx hb dX10_addWord_27 rfl (lv_at hl 2 rfl) ?_
  refine lv_iload_n hx hb dX10_addWord_28 rfl (lv_at hl 0 rfl) ?_
  refine lv_ishr hx hb dX10_addWord_29 ?_
  refine lv_topi (fun v10 e_v10 => ?_)
  obtain ⟨v11, e_v11⟩ : ∃ z : Int32, z = v10.toInt8.toInt32 := ⟨_, rfl⟩
  refine lv_i2b (v := v11) hx hb dX10_addWord_30 e_v11.symm ?_
  refine va_bast hx hb hK hP hD hS 1 1 rfl rfl (by unfold vp_in; decide) dX10_addWord_31 (fun H locs hP hD hS => ?_)
  have hP : va_P D vwCl [(q1, .inr (13, [.ref q2, .int 11, .ref q3, .ref q4, .ref q5, .int 0])), (q2, .inl (cy 1, 240, .inl (upd f9 11 (vp_nar .byte v11))))] H := hP
  have hD : va_D A [(q1, .inr (13, [.ref q2, .int 11, .ref q3, .ref q4, .ref q5, .int 0])), (q2, .inl (cy 1, 240, .inl (upd f9 11 (vp_nar .byte v11))))] := hD
  generalize (upd f9 11 (vp_nar .byte v11)) = f12 at hP hD
  refine lv_aload_n hx hb dX10_addWord_32 rfl (lv_at hl 1 rfl) ?_
  refine lv_dup hx hb dX10_addWord_33 rfl ?_
  refine va_get (D := D) (ci := 13) (v := .int 11) (C := RX10) (T := TX10) (N := 6) hx hb hts i_c_X10_addWord8_X10 hown hK hP 0 rfl rfl 1 (by decide) (hts (.fieldLink RX10 31 "ChanceWorks$Tape" "length" "I") (List.mem_of_getElem? (i := 1) rfl)) (fun _ h9 => h9) rfl dX10_addWord_34 ?_
  refine lv_iconst (v := 1) hx hb dX10_addWord_37 (by decide) ?_
  refine lv_iadd hx hb dX10_addWord_38 ?_
  rw [show (11 : Int32) + 1 = 12 by decide]
  refine va_put (D := D) (ci := 13) (v := .int 12) (ty := .int) (C := RX10) (T := TX10) (N := 6) hx hb hts i_c_X10_addWord8_X10 tyX10 tyX10_ok nmX10 hown hK hP hD hS 0 rfl rfl 1 (by decide) (hts (.fieldLink RX10 31 "ChanceWorks$Tape" "length" "I") (List.mem_of_getElem? (i := 1) rfl)) (fun _ h9 => h9) rfl (by decide +kernel) rfl rfl (Nat.le_of_ble_eq_true rfl) dX10_addWord_39 (fun H locs hP hD hS => ?_)
  have hP : va_P D vwCl [(q1, .inr (13, [.ref q2, .int 12, .ref q3, .ref q4, .ref q5, .int 0])), (q2, .inl (cy 1, 240, .inl f12))] H := hP
  have hD : va_D A [(q1, .inr (13, [.ref q2, .int 12, .ref q3, .ref q4, .ref q5, .int 0])), (q2, .inl (cy 1, 240, .inl f12))] := hD
  refine lv_iinc (v := (-8)) (lv' := [(2, .int (-8)), (0, .ref q1), (1, .int p1)]) hx hb dX10_addWord_42 hl (k := 0) rfl (by decide) (by decide) rfl (fun ls hl => ?_)
  refine lv_goto (tgt := 3) hx hb dX10_addWord_45 (by decide) ?_
  refine lv_iload_n hx hb dX10_addWord_3 rfl (lv_at hl 0 rfl) ?_
  refine lv_if_lt (tgt := 48) hx hb dX10_addWord_4 (by decide) (fun _ => ?_) (fun c9 => absurd (by decide) c9)
  refine W.widen (k := 0) (n := 0) (Nat.le_of_ble_eq_true rfl) (Nat.le_of_ble_eq_true rfl) ?_
  exact W.vret hx hb hr (fun t ht hW => ⟨⟨(), rfl, trivial, f12, by rw [ht]; exact hP, hD⟩, hS.F ht⟩) hS.2.2 dX10_addWord_48
def wq_c_X10_addWord12 : List Cond := .code yX10_addWord cX10_addWord 3 none :: ([.fieldLink RX10 31 "ChanceWorks$Tape" "length" "I", .fieldLink RX10 9 "ChanceWorks$Tape" "bytes" "[B"] ++ (u_ws RX10 TX10 6))
theorem i_c_X10_addWord12_X10 : ∀ w ∈ u_ws RX10 TX10 6, w ∈ wq_c_X10_addWord12 := fun w h => List.mem_cons_of_mem _ (List.mem_append_right _ (h))
set_option maxHeartbeats 4000000 in
set_option maxRecDepth 100000 in
theorem c_X10_addWord12 (l : Launch) (D : va_G) (cy : Nat → ClassId) (q1 q2 q3 q4 q5 : Nat) (p1 : Int32) (f0 : Nat → Int32) (sz : Nat) : Met l yX10_addWord wq_c_X10_addWord12 ({ frames := 0, cells := 0, slots := 0, locals := 0 }) (va_Pc [.ref q1, .int p1] (fun U => U.heap.size = sz ∧ va_P D vwCl [(q1, .inr (13, [.ref q2, .int 12, .ref q3, .ref q4, .ref q5, .int 0])), (q2, .inl (cy 1, 240, .inl f0))] U.heap ∧ kK D cy U ∧ va_D (fun _ => True) [(q1, .inr (13, [.ref q2, .int 12, .ref q3, .ref q4, .ref q5, .int 0])), (q2, .inl (cy 1, 240, .inl f0))])) (va_Qv (fun (_ : Unit) => (True)) (fun _ t => ∃ (f12 : Nat → Int32), va_P D vwCl [(q1, .inr (13, [.ref q2, .int 16, .ref q3, .ref q4, .ref q5, .int 0])), (q2, .inl (cy 1, 240, .inl f12))] t.heap ∧ va_D (va_A [(q1, .inr (13, [.ref q2, .int 12, .ref q3, .ref q4, .ref q5, .int 0])), (q2, .inl (cy 1, 240, .inl f0))] sz) [(q1, .inr (13, [.ref q2, .int 16, .ref q3, .ref q4, .ref q5, .int 0])), (q2, .inl (cy 1, 240, .inl f12))]) (va_A [(q1, .inr (13, [.ref q2, .int 12, .ref q3, .ref q4, .ref q5, .int 0])), (q2, .inl (cy 1, 240, .inl f0))] sz)) 0 0 (va_A [(q1, .inr (13, [.ref q2, .int 12, .ref q3, .ref q4, .ref q5, .int 0])), (q2, .inl (cy 1, 240, .inl f0))] sz) := by
  refine Met.ofW (cc := cX10_addWord) (maxL := 3) (ret := none) (by decide) rfl ?_
  intro p e s m args below meth c s₁ B hml hv
  obtain ⟨rfl, hsz, hP, hKK, hD0⟩ := hv
  have hK := hKK.1
  have hx := B.exec
  have hb := B.bytes
  have hr := B.returns
  have hts := atoms_spec (ws := wq_c_X10_addWord12) B.pre
  have hown : s.vm.findClass RX10 = some m.cls := findClass_of_methodNamed B.named
  have hlocks := B.notSynchronized
  subst hsz
  have hD := hD0.self (sz := s.heap.size)
  generalize hAe : va_A [(q1, .inr (13, [.ref q2, .int 12, .ref q3, .ref q4, .ref q5, .int 0])), (q2, .inl (cy 1, 240, .inl f0))] s.heap.size = A at hD ⊢
  have hA : ∀ q : Nat, s.heap.size ≤ q → A q := fun q h => by rw [← hAe]; exact Or.inr h
  obtain ⟨H, hS, hP, hgo⟩ : ∃ H, va_S A s.heap H [] ∧ va_P D vwCl [(q1, .inr (13, [.ref q2, .int 12, .ref q3, .ref q4, .ref q5, .int 0])), (q2, .inl (cy 1, 240, .inl f0))] H ∧ H = s.heap := ⟨s.heap, va_S.rf, hP, rfl⟩
  rw [← hgo]
  have hl := lv_entry ([.ref q1, .int p1]) (n := 3) (Nat.le_of_ble_eq_true rfl)
  rw [lg_entry_eq]
  generalize (lg_sl ([.ref q1, .int p1]) ++ List.replicate (3 - (lg_sl ([.ref q1, .int p1])).length) Slot.unset).toArray = ls at hl ⊢
  have hl : lv_has ls 3 [(0, .ref q1), (1, .int p1)] := hl
  refine lv_bipush (v := 24) hx hb dX10_addWord_0 (by decide) ?_
  refine lv_istore_n (lv' := [(2, .int 24), (0, .ref q1), (1, .int p1)]) hx hb dX10_addWord_2 rfl hl (by decide) rfl (fun ls hl => ?_)
  refine lv_iload_n hx hb dX10_addWord_3 rfl (lv_at hl 0 rfl) ?_
  refine lv_if_lt (tgt := 48) hx hb dX10_addWord_4 (by decide) (fun c9 => absurd c9 (by decide)) (fun _ => ?_)
  refine lv_aload_n hx hb dX10_addWord_7 rfl (lv_at hl 1 rfl) ?_
  refine va_get (D := D) (ci := 13) (v := .int 12) (C := RX10) (T := TX10) (N := 6) hx hb hts i_c_X10_addWord12_X10 hown hK hP 0 rfl rfl 1 (by decide) (hts (.fieldLink RX10 31 "ChanceWorks$Tape" "length" "I") (List.mem_of_getElem? (i := 1) rfl)) (fun _ h9 => h9) rfl dX10_addWord_8 ?_
  refine lv_aload_n hx hb dX10_addWord_11 rfl (lv_at hl 1 rfl) ?_
  refine va_get (D := D) (ci := 13) (v := .ref q2) (C := RX10) (T := TX10) (N := 6) hx hb hts i_c_X10_addWord12_X10 hown hK hP 0 rfl rfl 0 (by decide) (hts (.fieldLink RX10 9 "ChanceWorks$Tape" "bytes" "[B") (List.mem_of_getElem? (i := 2) rfl)) (fun _ h9 => h9) rfl dX10_addWord_12 ?_
  refine va_alen (v := 240) hx hb hK hP 1 1 rfl rfl rfl dX10_addWord_15 ?_
  refine lv_icmp_ge (tgt := 48) hx hb dX10_addWord_16 (by decide) (fun c9 => absurd c9 (by decide)) (fun _ => ?_)
  refine lv_aload_n hx hb dX10_addWord_19 rfl (lv_at hl 1 rfl) ?_
  refine va_get (D := D) (ci := 13) (v := .ref q2) (C := RX10) (T := TX10) (N := 6) hx hb hts i_c_X10_addWord12_X10 hown hK hP 0 rfl rfl 0 (by decide) (hts (.fieldLink RX10 9 "ChanceWorks$Tape" "bytes" "[B") (List.mem_of_getElem? (i := 2) rfl)) (fun _ h9 => h9) rfl dX10_addWord_20 ?_
  refine lv_aload_n hx hb dX10_addWord_23 rfl (lv_at hl 1 rfl) ?_
  refine va_get (D := D) (ci := 13) (v := .int 12) (C := RX10) (T := TX10) (N := 6) hx hb hts i_c_X10_addWord12_X10 hown hK hP 0 rfl rfl 1 (by decide) (hts (.fieldLink RX10 31 "ChanceWorks$Tape" "length" "I") (List.mem_of_getElem? (i := 1) rfl)) (fun _ h9 => h9) rfl dX10_addWord_24 ?_
  refine lv_iload_n hx hb dX10_addWord_27 rfl (lv_at hl 2 rfl) ?_
  refine lv_iload_n hx hb dX10_addWord_28 rfl (lv_at hl 0 rfl) ?_
  refine lv_ishr hx hb dX10_addWord_29 ?_
  refine lv_topi (fun v1 e_v1 => ?_)
  obtain ⟨v2, e_v2⟩ : ∃ z : Int32, z = v1.toInt8.toInt32 := ⟨_, rfl⟩
  refine lv_i2b (v := v2) hx hb dX10_addWord_30 e_v2.symm ?_
  refine va_bast hx hb hK hP hD hS 1 1 rfl rfl (by unfold vp_in; decide) dX10_addWord_31 (fun H locs hP hD hS => ?_)
  have hP : va_P D vwCl [(q1, .inr (13, [.ref q2, .int 12, .ref q3, .ref q4, .ref q5, .int 0])), (q2, .inl (cy 1, 240, .inl (upd f0 12 (vp_nar .byte v2))))] H := hP
  have hD : va_D A [(q1, .inr (13, [.ref q2, .int 12, .ref q3, .ref q4, .ref q5, .int 0])), (q2, .inl (cy 1, 240, .inl (upd f0 12 (vp_nar .byte v2))))] := hD
  generalize (upd f0 12 (vp_nar .byte v2)) = f3 at hP hD
  refine lv_aload_n hx hb dX10_addWord_32 rfl (lv_at hl 1 rfl) ?_
  refine lv_dup hx hb dX10_addWord_33 rfl ?_
  refine va_get (D := D) (ci := 13) (v := .int 12) (C := RX10) (T := TX10) (N := 6) hx hb hts i_c_X10_addWord12_X10 hown hK hP 0 rfl rfl 1 (by decide) (hts (.fieldLink RX10 31 "ChanceWorks$Tape" "length" "I") (List.mem_of_getElem? (i := 1) rfl)) (fun _ h9 => h9) rfl dX10_addWord_34 ?_
  refine lv_iconst (v := 1) hx hb dX10_addWord_37 (by decide) ?_
  refine lv_iadd hx hb dX10_addWord_38 ?_
  rw [show (12 : Int32) + 1 = 13 by decide]
  refine va_put (D := D) (ci := 13) (v := .int 13) (ty := .int) (C := RX10) (T := TX10) (N := 6) hx hb hts i_c_X10_addWord12_X10 tyX10 tyX10_ok nmX10 hown hK hP hD hS 0 rfl rfl 1 (by decide) (hts (.fieldLink RX10 31 "ChanceWorks$Tape" "length" "I") (List.mem_of_getElem? (i := 1) rfl)) (fun _ h9 => h9) rfl (by decide +kernel) rfl rfl (Nat.le_of_ble_eq_true rfl) dX10_addWord_39 (fun H locs hP hD hS => ?_)
  have hP : va_P D vwCl [(q1, .inr (13, [.ref q2, .int 13, .ref q3, .ref q4, .ref q5, .int 0])), (q2, .inl (cy 1, 240, .inl f3))] H := hP
  have hD : va_D A [(q1, .inr (13, [.ref q2, .int 13, .ref q3, .ref q4, .ref q5, .int 0])), (q2, .inl (cy 1, 240, .inl f3))] := hD
  refine lv_iinc (v := 16) (lv' := [(2, .int 16), (0, .ref q1), (1, .int p1)]) hx hb dX10_addWord_42 hl (k := 0) rfl (by decide) (by decide) rfl (fun ls hl => ?_)
  refine lv_goto (tgt := 3) hx hb dX10_addWord_45 (by decide) ?_
  refine lv_iload_n hx hb dX10_addWord_3 rfl (lv_at hl 0 rfl) ?_
  refine lv_if_lt (tgt := 48) hx hb dX10_addWord_4 (by decide) (fun c9 => absurd c9 (by decide)) (fun _ => ?_)
  refine lv_aload_n hx hb dX10_addWord_7 rfl (lv_at hl 1 rfl) ?_
  refine va_get (D := D) (ci := 13) (v := .int 13) (C := RX10) (T := TX10) (N := 6) hx hb hts i_c_X10_addWord12_X10 hown hK hP 0 rfl rfl 1 (by decide) (hts (.fieldLink RX10 31 "ChanceWorks$Tape" "length" "I") (List.mem_of_getElem? (i := 1) rfl)) (fun _ h9 => h9) rfl dX10_addWord_8 ?_
  refine lv_aload_n hx hb dX10_addWord_11 rfl (lv_at hl 1 rfl) ?_
  refine va_get (D := D) (ci := 13) (v := .ref q2) (C := RX10) (T := TX10) (N := 6) hx hb hts i_c_X10_addWord12_X10 hown hK hP 0 rfl rfl 0 (by decide) (hts (.fieldLink RX10 9 "ChanceWorks$Tape" "bytes" "[B") (List.mem_of_getElem? (i := 2) rfl)) (fun _ h9 => h9) rfl dX10_addWord_12 ?_
  refine va_alen (v := 240) hx hb hK hP 1 1 rfl rfl rfl dX10_addWord_15 ?_
  refine lv_icmp_ge (tgt := 48) hx hb dX10_addWord_16 (by decide) (fun c9 => absurd c9 (by decide)) (fun _ => ?_)
  refine lv_aload_n hx hb dX10_addWord_19 rfl (lv_at hl 1 rfl) ?_
  refine va_get (D := D) (ci := 13) (v := .ref q2) (C := RX10) (T := TX10) (N := 6) hx hb hts i_c_X10_addWord12_X10 hown hK hP 0 rfl rfl 0 (by decide) (hts (.fieldLink RX10 9 "ChanceWorks$Tape" "bytes" "[B") (List.mem_of_getElem? (i := 2) rfl)) (fun _ h9 => h9) rfl dX10_addWord_20 ?_
  refine lv_aload_n hx hb dX10_addWord_23 rfl (lv_at hl 1 rfl) ?_
  refine va_get (D := D) (ci := 13) (v := .int 13) (C := RX10) (T := TX10) (N := 6) hx hb hts i_c_X10_addWord12_X10 hown hK hP 0 rfl rfl 1 (by decide) (hts (.fieldLink RX10 31 "ChanceWorks$Tape" "length" "I") (List.mem_of_getElem? (i := 1) rfl)) (fun _ h9 => h9) rfl dX10_addWord_24 ?_
  refine lv_iload_n hx hb dX10_addWord_27 rfl (lv_at hl 2 rfl) ?_
  refine lv_iload_n hx hb dX10_addWord_28 rfl (lv_at hl 0 rfl) ?_
  refine lv_ishr hx hb dX10_addWord_29 ?_
  refine lv_topi (fun v4 e_v4 => ?_)
  obtain ⟨v5, e_v5⟩ : ∃ z : Int32, z = v4.toInt8.toInt32 := ⟨_, rfl⟩
  refine lv_i2b (v := v5) hx hb dX10_addWord_30 e_v5.symm ?_
  refine va_bast hx hb hK hP hD hS 1 1 rfl rfl (by unfold vp_in; decide) dX10_addWord_31 (fun H locs hP hD hS => ?_)
  have hP : va_P D vwCl [(q1, .inr (13, [.ref q2, .int 13, .ref q3, .ref q4, .ref q5, .int 0])), (q2, .inl (cy 1, 240, .inl (upd f3 13 (vp_nar .byte v5))))] H := hP
  have hD : va_D A [(q1, .inr (13, [.ref q2, .int 13, .ref q3, .ref q4, .ref q5, .int 0])), (q2, .inl (cy 1, 240, .inl (upd f3 13 (vp_nar .byte v5))))] := hD
  generalize (upd f3 13 (vp_nar .byte v5)) = f6 at hP hD
  refine lv_aload_n hx hb dX10_addWord_32 rfl (lv_at hl 1 rfl) ?_
  refine lv_dup hx hb dX10_addWord_33 rfl ?_
  refine va_get (D := D) (ci := 13) (v := .int 13) (C := RX10) (T := TX10) (N := 6) hx hb hts i_c_X10_addWord12_X10 hown hK hP 0 rfl rfl 1 (by decide) (hts (.fieldLink RX10 31 "ChanceWorks$Tape" "length" "I") (List.mem_of_getElem? (i := 1) rfl)) (fun _ h9 => h9) rfl dX10_addWord_34 ?_
  refine lv_iconst (v := 1) hx hb dX10_addWord_37 (by decide) ?_
  refine lv_iadd hx hb dX10_addWord_38 ?_
  rw [show (13 : Int32) + 1 = 14 by decide]
  refine va_put (D := D) (ci := 13) (v := .int 14) (ty := .int) (C := RX10) (T := TX10) (N := 6) hx hb hts i_c_X10_addWord12_X10 tyX10 tyX10_ok nmX10 hown hK hP hD hS 0 rfl rfl 1 (by decide) (hts (.fieldLink RX10 31 "ChanceWorks$Tape" "length" "I") (List.mem_of_getElem? (i := 1) rfl)) (fun _ h9 => h9) rfl (by decide +kernel) rfl rfl (Nat.le_of_ble_eq_true rfl) dX10_addWord_39 (fun H locs hP hD hS => ?_)
  have hP : va_P D vwCl [(q1, .inr (13, [.ref q2, .int 14, .ref q3, .ref q4, .ref q5, .int 0])), (q2, .inl (cy 1, 240, .inl f6))] H := hP
  have hD : va_D A [(q1, .inr (13, [.ref q2, .int 14, .ref q3, .ref q4, .ref q5, .int 0])), (q2, .inl (cy 1, 240, .inl f6))] := hD
  refine lv_iinc (v := 8) (lv' := [(2, .int 8), (0, .ref q1), (1, .int p1)]) hx hb dX10_addWord_42 hl (k := 0) rfl (by decide) (by decide) rfl (fun ls hl => ?_)
  refine lv_goto (tgt := 3) hx hb dX10_addWord_45 (by decide) ?_
  refine lv_iload_n hx hb dX10_addWord_3 rfl (lv_at hl 0 rfl) ?_
  refine lv_if_lt (tgt := 48) hx hb dX10_addWord_4 (by decide) (fun c9 => absurd c9 (by decide)) (fun _ => ?_)
  refine lv_aload_n hx hb dX10_addWord_7 rfl (lv_at hl 1 rfl) ?_
  refine va_get (D := D) (ci := 13) (v := .int 14) (C := RX10) (T := TX10) (N := 6) hx hb hts i_c_X10_addWord12_X10 hown hK hP 0 rfl rfl 1 (by decide) (hts (.fieldLink RX10 31 "ChanceWorks$Tape" "length" "I") (List.mem_of_getElem? (i := 1) rfl)) (fun _ h9 => h9) rfl dX10_addWord_8 ?_
  refine lv_aload_n hx hb dX10_addWord_11 rfl (lv_at hl 1 rfl) ?_
  refine va_get (D := D) (ci := 13) (v := .ref q2) (C := RX10) (T := TX10) (N := 6) hx hb hts i_c_X10_addWord12_X10 hown hK hP 0 rfl rfl 0 (by decide) (hts (.fieldLink RX10 9 "ChanceWorks$Tape" "bytes" "[B") (List.mem_of_getElem? (i := 2) rfl)) (fun _ h9 => h9) rfl dX10_addWord_12 ?_
  refine va_alen (v := 240) hx hb hK hP 1 1 rfl rfl rfl dX10_addWord_15 ?_
  refine lv_icmp_ge (tgt := 48) hx hb dX10_addWord_16 (by decide) (fun c9 => absurd c9 (by decide)) (fun _ => ?_)
  refine lv_aload_n hx hb dX10_addWord_19 rfl (lv_at hl 1 rfl) ?_
  refine va_get (D := D) (ci := 13) (v := .ref q2) (C := RX10) (T := TX10) (N := 6) hx hb hts i_c_X10_addWord12_X10 hown hK hP 0 rfl rfl 0 (by decide) (hts (.fieldLink RX10 9 "ChanceWorks$Tape" "bytes" "[B") (List.mem_of_getElem? (i := 2) rfl)) (fun _ h9 => h9) rfl dX10_addWord_20 ?_
  refine lv_aload_n hx hb dX10_addWord_23 rfl (lv_at hl 1 rfl) ?_
  refine va_get (D := D) (ci := 13) (v := .int 14) (C := RX10) (T := TX10) (N := 6) hx hb hts i_c_X10_addWord12_X10 hown hK hP 0 rfl rfl 1 (by decide) (hts (.fieldLink RX10 31 "ChanceWorks$Tape" "length" "I") (List.mem_of_getElem? (i := 1) rfl)) (fun _ h9 => h9) rfl dX10_addWord_24 ?_
  refine lv_iload_n hx hb dX10_addWord_27 rfl (lv_at hl 2 rfl) ?_
  refine lv_iload_n hx hb dX10_addWord_28 rfl (lv_at hl 0 rfl) ?_
  refine lv_ishr hx hb dX10_addWord_29 ?_
  refine lv_topi (fun v7 e_v7 => ?_)
  obtain ⟨v8, e_v8⟩ : ∃ z : Int32, z = v7.toInt8.toInt32 := ⟨_, rfl⟩
  refine lv_i2b (v := v8) hx hb dX10_addWord_30 e_v8.symm ?_
  refine va_bast hx hb hK hP hD hS 1 1 rfl rfl (by unfold vp_in; decide) dX10_addWord_31 (fun H locs hP hD hS => ?_)
  have hP : va_P D vwCl [(q1, .inr (13, [.ref q2, .int 14, .ref q3, .ref q4, .ref q5, .int 0])), (q2, .inl (cy 1, 240, .inl (upd f6 14 (vp_nar .byte v8))))] H := hP
  have hD : va_D A [(q1, .inr (13, [.ref q2, .int 14, .ref q3, .ref q4, .ref q5, .int 0])), (q2, .inl (cy 1, 240, .inl (upd f6 14 (vp_nar .byte v8))))] := hD
  generalize (upd f6 14 (vp_nar .byte v8)) = f9 at hP hD
  refine lv_aload_n hx hb dX10_addWord_32 rfl (lv_at hl 1 rfl) ?_
  refine lv_dup hx hb dX10_addWord_33 rfl ?_
  refine va_get (D := D) (ci := 13) (v := .int 14) (C := RX10) (T := TX10) (N := 6) hx hb hts i_c_X10_addWord12_X10 hown hK hP 0 rfl rfl 1 (by decide) (hts (.fieldLink RX10 31 "ChanceWorks$Tape" "length" "I") (List.mem_of_getElem? (i := 1) rfl)) (fun _ h9 => h9) rfl dX10_addWord_34 ?_
  refine lv_iconst (v := 1) hx hb dX10_addWord_37 (by decide) ?_
  refine lv_iadd hx hb dX10_addWord_38 ?_
  rw [show (14 : Int32) + 1 = 15 by decide]
  refine va_put (D := D) (ci := 13) (v := .int 15) (ty := .int) (C := RX10) (T := TX10) (N := 6) hx hb hts i_c_X10_addWord12_X10 tyX10 tyX10_ok nmX10 hown hK hP hD hS 0 rfl rfl 1 (by decide) (hts (.fieldLink RX10 31 "ChanceWorks$Tape" "length" "I") (List.mem_of_getElem? (i := 1) rfl)) (fun _ h9 => h9) rfl (by decide +kernel) rfl rfl (Nat.le_of_ble_eq_true rfl) dX10_addWord_39 (fun H locs hP hD hS => ?_)
  have hP : va_P D vwCl [(q1, .inr (13, [.ref q2, .int 15, .ref q3, .ref q4, .ref q5, .int 0])), (q2, .inl (cy 1, 240, .inl f9))] H := hP
  have hD : va_D A [(q1, .inr (13, [.ref q2, .int 15, .ref q3, .ref q4, .ref q5, .int 0])), (q2, .inl (cy 1, 240, .inl f9))] := hD
  refine lv_iinc (v := 0) (lv' := [(2, .int 0), (0, .ref q1), (1, .int p1)]) hx hb dX10_addWord_42 hl (k := 0) rfl (by decide) (by decide) rfl (fun ls hl => ?_)
  refine lv_goto (tgt := 3) hx hb dX10_addWord_45 (by decide) ?_
  refine lv_iload_n hx hb dX10_addWord_3 rfl (lv_at hl 0 rfl) ?_
  refine lv_if_lt (tgt := 48) hx hb dX10_addWord_4 (by decide) (fun c9 => absurd c9 (by decide)) (fun _ => ?_)
  refine lv_aload_n hx hb dX10_addWord_7 rfl (lv_at hl 1 rfl) ?_
  refine va_get (D := D) (ci := 13) (v := .int 15) (C := RX10) (T := TX10) (N := 6) hx hb hts i_c_X10_addWord12_X10 hown hK hP 0 rfl rfl 1 (by decide) (hts (.fieldLink RX10 31 "ChanceWorks$Tape" "length" "I") (List.mem_of_getElem? (i := 1) rfl)) (fun _ h9 => h9) rfl dX10_addWord_8 ?_
  refine lv_aload_n hx hb dX10_addWord_11 rfl (lv_at hl 1 rfl) ?_
  refine va_get (D := D) (ci := 13) (v := .ref q2) (C := RX10) (T := TX10) (N := 6) hx hb hts i_c_X10_addWord12_X10 hown hK hP 0 rfl rfl 0 (by decide) (hts (.fieldLink RX10 9 "ChanceWorks$Tape" "bytes" "[B") (List.mem_of_getElem? (i := 2) rfl)) (fun _ h9 => h9) rfl dX10_addWord_12 ?_
  refine va_alen (v := 240) hx hb hK hP 1 1 rfl rfl rfl dX10_addWord_15 ?_
  refine lv_icmp_ge (tgt := 48) hx hb dX10_addWord_16 (by decide) (fun c9 => absurd c9 (by decide)) (fun _ => ?_)
  refine lv_aload_n hx hb dX10_addWord_19 rfl (lv_at hl 1 rfl) ?_
  refine va_get (D := D) (ci := 13) (v := .ref q2) (C := RX10) (T := TX10) (N := 6) hx hb hts i_c_X10_addWord12_X10 hown hK hP 0 rfl rfl 0 (by decide) (hts (.fieldLink RX10 9 "ChanceWorks$Tape" "bytes" "[B") (List.mem_of_getElem? (i := 2) rfl)) (fun _ h9 => h9) rfl dX10_addWord_20 ?_
  refine lv_aload_n hx hb dX10_addWord_23 rfl (lv_at hl 1 rfl) ?_
  refine va_get (D := D) (ci := 13) (v := .int 15) (C := RX10) (T := TX10) (N := 6) hx hb hts i_c_X10_addWord12_X10 hown hK hP 0 rfl rfl 1 (by decide) (hts (.fieldLink RX10 31 "ChanceWorks$Tape" "length" "I") (List.mem_of_getElem? (i := 1) rfl)) (fun _ h9 => h9) rfl dX10_addWord_24 ?_
  refine lv_iload_n hx hb dX10_addWord_27 rfl (lv_at hl 2 rfl) ?_
  refine lv_iload_n hx hb dX10_addWord_28 rfl (lv_at hl 0 rfl) ?_
  refine lv_ishr hx hb dX10_addWord_29 ?_
  refine lv_topi (fun v10 e_v10 => ?_)
  obtain ⟨v11, e_v11⟩ : ∃ z : Int32, z = v10.toInt8.toInt32 := ⟨_, rfl⟩
  refine lv_i2b (v := v11) hx hb dX10_addWord_30 e_v11.symm ?_
  refine va_bast hx hb hK hP hD hS 1 1 rfl rfl (by unfold vp_in; decide) dX10_addWord_31 (fun H locs hP hD hS => ?_)
  have hP : va_P D vwCl [(q1, .inr (13, [.ref q2, .int 15, .ref q3, .ref q4, .ref q5, .int 0])), (q2, .inl (cy 1, 240, .inl (upd f9 15 (vp_nar .byte v11))))] H := hP
  have hD : va_D A [(q1, .inr (13, [.ref q2, .int 15, .ref q3, .ref q4, .ref q5, .int 0])), (q2, .inl (cy 1, 240, .inl (upd f9 15 (vp_nar .byte v11))))] := hD
  generalize (upd f9 15 (vp_nar .byte v11)) = f12 at hP hD
  refine lv_aload_n hx hb dX10_addWord_32 rfl (lv_at hl 1 rfl) ?_
  refine lv_dup hx hb dX10_addWord_33 rfl ?_
  refine va_get (D := D) (ci := 13) (v := .int 15) (C := RX10) (T := TX10) (N := 6) hx hb hts i_c_X10_addWord12_X10 hown hK hP 0 rfl rfl 1 (by decide) (hts (.fieldLink RX10 31 "ChanceWorks$Tape" "length" "I") (List.mem_of_getElem? (i := 1) rfl)) (fun _ h9 => h9) rfl dX10_addWord_34 ?_
  refine lv_iconst (v := 1) hx hb dX10_addWord_37 (by decide) ?_
  refine lv_iadd hx hb dX10_addWord_38 ?_
  rw [show (15 : Int32) + 1 = 16 by decide]
  refine va_put (D := D) (ci := 13) (v := .int 16) (ty := .int) (C := RX10) (T := TX10) (N := 6) hx hb hts i_c_X10_addWord12_X10 tyX10 tyX10_ok nmX10 hown hK hP hD hS 0 rfl rfl 1 (by decide) (hts (.fieldLink RX10 31 "ChanceWorks$Tape" "length" "I") (List.mem_of_getElem? (i := 1) rfl)) (fun _ h9 => h9) rfl (by decide +kernel) rfl rfl (Nat.le_of_ble_eq_true rfl) dX10_addWord_39 (fun H locs hP hD hS => ?_)
  have hP : va_P D vwCl [(q1, .inr (13, [.ref q2, .int 16, .ref q3, .ref q4, .ref q5, .int 0])), (q2, .inl (cy 1, 240, .inl f12))] H := hP
  have hD : va_D A [(q1, .inr (13, [.ref q2, .int 16, .ref q3, .ref q4, .ref q5, .int 0])), (q2, .inl (cy 1, 240, .inl f12))] := hD
  refine lv_iinc (v := (-8)) (lv' := [(2, .int (-8)), (0, .ref q1), (1, .int p1)]) hx hb dX10_addWord_42 hl (k := 0) rfl (by decide) (by decide) rfl (fun ls hl => ?_)
  refine lv_goto (tgt := 3) hx hb dX10_addWord_45 (by decide) ?_
  refine lv_iload_n hx hb dX10_addWord_3 rfl (lv_at hl 0 rfl) ?_
  refine lv_if_lt (tgt := 48) hx hb dX10_addWord_4 (by decide) (fun _ => ?_) (fun c9 => absurd (by decide) c9)
  refine W.widen (k := 0) (n := 0) (Nat.le_of_ble_eq_true rfl) (Nat.le_of_ble_eq_true rfl) ?_
  exact W.vret hx hb hr (fun t ht hW => ⟨⟨(), rfl, trivial, f12, by rw [ht]; exact hP, hD⟩, hS.F ht⟩) hS.2.2 dX10_addWord_48
def wq_c_X10_addWord16 : List Cond := .code yX10_addWord cX10_addWord 3 none :: ([.fieldLink RX10 31 "ChanceWorks$Tape" "length" "I", .fieldLink RX10 9 "ChanceWorks$Tape" "bytes" "[B"] ++ (u_ws RX10 TX10 6))
theorem i_c_X10_addWord16_X10 : ∀ w ∈ u_ws RX10 TX10 6, w ∈ wq_c_X10_addWord16 := fun w h => List.mem_cons_of_mem _ (List.mem_append_right _ (h))
set_option maxHeartbeats 4000000 in
set_option maxRecDepth 100000 in
theorem c_X10_addWord16 (l : Launch) (D : va_G) (cy : Nat → ClassId) (q1 q2 q3 q4 q5 : Nat) (p1 : Int32) (f0 : Nat → Int32) (sz : Nat) : Met l yX10_addWord wq_c_X10_addWord16 ({ frames := 0, cells := 0, slots := 0, locals := 0 }) (va_Pc [.ref q1, .int p1] (fun U => U.heap.size = sz ∧ va_P D vwCl [(q1, .inr (13, [.ref q2, .int 16, .ref q3, .ref q4, .ref q5, .int 0])), (q2, .inl (cy 1, 240, .inl f0))] U.heap ∧ kK D cy U ∧ va_D (fun _ => True) [(q1, .inr (13, [.ref q2, .int 16, .ref q3, .ref q4, .ref q5, .int 0])), (q2, .inl (cy 1, 240, .inl f0))])) (va_Qv (fun (_ : Unit) => (True)) (fun _ t => ∃ (f12 : Nat → Int32), va_P D vwCl [(q1, .inr (13, [.ref q2, .int 20, .ref q3, .ref q4, .ref q5, .int 0])), (q2, .inl (cy 1, 240, .inl f12))] t.heap ∧ va_D (va_A [(q1, .inr (13, [.ref q2, .int 16, .ref q3, .ref q4, .ref q5, .int 0])), (q2, .inl (cy 1, 240, .inl f0))] sz) [(q1, .inr (13, [.ref q2, .int 20, .ref q3, .ref q4, .ref q5, .int 0])), (q2, .inl (cy 1, 240, .inl f12))]) (va_A [(q1, .inr (13, [.ref q2, .int 16, .ref q3, .ref q4, .ref q5, .int 0])), (q2, .inl (cy 1, 240, .inl f0))] sz)) 0 0 (va_A [(q1, .inr (13, [.ref q2, .int 16, .ref q3, .ref q4, .ref q5, .int 0])), (q2, .inl (cy 1, 240, .inl f0))] sz) := by
  refine Met.ofW (cc := cX10_addWord) (maxL := 3) (ret := none) (by decide) rfl ?_
  intro p e s m args below meth c s₁ B hml hv
  obtain ⟨rfl, hsz, hP, hKK, hD0⟩ := hv
  have hK := hKK.1
  have hx := B.exec
  have hb := B.bytes
  have hr := B.returns
  have hts := atoms_spec (ws := wq_c_X10_addWord16) B.pre
  have hown : s.vm.findClass RX10 = some m.cls := findClass_of_methodNamed B.named
  have hlocks := B.notSynchronized
  subst hsz
  have hD := hD0.self (sz := s.heap.size)
  generalize hAe : va_A [(q1, .inr (13, [.ref q2, .int 16, .ref q3, .ref q4, .ref q5, .int 0])), (q2, .inl (cy 1, 240, .inl f0))] s.heap.size = A at hD ⊢
  have hA : ∀ q : Nat, s.heap.size ≤ q → A q := fun q h => by rw [← hAe]; exact Or.inr h
  obtain ⟨H, hS, hP, hgo⟩ : ∃ H, va_S A s.heap H [] ∧ va_P D vwCl [(q1, .inr (13, [.ref q2, .int 16, .ref q3, .ref q4, .ref q5, .int 0])), (q2, .inl (cy 1, 240, .inl f0))] H ∧ H = s.heap := ⟨s.heap, va_S.rf, hP, rfl⟩
  rw [← hgo]
  have hl := lv_entry ([.ref q1, .int p1]) (n := 3) (Nat.le_of_ble_eq_true rfl)
  rw [lg_entry_eq]
  generalize (lg_sl ([.ref q1, .int p1]) ++ List.replicate (3 - (lg_sl ([.ref q1, .int p1])).length) Slot.unset).toArray = ls at hl ⊢
  have hl : lv_has ls 3 [(0, .ref q1), (1, .int p1)] := hl
  refine lv_bipush (v := 24) hx hb dX10_addWord_0 (by decide) ?_
  refine lv_istore_n (lv' := [(2, .int 24), (0, .ref q1), (1, .int p1)]) hx hb dX10_addWord_2 rfl hl (by decide) rfl (fun ls hl => ?_)
  refine lv_iload_n hx hb dX10_addWord_3 rfl (lv_at hl 0 rfl) ?_
  refine lv_if_lt (tgt := 48) hx hb dX10_addWord_4 (by decide) (fun c9 => absurd c9 (by decide)) (fun _ => ?_)
  refine lv_aload_n hx hb dX10_addWord_7 rfl (lv_at hl 1 rfl) ?_
  refine va_get (D := D) (ci := 13) (v := .int 16) (C := RX10) (T := TX10) (N := 6) hx hb hts i_c_X10_addWord16_X10 hown hK hP 0 rfl rfl 1 (by decide) (hts (.fieldLink RX10 31 "ChanceWorks$Tape" "length" "I") (List.mem_of_getElem? (i := 1) rfl)) (fun _ h9 => h9) rfl dX10_addWord_8 ?_
  refine lv_aload_n hx hb dX10_addWord_11 rfl (lv_at hl 1 rfl) ?_
  refine va_get (D := D) (ci := 13) (v := .ref q2) (C := RX10) (T := TX10) (N := 6) hx hb hts i_c_X10_addWord16_X10 hown hK hP 0 rfl rfl 0 (by decide) (hts (.fieldLink RX10 9 "ChanceWorks$Tape" "bytes" "[B") (List.mem_of_getElem? (i := 2) rfl)) (fun _ h9 => h9) rfl dX10_addWord_12 ?_
  refine va_alen (v := 240) hx hb hK hP 1 1 rfl rfl rfl dX10_addWord_15 ?_
  refine lv_icmp_ge (tgt := 48) hx hb dX10_addWord_16 (by decide) (fun c9 => absurd c9 (by decide)) (fun _ => ?_)
  refine lv_aload_n hx hb dX10_addWord_19 rfl (lv_at hl 1 rfl) ?_
  refine va_get (D := D) (ci := 13) (v := .ref q2) (C := RX10) (T := TX10) (N := 6) hx hb hts i_c_X10_addWord16_X10 hown hK hP 0 rfl rfl 0 (by decide) (hts (.fieldLink RX10 9 "ChanceWorks$Tape" "bytes" "[B") (List.mem_of_getElem? (i := 2) rfl)) (fun _ h9 => h9) rfl dX10_addWord_20 ?_
  refine lv_aload_n hx hb dX10_addWord_23 rfl (lv_at hl 1 rfl) ?_
  refine va_get (D := D) (ci := 13) (v := .int 16) (C := RX10) (T := TX10) (N := 6) hx hb hts i_c_X10_addWord16_X10 hown hK hP 0 rfl rfl 1 (by decide) (hts (.fieldLink RX10 31 "ChanceWorks$Tape" "length" "I") (List.mem_of_getElem? (i := 1) rfl)) (fun _ h9 => h9) rfl dX10_addWord_24 ?_
  refine lv_iload_n hx hb dX10_addWord_27 rfl (lv_at hl 2 rfl) ?_
  refine lv_iload_n hx hb dX10_addWord_28 rfl (lv_at hl 0 rfl) ?_
  refine lv_ishr hx hb dX10_addWord_29 ?_
  refine lv_topi (fun v1 e_v1 => ?_)
  obtain ⟨v2, e_v2⟩ : ∃ z : Int32, z = v1.toInt8.toInt32 := ⟨_, rfl⟩
  refine lv_i2b (v := v2) hx hb dX10_addWord_30 e_v2.symm ?_
  refine va_bast hx hb hK hP hD hS 1 1 rfl rfl (by unfold vp_in; decide) dX10_addWord_31 (fun H locs hP hD hS => ?_)
  have hP : va_P D vwCl [(q1, .inr (13, [.ref q2, .int 16, .ref q3, .ref q4, .ref q5, .int 0])), (q2, .inl (cy 1, 240, .inl (upd f0 16 (vp_nar .byte v2))))] H := hP
  have hD : va_D A [(q1, .inr (13, [.ref q2, .int 16, .ref q3, .ref q4, .ref q5, .int 0])), (q2, .inl (cy 1, 240, .inl (upd f0 16 (vp_nar .byte v2))))] := hD
  generalize (upd f0 16 (vp_nar .byte v2)) = f3 at hP hD
  refine lv_aload_n hx hb dX10_addWord_32 rfl (lv_at hl 1 rfl) ?_
  refine lv_dup hx hb dX10_addWord_33 rfl ?_
  refine va_get (D := D) (ci := 13) (v := .int 16) (C := RX10) (T := TX10) (N := 6) hx hb hts i_c_X10_addWord16_X10 hown hK hP 0 rfl rfl 1 (by decide) (hts (.fieldLink RX10 31 "ChanceWorks$Tape" "length" "I") (List.mem_of_getElem? (i := 1) rfl)) (fun _ h9 => h9) rfl dX10_addWord_34 ?_
  refine lv_iconst (v := 1) hx hb dX10_addWord_37 (by decide) ?_
  refine lv_iadd hx hb dX10_addWord_38 ?_
  rw [show (16 : Int32) + 1 = 17 by decide]
  refine va_put (D := D) (ci := 13) (v := .int 17) (ty := .int) (C := RX10) (T := TX10) (N := 6) hx hb hts i_c_X10_addWord16_X10 tyX10 tyX10_ok nmX10 hown hK hP hD hS 0 rfl rfl 1 (by decide) (hts (.fieldLink RX10 31 "ChanceWorks$Tape" "length" "I") (List.mem_of_getElem? (i := 1) rfl)) (fun _ h9 => h9) rfl (by decide +kernel) rfl rfl (Nat.le_of_ble_eq_true rfl) dX10_addWord_39 (fun H locs hP hD hS => ?_)
  have hP : va_P D vwCl [(q1, .inr (13, [.ref q2, .int 17, .ref q3, .ref q4, .ref q5, .int 0])), (q2, .inl (cy 1, 240, .inl f3))] H := hP
  have hD : va_D A [(q1, .inr (13, [.ref q2, .int 17, .ref q3, .ref q4, .ref q5, .int 0])), (q2, .inl (cy 1, 240, .inl f3))] := hD
  refine lv_iinc (v := 16) (lv' := [(2, .int 16), (0, .ref q1), (1, .int p1)]) hx hb dX10_addWord_42 hl (k := 0) rfl (by decide) (by decide) rfl (fun ls hl => ?_)
  refine lv_goto (tgt := 3) hx hb dX10_addWord_45 (by decide) ?_
  refine lv_iload_n hx hb dX10_addWord_3 rfl (lv_at hl 0 rfl) ?_
  refine lv_if_lt (tgt := 48) hx hb dX10_addWord_4 (by decide) (fun c9 => absurd c9 (by decide)) (fun _ => ?_)
  refine lv_aload_n hx hb dX10_addWord_7 rfl (lv_at hl 1 rfl) ?_
  refine va_get (D := D) (ci := 13) (v := .int 17) (C := RX10) (T := TX10) (N := 6) hx hb hts i_c_X10_addWord16_X10 hown hK hP 0 rfl rfl 1 (by decide) (hts (.fieldLink RX10 31 "ChanceWorks$Tape" "length" "I") (List.mem_of_getElem? (i := 1) rfl)) (fun _ h9 => h9) rfl dX10_addWord_8 ?_
  refine lv_aload_n hx hb dX10_addWord_11 rfl (lv_at hl 1 rfl) ?_
  refine va_get (D := D) (ci := 13) (v := .ref q2) (C := RX10) (T := TX10) (N := 6) hx hb hts i_c_X10_addWord16_X10 hown hK hP 0 rfl rfl 0 (by decide) (hts (.fieldLink RX10 9 "ChanceWorks$Tape" "bytes" "[B") (List.mem_of_getElem? (i := 2) rfl)) (fun _ h9 => h9) rfl dX10_addWord_12 ?_
  refine va_alen (v := 240) hx hb hK hP 1 1 rfl rfl rfl dX10_addWord_15 ?_
  refine lv_icmp_ge (tgt := 48) hx hb dX10_addWord_16 (by decide) (fun c9 => absurd c9 (by decide)) (fun _ => ?_)
  refine lv_aload_n hx hb dX10_addWord_19 rfl (lv_at hl 1 rfl) ?_
  refine va_get (D := D) (ci := 13) (v := .ref q2) (C := RX10) (T := TX10) (N := 6) hx hb hts i_c_X10_addWord16_X10 hown hK hP 0 rfl rfl 0 (by decide) (hts (.fieldLink RX10 9 "ChanceWorks$Tape" "bytes" "[B") (List.mem_of_getElem? (i := 2) rfl)) (fun _ h9 => h9) rfl dX10_addWord_20 ?_
  refine lv_aload_n hx hb dX10_addWord_23 rfl (lv_at hl 1 rfl) ?_
  refine va_get (D := D) (ci := 13) (v := .int 17) (C := RX10) (T := TX10) (N := 6) hx hb hts i_c_X10_addWord16_X10 hown hK hP 0 rfl rfl 1 (by decide) (hts (.fieldLink RX10 31 "ChanceWorks$Tape" "length" "I") (List.mem_of_getElem? (i := 1) rfl)) (fun _ h9 => h9) rfl dX10_addWord_24 ?_
  refine lv_iload_n hx hb dX10_addWord_27 rfl (lv_at hl 2 rfl) ?_
  refine lv_iload_n hx hb dX10_addWord_28 rfl (lv_at hl 0 rfl) ?_
  refine lv_ishr hx hb dX10_addWord_29 ?_
  refine lv_topi (fun v4 e_v4 => ?_)
  obtain ⟨v5, e_v5⟩ : ∃ z : Int32, z = v4.toInt8.toInt32 := ⟨_, rfl⟩
  refine lv_i2b (v := v5) hx hb dX10_addWord_30 e_v5.symm ?_
  refine va_bast hx hb hK hP hD hS 1 1 rfl rfl (by unfold vp_in; decide) dX10_addWord_31 (fun H locs hP hD hS => ?_)
  have hP : va_P D vwCl [(q1, .inr (13, [.ref q2, .int 17, .ref q3, .ref q4, .ref q5, .int 0])), (q2, .inl (cy 1, 240, .inl (upd f3 17 (vp_nar .byte v5))))] H := hP
  have hD : va_D A [(q1, .inr (13, [.ref q2, .int 17, .ref q3, .ref q4, .ref q5, .int 0])), (q2, .inl (cy 1, 240, .inl (upd f3 17 (vp_nar .byte v5))))] := hD
  generalize (upd f3 17 (vp_nar .byte v5)) = f6 at hP hD
  refine lv_aload_n hx hb dX10_addWord_32 rfl (lv_at hl 1 rfl) ?_
  refine lv_dup hx hb dX10_addWord_33 rfl ?_
  refine va_get (D := D) (ci := 13) (v := .int 17) (C := RX10) (T := TX10) (N := 6) hx hb hts i_c_X10_addWord16_X10 hown hK hP 0 rfl rfl 1 (by decide) (hts (.fieldLink RX10 31 "ChanceWorks$Tape" "length" "I") (List.mem_of_getElem? (i := 1) rfl)) (fun _ h9 => h9) rfl dX10_addWord_34 ?_
  refine lv_iconst (v := 1) hx hb dX10_addWord_37 (by decide) ?_
  refine lv_iadd hx hb dX10_addWord_38 ?_
  rw [show (17 : Int32) + 1 = 18 by decide]
  refine va_put (D := D) (ci := 13) (v := .int 18) (ty := .int) (C := RX10) (T := TX10) (N := 6) hx hb hts i_c_X10_addWord16_X10 tyX10 tyX10_ok nmX10 hown hK hP hD hS 0 rfl rfl 1 (by decide) (hts (.fieldLink RX10 31 "ChanceWorks$Tape" "length" "I") (List.mem_of_getElem? (i := 1) rfl)) (fun _ h9 => h9) rfl (by decide +kernel) rfl rfl (Nat.le_of_ble_eq_true rfl) dX10_addWord_39 (fun H locs hP hD hS => ?_)
  have hP : va_P D vwCl [(q1, .inr (13, [.ref q2, .int 18, .ref q3, .ref q4, .ref q5, .int 0])), (q2, .inl (cy 1, 240, .inl f6))] H := hP
  have hD : va_D A [(q1, .inr (13, [.ref q2, .int 18, .ref q3, .ref q4, .ref q5, .int 0])), (q2, .inl (cy 1, 240, .inl f6))] := hD
  refine lv_iinc (v := 8) (lv' := [(2, .int 8), (0, .ref q1), (1, .int p1)]) hx hb dX10_addWord_42 hl (k := 0) rfl (by decide) (by decide) rfl (fun ls hl => ?_)
  refine lv_goto (tgt := 3) hx hb dX10_addWord_45 (by decide) ?_
  refine lv_iload_n hx hb dX10_addWord_3 rfl (lv_at hl 0 rfl) ?_
  refine lv_if_lt (tgt := 48) hx hb dX10_addWord_4 (by decide) (fun c9 => absurd c9 (by decide)) (fun _ => ?_)
  refine lv_aload_n hx hb dX10_addWord_7 rfl (lv_at hl 1 rfl) ?_
  refine va_get (D := D) (ci := 13) (v := .int 18) (C := RX10) (T := TX10) (N := 6) hx hb hts i_c_X10_addWord16_X10 hown hK hP 0 rfl rfl 1 (by decide) (hts (.fieldLink RX10 31 "ChanceWorks$Tape" "length" "I") (List.mem_of_getElem? (i := 1) rfl)) (fun _ h9 => h9) rfl dX10_addWord_8 ?_
  refine lv_aload_n hx hb dX10_addWord_11 rfl (lv_at hl 1 rfl) ?_
  refine va_get (D := D) (ci := 13) (v := .ref q2) (C := RX10) (T := TX10) (N := 6) hx hb hts i_c_X10_addWord16_X10 hown hK hP 0 rfl rfl 0 (by decide) (hts (.fieldLink RX10 9 "ChanceWorks$Tape" "bytes" "[B") (List.mem_of_getElem? (i := 2) rfl)) (fun _ h9 => h9) rfl dX10_addWord_12 ?_
  refine va_alen (v := 240) hx hb hK hP 1 1 rfl rfl rfl dX10_addWord_15 ?_
  refine lv_icmp_ge (tgt := 48) hx hb dX10_addWord_16 (by decide) (fun c9 => absurd c9 (by decide)) (fun _ => ?_)
  refine lv_aload_n hx hb dX10_addWord_19 rfl (lv_at hl 1 rfl) ?_
  refine va_get (D := D) (ci := 13) (v := .ref q2) (C := RX10) (T := TX10) (N := 6) hx hb hts i_c_X10_addWord16_X10 hown hK hP 0 rfl rfl 0 (by decide) (hts (.fieldLink RX10 9 "ChanceWorks$Tape" "bytes" "[B") (List.mem_of_getElem? (i := 2) rfl)) (fun _ h9 => h9) rfl dX10_addWord_20 ?_
  refine lv_aload_n hx hb dX10_addWord_23 rfl (lv_at hl 1 rfl) ?_
  refine va_get (D := D) (ci := 13) (v := .int 18) (C := RX10) (T := TX10) (N := 6) hx hb hts i_c_X10_addWord16_X10 hown hK hP 0 rfl rfl 1 (by decide) (hts (.fieldLink RX10 31 "ChanceWorks$Tape" "length" "I") (List.mem_of_getElem? (i := 1) rfl)) (fun _ h9 => h9) rfl dX10_addWord_24 ?_
  refine lv_iload_n hx hb dX10_addWord_27 rfl (lv_at hl 2 rfl) ?_
  refine lv_iload_n hx hb dX10_addWord_28 rfl (lv_at hl 0 rfl) ?_
  refine lv_ishr hx hb dX10_addWord_29 ?_
  refine lv_topi (fun v7 e_v7 => ?_)
  obtain ⟨v8, e_v8⟩ : ∃ z : Int32, z = v7.toInt8.toInt32 := ⟨_, rfl⟩
  refine lv_i2b (v := v8) hx hb dX10_addWord_30 e_v8.symm ?_
  refine va_bast hx hb hK hP hD hS 1 1 rfl rfl (by unfold vp_in; decide) dX10_addWord_31 (fun H locs hP hD hS => ?_)
  have hP : va_P D vwCl [(q1, .inr (13, [.ref q2, .int 18, .ref q3, .ref q4, .ref q5, .int 0])), (q2, .inl (cy 1, 240, .inl (upd f6 18 (vp_nar .byte v8))))] H := hP
  have hD : va_D A [(q1, .inr (13, [.ref q2, .int 18, .ref q3, .ref q4, .ref q5, .int 0])), (q2, .inl (cy 1, 240, .inl (upd f6 18 (vp_nar .byte v8))))] := hD
  generalize (upd f6 18 (vp_nar .byte v8)) = f9 at hP hD
  refine lv_aload_n hx hb dX10_addWord_32 rfl (lv_at hl 1 rfl) ?_
  refine lv_dup hx hb dX10_addWord_33 rfl ?_
  refine va_get (D := D) (ci := 13) (v := .int 18) (C := RX10) (T := TX10) (N := 6) hx hb hts i_c_X10_addWord16_X10 hown hK hP 0 rfl rfl 1 (by decide) (hts (.fieldLink RX10 31 "ChanceWorks$Tape" "length" "I") (List.mem_of_getElem? (i := 1) rfl)) (fun _ h9 => h9) rfl dX10_addWord_34 ?_
  refine lv_iconst (v := 1) hx hb dX10_addWord_37 (by decide) ?_
  refine lv_iadd hx hb dX10_addWord_38 ?_
  rw [show (18 : Int32) + 1 = 19 by decide]
  refine va_put (D := D) (ci := 13) (v := .int 19) (ty := .int) (C := RX10) (T := TX10) (N := 6) hx hb hts i_c_X10_addWord16_X10 tyX10 tyX10_ok nmX10 hown hK hP hD hS 0 rfl rfl 1 (by decide) (hts (.fieldLink RX10 31 "ChanceWorks$Tape" "length" "I") (List.mem_of_getElem? (i := 1) rfl)) (fun _ h9 => h9) rfl (by decide +kernel) rfl rfl (Nat.le_of_ble_eq_true rfl) dX10_addWord_39 (fun H locs hP hD hS => ?_)
  have hP : va_P D vwCl [(q1, .inr (13, [.ref q2, .int 19, .ref q3, .ref q4, .ref q5, .int 0])), (q2, .inl (cy 1, 240, .inl f9))] H := hP
  have hD : va_D A [(q1, .inr (13, [.ref q2, .int 19, .ref q3, .ref q4, .ref q5, .int 0])), (q2, .inl (cy 1, 240, .inl f9))] := hD
  refine lv_iinc (v := 0) (lv' := [(2, .int 0), (0, .ref q1), (1, .int p1)]) hx hb dX10_addWord_42 hl (k := 0) rfl (by decide) (by decide) rfl (fun ls hl => ?_)
  refine lv_goto (tgt := 3) hx hb dX10_addWord_45 (by decide) ?_
  refine lv_iload_n hx hb dX10_addWord_3 rfl (lv_at hl 0 rfl) ?_
  refine lv_if_lt (tgt := 48) hx hb dX10_addWord_4 (by decide) (fun c9 => absurd c9 (by decide)) (fun _ => ?_)
  refine lv_aload_n hx hb dX10_addWord_7 rfl (lv_at hl 1 rfl) ?_
  refine va_get (D := D) (ci := 13) (v := .int 19) (C := RX10) (T := TX10) (N := 6) hx hb hts i_c_X10_addWord16_X10 hown hK hP 0 rfl rfl 1 (by decide) (hts (.fieldLink RX10 31 "ChanceWorks$Tape" "length" "I") (List.mem_of_getElem? (i := 1) rfl)) (fun _ h9 => h9) rfl dX10_addWord_8 ?_
  refine lv_aload_n hx hb dX10_addWord_11 rfl (lv_at hl 1 rfl) ?_
  refine va_get (D := D) (ci := 13) (v := .ref q2) (C := RX10) (T := TX10) (N := 6) hx hb hts i_c_X10_addWord16_X10 hown hK hP 0 rfl rfl 0 (by decide) (hts (.fieldLink RX10 9 "ChanceWorks$Tape" "bytes" "[B") (List.mem_of_getElem? (i := 2) rfl)) (fun _ h9 => h9) rfl dX10_addWord_12 ?_
  refine va_alen (v := 240) hx hb hK hP 1 1 rfl rfl rfl dX10_addWord_15 ?_
  refine lv_icmp_ge (tgt := 48) hx hb dX10_addWord_16 (by decide) (fun c9 => absurd c9 (by decide)) (fun _ => ?_)
  refine lv_aload_n hx hb dX10_addWord_19 rfl (lv_at hl 1 rfl) ?_
  refine va_get (D := D) (ci := 13) (v := .ref q2) (C := RX10) (T := TX10) (N := 6) hx hb hts i_c_X10_addWord16_X10 hown hK hP 0 rfl rfl 0 (by decide) (hts (.fieldLink RX10 9 "ChanceWorks$Tape" "bytes" "[B") (List.mem_of_getElem? (i := 2) rfl)) (fun _ h9 => h9) rfl dX10_addWord_20 ?_
  refine lv_aload_n hx hb dX10_addWord_23 rfl (lv_at hl 1 rfl) ?_
  refine va_get (D := D) (ci := 13) (v := .int 19) (C := RX10) (T := TX10) (N := 6) hx hb hts i_c_X10_addWord16_X10 hown hK hP 0 rfl rfl 1 (by decide) (hts (.fieldLink RX10 31 "ChanceWorks$Tape" "length" "I") (List.mem_of_getElem? (i := 1) rfl)) (fun _ h9 => h9) rfl dX10_addWord_24 ?_
  refine lv_iload_n hx hb dX10_addWord_27 rfl (lv_at hl 2 rfl) ?_
  refine lv_iload_n hx hb dX10_addWord_28 rfl (lv_at hl 0 rfl) ?_
  refine lv_ishr hx hb dX10_addWord_29 ?_
  refine lv_topi (fun v10 e_v10 => ?_)
  obtain ⟨v11, e_v11⟩ : ∃ z : Int32, z = v10.toInt8.toInt32 := ⟨_, rfl⟩
  refine lv_i2b (v := v11) hx hb dX10_addWord_30 e_v11.symm ?_
  refine va_bast hx hb hK hP hD hS 1 1 rfl rfl (by unfold vp_in; decide) dX10_addWord_31 (fun H locs hP hD hS => ?_)
  have hP : va_P D vwCl [(q1, .inr (13, [.ref q2, .int 19, .ref q3, .ref q4, .ref q5, .int 0])), (q2, .inl (cy 1, 240, .inl (upd f9 19 (vp_nar .byte v11))))] H := hP
  have hD : va_D A [(q1, .inr (13, [.ref q2, .int 19, .ref q3, .ref q4, .ref q5, .int 0])), (q2, .inl (cy 1, 240, .inl (upd f9 19 (vp_nar .byte v11))))] := hD
  generalize (upd f9 19 (vp_nar .byte v11)) = f12 at hP hD
  refine lv_aload_n hx hb dX10_addWord_32 rfl (lv_at hl 1 rfl) ?_
  refine lv_dup hx hb dX10_addWord_33 rfl ?_
  refine va_get (D := D) (ci := 13) (v := .int 19) (C := RX10) (T := TX10) (N := 6) hx hb hts i_c_X10_addWord16_X10 hown hK hP 0 rfl rfl 1 (by decide) (hts (.fieldLink RX10 31 "ChanceWorks$Tape" "length" "I") (List.mem_of_getElem? (i := 1) rfl)) (fun _ h9 => h9) rfl dX10_addWord_34 ?_
  refine lv_iconst (v := 1) hx hb dX10_addWord_37 (by decide) ?_
  refine lv_iadd hx hb dX10_addWord_38 ?_
  rw [show (19 : Int32) + 1 = 20 by decide]
  refine va_put (D := D) (ci := 13) (v := .int 20) (ty := .int) (C := RX10) (T := TX10) (N := 6) hx hb hts i_c_X10_addWord16_X10 tyX10 tyX10_ok nmX10 hown hK hP hD hS 0 rfl rfl 1 (by decide) (hts (.fieldLink RX10 31 "ChanceWorks$Tape" "length" "I") (List.mem_of_getElem? (i := 1) rfl)) (fun _ h9 => h9) rfl (by decide +kernel) rfl rfl (Nat.le_of_ble_eq_true rfl) dX10_addWord_39 (fun H locs hP hD hS => ?_)
  have hP : va_P D vwCl [(q1, .inr (13, [.ref q2, .int 20, .ref q3, .ref q4, .ref q5, .int 0])), (q2, .inl (cy 1, 240, .inl f12))] H := hP
  have hD : va_D A [(q1, .inr (13, [.ref q2, .int 20, .ref q3, .ref q4, .ref q5, .int 0])), (q2, .inl (cy 1, 240, .inl f12))] := hD
  refine lv_iinc (v := (-8)) (lv' := [(2, .int (-8)), (0, .ref q1), (1, .int p1)]) hx hb dX10_addWord_42 hl (k := 0) rfl (by decide) (by decide) rfl (fun ls hl => ?_)
  refine lv_goto (tgt := 3) hx hb dX10_addWord_45 (by decide) ?_
  refine lv_iload_n hx hb dX10_addWord_3 rfl (lv_at hl 0 rfl) ?_
  refine lv_if_lt (tgt := 48) hx hb dX10_addWord_4 (by decide) (fun _ => ?_) (fun c9 => absurd (by decide) c9)
  refine W.widen (k := 0) (n := 0) (Nat.le_of_ble_eq_true rfl) (Nat.le_of_ble_eq_true rfl) ?_
  exact W.vret hx hb hr (fun t ht hW => ⟨⟨(), rfl, trivial, f12, by rw [ht]; exact hP, hD⟩, hS.F ht⟩) hS.2.2 dX10_addWord_48
def wq_c_X12_feed : List Cond := .code yX12_feed cX12_feed 6 (some .int) :: ([.fieldLink RX12 12 "ChanceWorks" "tape" "LChanceWorks$Tape;", .fieldLink RX12 100 "ChanceWorks$Tape" "length" "I", .constant RX12 104 (65536)] ++ ((u_ws RX12 TX12 18) ++ ((u_ws RX10 TX10 6) ++ ((wsV RX12 112 RX10 yX10_widen wq_c_X10_widen) ++ ((wsV RX12 115 RX10 yX10_addWord wq_c_X10_addWord0) ++ ((wsV RX12 115 RX10 yX10_addWord wq_c_X10_addWord4) ++ ((wsV RX12 115 RX10 yX10_addWord wq_c_X10_addWord8) ++ ((wsV RX12 115 RX10 yX10_addWord wq_c_X10_addWord12) ++ (wsV RX12 115 RX10 yX10_addWord wq_c_X10_addWord16)))))))))
theorem i_c_X12_feed_X12 : ∀ w ∈ u_ws RX12 TX12 18, w ∈ wq_c_X12_feed := fun w h => List.mem_cons_of_mem _ (List.mem_append_right _ (List.mem_append_left _ (h)))
theorem i_c_X12_feed_X10 : ∀ w ∈ u_ws RX10 TX10 6, w ∈ wq_c_X12_feed := fun w h => List.mem_cons_of_mem _ (List.mem_append_right _ (List.mem_append_right _ (List.mem_append_left _ (h))))
set_option maxRecDepth 100000 in
theorem g_c_X12_feed_2 : GoodIn wq_c_X12_feed (wsV RX12 112 RX10 yX10_widen wq_c_X10_widen) := goodIn_sub (fun w h => List.mem_cons_of_mem _ (List.mem_append_right _ (List.mem_append_right _ (List.mem_append_right _ (List.mem_append_left _ (h)))))) (by decide +kernel)
set_option maxRecDepth 100000 in
theorem g_c_X12_feed_3 : GoodIn wq_c_X12_feed (wsV RX12 115 RX10 yX10_addWord wq_c_X10_addWord0) := goodIn_sub (fun w h => List.mem_cons_of_mem _ (List.mem_append_right _ (List.mem_append_right _ (List.mem_append_right _ (List.mem_append_right _ (List.mem_append_left _ (h))))))) (by decide +kernel)
set_option maxRecDepth 100000 in
theorem g_c_X12_feed_4 : GoodIn wq_c_X12_feed (wsV RX12 115 RX10 yX10_addWord wq_c_X10_addWord4) := goodIn_sub (fun w h => List.mem_cons_of_mem _ (List.mem_append_right _ (List.mem_append_right _ (List.mem_append_right _ (List.mem_append_right _ (List.mem_append_right _ (List.mem_append_left _ (h)))))))) (by decide +kernel)
set_option maxRecDepth 100000 in
theorem g_c_X12_feed_5 : GoodIn wq_c_X12_feed (wsV RX12 115 RX10 yX10_addWord wq_c_X10_addWord8) := goodIn_sub (fun w h => List.mem_cons_of_mem _ (List.mem_append_right _ (List.mem_append_right _ (List.mem_append_right _ (List.mem_append_right _ (List.mem_append_right _ (List.mem_append_right _ (List.mem_append_left _ (h))))))))) (by decide +kernel)
set_option maxRecDepth 100000 in
theorem g_c_X12_feed_6 : GoodIn wq_c_X12_feed (wsV RX12 115 RX10 yX10_addWord wq_c_X10_addWord12) := goodIn_sub (fun w h => List.mem_cons_of_mem _ (List.mem_append_right _ (List.mem_append_right _ (List.mem_append_right _ (List.mem_append_right _ (List.mem_append_right _ (List.mem_append_right _ (List.mem_append_right _ (List.mem_append_left _ (h)))))))))) (by decide +kernel)
set_option maxRecDepth 100000 in
theorem g_c_X12_feed_7 : GoodIn wq_c_X12_feed (wsV RX12 115 RX10 yX10_addWord wq_c_X10_addWord16) := goodIn_sub (fun w h => List.mem_cons_of_mem _ (List.mem_append_right _ (List.mem_append_right _ (List.mem_append_right _ (List.mem_append_right _ (List.mem_append_right _ (List.mem_append_right _ (List.mem_append_right _ (List.mem_append_right _ (h)))))))))) (by decide +kernel)
set_option maxHeartbeats 4000000 in
set_option maxRecDepth 100000 in
theorem c_X12_feed (l : Launch) (D : va_G) (cy : Nat → ClassId) (h0 q1 q26 q6 q16 q35 q41 q88 q111 q127 q132 q134 q136 q138 q140 q2 q3 q4 q5 : Nat) (p1 p2 p3 p4 p5 : Int32) (sz : Nat) : Met l yX12_feed wq_c_X12_feed ({ frames := 1, cells := 0, slots := 0, locals := 22 }) (va_Pc [.ref h0, .int p1, .int p2, .int p3, .int p4, .int p5] (fun U => U.heap.size = sz ∧ va_P D vwCl [(h0, .inr (15, [.ref q1, .ref q26, .ref q6, .ref q16, .int 0, .int 0, .ref q35, .ref q41, .ref q88, .ref q111, .ref q127, .ref q132, .int 0, .int 0, .ref q134, .ref q136, .ref q138, .ref q140])), (q1, .inr (13, [.ref q2, .int 0, .ref q3, .ref q4, .ref q5, .int 0])), (q2, .inl (cy 1, 240, .inl (fun _ => 0)))] U.heap ∧ kK D cy U ∧ va_D (fun _ => True) [(h0, .inr (15, [.ref q1, .ref q26, .ref q6, .ref q16, .int 0, .int 0, .ref q35, .ref q41, .ref q88, .ref q111, .ref q127, .ref q132, .int 0, .int 0, .ref q134, .ref q136, .ref q138, .ref q140])), (q1, .inr (13, [.ref q2, .int 0, .ref q3, .ref q4, .ref q5, .int 0])), (q2, .inl (cy 1, 240, .inl (fun _ => 0)))])) (va_Qi (fun (r : Int32) (_ : Unit) => (r = 20)) (fun _ t => True) (va_A [(h0, .inr (15, [.ref q1, .ref q26, .ref q6, .ref q16, .int 0, .int 0, .ref q35, .ref q41, .ref q88, .ref q111, .ref q127, .ref q132, .int 0, .int 0, .ref q134, .ref q136, .ref q138, .ref q140])), (q1, .inr (13, [.ref q2, .int 0, .ref q3, .ref q4, .ref q5, .int 0])), (q2, .inl (cy 1, 240, .inl (fun _ => 0)))] sz)) 0 0 (va_A [(h0, .inr (15, [.ref q1, .ref q26, .ref q6, .ref q16, .int 0, .int 0, .ref q35, .ref q41, .ref q88, .ref q111, .ref q127, .ref q132, .int 0, .int 0, .ref q134, .ref q136, .ref q138, .ref q140])), (q1, .inr (13, [.ref q2, .int 0, .ref q3, .ref q4, .ref q5, .int 0])), (q2, .inl (cy 1, 240, .inl (fun _ => 0)))] sz) := by
  refine Met.ofW (cc := cX12_feed) (maxL := 6) (ret := (some .int)) (by decide) rfl ?_
  intro p e s m args below meth c s₁ B hml hv
  obtain ⟨rfl, hsz, hP, hKK, hD0⟩ := hv
  have hK := hKK.1
  have hx := B.exec
  have hb := B.bytes
  have hr := B.returns
  have hts := atoms_spec (ws := wq_c_X12_feed) B.pre
  have hown : s.vm.findClass RX12 = some m.cls := findClass_of_methodNamed B.named
  have hlocks := B.notSynchronized
  subst hsz
  have hD := hD0.self (sz := s.heap.size)
  generalize hAe : va_A [(h0, .inr (15, [.ref q1, .ref q26, .ref q6, .ref q16, .int 0, .int 0, .ref q35, .ref q41, .ref q88, .ref q111, .ref q127, .ref q132, .int 0, .int 0, .ref q134, .ref q136, .ref q138, .ref q140])), (q1, .inr (13, [.ref q2, .int 0, .ref q3, .ref q4, .ref q5, .int 0])), (q2, .inl (cy 1, 240, .inl (fun _ => 0)))] s.heap.size = A at hD ⊢
  have hA : ∀ q : Nat, s.heap.size ≤ q → A q := fun q h => by rw [← hAe]; exact Or.inr h
  obtain ⟨H, hS, hP, hgo⟩ : ∃ H, va_S A s.heap H [] ∧ va_P D vwCl [(h0, .inr (15, [.ref q1, .ref q26, .ref q6, .ref q16, .int 0, .int 0, .ref q35, .ref q41, .ref q88, .ref q111, .ref q127, .ref q132, .int 0, .int 0, .ref q134, .ref q136, .ref q138, .ref q140])), (q1, .inr (13, [.ref q2, .int 0, .ref q3, .ref q4, .ref q5, .int 0])), (q2, .inl (cy 1, 240, .inl (fun _ => 0)))] H ∧ H = s.heap := ⟨s.heap, va_S.rf, hP, rfl⟩
  rw [← hgo]
  have hl := lv_entry ([.ref h0, .int p1, .int p2, .int p3, .int p4, .int p5]) (n := 6) (Nat.le_of_ble_eq_true rfl)
  rw [lg_entry_eq]
  generalize (lg_sl ([.ref h0, .int p1, .int p2, .int p3, .int p4, .int p5]) ++ List.replicate (6 - (lg_sl ([.ref h0, .int p1, .int p2, .int p3, .int p4, .int p5])).length) Slot.unset).toArray = ls at hl ⊢
  have hl : lv_has ls 6 [(0, .ref h0), (1, .int p1), (2, .int p2), (3, .int p3), (4, .int p4), (5, .int p5)] := hl
  refine lv_aload_n hx hb dX12_feed_0 rfl (lv_at hl 0 rfl) ?_
  refine va_get (D := D) (ci := 15) (v := .ref q1) (C := RX12) (T := TX12) (N := 18) hx hb hts i_c_X12_feed_X12 hown hK hP 0 rfl rfl 0 (by decide) (hts (.fieldLink RX12 12 "ChanceWorks" "tape" "LChanceWorks$Tape;") (List.mem_of_getElem? (i := 1) rfl)) (fun _ h9 => h9) rfl dX12_feed_1 ?_
  refine va_get (D := D) (ci := 13) (v := .int 0) (C := RX10) (T := TX10) (N := 6) hx hb hts i_c_X12_feed_X10 hown hK hP 1 rfl rfl 1 (by decide) (hts (.fieldLink RX12 100 "ChanceWorks$Tape" "length" "I") (List.mem_of_getElem? (i := 2) rfl)) (fun _ h9 => h9) rfl dX12_feed_4 ?_
  refine lv_bipush (v := 20) hx hb dX12_feed_7 (by decide) ?_
  refine lv_iadd hx hb dX12_feed_9 ?_
  rw [show (0 : Int32) + 20 = 20 by decide]
  refine lv_ldc (v := 65536) hx hb hown (hts (.constant RX12 104 (65536)) (List.mem_of_getElem? (i := 3) rfl)) dX12_feed_10 ?_
  refine lv_icmp_le (tgt := 25) hx hb dX12_feed_12 (by decide) (fun _ => ?_) (fun c9 => absurd (by decide) c9)
  refine lv_aload_n hx hb dX12_feed_25 rfl (lv_at hl 0 rfl) ?_
  refine va_get (D := D) (ci := 15) (v := .ref q1) (C := RX12) (T := TX12) (N := 18) hx hb hts i_c_X12_feed_X12 hown hK hP 0 rfl rfl 0 (by decide) (hts (.fieldLink RX12 12 "ChanceWorks" "tape" "LChanceWorks$Tape;") (List.mem_of_getElem? (i := 1) rfl)) (fun _ h9 => h9) rfl dX12_feed_26 ?_
  refine lv_aload_n hx hb dX12_feed_29 rfl (lv_at hl 0 rfl) ?_
  refine va_get (D := D) (ci := 15) (v := .ref q1) (C := RX12) (T := TX12) (N := 18) hx hb hts i_c_X12_feed_X12 hown hK hP 0 rfl rfl 0 (by decide) (hts (.fieldLink RX12 12 "ChanceWorks" "tape" "LChanceWorks$Tape;") (List.mem_of_getElem? (i := 1) rfl)) (fun _ h9 => h9) rfl dX12_feed_30 ?_
  refine va_get (D := D) (ci := 13) (v := .int 0) (C := RX10) (T := TX10) (N := 6) hx hb hts i_c_X12_feed_X10 hown hK hP 1 rfl rfl 1 (by decide) (hts (.fieldLink RX12 100 "ChanceWorks$Tape" "length" "I") (List.mem_of_getElem? (i := 2) rfl)) (fun _ h9 => h9) rfl dX12_feed_33 ?_
  refine lv_bipush (v := 20) hx hb dX12_feed_36 (by decide) ?_
  refine lv_iadd hx hb dX12_feed_38 ?_
  rw [show (0 : Int32) + 20 = 20 by decide]
  have hPc := hP.sub (ws' := [(q1, .inr (13, [.ref q2, .int 0, .ref q3, .ref q4, .ref q5, .int 0])), (q2, .inl (cy 1, 240, .inl (fun _ => 0)))]) [1, 2] rfl
  have hDc := hD.sub (ws' := [(q1, .inr (13, [.ref q2, .int 0, .ref q3, .ref q4, .ref q5, .int 0])), (q2, .inl (cy 1, 240, .inl (fun _ => 0)))]) [1, 2] (by decide) rfl
  have hFc := va_free (wc := [(q1, .inr (13, [.ref q2, .int 0, .ref q3, .ref q4, .ref q5, .int 0])), (q2, .inl (cy 1, 240, .inl (fun _ => 0)))]) hD hS hA [1, 2] rfl
  refine va_callv (va_runV (As := [.int 20]) (rest := []) ⟨hx, hb, hml, hown, hts⟩ (c_X10_widen l D cy q1 q2 q3 q4 q5 ((fun _ => 0)) H.size) (cwV 1 hts g_c_X12_feed_2 rfl rfl rfl (by decide +kernel) ⟨(Nat.le_of_ble_eq_true rfl), (Nat.le_of_ble_eq_true rfl)⟩) ⟨fun a U g mk q => by obtain ⟨q0, q1, qP, qK, qD⟩ := q; exact ⟨q0, q1, qP, kK.moved (u := U) (U := U.calling g mk a) (Vm.Alike.refl U.vm) qK, qD⟩, va_recv hK hPc (ci := 13) (q0 := 0) rfl rfl, fun U hU hW => ⟨rfl, by rw [hU], by rw [hU]; exact hPc, kK.moved hW.alike hKK, hDc.weaken (fun _ _ _ _ => trivial)⟩⟩ rfl rfl hl.1 rfl (lv_room (Nat.le_of_ble_eq_true rfl)) dX12_feed_39 ⟨(Nat.le_of_ble_eq_true rfl), (Nat.le_of_ble_eq_true rfl)⟩) hS (fun q _ h => hFc q h) hFc (fun u2 t H1 locs ht hvm hw hB hz1 hk1 hS => ?_)
  obtain ⟨hP1, hD1⟩ := hB
  rw [ht] at hP1
  obtain ⟨hP, hD⟩ := va_join (wr := [(h0, .inr (15, [.ref q1, .ref q26, .ref q6, .ref q16, .int 0, .int 0, .ref q35, .ref q41, .ref q88, .ref q111, .ref q127, .ref q132, .int 0, .int 0, .ref q134, .ref q136, .ref q138, .ref q140]))]) (w1 := [(q1, .inr (13, [.ref q2, .int 0, .ref q3, .ref q4, .ref q5, .int 0])), (q2, .inl (cy 1, 240, .inl (fun _ => 0)))]) hP hD [1, 2] [0] rfl rfl (by decide) (by decide) hk1 hFc hP1 hD1
  generalize H1 = H at hP hS ⊢
  have hP : va_P D vwCl [(h0, .inr (15, [.ref q1, .ref q26, .ref q6, .ref q16, .int 0, .int 0, .ref q35, .ref q41, .ref q88, .ref q111, .ref q127, .ref q132, .int 0, .int 0, .ref q134, .ref q136, .ref q138, .ref q140])), (q1, .inr (13, [.ref q2, .int 0, .ref q3, .ref q4, .ref q5, .int 0])), (q2, .inl (cy 1, 240, .inl (fun _ => 0)))] H := hP
  have hD : va_D A [(h0, .inr (15, [.ref q1, .ref q26, .ref q6, .ref q16, .int 0, .int 0, .ref q35, .ref q41, .ref q88, .ref q111, .ref q127, .ref q132, .int 0, .int 0, .ref q134, .ref q136, .ref q138, .ref q140])), (q1, .inr (13, [.ref q2, .int 0, .ref q3, .ref q4, .ref q5, .int 0])), (q2, .inl (cy 1, 240, .inl (fun _ => 0)))] := hD
  rcases hw with -
  refine lv_aload_n hx hb dX12_feed_42 rfl (lv_at hl 0 rfl) ?_
  refine va_get (D := D) (ci := 15) (v := .ref q1) (C := RX12) (T := TX12) (N := 18) hx hb hts i_c_X12_feed_X12 hown hK hP 0 rfl rfl 0 (by decide) (hts (.fieldLink RX12 12 "ChanceWorks" "tape" "LChanceWorks$Tape;") (List.mem_of_getElem? (i := 1) rfl)) (fun _ h9 => h9) rfl dX12_feed_43 ?_
  refine lv_iload_n hx hb dX12_feed_46 rfl (lv_at hl 1 rfl) ?_
  have hPc := hP.sub (ws' := [(q1, .inr (13, [.ref q2, .int 0, .ref q3, .ref q4, .ref q5, .int 0])), (q2, .inl (cy 1, 240, .inl (fun _ => 0)))]) [1, 2] rfl
  have hDc := hD.sub (ws' := [(q1, .inr (13, [.ref q2, .int 0, .ref q3, .ref q4, .ref q5, .int 0])), (q2, .inl (cy 1, 240, .inl (fun _ => 0)))]) [1, 2] (by decide) rfl
  have hFc := va_free (wc := [(q1, .inr (13, [.ref q2, .int 0, .ref q3, .ref q4, .ref q5, .int 0])), (q2, .inl (cy 1, 240, .inl (fun _ => 0)))]) hD hS hA [1, 2] rfl
  refine va_callv (va_runV (As := [.int p1]) (rest := []) ⟨hx, hb, hml, hown, hts⟩ (c_X10_addWord0 l D cy q1 q2 q3 q4 q5 p1 ((fun _ => 0)) H.size) (cwV 1 hts g_c_X12_feed_3 rfl rfl rfl (by decide +kernel) ⟨(Nat.le_of_ble_eq_true rfl), (Nat.le_of_ble_eq_true rfl)⟩) ⟨fun a U g mk q => by obtain ⟨q0, q1, qP, qK, qD⟩ := q; exact ⟨q0, q1, qP, kK.moved (u := U) (U := U.calling g mk a) (Vm.Alike.refl U.vm) qK, qD⟩, va_recv hK hPc (ci := 13) (q0 := 0) rfl rfl, fun U hU hW => ⟨rfl, by rw [hU], by rw [hU]; exact hPc, kK.moved hW.alike hKK, hDc.weaken (fun _ _ _ _ => trivial)⟩⟩ rfl rfl hl.1 rfl (lv_room (Nat.le_of_ble_eq_true rfl)) dX12_feed_47 ⟨(Nat.le_of_ble_eq_true rfl), (Nat.le_of_ble_eq_true rfl)⟩) hS (fun q _ h => hFc q h) hFc (fun u4 t H1 locs ht hvm hw hB hz1 hk1 hS => ?_)
  obtain ⟨z5, hP1, hD1⟩ := hB
  rw [ht] at hP1
  obtain ⟨hP, hD⟩ := va_join (wr := [(h0, .inr (15, [.ref q1, .ref q26, .ref q6, .ref q16, .int 0, .int 0, .ref q35, .ref q41, .ref q88, .ref q111, .ref q127, .ref q132, .int 0, .int 0, .ref q134, .ref q136, .ref q138, .ref q140]))]) (w1 := [(q1, .inr (13, [.ref q2, .int 4, .ref q3, .ref q4, .ref q5, .int 0])), (q2, .inl (cy 1, 240, .inl z5))]) hP hD [1, 2] [0] rfl rfl (by decide) (by decide) hk1 hFc hP1 hD1
  generalize H1 = H at hP hS ⊢
  have hP : va_P D vwCl [(h0, .inr (15, [.ref q1, .ref q26, .ref q6, .ref q16, .int 0, .int 0, .ref q35, .ref q41, .ref q88, .ref q111, .ref q127, .ref q132, .int 0, .int 0, .ref q134, .ref q136, .ref q138, .ref q140])), (q1, .inr (13, [.ref q2, .int 4, .ref q3, .ref q4, .ref q5, .int 0])), (q2, .inl (cy 1, 240, .inl z5))] H := hP
  have hD : va_D A [(h0, .inr (15, [.ref q1, .ref q26, .ref q6, .ref q16, .int 0, .int 0, .ref q35, .ref q41, .ref q88, .ref q111, .ref q127, .ref q132, .int 0, .int 0, .ref q134, .ref q136, .ref q138, .ref q140])), (q1, .inr (13, [.ref q2, .int 4, .ref q3, .ref q4, .ref q5, .int 0])), (q2, .inl (cy 1, 240, .inl z5))] := hD
  rcases hw with -
  refine lv_aload_n hx hb dX12_feed_50 rfl (lv_at hl 0 rfl) ?_
  refine va_get (D := D) (ci := 15) (v := .ref q1) (C := RX12) (T := TX12) (N := 18) hx hb hts i_c_X12_feed_X12 hown hK hP 0 rfl rfl 0 (by decide) (hts (.fieldLink RX12 12 "ChanceWorks" "tape" "LChanceWorks$Tape;") (List.mem_of_getElem? (i := 1) rfl)) (fun _ h9 => h9) rfl dX12_feed_51 ?_
  refine lv_iload_n hx hb dX12_feed_54 rfl (lv_at hl 2 rfl) ?_
  have hPc := hP.sub (ws' := [(q1, .inr (13, [.ref q2, .int 4, .ref q3, .ref q4, .ref q5, .int 0])), (q2, .inl (cy 1, 240, .inl z5))]) [1, 2] rfl
  have hDc := hD.sub (ws' := [(q1, .inr (13, [.ref q2, .int 4, .ref q3, .ref q4, .ref q5, .int 0])), (q2, .inl (cy 1, 240, .inl z5))]) [1, 2] (by decide) rfl
  have hFc := va_free (wc := [(q1, .inr (13, [.ref q2, .int 4, .ref q3, .ref q4, .ref q5, .int 0])), (q2, .inl (cy 1, 240, .inl z5))]) hD hS hA [1, 2] rfl
  refine va_callv (va_runV (As := [.int p2]) (rest := []) ⟨hx, hb, hml, hown, hts⟩ (c_X10_addWord4 l D cy q1 q2 q3 q4 q5 p2 z5 H.size) (cwV 1 hts g_c_X12_feed_4 rfl rfl rfl (by decide +kernel) ⟨(Nat.le_of_ble_eq_true rfl), (Nat.le_of_ble_eq_true rfl)⟩) ⟨fun a U g mk q => by obtain ⟨q0, q1, qP, qK, qD⟩ := q; exact ⟨q0, q1, qP, kK.moved (u := U) (U := U.calling g mk a) (Vm.Alike.refl U.vm) qK, qD⟩, va_recv hK hPc (ci := 13) (q0 := 0) rfl rfl, fun U hU hW => ⟨rfl, by rw [hU], by rw [hU]; exact hPc, kK.moved hW.alike hKK, hDc.weaken (fun _ _ _ _ => trivial)⟩⟩ rfl rfl hl.1 rfl (lv_room (Nat.le_of_ble_eq_true rfl)) dX12_feed_55 ⟨(Nat.le_of_ble_eq_true rfl), (Nat.le_of_ble_eq_true rfl)⟩) hS (fun q _ h => hFc q h) hFc (fun u7 t H1 locs ht hvm hw hB hz1 hk1 hS => ?_)
  obtain ⟨z8, hP1, hD1⟩ := hB
  rw [ht] at hP1
  obtain ⟨hP, hD⟩ := va_join (wr := [(h0, .inr (15, [.ref q1, .ref q26, .ref q6, .ref q16, .int 0, .int 0, .ref q35, .ref q41, .ref q88, .ref q111, .ref q127, .ref q132, .int 0, .int 0, .ref q134, .ref q136, .ref q138, .ref q140]))]) (w1 := [(q1, .inr (13, [.ref q2, .int 8, .ref q3, .ref q4, .ref q5, .int 0])), (q2, .inl (cy 1, 240, .inl z8))]) hP hD [1, 2] [0] rfl rfl (by decide) (by decide) hk1 hFc hP1 hD1
  generalize H1 = H at hP hS ⊢
  have hP : va_P D vwCl [(h0, .inr (15, [.ref q1, .ref q26, .ref q6, .ref q16, .int 0, .int 0, .ref q35, .ref q41, .ref q88, .ref q111, .ref q127, .ref q132, .int 0, .int 0, .ref q134, .ref q136, .ref q138, .ref q140])), (q1, .inr (13, [.ref q2, .int 8, .ref q3, .ref q4, .ref q5, .int 0])), (q2, .inl (cy 1, 240, .inl z8))] H := hP
  have hD : va_D A [(h0, .inr (15, [.ref q1, .ref q26, .ref q6, .ref q16, .int 0, .int 0, .ref q35, .ref q41, .ref q88, .ref q111, .ref q127, .ref q132, .int 0, .int 0, .ref q134, .ref q136, .ref q138, .ref q140])), (q1, .inr (13, [.ref q2, .int 8, .ref q3, .ref q4, .ref q5, .int 0])), (q2, .inl (cy 1, 240, .inl z8))] := hD
  rcases hw with -
  refine lv_aload_n hx hb dX12_feed_58 rfl (lv_at hl 0 rfl) ?_
  refine va_get (D := D) (ci := 15) (v := .ref q1) (C := RX12) (T := TX12) (N := 18) hx hb hts i_c_X12_feed_X12 hown hK hP 0 rfl rfl 0 (by decide) (hts (.fieldLink RX12 12 "ChanceWorks" "tape" "LChanceWorks$Tape;") (List.mem_of_getElem? (i := 1) rfl)) (fun _ h9 => h9) rfl dX12_feed_59 ?_
  refine lv_iload_n hx hb dX12_feed_62 rfl (lv_at hl 3 rfl) ?_
  have hPc := hP.sub (ws' := [(q1, .inr (13, [.ref q2, .int 8, .ref q3, .ref q4, .ref q5, .int 0])), (q2, .inl (cy 1, 240, .inl z8))]) [1, 2] rfl
  have hDc := hD.sub (ws' := [(q1, .inr (13, [.ref q2, .int 8, .ref q3, .ref q4, .ref q5, .int 0])), (q2, .inl (cy 1, 240, .inl z8))]) [1, 2] (by decide) rfl
  have hFc := va_free (wc := [(q1, .inr (13, [.ref q2, .int 8, .ref q3, .ref q4, .ref q5, .int 0])), (q2, .inl (cy 1, 240, .inl z8))]) hD hS hA [1, 2] rfl
  refine va_callv (va_runV (As := [.int p3]) (rest := []) ⟨hx, hb, hml, hown, hts⟩ (c_X10_addWord8 l D cy q1 q2 q3 q4 q5 p3 z8 H.size) (cwV 1 hts g_c_X12_feed_5 rfl rfl rfl (by decide +kernel) ⟨(Nat.le_of_ble_eq_true rfl), (Nat.le_of_ble_eq_true rfl)⟩) ⟨fun a U g mk q => by obtain ⟨q0, q1, qP, qK, qD⟩ := q; exact ⟨q0, q1, qP, kK.moved (u := U) (U := U.calling g mk a) (Vm.Alike.refl U.vm) qK, qD⟩, va_recv hK hPc (ci := 13) (q0 := 0) rfl rfl, fun U hU hW => ⟨rfl, by rw [hU], by rw [hU]; exact hPc, kK.moved hW.alike hKK, hDc.weaken (fun _ _ _ _ => trivial)⟩⟩ rfl rfl hl.1 rfl (lv_room (Nat.le_of_ble_eq_true rfl)) dX12_feed_63 ⟨(Nat.le_of_ble_eq_true rfl), (Nat.le_of_ble_eq_true rfl)⟩) hS (fun q _ h => hFc q h) hFc (fun u10 t H1 locs ht hvm hw hB hz1 hk1 hS => ?_)
  obtain ⟨z11, hP1, hD1⟩ := hB
  rw [ht] at hP1
  obtain ⟨hP, hD⟩ := va_join (wr := [(h0, .inr (15, [.ref q1, .ref q26, .ref q6, .ref q16, .int 0, .int 0, .ref q35, .ref q41, .ref q88, .ref q111, .ref q127, .ref q132, .int 0, .int 0, .ref q134, .ref q136, .ref q138, .ref q140]))]) (w1 := [(q1, .inr (13, [.ref q2, .int 12, .ref q3, .ref q4, .ref q5, .int 0])), (q2, .inl (cy 1, 240, .inl z11))]) hP hD [1, 2] [0] rfl rfl (by decide) (by decide) hk1 hFc hP1 hD1
  generalize H1 = H at hP hS ⊢
  have hP : va_P D vwCl [(h0, .inr (15, [.ref q1, .ref q26, .ref q6, .ref q16, .int 0, .int 0, .ref q35, .ref q41, .ref q88, .ref q111, .ref q127, .ref q132, .int 0, .int 0, .ref q134, .ref q136, .ref q138, .ref q140])), (q1, .inr (13, [.ref q2, .int 12, .ref q3, .ref q4, .ref q5, .int 0])), (q2, .inl (cy 1, 240, .inl z11))] H := hP
  have hD : va_D A [(h0, .inr (15, [.ref q1, .ref q26, .ref q6, .ref q16, .int 0, .int 0, .ref q35, .ref q41, .ref q88, .ref q111, .ref q127, .ref q132, .int 0, .int 0, .ref q134, .ref q136, .ref q138, .ref q140])), (q1, .inr (13, [.ref q2, .int 12, .ref q3, .ref q4, .ref q5, .int 0])), (q2, .inl (cy 1, 240, .inl z11))] := hD
  rcases hw with -
  refine lv_aload_n hx hb dX12_feed_66 rfl (lv_at hl 0 rfl) ?_
  refine va_get (D := D) (ci := 15) (v := .ref q1) (C := RX12) (T := TX12) (N := 18) hx hb hts i_c_X12_feed_X12 hown hK hP 0 rfl rfl 0 (by decide) (hts (.fieldLink RX12 12 "ChanceWorks" "tape" "LChanceWorks$Tape;") (List.mem_of_getElem? (i := 1) rfl)) (fun _ h9 => h9) rfl dX12_feed_67 ?_
  refine lv_iload hx hb dX12_feed_70 (lv_at hl 4 rfl) ?_
  have hPc := hP.sub (ws' := [(q1, .inr (13, [.ref q2, .int 12, .ref q3, .ref q4, .ref q5, .int 0])), (q2, .inl (cy 1, 240, .inl z11))]) [1, 2] rfl
  have hDc := hD.sub (ws' := [(q1, .inr (13, [.ref q2, .int 12, .ref q3, .ref q4, .ref q5, .int 0])), (q2, .inl (cy 1, 240, .inl z11))]) [1, 2] (by decide) rfl
  have hFc := va_free (wc := [(q1, .inr (13, [.ref q2, .int 12, .ref q3, .ref q4, .ref q5, .int 0])), (q2, .inl (cy 1, 240, .inl z11))]) hD hS hA [1, 2] rfl
  refine va_callv (va_runV (As := [.int p4]) (rest := []) ⟨hx, hb, hml, hown, hts⟩ (c_X10_addWord12 l D cy q1 q2 q3 q4 q5 p4 z11 H.size) (cwV 1 hts g_c_X12_feed_6 rfl rfl rfl (by decide +kernel) ⟨(Nat.le_of_ble_eq_true rfl), (Nat.le_of_ble_eq_true rfl)⟩) ⟨fun a U g mk q => by obtain ⟨q0, q1, qP, qK, qD⟩ := q; exact ⟨q0, q1, qP, kK.moved (u := U) (U := U.calling g mk a) (Vm.Alike.refl U.vm) qK, qD⟩, va_recv hK hPc (ci := 13) (q0 := 0) rfl rfl, fun U hU hW => ⟨rfl, by rw [hU], by rw [hU]; exact hPc, kK.moved hW.alike hKK, hDc.weaken (fun _ _ _ _ => trivial)⟩⟩ rfl rfl hl.1 rfl (lv_room (Nat.le_of_ble_eq_true rfl)) dX12_feed_72 ⟨(Nat.le_of_ble_eq_true rfl), (Nat.le_of_ble_eq_true rfl)⟩) hS (fun q _ h => hFc q h) hFc (fun u13 t H1 locs ht hvm hw hB hz1 hk1 hS => ?_)
  obtain ⟨z14, hP1, hD1⟩ := hB
  rw [ht] at hP1
  obtain ⟨hP, hD⟩ := va_join (wr := [(h0, .inr (15, [.ref q1, .ref q26, .ref q6, .ref q16, .int 0, .int 0, .ref q35, .ref q41, .ref q88, .ref q111, .ref q127, .ref q132, .int 0, .int 0, .ref q134, .ref q136, .ref q138, .ref q140]))]) (w1 := [(q1, .inr (13, [.ref q2, .int 16, .ref q3, .ref q4, .ref q5, .int 0])), (q2, .inl (cy 1, 240, .inl z14))]) hP hD [1, 2] [0] rfl rfl (by decide) (by decide) hk1 hFc hP1 hD1
  generalize H1 = H at hP hS ⊢
  have hP : va_P D vwCl [(h0, .inr (15, [.ref q1, .ref q26, .ref q6, .ref q16, .int 0, .int 0, .ref q35, .ref q41, .ref q88, .ref q111, .ref q127, .ref q132, .int 0, .int 0, .ref q134, .ref q136, .ref q138, .ref q140])), (q1, .inr (13, [.ref q2, .int 16, .ref q3, .ref q4, .ref q5, .int 0])), (q2, .inl (cy 1, 240, .inl z14))] H := hP
  have hD : va_D A [(h0, .inr (15, [.ref q1, .ref q26, .ref q6, .ref q16, .int 0, .int 0, .ref q35, .ref q41, .ref q88, .ref q111, .ref q127, .ref q132, .int 0, .int 0, .ref q134, .ref q136, .ref q138, .ref q140])), (q1, .inr (13, [.ref q2, .int 16, .ref q3, .ref q4, .ref q5, .int 0])), (q2, .inl (cy 1, 240, .inl z14))] := hD
  rcases hw with -
  refine lv_aload_n hx hb dX12_feed_75 rfl (lv_at hl 0 rfl) ?_
  refine va_get (D := D) (ci := 15) (v := .ref q1) (C := RX12) (T := TX12) (N := 18) hx hb hts i_c_X12_feed_X12 hown hK hP 0 rfl rfl 0 (by decide) (hts (.fieldLink RX12 12 "ChanceWorks" "tape" "LChanceWorks$Tape;") (List.mem_of_getElem? (i := 1) rfl)) (fun _ h9 => h9) rfl dX12_feed_76 ?_
  refine lv_iload hx hb dX12_feed_79 (lv_at hl 5 rfl) ?_
  have hPc := hP.sub (ws' := [(q1, .inr (13, [.ref q2, .int 16, .ref q3, .ref q4, .ref q5, .int 0])), (q2, .inl (cy 1, 240, .inl z14))]) [1, 2] rfl
  have hDc := hD.sub (ws' := [(q1, .inr (13, [.ref q2, .int 16, .ref q3, .ref q4, .ref q5, .int 0])), (q2, .inl (cy 1, 240, .inl z14))]) [1, 2] (by decide) rfl
  have hFc := va_free (wc := [(q1, .inr (13, [.ref q2, .int 16, .ref q3, .ref q4, .ref q5, .int 0])), (q2, .inl (cy 1, 240, .inl z14))]) hD hS hA [1, 2] rfl
  refine va_callv (va_runV (As := [.int p5]) (rest := []) ⟨hx, hb, hml, hown, hts⟩ (c_X10_addWord16 l D cy q1 q2 q3 q4 q5 p5 z14 H.size) (cwV 1 hts g_c_X12_feed_7 rfl rfl rfl (by decide +kernel) ⟨(Nat.le_of_ble_eq_true rfl), (Nat.le_of_ble_eq_true rfl)⟩) ⟨fun a U g mk q => by obtain ⟨q0, q1, qP, qK, qD⟩ := q; exact ⟨q0, q1, qP, kK.moved (u := U) (U := U.calling g mk a) (Vm.Alike.refl U.vm) qK, qD⟩, va_recv hK hPc (ci := 13) (q0 := 0) rfl rfl, fun U hU hW => ⟨rfl, by rw [hU], by rw [hU]; exact hPc, kK.moved hW.alike hKK, hDc.weaken (fun _ _ _ _ => trivial)⟩⟩ rfl rfl hl.1 rfl (lv_room (Nat.le_of_ble_eq_true rfl)) dX12_feed_81 ⟨(Nat.le_of_ble_eq_true rfl), (Nat.le_of_ble_eq_true rfl)⟩) hS (fun q _ h => hFc q h) hFc (fun u16 t H1 locs ht hvm hw hB hz1 hk1 hS => ?_)
  obtain ⟨z17, hP1, hD1⟩ := hB
  rw [ht] at hP1
  obtain ⟨hP, hD⟩ := va_join (wr := [(h0, .inr (15, [.ref q1, .ref q26, .ref q6, .ref q16, .int 0, .int 0, .ref q35, .ref q41, .ref q88, .ref q111, .ref q127, .ref q132, .int 0, .int 0, .ref q134, .ref q136, .ref q138, .ref q140]))]) (w1 := [(q1, .inr (13, [.ref q2, .int 20, .ref q3, .ref q4, .ref q5, .int 0])), (q2, .inl (cy 1, 240, .inl z17))]) hP hD [1, 2] [0] rfl rfl (by decide) (by decide) hk1 hFc hP1 hD1
  generalize H1 = H at hP hS ⊢
  have hP : va_P D vwCl [(h0, .inr (15, [.ref q1, .ref q26, .ref q6, .ref q16, .int 0, .int 0, .ref q35, .ref q41, .ref q88, .ref q111, .ref q127, .ref q132, .int 0, .int 0, .ref q134, .ref q136, .ref q138, .ref q140])), (q1, .inr (13, [.ref q2, .int 20, .ref q3, .ref q4, .ref q5, .int 0])), (q2, .inl (cy 1, 240, .inl z17))] H := hP
  have hD : va_D A [(h0, .inr (15, [.ref q1, .ref q26, .ref q6, .ref q16, .int 0, .int 0, .ref q35, .ref q41, .ref q88, .ref q111, .ref q127, .ref q132, .int 0, .int 0, .ref q134, .ref q136, .ref q138, .ref q140])), (q1, .inr (13, [.ref q2, .int 20, .ref q3, .ref q4, .ref q5, .int 0])), (q2, .inl (cy 1, 240, .inl z17))] := hD
  rcases hw with -
  refine lv_aload_n hx hb dX12_feed_84 rfl (lv_at hl 0 rfl) ?_
  refine va_get (D := D) (ci := 15) (v := .ref q1) (C := RX12) (T := TX12) (N := 18) hx hb hts i_c_X12_feed_X12 hown hK hP 0 rfl rfl 0 (by decide) (hts (.fieldLink RX12 12 "ChanceWorks" "tape" "LChanceWorks$Tape;") (List.mem_of_getElem? (i := 1) rfl)) (fun _ h9 => h9) rfl dX12_feed_85 ?_
  refine va_get (D := D) (ci := 13) (v := .int 20) (C := RX10) (T := TX10) (N := 6) hx hb hts i_c_X12_feed_X10 hown hK hP 1 rfl rfl 1 (by decide) (hts (.fieldLink RX12 100 "ChanceWorks$Tape" "length" "I") (List.mem_of_getElem? (i := 2) rfl)) (fun _ h9 => h9) rfl dX12_feed_88 ?_
  refine W.widen (k := 0) (n := 0) (Nat.le_of_ble_eq_true rfl) (Nat.le_of_ble_eq_true rfl) ?_
  exact W.iret (v := 20) hx hb hr (fun t ht hW => ⟨⟨20, (), rfl, rfl, trivial⟩, hS.F ht⟩) hS.2.2 dX12_feed_91
def wq_c_L_feed : List Cond := .codeWith yL_feed cL_feed 8 (some .int) [(0, 16, 19, 13)] :: ([] ++ (wsV RL 7 RX12 yX12_feed wq_c_X12_feed))
set_option maxRecDepth 100000 in
theorem g_c_L_feed_0 : GoodIn wq_c_L_feed (wsV RL 7 RX12 yX12_feed wq_c_X12_feed) := goodIn_sub (fun w h => List.mem_cons_of_mem _ (List.mem_append_right _ (h))) (by decide +kernel)
set_option maxHeartbeats 4000000 in
set_option maxRecDepth 100000 in
theorem c_L_feed (l : Launch) (D : va_G) (cy : Nat → ClassId) (h0 q1 q26 q6 q16 q35 q41 q88 q111 q127 q132 q134 q136 q138 q140 q2 q3 q4 q5 ou : Nat) (p1 p2 p3 p4 p5 : Int32) (sz : Nat) : Met l yL_feed wq_c_L_feed ({ frames := 2, cells := 0, slots := 0, locals := 47 }) (va_Pc [.ref h0, .int p1, .int p2, .int p3, .int p4, .int p5, .ref ou] (fun U => U.heap.size = sz ∧ va_P D vwCl [(h0, .inr (15, [.ref q1, .ref q26, .ref q6, .ref q16, .int 0, .int 0, .ref q35, .ref q41, .ref q88, .ref q111, .ref q127, .ref q132, .int 0, .int 0, .ref q134, .ref q136, .ref q138, .ref q140])), (q1, .inr (13, [.ref q2, .int 0, .ref q3, .ref q4, .ref q5, .int 0])), (q2, .inl (cy 1, 240, .inl (fun _ => 0))), (ou, .inl (cy 2, 1, .inr (.inl (fun _ => 0))))] U.heap ∧ kK D cy U ∧ va_D (fun _ => True) [(h0, .inr (15, [.ref q1, .ref q26, .ref q6, .ref q16, .int 0, .int 0, .ref q35, .ref q41, .ref q88, .ref q111, .ref q127, .ref q132, .int 0, .int 0, .ref q134, .ref q136, .ref q138, .ref q140])), (q1, .inr (13, [.ref q2, .int 0, .ref q3, .ref q4, .ref q5, .int 0])), (q2, .inl (cy 1, 240, .inl (fun _ => 0))), (ou, .inl (cy 2, 1, .inr (.inl (fun _ => 0))))])) (va_Qi (fun (r : Int32) (u : Int64) => (r = 0 ∧ u = 20)) (fun (u : Int64) t => ∃ f : Nat → Int64, va_P D vwCl [(ou, .inl (cy 2, 1, .inr (.inl f)))] t.heap ∧ va_D (va_A [(h0, .inr (15, [.ref q1, .ref q26, .ref q6, .ref q16, .int 0, .int 0, .ref q35, .ref q41, .ref q88, .ref q111, .ref q127, .ref q132, .int 0, .int 0, .ref q134, .ref q136, .ref q138, .ref q140])), (q1, .inr (13, [.ref q2, .int 0, .ref q3, .ref q4, .ref q5, .int 0])), (q2, .inl (cy 1, 240, .inl (fun _ => 0))), (ou, .inl (cy 2, 1, .inr (.inl (fun _ => 0))))] sz) [(ou, .inl (cy 2, 1, .inr (.inl f)))] ∧ f 0 = u) (va_A [(h0, .inr (15, [.ref q1, .ref q26, .ref q6, .ref q16, .int 0, .int 0, .ref q35, .ref q41, .ref q88, .ref q111, .ref q127, .ref q132, .int 0, .int 0, .ref q134, .ref q136, .ref q138, .ref q140])), (q1, .inr (13, [.ref q2, .int 0, .ref q3, .ref q4, .ref q5, .int 0])), (q2, .inl (cy 1, 240, .inl (fun _ => 0))), (ou, .inl (cy 2, 1, .inr (.inl (fun _ => 0))))] sz)) 0 0 (va_A [(h0, .inr (15, [.ref q1, .ref q26, .ref q6, .ref q16, .int 0, .int 0, .ref q35, .ref q41, .ref q88, .ref q111, .ref q127, .ref q132, .int 0, .int 0, .ref q134, .ref q136, .ref q138, .ref q140])), (q1, .inr (13, [.ref q2, .int 0, .ref q3, .ref q4, .ref q5, .int 0])), (q2, .inl (cy 1, 240, .inl (fun _ => 0))), (ou, .inl (cy 2, 1, .inr (.inl (fun _ => 0))))] sz) := by
  refine va_MetW (cc := cL_feed) (maxL := 8) (ret := (some .int)) (by decide) rfl ?_
  intro p e s m args below meth c s₁ B hml hv
  obtain ⟨rfl, hsz, hP, hKK, hD0⟩ := hv
  have hK := hKK.1
  have hx := B.exec
  have hb := B.bytes
  have hr := B.returns
  have hts := atoms_spec (ws := wq_c_L_feed) B.pre
  have hown : s.vm.findClass RL = some m.cls := findClass_of_methodNamed B.named
  have hlocks := B.notSynchronized
  have htab := vx_table (x := yL_feed) B (hts _ List.mem_cons_self)
  subst hsz
  have hD := hD0.self (sz := s.heap.size)
  generalize hAe : va_A [(h0, .inr (15, [.ref q1, .ref q26, .ref q6, .ref q16, .int 0, .int 0, .ref q35, .ref q41, .ref q88, .ref q111, .ref q127, .ref q132, .int 0, .int 0, .ref q134, .ref q136, .ref q138, .ref q140])), (q1, .inr (13, [.ref q2, .int 0, .ref q3, .ref q4, .ref q5, .int 0])), (q2, .inl (cy 1, 240, .inl (fun _ => 0))), (ou, .inl (cy 2, 1, .inr (.inl (fun _ => 0))))] s.heap.size = A at hD ⊢
  have hA : ∀ q : Nat, s.heap.size ≤ q → A q := fun q h => by rw [← hAe]; exact Or.inr h
  obtain ⟨H, hS, hP, hgo⟩ : ∃ H, va_S A s.heap H [] ∧ va_P D vwCl [(h0, .inr (15, [.ref q1, .ref q26, .ref q6, .ref q16, .int 0, .int 0, .ref q35, .ref q41, .ref q88, .ref q111, .ref q127, .ref q132, .int 0, .int 0, .ref q134, .ref q136, .ref q138, .ref q140])), (q1, .inr (13, [.ref q2, .int 0, .ref q3, .ref q4, .ref q5, .int 0])), (q2, .inl (cy 1, 240, .inl (fun _ => 0))), (ou, .inl (cy 2, 1, .inr (.inl (fun _ => 0))))] H ∧ H = s.heap := ⟨s.heap, va_S.rf, hP, rfl⟩
  rw [← hgo]
  have hl := lv_entry ([.ref h0, .int p1, .int p2, .int p3, .int p4, .int p5, .ref ou]) (n := 8) (Nat.le_of_ble_eq_true rfl)
  rw [lg_entry_eq]
  generalize (lg_sl ([.ref h0, .int p1, .int p2, .int p3, .int p4, .int p5, .ref ou]) ++ List.replicate (8 - (lg_sl ([.ref h0, .int p1, .int p2, .int p3, .int p4, .int p5, .ref ou])).length) Slot.unset).toArray = ls at hl ⊢
  have hl : lv_has ls 8 [(0, .ref h0), (1, .int p1), (2, .int p2), (3, .int p3), (4, .int p4), (5, .int p5), (6, .ref ou)] := hl
  refine lv_aload hx hb dL_feed_0 (lv_at hl 6 rfl) ?_
  refine lv_iconst (v := 0) hx hb dL_feed_2 (by decide) ?_
  refine lv_aload_n hx hb dL_feed_3 rfl (lv_at hl 0 rfl) ?_
  refine lv_iload_n hx hb dL_feed_4 rfl (lv_at hl 1 rfl) ?_
  refine lv_iload_n hx hb dL_feed_5 rfl (lv_at hl 2 rfl) ?_
  refine lv_iload_n hx hb dL_feed_6 rfl (lv_at hl 3 rfl) ?_
  refine lv_iload hx hb dL_feed_7 (lv_at hl 4 rfl) ?_
  refine lv_iload hx hb dL_feed_9 (lv_at hl 5 rfl) ?_
  have hPc := hP.sub (ws' := [(h0, .inr (15, [.ref q1, .ref q26, .ref q6, .ref q16, .int 0, .int 0, .ref q35, .ref q41, .ref q88, .ref q111, .ref q127, .ref q132, .int 0, .int 0, .ref q134, .ref q136, .ref q138, .ref q140])), (q1, .inr (13, [.ref q2, .int 0, .ref q3, .ref q4, .ref q5, .int 0])), (q2, .inl (cy 1, 240, .inl (fun _ => 0)))]) [0, 1, 2] rfl
  have hDc := hD.sub (ws' := [(h0, .inr (15, [.ref q1, .ref q26, .ref q6, .ref q16, .int 0, .int 0, .ref q35, .ref q41, .ref q88, .ref q111, .ref q127, .ref q132, .int 0, .int 0, .ref q134, .ref q136, .ref q138, .ref q140])), (q1, .inr (13, [.ref q2, .int 0, .ref q3, .ref q4, .ref q5, .int 0])), (q2, .inl (cy 1, 240, .inl (fun _ => 0)))]) [0, 1, 2] (by decide) rfl
  have hFc := va_free (wc := [(h0, .inr (15, [.ref q1, .ref q26, .ref q6, .ref q16, .int 0, .int 0, .ref q35, .ref q41, .ref q88, .ref q111, .ref q127, .ref q132, .int 0, .int 0, .ref q134, .ref q136, .ref q138, .ref q140])), (q1, .inr (13, [.ref q2, .int 0, .ref q3, .ref q4, .ref q5, .int 0])), (q2, .inl (cy 1, 240, .inl (fun _ => 0)))]) hD hS hA [0, 1, 2] rfl
  refine va_calli (va_runV (As := [.int p1, .int p2, .int p3, .int p4, .int p5]) (rest := [.int 0, .ref ou]) ⟨hx, hb, hml, hown, hts⟩ (c_X12_feed l D cy h0 q1 q26 q6 q16 q35 q41 q88 q111 q127 q132 q134 q136 q138 q140 q2 q3 q4 q5 p1 p2 p3 p4 p5 H.size) (cwV 5 hts g_c_L_feed_0 rfl rfl rfl (by decide +kernel) ⟨(Nat.le_of_ble_eq_true rfl), (Nat.le_of_ble_eq_true rfl)⟩) ⟨fun a U g mk q => by obtain ⟨q0, q1, qP, qK, qD⟩ := q; exact ⟨q0, q1, qP, kK.moved (u := U) (U := U.calling g mk a) (Vm.Alike.refl U.vm) qK, qD⟩, va_recv hK hPc (ci := 15) (q0 := 0) rfl rfl, fun U hU hW => ⟨rfl, by rw [hU], by rw [hU]; exact hPc, kK.moved hW.alike hKK, hDc.weaken (fun _ _ _ _ => trivial)⟩⟩ rfl rfl hl.1 rfl (lv_room (Nat.le_of_ble_eq_true rfl)) dL_feed_11 ⟨(Nat.le_of_ble_eq_true rfl), (Nat.le_of_ble_eq_true rfl)⟩) hS (fun q _ h => hFc q h) hFc (fun r1 u2 t H1 locs ht hvm hw hB hz1 hk1 hS => ?_)
  obtain ⟨hP, hD⟩ := va_join (wr := [(ou, .inl (cy 2, 1, .inr (.inl (fun _ => 0))))]) (w1 := []) hP hD [0, 1, 2] [3] rfl rfl (by decide) (by decide) hk1 hFc va_P0 va_D0
  generalize H1 = H at hP hS ⊢
  have hP : va_P D vwCl [(ou, .inl (cy 2, 1, .inr (.inl (fun _ => 0))))] H := hP
  have hD : va_D A [(ou, .inl (cy 2, 1, .inr (.inl (fun _ => 0))))] := hD
  rcases hw with rfl
  refine lv_i2l (v := 20) hx hb dL_feed_14 (by decide) ?_
  refine va_last hx hb hK hP hD hS 0 2 rfl rfl (by unfold vp_in; decide) dL_feed_15 (fun H locs hP hD hS => ?_)
  have hP : va_P D vwCl [(ou, .inl (cy 2, 1, .inr (.inl (vp_updL (fun _ => 0) 0 20))))] H := hP
  have hD : va_D A [(ou, .inl (cy 2, 1, .inr (.inl (vp_updL (fun _ => 0) 0 20))))] := hD
  refine lv_goto (tgt := 23) hx hb dL_feed_16 (by decide) ?_
  refine lv_iconst (v := 0) hx hb dL_feed_23 (by decide) ?_
  refine W.widen (k := 0) (n := 0) (Nat.le_of_ble_eq_true rfl) (Nat.le_of_ble_eq_true rfl) ?_
  exact W.iret (v := 0) hx hb hr (fun t ht hW => ⟨⟨0, 20, rfl, ⟨rfl, rfl⟩, (vp_updL (fun _ => 0) 0 20), by rw [ht]; exact hP.sub [0] rfl, hD.sub [0] (by decide) rfl, rfl⟩, hS.F ht⟩) hS.2.2 dL_feed_24
def wq_c_X13_feed : List Cond := .code yX13_feed cX13_feed 8 (some .int) :: ([.fieldLink RX13 253 "ChanceWorksModel" "size" "I", .constant RX13 13 (65536), .fieldLink RX13 1 "ChanceWorksModel" "code" "I", .fieldLink RX13 14 "ChanceWorksModel" "tape" "[B"] ++ (u_ws RX13 TX13 126))
theorem i_c_X13_feed_X13 : ∀ w ∈ u_ws RX13 TX13 126, w ∈ wq_c_X13_feed := fun w h => List.mem_cons_of_mem _ (List.mem_append_right _ (h))
set_option maxHeartbeats 4000000 in
set_option maxRecDepth 100000 in
theorem c_X13_feed (l : Launch) (D : va_G) (cy : Nat → ClassId) (h0 q1 q3 q5 q7 q9 q11 q13 q15 q17 q19 q21 q23 q25 q27 q29 q31 q33 q35 q37 q39 q41 q43 q45 q47 q49 q51 q53 q55 q57 q59 q61 q63 q65 q67 q69 q71 q73 q75 q77 q79 q81 q83 q85 q87 q89 q91 q93 q95 q97 q99 q101 q103 q105 q107 q109 q111 q113 q115 q117 q119 q121 q123 q125 q127 q129 q131 q133 q135 q137 q139 q141 q143 q145 q147 q149 : Nat) (p1 p2 p3 p4 p5 : Int32) (sz : Nat) : Met l yX13_feed wq_c_X13_feed ({ frames := 0, cells := 0, slots := 0, locals := 0 }) (va_Pc [.ref h0, .int p1, .int p2, .int p3, .int p4, .int p5] (fun U => U.heap.size = sz ∧ va_P D vwCl [(h0, .inr (16, [.int 0, .ref q1, .int 0, .int 0, .int 0, .ref q3, .ref q5, .ref q7, .ref q9, .ref q11, .int 0, .int 0, .int 0, .int 0, .int 0, .int 0, .int 0, .int 0, .int 0, .int 0, .ref q13, .ref q15, .ref q17, .ref q19, .ref q21, .ref q23, .ref q25, .ref q27, .ref q29, .ref q31, .ref q33, .ref q35, .ref q37, .ref q39, .ref q41, .ref q43, .ref q45, .ref q47, .ref q49, .ref q51, .int 0, .int 0, .int 0, .ref q53, .ref q55, .ref q57, .int 0, .int 0, .int 0, .int 0, .ref q59, .ref q61, .ref q63, .int 0, .ref q65, .int 0, .ref q67, .ref q69, .int 0, .ref q71, .ref q73, .int 0, .int 0, .int 0, .ref q75, .ref q77, .int 0, .int 0, .ref q79, .int 0, .int 0, .int 0, .int 0, .ref q81, .ref q83, .ref q85, .ref q87, .ref q89, .ref q91, .ref q93, .ref q95, .ref q97, .ref q99, .ref q101, .ref q103, .int 0, .ref q105, .ref q107, .int 0, .int 0, .ref q109, .ref q111, .int 0, .ref q113, .int 0, .ref q115, .ref q117, .ref q119, .ref q121, .ref q123, .int 0, .ref q125, .ref q127, .int 0, .int 0, .ref q129, .int (-1), .int 0, .int 0, .int 0, .long 0, .ref q131, .long 0, .int 0, .int 0, .ref q133, .ref q135, .ref q137, .ref q139, .ref q141, .ref q143, .ref q145, .ref q147, .ref q149, .int 0, .int 0])), (q1, .inl (cy 1, 65536, .inl (fun _ => 0)))] U.heap ∧ kK D cy U ∧ va_D (fun _ => True) [(h0, .inr (16, [.int 0, .ref q1, .int 0, .int 0, .int 0, .ref q3, .ref q5, .ref q7, .ref q9, .ref q11, .int 0, .int 0, .int 0, .int 0, .int 0, .int 0, .int 0, .int 0, .int 0, .int 0, .ref q13, .ref q15, .ref q17, .ref q19, .ref q21, .ref q23, .ref q25, .ref q27, .ref q29, .ref q31, .ref q33, .ref q35, .ref q37, .ref q39, .ref q41, .ref q43, .ref q45, .ref q47, .ref q49, .ref q51, .int 0, .int 0, .int 0, .ref q53, .ref q55, .ref q57, .int 0, .int 0, .int 0, .int 0, .ref q59, .ref q61, .ref q63, .int 0, .ref q65, .int 0, .ref q67, .ref q69, .int 0, .ref q71, .ref q73, .int 0, .int 0, .int 0, .ref q75, .ref q77, .int 0, .int 0, .ref q79, .int 0, .int 0, .int 0, .int 0, .ref q81, .ref q83, .ref q85, .ref q87, .ref q89, .ref q91, .ref q93, .ref q95, .ref q97, .ref q99, .ref q101, .ref q103, .int 0, .ref q105, .ref q107, .int 0, .int 0, .ref q109, .ref q111, .int 0, .ref q113, .int 0, .ref q115, .ref q117, .ref q119, .ref q121, .ref q123, .int 0, .ref q125, .ref q127, .int 0, .int 0, .ref q129, .int (-1), .int 0, .int 0, .int 0, .long 0, .ref q131, .long 0, .int 0, .int 0, .ref q133, .ref q135, .ref q137, .ref q139, .ref q141, .ref q143, .ref q145, .ref q147, .ref q149, .int 0, .int 0])), (q1, .inl (cy 1, 65536, .inl (fun _ => 0)))])) (va_Qi (fun (r : Int32) (u : Int32) => (r = 20 ∧ u = 0)) (fun (u : Int32) t => ∃ fs : List Value, va_P D vwCl [(h0, .inr (16, fs))] t.heap ∧ va_D (va_A [(h0, .inr (16, [.int 0, .ref q1, .int 0, .int 0, .int 0, .ref q3, .ref q5, .ref q7, .ref q9, .ref q11, .int 0, .int 0, .int 0, .int 0, .int 0, .int 0, .int 0, .int 0, .int 0, .int 0, .ref q13, .ref q15, .ref q17, .ref q19, .ref q21, .ref q23, .ref q25, .ref q27, .ref q29, .ref q31, .ref q33, .ref q35, .ref q37, .ref q39, .ref q41, .ref q43, .ref q45, .ref q47, .ref q49, .ref q51, .int 0, .int 0, .int 0, .ref q53, .ref q55, .ref q57, .int 0, .int 0, .int 0, .int 0, .ref q59, .ref q61, .ref q63, .int 0, .ref q65, .int 0, .ref q67, .ref q69, .int 0, .ref q71, .ref q73, .int 0, .int 0, .int 0, .ref q75, .ref q77, .int 0, .int 0, .ref q79, .int 0, .int 0, .int 0, .int 0, .ref q81, .ref q83, .ref q85, .ref q87, .ref q89, .ref q91, .ref q93, .ref q95, .ref q97, .ref q99, .ref q101, .ref q103, .int 0, .ref q105, .ref q107, .int 0, .int 0, .ref q109, .ref q111, .int 0, .ref q113, .int 0, .ref q115, .ref q117, .ref q119, .ref q121, .ref q123, .int 0, .ref q125, .ref q127, .int 0, .int 0, .ref q129, .int (-1), .int 0, .int 0, .int 0, .long 0, .ref q131, .long 0, .int 0, .int 0, .ref q133, .ref q135, .ref q137, .ref q139, .ref q141, .ref q143, .ref q145, .ref q147, .ref q149, .int 0, .int 0])), (q1, .inl (cy 1, 65536, .inl (fun _ => 0)))] sz) [(h0, .inr (16, fs))] ∧ fs[0]? = some (.int u)) (va_A [(h0, .inr (16, [.int 0, .ref q1, .int 0, .int 0, .int 0, .ref q3, .ref q5, .ref q7, .ref q9, .ref q11, .int 0, .int 0, .int 0, .int 0, .int 0, .int 0, .int 0, .int 0, .int 0, .int 0, .ref q13, .ref q15, .ref q17, .ref q19, .ref q21, .ref q23, .ref q25, .ref q27, .ref q29, .ref q31, .ref q33, .ref q35, .ref q37, .ref q39, .ref q41, .ref q43, .ref q45, .ref q47, .ref q49, .ref q51, .int 0, .int 0, .int 0, .ref q53, .ref q55, .ref q57, .int 0, .int 0, .int 0, .int 0, .ref q59, .ref q61, .ref q63, .int 0, .ref q65, .int 0, .ref q67, .ref q69, .int 0, .ref q71, .ref q73, .int 0, .int 0, .int 0, .ref q75, .ref q77, .int 0, .int 0, .ref q79, .int 0, .int 0, .int 0, .int 0, .ref q81, .ref q83, .ref q85, .ref q87, .ref q89, .ref q91, .ref q93, .ref q95, .ref q97, .ref q99, .ref q101, .ref q103, .int 0, .ref q105, .ref q107, .int 0, .int 0, .ref q109, .ref q111, .int 0, .ref q113, .int 0, .ref q115, .ref q117, .ref q119, .ref q121, .ref q123, .int 0, .ref q125, .ref q127, .int 0, .int 0, .ref q129, .int (-1), .int 0, .int 0, .int 0, .long 0, .ref q131, .long 0, .int 0, .int 0, .ref q133, .ref q135, .ref q137, .ref q139, .ref q141, .ref q143, .ref q145, .ref q147, .ref q149, .int 0, .int 0])), (q1, .inl (cy 1, 65536, .inl (fun _ => 0)))] sz)) 0 0 (va_A [(h0, .inr (16, [.int 0, .ref q1, .int 0, .int 0, .int 0, .ref q3, .ref q5, .ref q7, .ref q9, .ref q11, .int 0, .int 0, .int 0, .int 0, .int 0, .int 0, .int 0, .int 0, .int 0, .int 0, .ref q13, .ref q15, .ref q17, .ref q19, .ref q21, .ref q23, .ref q25, .ref q27, .ref q29, .ref q31, .ref q33, .ref q35, .ref q37, .ref q39, .ref q41, .ref q43, .ref q45, .ref q47, .ref q49, .ref q51, .int 0, .int 0, .int 0, .ref q53, .ref q55, .ref q57, .int 0, .int 0, .int 0, .int 0, .ref q59, .ref q61, .ref q63, .int 0, .ref q65, .int 0, .ref q67, .ref q69, .int 0, .ref q71, .ref q73, .int 0, .int 0, .int 0, .ref q75, .ref q77, .int 0, .int 0, .ref q79, .int 0, .int 0, .int 0, .int 0, .ref q81, .ref q83, .ref q85, .ref q87, .ref q89, .ref q91, .ref q93, .ref q95, .ref q97, .ref q99, .ref q101, .ref q103, .int 0, .ref q105, .ref q107, .int 0, .int 0, .ref q109, .ref q111, .int 0, .ref q113, .int 0, .ref q115, .ref q117, .ref q119, .ref q121, .ref q123, .int 0, .ref q125, .ref q127, .int 0, .int 0, .ref q129, .int (-1), .int 0, .int 0, .int 0, .long 0, .ref q131, .long 0, .int 0, .int 0, .ref q133, .ref q135, .ref q137, .ref q139, .ref q141, .ref q143, .ref q145, .ref q147, .ref q149, .int 0, .int 0])), (q1, .inl (cy 1, 65536, .inl (fun _ => 0)))] sz) := by
  refine Met.ofW (cc := cX13_feed) (maxL := 8) (ret := (some .int)) (by decide) rfl ?_
  intro p e s m args below meth c s₁ B hml hv
  obtain ⟨rfl, hsz, hP, hKK, hD0⟩ := hv
  have hK := hKK.1
  have hx := B.exec
  have hb := B.bytes
  have hr := B.returns
  have hts := atoms_spec (ws := wq_c_X13_feed) B.pre
  have hown : s.vm.findClass RX13 = some m.cls := findClass_of_methodNamed B.named
  have hlocks := B.notSynchronized
  subst hsz
  have hD := hD0.self (sz := s.heap.size)
  generalize hAe : va_A [(h0, .inr (16, [.int 0, .ref q1, .int 0, .int 0, .int 0, .ref q3, .ref q5, .ref q7, .ref q9, .ref q11, .int 0, .int 0, .int 0, .int 0, .int 0, .int 0, .int 0, .int 0, .int 0, .int 0, .ref q13, .ref q15, .ref q17, .ref q19, .ref q21, .ref q23, .ref q25, .ref q27, .ref q29, .ref q31, .ref q33, .ref q35, .ref q37, .ref q39, .ref q41, .ref q43, .ref q45, .ref q47, .ref q49, .ref q51, .int 0, .int 0, .int 0, .ref q53, .ref q55, .ref q57, .int 0, .int 0, .int 0, .int 0, .ref q59, .ref q61, .ref q63, .int 0, .ref q65, .int 0, .ref q67, .ref q69, .int 0, .ref q71, .ref q73, .int 0, .int 0, .int 0, .ref q75, .ref q77, .int 0, .int 0, .ref q79, .int 0, .int 0, .int 0, .int 0, .ref q81, .ref q83, .ref q85, .ref q87, .ref q89, .ref q91, .ref q93, .ref q95, .ref q97, .ref q99, .ref q101, .ref q103, .int 0, .ref q105, .ref q107, .int 0, .int 0, .ref q109, .ref q111, .int 0, .ref q113, .int 0, .ref q115, .ref q117, .ref q119, .ref q121, .ref q123, .int 0, .ref q125, .ref q127, .int 0, .int 0, .ref q129, .int (-1), .int 0, .int 0, .int 0, .long 0, .ref q131, .long 0, .int 0, .int 0, .ref q133, .ref q135, .ref q137, .ref q139, .ref q141, .ref q143, .ref q145, .ref q147, .ref q149, .int 0, .int 0])), (q1, .inl (cy 1, 65536, .inl (fun _ => 0)))] s.heap.size = A at hD ⊢
  have hA : ∀ q : Nat, s.heap.size ≤ q → A q := fun q h => by rw [← hAe]; exact Or.inr h
  obtain ⟨H, hS, hP, hgo⟩ : ∃ H, va_S A s.heap H [] ∧ va_P D vwCl [(h0, .inr (16, [.int 0, .ref q1, .int 0, .int 0, .int 0, .ref q3, .ref q5, .ref q7, .ref q9, .ref q11, .int 0, .int 0, .int 0, .int 0, .int 0, .int 0, .int 0, .int 0, .int 0, .int 0, .ref q13, .ref q15, .ref q17, .ref q19, .ref q21, .ref q23, .ref q25, .ref q27, .ref q29, .ref q31, .ref q33, .ref q35, .ref q37, .ref q39, .ref q41, .ref q43, .ref q45, .ref q47, .ref q49, .ref q51, .int 0, .int 0, .int 0, .ref q53, .ref q55, .ref q57, .int 0, .int 0, .int 0, .int 0, .ref q59, .ref q61, .ref q63, .int 0, .ref q65, .int 0, .ref q67, .ref q69, .int 0, .ref q71, .ref q73, .int 0, .int 0, .int 0, .ref q75, .ref q77, .int 0, .int 0, .ref q79, .int 0, .int 0, .int 0, .int 0, .ref q81, .ref q83, .ref q85, .ref q87, .ref q89, .ref q91, .ref q93, .ref q95, .ref q97, .ref q99, .ref q101, .ref q103, .int 0, .ref q105, .ref q107, .int 0, .int 0, .ref q109, .ref q111, .int 0, .ref q113, .int 0, .ref q115, .ref q117, .ref q119, .ref q121, .ref q123, .int 0, .ref q125, .ref q127, .int 0, .int 0, .ref q129, .int (-1), .int 0, .int 0, .int 0, .long 0, .ref q131, .long 0, .int 0, .int 0, .ref q133, .ref q135, .ref q137, .ref q139, .ref q141, .ref q143, .ref q145, .ref q147, .ref q149, .int 0, .int 0])), (q1, .inl (cy 1, 65536, .inl (fun _ => 0)))] H ∧ H = s.heap := ⟨s.heap, va_S.rf, hP, rfl⟩
  rw [← hgo]
  have hl := lv_entry ([.ref h0, .int p1, .int p2, .int p3, .int p4, .int p5]) (n := 8) (Nat.le_of_ble_eq_true rfl)
  rw [lg_entry_eq]
  generalize (lg_sl ([.ref h0, .int p1, .int p2, .int p3, .int p4, .int p5]) ++ List.replicate (8 - (lg_sl ([.ref h0, .int p1, .int p2, .int p3, .int p4, .int p5])).length) Slot.unset).toArray = ls at hl ⊢
  have hl : lv_has ls 8 [(0, .ref h0), (1, .int p1), (2, .int p2), (3, .int p3), (4, .int p4), (5, .int p5)] := hl
  refine lv_aload_n hx hb dX13_feed_0 rfl (lv_at hl 0 rfl) ?_
  refine lv_aload_n hx hb dX13_feed_1 rfl (lv_at hl 0 rfl) ?_
  refine va_get (D := D) (ci := 16) (v := .int 0) (C := RX13) (T := TX13) (N := 126) hx hb hts i_c_X13_feed_X13 hown hK hP 0 rfl rfl 2 (by decide) (hts (.fieldLink RX13 253 "ChanceWorksModel" "size" "I") (List.mem_of_getElem? (i := 1) rfl)) (fun _ h9 => h9) rfl dX13_feed_2 ?_
  refine lv_bipush (v := 20) hx hb dX13_feed_5 (by decide) ?_
  refine lv_iadd hx hb dX13_feed_7 ?_
  rw [show (0 : Int32) + 20 = 20 by decide]
  refine lv_ldc (v := 65536) hx hb hown (hts (.constant RX13 13 (65536)) (List.mem_of_getElem? (i := 2) rfl)) dX13_feed_8 ?_
  refine lv_icmp_le (tgt := 17) hx hb dX13_feed_10 (by decide) (fun _ => ?_) (fun c9 => absurd (by decide) c9)
  refine lv_iconst (v := 0) hx hb dX13_feed_17 (by decide) ?_
  refine va_put (D := D) (ci := 16) (v := .int 0) (ty := .int) (C := RX13) (T := TX13) (N := 126) hx hb hts i_c_X13_feed_X13 tyX13 tyX13_ok nmX13 hown hK hP hD hS 0 rfl rfl 0 (by decide) (hts (.fieldLink RX13 1 "ChanceWorksModel" "code" "I") (List.mem_of_getElem? (i := 3) rfl)) (fun _ h9 => h9) rfl (by decide +kernel) rfl rfl (Nat.le_of_ble_eq_true rfl) dX13_feed_18 (fun H locs hP hD hS => ?_)
  have hP : va_P D vwCl [(h0, .inr (16, [.int 0, .ref q1, .int 0, .int 0, .int 0, .ref q3, .ref q5, .ref q7, .ref q9, .ref q11, .int 0, .int 0, .int 0, .int 0, .int 0, .int 0, .int 0, .int 0, .int 0, .int 0, .ref q13, .ref q15, .ref q17, .ref q19, .ref q21, .ref q23, .ref q25, .ref q27, .ref q29, .ref q31, .ref q33, .ref q35, .ref q37, .ref q39, .ref q41, .ref q43, .ref q45, .ref q47, .ref q49, .ref q51, .int 0, .int 0, .int 0, .ref q53, .ref q55, .ref q57, .int 0, .int 0, .int 0, .int 0, .ref q59, .ref q61, .ref q63, .int 0, .ref q65, .int 0, .ref q67, .ref q69, .int 0, .ref q71, .ref q73, .int 0, .int 0, .int 0, .ref q75, .ref q77, .int 0, .int 0, .ref q79, .int 0, .int 0, .int 0, .int 0, .ref q81, .ref q83, .ref q85, .ref q87, .ref q89, .ref q91, .ref q93, .ref q95, .ref q97, .ref q99, .ref q101, .ref q103, .int 0, .ref q105, .ref q107, .int 0, .int 0, .ref q109, .ref q111, .int 0, .ref q113, .int 0, .ref q115, .ref q117, .ref q119, .ref q121, .ref q123, .int 0, .ref q125, .ref q127, .int 0, .int 0, .ref q129, .int (-1), .int 0, .int 0, .int 0, .long 0, .ref q131, .long 0, .int 0, .int 0, .ref q133, .ref q135, .ref q137, .ref q139, .ref q141, .ref q143, .ref q145, .ref q147, .ref q149, .int 0, .int 0])), (q1, .inl (cy 1, 65536, .inl (fun _ => 0)))] H := hP
  have hD : va_D A [(h0, .inr (16, [.int 0, .ref q1, .int 0, .int 0, .int 0, .ref q3, .ref q5, .ref q7, .ref q9, .ref q11, .int 0, .int 0, .int 0, .int 0, .int 0, .int 0, .int 0, .int 0, .int 0, .int 0, .ref q13, .ref q15, .ref q17, .ref q19, .ref q21, .ref q23, .ref q25, .ref q27, .ref q29, .ref q31, .ref q33, .ref q35, .ref q37, .ref q39, .ref q41, .ref q43, .ref q45, .ref q47, .ref q49, .ref q51, .int 0, .int 0, .int 0, .ref q53, .ref q55, .ref q57, .int 0, .int 0, .int 0, .int 0, .ref q59, .ref q61, .ref q63, .int 0, .ref q65, .int 0, .ref q67, .ref q69, .int 0, .ref q71, .ref q73, .int 0, .int 0, .int 0, .ref q75, .ref q77, .int 0, .int 0, .ref q79, .int 0, .int 0, .int 0, .int 0, .ref q81, .ref q83, .ref q85, .ref q87, .ref q89, .ref q91, .ref q93, .ref q95, .ref q97, .ref q99, .ref q101, .ref q103, .int 0, .ref q105, .ref q107, .int 0, .int 0, .ref q109, .ref q111, .int 0, .ref q113, .int 0, .ref q115, .ref q117, .ref q119, .ref q121, .ref q123, .int 0, .ref q125, .ref q127, .int 0, .int 0, .ref q129, .int (-1), .int 0, .int 0, .int 0, .long 0, .ref q131, .long 0, .int 0, .int 0, .ref q133, .ref q135, .ref q137, .ref q139, .ref q141, .ref q143, .ref q145, .ref q147, .ref q149, .int 0, .int 0])), (q1, .inl (cy 1, 65536, .inl (fun _ => 0)))] := hD
  refine lv_aload_n hx hb dX13_feed_21 rfl (lv_at hl 0 rfl) ?_
  refine va_get (D := D) (ci := 16) (v := .int 0) (C := RX13) (T := TX13) (N := 126) hx hb hts i_c_X13_feed_X13 hown hK hP 0 rfl rfl 0 (by decide) (hts (.fieldLink RX13 1 "ChanceWorksModel" "code" "I") (List.mem_of_getElem? (i := 3) rfl)) (fun _ h9 => h9) rfl dX13_feed_22 ?_
  refine lv_if_le (tgt := 30) hx hb dX13_feed_25 (by decide) (fun _ => ?_) (fun c9 => absurd (by decide) c9)
  refine lv_iconst (v := 0) hx hb dX13_feed_30 (by decide) ?_
  refine lv_istore (lv' := [(6, .int 0), (0, .ref h0), (1, .int p1), (2, .int p2), (3, .int p3), (4, .int p4), (5, .int p5)]) hx hb dX13_feed_31 hl (by decide) rfl (fun ls hl => ?_)
  refine lv_iload hx hb dX13_feed_33 (lv_at hl 0 rfl) ?_
  refine lv_bipush (v := 20) hx hb dX13_feed_35 (by decide) ?_
  refine lv_icmp_ge (tgt := 127) hx hb dX13_feed_37 (by decide) (fun c9 => absurd c9 (by decide)) (fun _ => ?_)
  refine lv_iload hx hb dX13_feed_40 (lv_at hl 0 rfl) ?_
  refine lv_iconst (v := 4) hx hb dX13_feed_42 (by decide) ?_
  refine lv_icmp_ge (tgt := 50) hx hb dX13_feed_43 (by decide) (fun c9 => absurd c9 (by decide)) (fun _ => ?_)
  refine lv_iload_n hx hb dX13_feed_46 rfl (lv_at hl 2 rfl) ?_
  refine lv_goto (tgt := 86) hx hb dX13_feed_47 (by decide) ?_
  refine lv_istore (lv' := [(7, .int p1), (6, .int 0), (0, .ref h0), (1, .int p1), (2, .int p2), (3, .int p3), (4, .int p4), (5, .int p5)]) hx hb dX13_feed_86 hl (by decide) rfl (fun ls hl => ?_)
  refine lv_aload_n hx hb dX13_feed_88 rfl (lv_at hl 2 rfl) ?_
  refine va_get (D := D) (ci := 16) (v := .ref q1) (C := RX13) (T := TX13) (N := 126) hx hb hts i_c_X13_feed_X13 hown hK hP 0 rfl rfl 1 (by decide) (hts (.fieldLink RX13 14 "ChanceWorksModel" "tape" "[B") (List.mem_of_getElem? (i := 4) rfl)) (fun _ h9 => h9) rfl dX13_feed_89 ?_
  refine lv_aload_n hx hb dX13_feed_92 rfl (lv_at hl 2 rfl) ?_
  refine va_get (D := D) (ci := 16) (v := .int 0) (C := RX13) (T := TX13) (N := 126) hx hb hts i_c_X13_feed_X13 hown hK hP 0 rfl rfl 2 (by decide) (hts (.fieldLink RX13 253 "ChanceWorksModel" "size" "I") (List.mem_of_getElem? (i := 1) rfl)) (fun _ h9 => h9) rfl dX13_feed_93 ?_
  refine lv_iload hx hb dX13_feed_96 (lv_at hl 0 rfl) ?_
  refine lv_bipush (v := 24) hx hb dX13_feed_98 (by decide) ?_
  refine lv_bipush (v := 8) hx hb dX13_feed_100 (by decide) ?_
  refine lv_iload hx hb dX13_feed_102 (lv_at hl 1 rfl) ?_
  refine lv_iconst (v := 3) hx hb dX13_feed_104 (by decide) ?_
  refine lv_iand hx hb dX13_feed_105 ?_
  rw [show (0 : Int32) &&& 3 = 0 by decide]
  refine lv_imul hx hb dX13_feed_106 ?_
  rw [show (8 : Int32) * 0 = 0 by decide]
  refine lv_isub hx hb dX13_feed_107 ?_
  rw [show (24 : Int32) - 0 = 24 by decide]
  refine lv_ishr hx hb dX13_feed_108 ?_
  refine lv_topi (fun v1 e_v1 => ?_)
  obtain ⟨v2, e_v2⟩ : ∃ z : Int32, z = v1.toInt8.toInt32 := ⟨_, rfl⟩
  refine lv_i2b (v := v2) hx hb dX13_feed_109 e_v2.symm ?_
  refine va_bast hx hb hK hP hD hS 1 1 rfl rfl (by unfold vp_in; decide) dX13_feed_110 (fun H locs hP hD hS => ?_)
  have hP : va_P D vwCl [(h0, .inr (16, [.int 0, .ref q1, .int 0, .int 0, .int 0, .ref q3, .ref q5, .ref q7, .ref q9, .ref q11, .int 0, .int 0, .int 0, .int 0, .int 0, .int 0, .int 0, .int 0, .int 0, .int 0, .ref q13, .ref q15, .ref q17, .ref q19, .ref q21, .ref q23, .ref q25, .ref q27, .ref q29, .ref q31, .ref q33, .ref q35, .ref q37, .ref q39, .ref q41, .ref q43, .ref q45, .ref q47, .ref q49, .ref q51, .int 0, .int 0, .int 0, .ref q53, .ref q55, .ref q57, .int 0, .int 0, .int 0, .int 0, .ref q59, .ref q61, .ref q63, .int 0, .ref q65, .int 0, .ref q67, .ref q69, .int 0, .ref q71, .ref q73, .int 0, .int 0, .int 0, .ref q75, .ref q77, .int 0, .int 0, .ref q79, .int 0, .int 0, .int 0, .int 0, .ref q81, .ref q83, .ref q85, .ref q87, .ref q89, .ref q91, .ref q93, .ref q95, .ref q97, .ref q99, .ref q101, .ref q103, .int 0, .ref q105, .ref q107, .int 0, .int 0, .ref q109, .ref q111, .int 0, .ref q113, .int 0, .ref q115, .ref q117, .ref q119, .ref q121, .ref q123, .int 0, .ref q125, .ref q127, .int 0, .int 0, .ref q129, .int (-1), .int 0, .int 0, .int 0, .long 0, .ref q131, .long 0, .int 0, .int 0, .ref q133, .ref q135, .ref q137, .ref q139, .ref q141, .ref q143, .ref q145, .ref q147, .ref q149, .int 0, .int 0])), (q1, .inl (cy 1, 65536, .inl (upd (fun _ => 0) 0 (vp_nar .byte v2))))] H := hP
  have hD : va_D A [(h0, .inr (16, [.int 0, .ref q1, .int 0, .int 0, .int 0, .ref q3, .ref q5, .ref q7, .ref q9, .ref q11, .int 0, .int 0, .int 0, .int 0, .int 0, .int 0, .int 0, .int 0, .int 0, .int 0, .ref q13, .ref q15, .ref q17, .ref q19, .ref q21, .ref q23, .ref q25, .ref q27, .ref q29, .ref q31, .ref q33, .ref q35, .ref q37, .ref q39, .ref q41, .ref q43, .ref q45, .ref q47, .ref q49, .ref q51, .int 0, .int 0, .int 0, .ref q53, .ref q55, .ref q57, .int 0, .int 0, .int 0, .int 0, .ref q59, .ref q61, .ref q63, .int 0, .ref q65, .int 0, .ref q67, .ref q69, .int 0, .ref q71, .ref q73, .int 0, .int 0, .int 0, .ref q75, .ref q77, .int 0, .int 0, .ref q79, .int 0, .int 0, .int 0, .int 0, .ref q81, .ref q83, .ref q85, .ref q87, .ref q89, .ref q91, .ref q93, .ref q95, .ref q97, .ref q99, .ref q101, .ref q103, .int 0, .ref q105, .ref q107, .int 0, .int 0, .ref q109, .ref q111, .int 0, .ref q113, .int 0, .ref q115, .ref q117, .ref q119, .ref q121, .ref q123, .int 0, .ref q125, .ref q127, .int 0, .int 0, .ref q129, .int (-1), .int 0, .int 0, .int 0, .long 0, .ref q131, .long 0, .int 0, .int 0, .ref q133, .ref q135, .ref q137, .ref q139, .ref q141, .ref q143, .ref q145, .ref q147, .ref q149, .int 0, .int 0])), (q1, .inl (cy 1, 65536, .inl (upd (fun _ => 0) 0 (vp_nar .byte v2))))] := hD
  generalize (upd (fun _ => 0) 0 (vp_nar .byte v2)) = f3 at hP hD
  refine lv_aload_n hx hb dX13_feed_111 rfl (lv_at hl 2 rfl) ?_
  refine lv_dup hx hb dX13_feed_112 rfl ?_
  refine va_get (D := D) (ci := 16) (v := .int 0) (C := RX13) (T := TX13) (N := 126) hx hb hts i_c_X13_feed_X13 hown hK hP 0 rfl rfl 2 (by decide) (hts (.fieldLink RX13 253 "ChanceWorksModel" "size" "I") (List.mem_of_getElem? (i := 1) rfl)) (fun _ h9 => h9) rfl dX13_feed_113 ?_
  refine lv_iconst (v := 1) hx hb dX13_feed_116 (by decide) ?_
  refine lv_iadd hx hb dX13_feed_117 ?_
  rw [show (0 : Int32) + 1 = 1 by decide]
  refine va_put (D := D) (ci := 16) (v := .int 1) (ty := .int) (C := RX13) (T := TX13) (N := 126) hx hb hts i_c_X13_feed_X13 tyX13 tyX13_ok nmX13 hown hK hP hD hS 0 rfl rfl 2 (by decide) (hts (.fieldLink RX13 253 "ChanceWorksModel" "size" "I") (List.mem_of_getElem? (i := 1) rfl)) (fun _ h9 => h9) rfl (by decide +kernel) rfl rfl (Nat.le_of_ble_eq_true rfl) dX13_feed_118 (fun H locs hP hD hS => ?_)
  have hP : va_P D vwCl [(h0, .inr (16, [.int 0, .ref q1, .int 1, .int 0, .int 0, .ref q3, .ref q5, .ref q7, .ref q9, .ref q11, .int 0, .int 0, .int 0, .int 0, .int 0, .int 0, .int 0, .int 0, .int 0, .int 0, .ref q13, .ref q15, .ref q17, .ref q19, .ref q21, .ref q23, .ref q25, .ref q27, .ref q29, .ref q31, .ref q33, .ref q35, .ref q37, .ref q39, .ref q41, .ref q43, .ref q45, .ref q47, .ref q49, .ref q51, .int 0, .int 0, .int 0, .ref q53, .ref q55, .ref q57, .int 0, .int 0, .int 0, .int 0, .ref q59, .ref q61, .ref q63, .int 0, .ref q65, .int 0, .ref q67, .ref q69, .int 0, .ref q71, .ref q73, .int 0, .int 0, .int 0, .ref q75, .ref q77, .int 0, .int 0, .ref q79, .int 0, .int 0, .int 0, .int 0, .ref q81, .ref q83, .ref q85, .ref q87, .ref q89, .ref q91, .ref q93, .ref q95, .ref q97, .ref q99, .ref q101, .ref q103, .int 0, .ref q105, .ref q107, .int 0, .int 0, .ref q109, .ref q111, .int 0, .ref q113, .int 0, .ref q115, .ref q117, .ref q119, .ref q121, .ref q123, .int 0, .ref q125, .ref q127, .int 0, .int 0, .ref q129, .int (-1), .int 0, .int 0, .int 0, .long 0, .ref q131, .long 0, .int 0, .int 0, .ref q133, .ref q135, .ref q137, .ref q139, .ref q141, .ref q143, .ref q145, .ref q147, .ref q149, .int 0, .int 0])), (q1, .inl (cy 1, 65536, .inl f3))] H := hP
  have hD : va_D A [(h0, .inr (16, [.int 0, .ref q1, .int 1, .int 0, .int 0, .ref q3, .ref q5, .ref q7, .ref q9, .ref q11, .int 0, .int 0, .int 0, .int 0, .int 0, .int 0, .int 0, .int 0, .int 0, .int 0, .ref q13, .ref q15, .ref q17, .ref q19, .ref q21, .ref q23, .ref q25, .ref q27, .ref q29, .ref q31, .ref q33, .ref q35, .ref q37, .ref q39, .ref q41, .ref q43, .ref q45, .ref q47, .ref q49, .ref q51, .int 0, .int 0, .int 0, .ref q53, .ref q55, .ref q57, .int 0, .int 0, .int 0, .int 0, .ref q59, .ref q61, .ref q63, .int 0, .ref q65, .int 0, .ref q67, .ref q69, .int 0, .ref q71, .ref q73, .int 0, .int 0, .int 0, .ref q75, .ref q77, .int 0, .int 0, .ref q79, .int 0, .int 0, .int 0, .int 0, .ref q81, .ref q83, .ref q85, .ref q87, .ref q89, .ref q91, .ref q93, .ref q95, .ref q97, .ref q99, .ref q101, .ref q103, .int 0, .ref q105, .ref q107, .int 0, .int 0, .ref q109, .ref q111, .int 0, .ref q113, .int 0, .ref q115, .ref q117, .ref q119, .ref q121, .ref q123, .int 0, .ref q125, .ref q127, .int 0, .int 0, .ref q129, .int (-1), .int 0, .int 0, .int 0, .long 0, .ref q131, .long 0, .int 0, .int 0, .ref q133, .ref q135, .ref q137, .ref q139, .ref q141, .ref q143, .ref q145, .ref q147, .ref q149, .int 0, .int 0])), (q1, .inl (cy 1, 65536, .inl f3))] := hD
  refine lv_iinc (v := 1) (lv' := [(6, .int 1), (7, .int p1), (0, .ref h0), (1, .int p1), (2, .int p2), (3, .int p3), (4, .int p4), (5, .int p5)]) hx hb dX13_feed_121 hl (k := 1) rfl (by decide) (by decide) rfl (fun ls hl => ?_)
  refine lv_goto (tgt := 33) hx hb dX13_feed_124 (by decide) ?_
  refine lv_iload hx hb dX13_feed_33 (lv_at hl 0 rfl) ?_
  refine lv_bipush (v := 20) hx hb dX13_feed_35 (by decide) ?_
  refine lv_icmp_ge (tgt := 127) hx hb dX13_feed_37 (by decide) (fun c9 => absurd c9 (by decide)) (fun _ => ?_)
  refine lv_iload hx hb dX13_feed_40 (lv_at hl 0 rfl) ?_
  refine lv_iconst (v := 4) hx hb dX13_feed_42 (by decide) ?_
  refine lv_icmp_ge (tgt := 50) hx hb dX13_feed_43 (by decide) (fun c9 => absurd c9 (by decide)) (fun _ => ?_)
  refine lv_iload_n hx hb dX13_feed_46 rfl (lv_at hl 3 rfl) ?_
  refine lv_goto (tgt := 86) hx hb dX13_feed_47 (by decide) ?_
  refine lv_istore (lv' := [(7, .int p1), (6, .int 1), (0, .ref h0), (1, .int p1), (2, .int p2), (3, .int p3), (4, .int p4), (5, .int p5)]) hx hb dX13_feed_86 hl (by decide) rfl (fun ls hl => ?_)
  refine lv_aload_n hx hb dX13_feed_88 rfl (lv_at hl 2 rfl) ?_
  refine va_get (D := D) (ci := 16) (v := .ref q1) (C := RX13) (T := TX13) (N := 126) hx hb hts i_c_X13_feed_X13 hown hK hP 0 rfl rfl 1 (by decide) (hts (.fieldLink RX13 14 "ChanceWorksModel" "tape" "[B") (List.mem_of_getElem? (i := 4) rfl)) (fun _ h9 => h9) rfl dX13_feed_89 ?_
  refine lv_aload_n hx hb dX13_feed_92 rfl (lv_at hl 2 rfl) ?_
  refine va_get (D := D) (ci := 16) (v := .int 1) (C := RX13) (T := TX13) (N := 126) hx hb hts i_c_X13_feed_X13 hown hK hP 0 rfl rfl 2 (by decide) (hts (.fieldLink RX13 253 "ChanceWorksModel" "size" "I") (List.mem_of_getElem? (i := 1) rfl)) (fun _ h9 => h9) rfl dX13_feed_93 ?_
  refine lv_iload hx hb dX13_feed_96 (lv_at hl 0 rfl) ?_
  refine lv_bipush (v := 24) hx hb dX13_feed_98 (by decide) ?_
  refine lv_bipush (v := 8) hx hb dX13_feed_100 (by decide) ?_
  refine lv_iload hx hb dX13_feed_102 (lv_at hl 1 rfl) ?_
  refine lv_iconst (v := 3) hx hb dX13_feed_104 (by decide) ?_
  refine lv_iand hx hb dX13_feed_105 ?_
  rw [show (1 : Int32) &&& 3 = 1 by decide]
  refine lv_imul hx hb dX13_feed_106 ?_
  rw [show (8 : Int32) * 1 = 8 by decide]
  refine lv_isub hx hb dX13_feed_107 ?_
  rw [show (24 : Int32) - 8 = 16 by decide]
  refine lv_ishr hx hb dX13_feed_108 ?_
  refine lv_topi (fun v4 e_v4 => ?_)
  obtain ⟨v5, e_v5⟩ : ∃ z : Int32, z = v4.toInt8.toInt32 := ⟨_, rfl⟩
  refine lv_i2b (v := v5) hx hb dX13_feed_109 e_v5.symm ?_
  refine va_bast hx hb hK hP hD hS 1 1 rfl rfl (by unfold vp_in; decide) dX13_feed_110 (fun H locs hP hD hS => ?_)
  have hP : va_P D vwCl [(h0, .inr (16, [.int 0, .ref q1, .int 1, .int 0, .int 0, .ref q3, .ref q5, .ref q7, .ref q9, .ref q11, .int 0, .int 0, .int 0, .int 0, .int 0, .int 0, .int 0, .int 0, .int 0, .int 0, .ref q13, .ref q15, .ref q17, .ref q19, .ref q21, .ref q23, .ref q25, .ref q27, .ref q29, .ref q31, .ref q33, .ref q35, .ref q37, .ref q39, .ref q41, .ref q43, .ref q45, .ref q47, .ref q49, .ref q51, .int 0, .int 0, .int 0, .ref q53, .ref q55, .ref q57, .int 0, .int 0, .int 0, .int 0, .ref q59, .ref q61, .ref q63, .int 0, .ref q65, .int 0, .ref q67, .ref q69, .int 0, .ref q71, .ref q73, .int 0, .int 0, .int 0, .ref q75, .ref q77, .int 0, .int 0, .ref q79, .int 0, .int 0, .int 0, .int 0, .ref q81, .ref q83, .ref q85, .ref q87, .ref q89, .ref q91, .ref q93, .ref q95, .ref q97, .ref q99, .ref q101, .ref q103, .int 0, .ref q105, .ref q107, .int 0, .int 0, .ref q109, .ref q111, .int 0, .ref q113, .int 0, .ref q115, .ref q117, .ref q119, .ref q121, .ref q123, .int 0, .ref q125, .ref q127, .int 0, .int 0, .ref q129, .int (-1), .int 0, .int 0, .int 0, .long 0, .ref q131, .long 0, .int 0, .int 0, .ref q133, .ref q135, .ref q137, .ref q139, .ref q141, .ref q143, .ref q145, .ref q147, .ref q149, .int 0, .int 0])), (q1, .inl (cy 1, 65536, .inl (upd f3 1 (vp_nar .byte v5))))] H := hP
  have hD : va_D A [(h0, .inr (16, [.int 0, .ref q1, .int 1, .int 0, .int 0, .ref q3, .ref q5, .ref q7, .ref q9, .ref q11, .int 0, .int 0, .int 0, .int 0, .int 0, .int 0, .int 0, .int 0, .int 0, .int 0, .ref q13, .ref q15, .ref q17, .ref q19, .ref q21, .ref q23, .ref q25, .ref q27, .ref q29, .ref q31, .ref q33, .ref q35, .ref q37, .ref q39, .ref q41, .ref q43, .ref q45, .ref q47, .ref q49, .ref q51, .int 0, .int 0, .int 0, .ref q53, .ref q55, .ref q57, .int 0, .int 0, .int 0, .int 0, .ref q59, .ref q61, .ref q63, .int 0, .ref q65, .int 0, .ref q67, .ref q69, .int 0, .ref q71, .ref q73, .int 0, .int 0, .int 0, .ref q75, .ref q77, .int 0, .int 0, .ref q79, .int 0, .int 0, .int 0, .int 0, .ref q81, .ref q83, .ref q85, .ref q87, .ref q89, .ref q91, .ref q93, .ref q95, .ref q97, .ref q99, .ref q101, .ref q103, .int 0, .ref q105, .ref q107, .int 0, .int 0, .ref q109, .ref q111, .int 0, .ref q113, .int 0, .ref q115, .ref q117, .ref q119, .ref q121, .ref q123, .int 0, .ref q125, .ref q127, .int 0, .int 0, .ref q129, .int (-1), .int 0, .int 0, .int 0, .long 0, .ref q131, .long 0, .int 0, .int 0, .ref q133, .ref q135, .ref q137, .ref q139, .ref q141, .ref q143, .ref q145, .ref q147, .ref q149, .int 0, .int 0])), (q1, .inl (cy 1, 65536, .inl (upd f3 1 (vp_nar .byte v5))))] := hD
  generalize (upd f3 1 (vp_nar .byte v5)) = f6 at hP hD
  refine lv_aload_n hx hb dX13_feed_111 rfl (lv_at hl 2 rfl) ?_
  refine lv_dup hx hb dX13_feed_112 rfl ?_
  refine va_get (D := D) (ci := 16) (v := .int 1) (C := RX13) (T := TX13) (N := 126) hx hb hts i_c_X13_feed_X13 hown hK hP 0 rfl rfl 2 (by decide) (hts (.fieldLink RX13 253 "ChanceWorksModel" "size" "I") (List.mem_of_getElem? (i := 1) rfl)) (fun _ h9 => h9) rfl dX13_feed_113 ?_
  refine lv_iconst (v := 1) hx hb dX13_feed_116 (by decide) ?_
  refine lv_iadd hx hb dX13_feed_117 ?_
  rw [show (1 : Int32) + 1 = 2 by decide]
  refine va_put (D := D) (ci := 16) (v := .int 2) (ty := .int) (C := RX13) (T := TX13) (N := 126) hx hb hts i_c_X13_feed_X13 tyX13 tyX13_ok nmX13 hown hK hP hD hS 0 rfl rfl 2 (by decide) (hts (.fieldLink RX13 253 "ChanceWorksModel" "size" "I") (List.mem_of_getElem? (i := 1) rfl)) (fun _ h9 => h9) rfl (by decide +kernel) rfl rfl (Nat.le_of_ble_eq_true rfl) dX13_feed_118 (fun H locs hP hD hS => ?_)
  have hP : va_P D vwCl [(h0, .inr (16, [.int 0, .ref q1, .int 2, .int 0, .int 0, .ref q3, .ref q5, .ref q7, .ref q9, .ref q11, .int 0, .int 0, .int 0, .int 0, .int 0, .int 0, .int 0, .int 0, .int 0, .int 0, .ref q13, .ref q15, .ref q17, .ref q19, .ref q21, .ref q23, .ref q25, .ref q27, .ref q29, .ref q31, .ref q33, .ref q35, .ref q37, .ref q39, .ref q41, .ref q43, .ref q45, .ref q47, .ref q49, .ref q51, .int 0, .int 0, .int 0, .ref q53, .ref q55, .ref q57, .int 0, .int 0, .int 0, .int 0, .ref q59, .ref q61, .ref q63, .int 0, .ref q65, .int 0, .ref q67, .ref q69, .int 0, .ref q71, .ref q73, .int 0, .int 0, .int 0, .ref q75, .ref q77, .int 0, .int 0, .ref q79, .int 0, .int 0, .int 0, .int 0, .ref q81, .ref q83, .ref q85, .ref q87, .ref q89, .ref q91, .ref q93, .ref q95, .ref q97, .ref q99, .ref q101, .ref q103, .int 0, .ref q105, .ref q107, .int 0, .int 0, .ref q109, .ref q111, .int 0, .ref q113, .int 0, .ref q115, .ref q117, .ref q119, .ref q121, .ref q123, .int 0, .ref q125, .ref q127, .int 0, .int 0, .ref q129, .int (-1), .int 0, .int 0, .int 0, .long 0, .ref q131, .long 0, .int 0, .int 0, .ref q133, .ref q135, .ref q137, .ref q139, .ref q141, .ref q143, .ref q145, .ref q147, .ref q149, .int 0, .int 0])), (q1, .inl (cy 1, 65536, .inl f6))] H := hP
  have hD : va_D A [(h0, .inr (16, [.int 0, .ref q1, .int 2, .int 0, .int 0, .ref q3, .ref q5, .ref q7, .ref q9, .ref q11, .int 0, .int 0, .int 0, .int 0, .int 0, .int 0, .int 0, .int 0, .int 0, .int 0, .ref q13, .ref q15, .ref q17, .ref q19, .ref q21, .ref q23, .ref q25, .ref q27, .ref q29, .ref q31, .ref q33, .ref q35, .ref q37, .ref q39, .ref q41, .ref q43, .ref q45, .ref q47, .ref q49, .ref q51, .int 0, .int 0, .int 0, .ref q53, .ref q55, .ref q57, .int 0, .int 0, .int 0, .int 0, .ref q59, .ref q61, .ref q63, .int 0, .ref q65, .int 0, .ref q67, .ref q69, .int 0, .ref q71, .ref q73, .int 0, .int 0, .int 0, .ref q75, .ref q77, .int 0, .int 0, .ref q79, .int 0, .int 0, .int 0, .int 0, .ref q81, .ref q83, .ref q85, .ref q87, .ref q89, .ref q91, .ref q93, .ref q95, .ref q97, .ref q99, .ref q101, .ref q103, .int 0, .ref q105, .ref q107, .int 0, .int 0, .ref q109, .ref q111, .int 0, .ref q113, .int 0, .ref q115, .ref q117, .ref q119, .ref q121, .ref q123, .int 0, .ref q125, .ref q127, .int 0, .int 0, .ref q129, .int (-1), .int 0, .int 0, .int 0, .long 0, .ref q131, .long 0, .int 0, .int 0, .ref q133, .ref q135, .ref q137, .ref q139, .ref q141, .ref q143, .ref q145, .ref q147, .ref q149, .int 0, .int 0])), (q1, .inl (cy 1, 65536, .inl f6))] := hD
  refine lv_iinc (v := 2) (lv' := [(6, .int 2), (7, .int p1), (0, .ref h0), (1, .int p1), (2, .int p2), (3, .int p3), (4, .int p4), (5, .int p5)]) hx hb dX13_feed_121 hl (k := 1) rfl (by decide) (by decide) rfl (fun ls hl => ?_)
  refine lv_goto (tgt := 33) hx hb dX13_feed_124 (by decide) ?_
  refine lv_iload hx hb dX13_feed_33 (lv_at hl 0 rfl) ?_
  refine lv_bipush (v := 20) hx hb dX13_feed_35 (by decide) ?_
  refine lv_icmp_ge (tgt := 127) hx hb dX13_feed_37 (by decide) (fun c9 => absurd c9 (by decide)) (fun _ => ?_)
  refine lv_iload hx hb dX13_feed_40 (lv_at hl 0 rfl) ?_
  refine lv_iconst (v := 4) hx hb dX13_feed_42 (by decide) ?_
  refine lv_icmp_ge (tgt := 50) hx hb dX13_feed_43 (by decide) (fun c9 => absurd c9 (by decide)) (fun _ => ?_)
  refine lv_iload_n hx hb dX13_feed_46 rfl (lv_at hl 3 rfl) ?_
  refine lv_goto (tgt := 86) hx hb dX13_feed_47 (by decide) ?_
  refine lv_istore (lv' := [(7, .int p1), (6, .int 2), (0, .ref h0), (1, .int p1), (2, .int p2), (3, .int p3), (4, .int p4), (5, .int p5)]) hx hb dX13_feed_86 hl (by decide) rfl (fun ls hl => ?_)
  refine lv_aload_n hx hb dX13_feed_88 rfl (lv_at hl 2 rfl) ?_
  refine va_get (D := D) (ci := 16) (v := .ref q1) (C := RX13) (T := TX13) (N := 126) hx hb hts i_c_X13_feed_X13 hown hK hP 0 rfl rfl 1 (by decide) (hts (.fieldLink RX13 14 "ChanceWorksModel" "tape" "[B") (List.mem_of_getElem? (i := 4) rfl)) (fun _ h9 => h9) rfl dX13_feed_89 ?_
  refine lv_aload_n hx hb dX13_feed_92 rfl (lv_at hl 2 rfl) ?_
  refine va_get (D := D) (ci := 16) (v := .int 2) (C := RX13) (T := TX13) (N := 126) hx hb hts i_c_X13_feed_X13 hown hK hP 0 rfl rfl 2 (by decide) (hts (.fieldLink RX13 253 "ChanceWorksModel" "size" "I") (List.mem_of_getElem? (i := 1) rfl)) (fun _ h9 => h9) rfl dX13_feed_93 ?_
  refine lv_iload hx hb dX13_feed_96 (lv_at hl 0 rfl) ?_
  refine lv_bipush (v := 24) hx hb dX13_feed_98 (by decide) ?_
  refine lv_bipush (v := 8) hx hb dX13_feed_100 (by decide) ?_
  refine lv_iload hx hb dX13_feed_102 (lv_at hl 1 rfl) ?_
  refine lv_iconst (v := 3) hx hb dX13_feed_104 (by decide) ?_
  refine lv_iand hx hb dX13_feed_105 ?_
  rw [show (2 : Int32) &&& 3 = 2 by decide]
  refine lv_imul hx hb dX13_feed_106 ?_
  rw [show (8 : Int32) * 2 = 16 by decide]
  refine lv_isub hx hb dX13_feed_107 ?_
  rw [show (24 : Int32) - 16 = 8 by decide]
  refine lv_ishr hx hb dX13_feed_108 ?_
  refine lv_topi (fun v7 e_v7 => ?_)
  obtain ⟨v8, e_v8⟩ : ∃ z : Int32, z = v7.toInt8.toInt32 := ⟨_, rfl⟩
  refine lv_i2b (v := v8) hx hb dX13_feed_109 e_v8.symm ?_
  refine va_bast hx hb hK hP hD hS 1 1 rfl rfl (by unfold vp_in; decide) dX13_feed_110 (fun H locs hP hD hS => ?_)
  have hP : va_P D vwCl [(h0, .inr (16, [.int 0, .ref q1, .int 2, .int 0, .int 0, .ref q3, .ref q5, .ref q7, .ref q9, .ref q11, .int 0, .int 0, .int 0, .int 0, .int 0, .int 0, .int 0, .int 0, .int 0, .int 0, .ref q13, .ref q15, .ref q17, .ref q19, .ref q21, .ref q23, .ref q25, .ref q27, .ref q29, .ref q31, .ref q33, .ref q35, .ref q37, .ref q39, .ref q41, .ref q43, .ref q45, .ref q47, .ref q49, .ref q51, .int 0, .int 0, .int 0, .ref q53, .ref q55, .ref q57, .int 0, .int 0, .int 0, .int 0, .ref q59, .ref q61, .ref q63, .int 0, .ref q65, .int 0, .ref q67, .ref q69, .int 0, .ref q71, .ref q73, .int 0, .int 0, .int 0, .ref q75, .ref q77, .int 0, .int 0, .ref q79, .int 0, .int 0, .int 0, .int 0, .ref q81, .ref q83, .ref q85, .ref q87, .ref q89, .ref q91, .ref q93, .ref q95, .ref q97, .ref q99, .ref q101, .ref q103, .int 0, .ref q105, .ref q107, .int 0, .int 0, .ref q109, .ref q111, .int 0, .ref q113, .int 0, .ref q115, .ref q117, .ref q119, .ref q121, .ref q123, .int 0, .ref q125, .ref q127, .int 0, .int 0, .ref q129, .int (-1), .int 0, .int 0, .int 0, .long 0, .ref q131, .long 0, .int 0, .int 0, .ref q133, .ref q135, .ref q137, .ref q139, .ref q141, .ref q143, .ref q145, .ref q147, .ref q149, .int 0, .int 0])), (q1, .inl (cy 1, 65536, .inl (upd f6 2 (vp_nar .byte v8))))] H := hP
  have hD : va_D A [(h0, .inr (16, [.int 0, .ref q1, .int 2, .int 0, .int 0, .ref q3, .ref q5, .ref q7, .ref q9, .ref q11, .int 0, .int 0, .int 0, .int 0, .int 0, .int 0, .int 0, .int 0, .int 0, .int 0, .ref q13, .ref q15, .ref q17, .ref q19, .ref q21, .ref q23, .ref q25, .ref q27, .ref q29, .ref q31, .ref q33, .ref q35, .ref q37, .ref q39, .ref q41, .ref q43, .ref q45, .ref q47, .ref q49, .ref q51, .int 0, .int 0, .int 0, .ref q53, .ref q55, .ref q57, .int 0, .int 0, .int 0, .int 0, .ref q59, .ref q61, .ref q63, .int 0, .ref q65, .int 0, .ref q67, .ref q69, .int 0, .ref q71, .ref q73, .int 0, .int 0, .int 0, .ref q75, .ref q77, .int 0, .int 0, .ref q79, .int 0, .int 0, .int 0, .int 0, .ref q81, .ref q83, .ref q85, .ref q87, .ref q89, .ref q91, .ref q93, .ref q95, .ref q97, .ref q99, .ref q101, .ref q103, .int 0, .ref q105, .ref q107, .int 0, .int 0, .ref q109, .ref q111, .int 0, .ref q113, .int 0, .ref q115, .ref q117, .ref q119, .ref q121, .ref q123, .int 0, .ref q125, .ref q127, .int 0, .int 0, .ref q129, .int (-1), .int 0, .int 0, .int 0, .long 0, .ref q131, .long 0, .int 0, .int 0, .ref q133, .ref q135, .ref q137, .ref q139, .ref q141, .ref q143, .ref q145, .ref q147, .ref q149, .int 0, .int 0])), (q1, .inl (cy 1, 65536, .inl (upd f6 2 (vp_nar .byte v8))))] := hD
  generalize (upd f6 2 (vp_nar .byte v8)) = f9 at hP hD
  refine lv_aload_n hx hb dX13_feed_111 rfl (lv_at hl 2 rfl) ?_
  refine lv_dup hx hb dX13_feed_112 rfl ?_
  refine va_get (D := D) (ci := 16) (v := .int 2) (C := RX13) (T := TX13) (N := 126) hx hb hts i_c_X13_feed_X13 hown hK hP 0 rfl rfl 2 (by decide) (hts (.fieldLink RX13 253 "ChanceWorksModel" "size" "I") (List.mem_of_getElem? (i := 1) rfl)) (fun _ h9 => h9) rfl dX13_feed_113 ?_
  refine lv_iconst (v := 1) hx hb dX13_feed_116 (by decide) ?_
  refine lv_iadd hx hb dX13_feed_117 ?_
  rw [show (2 : Int32) + 1 = 3 by decide]
  refine va_put (D := D) (ci := 16) (v := .int 3) (ty := .int) (C := RX13) (T := TX13) (N := 126) hx hb hts i_c_X13_feed_X13 tyX13 tyX13_ok nmX13 hown hK hP hD hS 0 rfl rfl 2 (by decide) (hts (.fieldLink RX13 253 "ChanceWorksModel" "size" "I") (List.mem_of_getElem? (i := 1) rfl)) (fun _ h9 => h9) rfl (by decide +kernel) rfl rfl (Nat.le_of_ble_eq_true rfl) dX13_feed_118 (fun H locs hP hD hS => ?_)
  have hP : va_P D vwCl [(h0, .inr (16, [.int 0, .ref q1, .int 3, .int 0, .int 0, .ref q3, .ref q5, .ref q7, .ref q9, .ref q11, .int 0, .int 0, .int 0, .int 0, .int 0, .int 0, .int 0, .int 0, .int 0, .int 0, .ref q13, .ref q15, .ref q17, .ref q19, .ref q21, .ref q23, .ref q25, .ref q27, .ref q29, .ref q31, .ref q33, .ref q35, .ref q37, .ref q39, .ref q41, .ref q43, .ref q45, .ref q47, .ref q49, .ref q51, .int 0, .int 0, .int 0, .ref q53, .ref q55, .ref q57, .int 0, .int 0, .int 0, .int 0, .ref q59, .ref q61, .ref q63, .int 0, .ref q65, .int 0, .ref q67, .ref q69, .int 0, .ref q71, .ref q73, .int 0, .int 0, .int 0, .ref q75, .ref q77, .int 0, .int 0, .ref q79, .int 0, .int 0, .int 0, .int 0, .ref q81, .ref q83, .ref q85, .ref q87, .ref q89, .ref q91, .ref q93, .ref q95, .ref q97, .ref q99, .ref q101, .ref q103, .int 0, .ref q105, .ref q107, .int 0, .int 0, .ref q109, .ref q111, .int 0, .ref q113, .int 0, .ref q115, .ref q117, .ref q119, .ref q121, .ref q123, .int 0, .ref q125, .ref q127, .int 0, .int 0, .ref q129, .int (-1), .int 0, .int 0, .int 0, .long 0, .ref q131, .long 0, .int 0, .int 0, .ref q133, .ref q135, .ref q137, .ref q139, .ref q141, .ref q143, .ref q145, .ref q147, .ref q149, .int 0, .int 0])), (q1, .inl (cy 1, 65536, .inl f9))] H := hP
  have hD : va_D A [(h0, .inr (16, [.int 0, .ref q1, .int 3, .int 0, .int 0, .ref q3, .ref q5, .ref q7, .ref q9, .ref q11, .int 0, .int 0, .int 0, .int 0, .int 0, .int 0, .int 0, .int 0, .int 0, .int 0, .ref q13, .ref q15, .ref q17, .ref q19, .ref q21, .ref q23, .ref q25, .ref q27, .ref q29, .ref q31, .ref q33, .ref q35, .ref q37, .ref q39, .ref q41, .ref q43, .ref q45, .ref q47, .ref q49, .ref q51, .int 0, .int 0, .int 0, .ref q53, .ref q55, .ref q57, .int 0, .int 0, .int 0, .int 0, .ref q59, .ref q61, .ref q63, .int 0, .ref q65, .int 0, .ref q67, .ref q69, .int 0, .ref q71, .ref q73, .int 0, .int 0, .int 0, .ref q75, .ref q77, .int 0, .int 0, .ref q79, .int 0, .int 0, .int 0, .int 0, .ref q81, .ref q83, .ref q85, .ref q87, .ref q89, .ref q91, .ref q93, .ref q95, .ref q97, .ref q99, .ref q101, .ref q103, .int 0, .ref q105, .ref q107, .int 0, .int 0, .ref q109, .ref q111, .int 0, .ref q113, .int 0, .ref q115, .ref q117, .ref q119, .ref q121, .ref q123, .int 0, .ref q125, .ref q127, .int 0, .int 0, .ref q129, .int (-1), .int 0, .int 0, .int 0, .long 0, .ref q131, .long 0, .int 0, .int 0, .ref q133, .ref q135, .ref q137, .ref q139, .ref q141, .ref q143, .ref q145, .ref q147, .ref q149, .int 0, .int 0])), (q1, .inl (cy 1, 65536, .inl f9))] := hD
  refine lv_iinc (v := 3) (lv' := [(6, .int 3), (7, .int p1), (0, .ref h0), (1, .int p1), (2, .int p2), (3, .int p3), (4, .int p4), (5, .int p5)]) hx hb dX13_feed_121 hl (k := 1) rfl (by decide) (by decide) rfl (fun ls hl => ?_)
  refine lv_goto (tgt := 33) hx hb dX13_feed_124 (by decide) ?_
  refine lv_iload hx hb dX13_feed_33 (lv_at hl 0 rfl) ?_
  refine lv_bipush (v := 20) hx hb dX13_feed_35 (by decide) ?_
  refine lv_icmp_ge (tgt := 127) hx hb dX13_feed_37 (by decide) (fun c9 => absurd c9 (by decide)) (fun _ => ?_)
  refine lv_iload hx hb dX13_feed_40 (lv_at hl 0 rfl) ?_
  refine lv_iconst (v := 4) hx hb dX13_feed_42 (by decide) ?_
  refine lv_icmp_ge (tgt := 50) hx hb dX13_feed_43 (by decide) (fun c9 => absurd c9 (by decide)) (fun _ => ?_)
  refine lv_iload_n hx hb dX13_feed_46 rfl (lv_at hl 3 rfl) ?_
  refine lv_goto (tgt := 86) hx hb dX13_feed_47 (by decide) ?_
  refine lv_istore (lv' := [(7, .int p1), (6, .int 3), (0, .ref h0), (1, .int p1), (2, .int p2), (3, .int p3), (4, .int p4), (5, .int p5)]) hx hb dX13_feed_86 hl (by decide) rfl (fun ls hl => ?_)
  refine lv_aload_n hx hb dX13_feed_88 rfl (lv_at hl 2 rfl) ?_
  refine va_get (D := D) (ci := 16) (v := .ref q1) (C := RX13) (T := TX13) (N := 126) hx hb hts i_c_X13_feed_X13 hown hK hP 0 rfl rfl 1 (by decide) (hts (.fieldLink RX13 14 "ChanceWorksModel" "tape" "[B") (List.mem_of_getElem? (i := 4) rfl)) (fun _ h9 => h9) rfl dX13_feed_89 ?_
  refine lv_aload_n hx hb dX13_feed_92 rfl (lv_at hl 2 rfl) ?_
  refine va_get (D := D) (ci := 16) (v := .int 3) (C := RX13) (T := TX13) (N := 126) hx hb hts i_c_X13_feed_X13 hown hK hP 0 rfl rfl 2 (by decide) (hts (.fieldLink RX13 253 "ChanceWorksModel" "size" "I") (List.mem_of_getElem? (i := 1) rfl)) (fun _ h9 => h9) rfl dX13_feed_93 ?_
  refine lv_iload hx hb dX13_feed_96 (lv_at hl 0 rfl) ?_
  refine lv_bipush (v := 24) hx hb dX13_feed_98 (by decide) ?_
  refine lv_bipush (v := 8) hx hb dX13_feed_100 (by decide) ?_
  refine lv_iload hx hb dX13_feed_102 (lv_at hl 1 rfl) ?_
  refine lv_iconst (v := 3) hx hb dX13_feed_104 (by decide) ?_
  refine lv_iand hx hb dX13_feed_105 ?_
  rw [show (3 : Int32) &&& 3 = 3 by decide]
  refine lv_imul hx hb dX13_feed_106 ?_
  rw [show (8 : Int32) * 3 = 24 by decide]
  refine lv_isub hx hb dX13_feed_107 ?_
  rw [show (24 : Int32) - 24 = 0 by decide]
  refine lv_ishr hx hb dX13_feed_108 ?_
  refine lv_topi (fun v10 e_v10 => ?_)
  obtain ⟨v11, e_v11⟩ : ∃ z : Int32, z = v10.toInt8.toInt32 := ⟨_, rfl⟩
  refine lv_i2b (v := v11) hx hb dX13_feed_109 e_v11.symm ?_
  refine va_bast hx hb hK hP hD hS 1 1 rfl rfl (by unfold vp_in; decide) dX13_feed_110 (fun H locs hP hD hS => ?_)
  have hP : va_P D vwCl [(h0, .inr (16, [.int 0, .ref q1, .int 3, .int 0, .int 0, .ref q3, .ref q5, .ref q7, .ref q9, .ref q11, .int 0, .int 0, .int 0, .int 0, .int 0, .int 0, .int 0, .int 0, .int 0, .int 0, .ref q13, .ref q15, .ref q17, .ref q19, .ref q21, .ref q23, .ref q25, .ref q27, .ref q29, .ref q31, .ref q33, .ref q35, .ref q37, .ref q39, .ref q41, .ref q43, .ref q45, .ref q47, .ref q49, .ref q51, .int 0, .int 0, .int 0, .ref q53, .ref q55, .ref q57, .int 0, .int 0, .int 0, .int 0, .ref q59, .ref q61, .ref q63, .int 0, .ref q65, .int 0, .ref q67, .ref q69, .int 0, .ref q71, .ref q73, .int 0, .int 0, .int 0, .ref q75, .ref q77, .int 0, .int 0, .ref q79, .int 0, .int 0, .int 0, .int 0, .ref q81, .ref q83, .ref q85, .ref q87, .ref q89, .ref q91, .ref q93, .ref q95, .ref q97, .ref q99, .ref q101, .ref q103, .int 0, .ref q105, .ref q107, .int 0, .int 0, .ref q109, .ref q111, .int 0, .ref q113, .int 0, .ref q115, .ref q117, .ref q119, .ref q121, .ref q123, .int 0, .ref q125, .ref q127, .int 0, .int 0, .ref q129, .int (-1), .int 0, .int 0, .int 0, .long 0, .ref q131, .long 0, .int 0, .int 0, .ref q133, .ref q135, .ref q137, .ref q139, .ref q141, .ref q143, .ref q145, .ref q147, .ref q149, .int 0, .int 0])), (q1, .inl (cy 1, 65536, .inl (upd f9 3 (vp_nar .byte v11))))] H := hP
  have hD : va_D A [(h0, .inr (16, [.int 0, .ref q1, .int 3, .int 0, .int 0, .ref q3, .ref q5, .ref q7, .ref q9, .ref q11, .int 0, .int 0, .int 0, .int 0, .int 0, .int 0, .int 0, .int 0, .int 0, .int 0, .ref q13, .ref q15, .ref q17, .ref q19, .ref q21, .ref q23, .ref q25, .ref q27, .ref q29, .ref q31, .ref q33, .ref q35, .ref q37, .ref q39, .ref q41, .ref q43, .ref q45, .ref q47, .ref q49, .ref q51, .int 0, .int 0, .int 0, .ref q53, .ref q55, .ref q57, .int 0, .int 0, .int 0, .int 0, .ref q59, .ref q61, .ref q63, .int 0, .ref q65, .int 0, .ref q67, .ref q69, .int 0, .ref q71, .ref q73, .int 0, .int 0, .int 0, .ref q75, .ref q77, .int 0, .int 0, .ref q79, .int 0, .int 0, .int 0, .int 0, .ref q81, .ref q83, .ref q85, .ref q87, .ref q89, .ref q91, .ref q93, .ref q95, .ref q97, .ref q99, .ref q101, .ref q103, .int 0, .ref q105, .ref q107, .int 0, .int 0, .ref q109, .ref q111, .int 0, .ref q113, .int 0, .ref q115, .ref q117, .ref q119, .ref q121, .ref q123, .int 0, .ref q125, .ref q127, .int 0, .int 0, .ref q129, .int (-1), .int 0, .int 0, .int 0, .long 0, .ref q131, .long 0, .int 0, .int 0, .ref q133, .ref q135, .ref q137, .ref q139, .ref q141, .ref q143, .ref q145, .ref q147, .ref q149, .int 0, .int 0])), (q1, .inl (cy 1, 65536, .inl (upd f9 3 (vp_nar .byte v11))))] := hD
  generalize (upd f9 3 (vp_nar .byte v11)) = f12 at hP hD
  refine lv_aload_n hx hb dX13_feed_111 rfl (lv_at hl 2 rfl) ?_
  refine lv_dup hx hb dX13_feed_112 rfl ?_
  refine va_get (D := D) (ci := 16) (v := .int 3) (C := RX13) (T := TX13) (N := 126) hx hb hts i_c_X13_feed_X13 hown hK hP 0 rfl rfl 2 (by decide) (hts (.fieldLink RX13 253 "ChanceWorksModel" "size" "I") (List.mem_of_getElem? (i := 1) rfl)) (fun _ h9 => h9) rfl dX13_feed_113 ?_
  refine lv_iconst (v := 1) hx hb dX13_feed_116 (by decide) ?_
  refine lv_iadd hx hb dX13_feed_117 ?_
  rw [show (3 : Int32) + 1 = 4 by decide]
  refine va_put (D := D) (ci := 16) (v := .int 4) (ty := .int) (C := RX13) (T := TX13) (N := 126) hx hb hts i_c_X13_feed_X13 tyX13 tyX13_ok nmX13 hown hK hP hD hS 0 rfl rfl 2 (by decide) (hts (.fieldLink RX13 253 "ChanceWorksModel" "size" "I") (List.mem_of_getElem? (i := 1) rfl)) (fun _ h9 => h9) rfl (by decide +kernel) rfl rfl (Nat.le_of_ble_eq_true rfl) dX13_feed_118 (fun H locs hP hD hS => ?_)
  have hP : va_P D vwCl [(h0, .inr (16, [.int 0, .ref q1, .int 4, .int 0, .int 0, .ref q3, .ref q5, .ref q7, .ref q9, .ref q11, .int 0, .int 0, .int 0, .int 0, .int 0, .int 0, .int 0, .int 0, .int 0, .int 0, .ref q13, .ref q15, .ref q17, .ref q19, .ref q21, .ref q23, .ref q25, .ref q27, .ref q29, .ref q31, .ref q33, .ref q35, .ref q37, .ref q39, .ref q41, .ref q43, .ref q45, .ref q47, .ref q49, .ref q51, .int 0, .int 0, .int 0, .ref q53, .ref q55, .ref q57, .int 0, .int 0, .int 0, .int 0, .ref q59, .ref q61, .ref q63, .int 0, .ref q65, .int 0, .ref q67, .ref q69, .int 0, .ref q71, .ref q73, .int 0, .int 0, .int 0, .ref q75, .ref q77, .int 0, .int 0, .ref q79, .int 0, .int 0, .int 0, .int 0, .ref q81, .ref q83, .ref q85, .ref q87, .ref q89, .ref q91, .ref q93, .ref q95, .ref q97, .ref q99, .ref q101, .ref q103, .int 0, .ref q105, .ref q107, .int 0, .int 0, .ref q109, .ref q111, .int 0, .ref q113, .int 0, .ref q115, .ref q117, .ref q119, .ref q121, .ref q123, .int 0, .ref q125, .ref q127, .int 0, .int 0, .ref q129, .int (-1), .int 0, .int 0, .int 0, .long 0, .ref q131, .long 0, .int 0, .int 0, .ref q133, .ref q135, .ref q137, .ref q139, .ref q141, .ref q143, .ref q145, .ref q147, .ref q149, .int 0, .int 0])), (q1, .inl (cy 1, 65536, .inl f12))] H := hP
  have hD : va_D A [(h0, .inr (16, [.int 0, .ref q1, .int 4, .int 0, .int 0, .ref q3, .ref q5, .ref q7, .ref q9, .ref q11, .int 0, .int 0, .int 0, .int 0, .int 0, .int 0, .int 0, .int 0, .int 0, .int 0, .ref q13, .ref q15, .ref q17, .ref q19, .ref q21, .ref q23, .ref q25, .ref q27, .ref q29, .ref q31, .ref q33, .ref q35, .ref q37, .ref q39, .ref q41, .ref q43, .ref q45, .ref q47, .ref q49, .ref q51, .int 0, .int 0, .int 0, .ref q53, .ref q55, .ref q57, .int 0, .int 0, .int 0, .int 0, .ref q59, .ref q61, .ref q63, .int 0, .ref q65, .int 0, .ref q67, .ref q69, .int 0, .ref q71, .ref q73, .int 0, .int 0, .int 0, .ref q75, .ref q77, .int 0, .int 0, .ref q79, .int 0, .int 0, .int 0, .int 0, .ref q81, .ref q83, .ref q85, .ref q87, .ref q89, .ref q91, .ref q93, .ref q95, .ref q97, .ref q99, .ref q101, .ref q103, .int 0, .ref q105, .ref q107, .int 0, .int 0, .ref q109, .ref q111, .int 0, .ref q113, .int 0, .ref q115, .ref q117, .ref q119, .ref q121, .ref q123, .int 0, .ref q125, .ref q127, .int 0, .int 0, .ref q129, .int (-1), .int 0, .int 0, .int 0, .long 0, .ref q131, .long 0, .int 0, .int 0, .ref q133, .ref q135, .ref q137, .ref q139, .ref q141, .ref q143, .ref q145, .ref q147, .ref q149, .int 0, .int 0])), (q1, .inl (cy 1, 65536, .inl f12))] := hD
  refine lv_iinc (v := 4) (lv' := [(6, .int 4), (7, .int p1), (0, .ref h0), (1, .int p1), (2, .int p2), (3, .int p3), (4, .int p4), (5, .int p5)]) hx hb dX13_feed_121 hl (k := 1) rfl (by decide) (by decide) rfl (fun ls hl => ?_)
  refine lv_goto (tgt := 33) hx hb dX13_feed_124 (by decide) ?_
  refine lv_iload hx hb dX13_feed_33 (lv_at hl 0 rfl) ?_
  refine lv_bipush (v := 20) hx hb dX13_feed_35 (by decide) ?_
  refine lv_icmp_ge (tgt := 127) hx hb dX13_feed_37 (by decide) (fun c9 => absurd c9 (by decide)) (fun _ => ?_)
  refine lv_iload hx hb dX13_feed_40 (lv_at hl 0 rfl) ?_
  refine lv_iconst (v := 4) hx hb dX13_feed_42 (by decide) ?_
  refine lv_icmp_ge (tgt := 50) hx hb dX13_feed_43 (by decide) (fun _ => ?_) (fun c9 => absurd (by decide) c9)
  refine lv_iload hx hb dX13_feed_50 (lv_at hl 0 rfl) ?_
  refine lv_bipush (v := 8) hx hb dX13_feed_52 (by decide) ?_
  refine lv_icmp_ge (tgt := 61) hx hb dX13_feed_54 (by decide) (fun c9 => absurd c9 (by decide)) (fun _ => ?_)
  refine lv_iload_n hx hb dX13_feed_57 rfl (lv_at hl 4 rfl) ?_
  refine lv_goto (tgt := 86) hx hb dX13_feed_58 (by decide) ?_
  refine lv_istore (lv' := [(7, .int p2), (6, .int 4), (0, .ref h0), (1, .int p1), (2, .int p2), (3, .int p3), (4, .int p4), (5, .int p5)]) hx hb dX13_feed_86 hl (by decide) rfl (fun ls hl => ?_)
  refine lv_aload_n hx hb dX13_feed_88 rfl (lv_at hl 2 rfl) ?_
  refine va_get (D := D) (ci := 16) (v := .ref q1) (C := RX13) (T := TX13) (N := 126) hx hb hts i_c_X13_feed_X13 hown hK hP 0 rfl rfl 1 (by decide) (hts (.fieldLink RX13 14 "ChanceWorksModel" "tape" "[B") (List.mem_of_getElem? (i := 4) rfl)) (fun _ h9 => h9) rfl dX13_feed_89 ?_
  refine lv_aload_n hx hb dX13_feed_92 rfl (lv_at hl 2 rfl) ?_
  refine va_get (D := D) (ci := 16) (v := .int 4) (C := RX13) (T := TX13) (N := 126) hx hb hts i_c_X13_feed_X13 hown hK hP 0 rfl rfl 2 (by decide) (hts (.fieldLink RX13 253 "ChanceWorksModel" "size" "I") (List.mem_of_getElem? (i := 1) rfl)) (fun _ h9 => h9) rfl dX13_feed_93 ?_
  refine lv_iload hx hb dX13_feed_96 (lv_at hl 0 rfl) ?_
  refine lv_bipush (v := 24) hx hb dX13_feed_98 (by decide) ?_
  refine lv_bipush (v := 8) hx hb dX13_feed_100 (by decide) ?_
  refine lv_iload hx hb dX13_feed_102 (lv_at hl 1 rfl) ?_
  refine lv_iconst (v := 3) hx hb dX13_feed_104 (by decide) ?_
  refine lv_iand hx hb dX13_feed_105 ?_
  rw [show (4 : Int32) &&& 3 = 0 by decide]
  refine lv_imul hx hb dX13_feed_106 ?_
  rw [show (8 : Int32) * 0 = 0 by decide]
  refine lv_isub hx hb dX13_feed_107 ?_
  rw [show (24 : Int32) - 0 = 24 by decide]
  refine lv_ishr hx hb dX13_feed_108 ?_
  refine lv_topi (fun v13 e_v13 => ?_)
  obtain ⟨v14, e_v14⟩ : ∃ z : Int32, z = v13.toInt8.toInt32 := ⟨_, rfl⟩
  refine lv_i2b (v := v14) hx hb dX13_feed_109 e_v14.symm ?_
  refine va_bast hx hb hK hP hD hS 1 1 rfl rfl (by unfold vp_in; decide) dX13_feed_110 (fun H locs hP hD hS => ?_)
  have hP : va_P D vwCl [(h0, .inr (16, [.int 0, .ref q1, .int 4, .int 0, .int 0, .ref q3, .ref q5, .ref q7, .ref q9, .ref q11, .int 0, .int 0, .int 0, .int 0, .int 0, .int 0, .int 0, .int 0, .int 0, .int 0, .ref q13, .ref q15, .ref q17, .ref q19, .ref q21, .ref q23, .ref q25, .ref q27, .ref q29, .ref q31, .ref q33, .ref q35, .ref q37, .ref q39, .ref q41, .ref q43, .ref q45, .ref q47, .ref q49, .ref q51, .int 0, .int 0, .int 0, .ref q53, .ref q55, .ref q57, .int 0, .int 0, .int 0, .int 0, .ref q59, .ref q61, .ref q63, .int 0, .ref q65, .int 0, .ref q67, .ref q69, .int 0, .ref q71, .ref q73, .int 0, .int 0, .int 0, .ref q75, .ref q77, .int 0, .int 0, .ref q79, .int 0, .int 0, .int 0, .int 0, .ref q81, .ref q83, .ref q85, .ref q87, .ref q89, .ref q91, .ref q93, .ref q95, .ref q97, .ref q99, .ref q101, .ref q103, .int 0, .ref q105, .ref q107, .int 0, .int 0, .ref q109, .ref q111, .int 0, .ref q113, .int 0, .ref q115, .ref q117, .ref q119, .ref q121, .ref q123, .int 0, .ref q125, .ref q127, .int 0, .int 0, .ref q129, .int (-1), .int 0, .int 0, .int 0, .long 0, .ref q131, .long 0, .int 0, .int 0, .ref q133, .ref q135, .ref q137, .ref q139, .ref q141, .ref q143, .ref q145, .ref q147, .ref q149, .int 0, .int 0])), (q1, .inl (cy 1, 65536, .inl (upd f12 4 (vp_nar .byte v14))))] H := hP
  have hD : va_D A [(h0, .inr (16, [.int 0, .ref q1, .int 4, .int 0, .int 0, .ref q3, .ref q5, .ref q7, .ref q9, .ref q11, .int 0, .int 0, .int 0, .int 0, .int 0, .int 0, .int 0, .int 0, .int 0, .int 0, .ref q13, .ref q15, .ref q17, .ref q19, .ref q21, .ref q23, .ref q25, .ref q27, .ref q29, .ref q31, .ref q33, .ref q35, .ref q37, .ref q39, .ref q41, .ref q43, .ref q45, .ref q47, .ref q49, .ref q51, .int 0, .int 0, .int 0, .ref q53, .ref q55, .ref q57, .int 0, .int 0, .int 0, .int 0, .ref q59, .ref q61, .ref q63, .int 0, .ref q65, .int 0, .ref q67, .ref q69, .int 0, .ref q71, .ref q73, .int 0, .int 0, .int 0, .ref q75, .ref q77, .int 0, .int 0, .ref q79, .int 0, .int 0, .int 0, .int 0, .ref q81, .ref q83, .ref q85, .ref q87, .ref q89, .ref q91, .ref q93, .ref q95, .ref q97, .ref q99, .ref q101, .ref q103, .int 0, .ref q105, .ref q107, .int 0, .int 0, .ref q109, .ref q111, .int 0, .ref q113, .int 0, .ref q115, .ref q117, .ref q119, .ref q121, .ref q123, .int 0, .ref q125, .ref q127, .int 0, .int 0, .ref q129, .int (-1), .int 0, .int 0, .int 0, .long 0, .ref q131, .long 0, .int 0, .int 0, .ref q133, .ref q135, .ref q137, .ref q139, .ref q141, .ref q143, .ref q145, .ref q147, .ref q149, .int 0, .int 0])), (q1, .inl (cy 1, 65536, .inl (upd f12 4 (vp_nar .byte v14))))] := hD
  generalize (upd f12 4 (vp_nar .byte v14)) = f15 at hP hD
  refine lv_aload_n hx hb dX13_feed_111 rfl (lv_at hl 2 rfl) ?_
  refine lv_dup hx hb dX13_feed_112 rfl ?_
  refine va_get (D := D) (ci := 16) (v := .int 4) (C := RX13) (T := TX13) (N := 126) hx hb hts i_c_X13_feed_X13 hown hK hP 0 rfl rfl 2 (by decide) (hts (.fieldLink RX13 253 "ChanceWorksModel" "size" "I") (List.mem_of_getElem? (i := 1) rfl)) (fun _ h9 => h9) rfl dX13_feed_113 ?_
  refine lv_iconst (v := 1) hx hb dX13_feed_116 (by decide) ?_
  refine lv_iadd hx hb dX13_feed_117 ?_
  rw [show (4 : Int32) + 1 = 5 by decide]
  refine va_put (D := D) (ci := 16) (v := .int 5) (ty := .int) (C := RX13) (T := TX13) (N := 126) hx hb hts i_c_X13_feed_X13 tyX13 tyX13_ok nmX13 hown hK hP hD hS 0 rfl rfl 2 (by decide) (hts (.fieldLink RX13 253 "ChanceWorksModel" "size" "I") (List.mem_of_getElem? (i := 1) rfl)) (fun _ h9 => h9) rfl (by decide +kernel) rfl rfl (Nat.le_of_ble_eq_true rfl) dX13_feed_118 (fun H locs hP hD hS => ?_)
  have hP : va_P D vwCl [(h0, .inr (16, [.int 0, .ref q1, .int 5, .int 0, .int 0, .ref q3, .ref q5, .ref q7, .ref q9, .ref q11, .int 0, .int 0, .int 0, .int 0, .int 0, .int 0, .int 0, .int 0, .int 0, .int 0, .ref q13, .ref q15, .ref q17, .ref q19, .ref q21, .ref q23, .ref q25, .ref q27, .ref q29, .ref q31, .ref q33, .ref q35, .ref q37, .ref q39, .ref q41, .ref q43, .ref q45, .ref q47, .ref q49, .ref q51, .int 0, .int 0, .int 0, .ref q53, .ref q55, .ref q57, .int 0, .int 0, .int 0, .int 0, .ref q59, .ref q61, .ref q63, .int 0, .ref q65, .int 0, .ref q67, .ref q69, .int 0, .ref q71, .ref q73, .int 0, .int 0, .int 0, .ref q75, .ref q77, .int 0, .int 0, .ref q79, .int 0, .int 0, .int 0, .int 0, .ref q81, .ref q83, .ref q85, .ref q87, .ref q89, .ref q91, .ref q93, .ref q95, .ref q97, .ref q99, .ref q101, .ref q103, .int 0, .ref q105, .ref q107, .int 0, .int 0, .ref q109, .ref q111, .int 0, .ref q113, .int 0, .ref q115, .ref q117, .ref q119, .ref q121, .ref q123, .int 0, .ref q125, .ref q127, .int 0, .int 0, .ref q129, .int (-1), .int 0, .int 0, .int 0, .long 0, .ref q131, .long 0, .int 0, .int 0, .ref q133, .ref q135, .ref q137, .ref q139, .ref q141, .ref q143, .ref q145, .ref q147, .ref q149, .int 0, .int 0])), (q1, .inl (cy 1, 65536, .inl f15))] H := hP
  have hD : va_D A [(h0, .inr (16, [.int 0, .ref q1, .int 5, .int 0, .int 0, .ref q3, .ref q5, .ref q7, .ref q9, .ref q11, .int 0, .int 0, .int 0, .int 0, .int 0, .int 0, .int 0, .int 0, .int 0, .int 0, .ref q13, .ref q15, .ref q17, .ref q19, .ref q21, .ref q23, .ref q25, .ref q27, .ref q29, .ref q31, .ref q33, .ref q35, .ref q37, .ref q39, .ref q41, .ref q43, .ref q45, .ref q47, .ref q49, .ref q51, .int 0, .int 0, .int 0, .ref q53, .ref q55, .ref q57, .int 0, .int 0, .int 0, .int 0, .ref q59, .ref q61, .ref q63, .int 0, .ref q65, .int 0, .ref q67, .ref q69, .int 0, .ref q71, .ref q73, .int 0, .int 0, .int 0, .ref q75, .ref q77, .int 0, .int 0, .ref q79, .int 0, .int 0, .int 0, .int 0, .ref q81, .ref q83, .ref q85, .ref q87, .ref q89, .ref q91, .ref q93, .ref q95, .ref q97, .ref q99, .ref q101, .ref q103, .int 0, .ref q105, .ref q107, .int 0, .int 0, .ref q109, .ref q111, .int 0, .ref q113, .int 0, .ref q115, .ref q117, .ref q119, .ref q121, .ref q123, .int 0, .ref q125, .ref q127, .int 0, .int 0, .ref q129, .int (-1), .int 0, .int 0, .int 0, .long 0, .ref q131, .long 0, .int 0, .int 0, .ref q133, .ref q135, .ref q137, .ref q139, .ref q141, .ref q143, .ref q145, .ref q147, .ref q149, .int 0, .int 0])), (q1, .inl (cy 1, 65536, .inl f15))] := hD
  refine lv_iinc (v := 5) (lv' := [(6, .int 5), (7, .int p2), (0, .ref h0), (1, .int p1), (2, .int p2), (3, .int p3), (4, .int p4), (5, .int p5)]) hx hb dX13_feed_121 hl (k := 1) rfl (by decide) (by decide) rfl (fun ls hl => ?_)
  refine lv_goto (tgt := 33) hx hb dX13_feed_124 (by decide) ?_
  refine lv_iload hx hb dX13_feed_33 (lv_at hl 0 rfl) ?_
  refine lv_bipush (v := 20) hx hb dX13_feed_35 (by decide) ?_
  refine lv_icmp_ge (tgt := 127) hx hb dX13_feed_37 (by decide) (fun c9 => absurd c9 (by decide)) (fun _ => ?_)
  refine lv_iload hx hb dX13_feed_40 (lv_at hl 0 rfl) ?_
  refine lv_iconst (v := 4) hx hb dX13_feed_42 (by decide) ?_
  refine lv_icmp_ge (tgt := 50) hx hb dX13_feed_43 (by decide) (fun _ => ?_) (fun c9 => absurd (by decide) c9)
  refine lv_iload hx hb dX13_feed_50 (lv_at hl 0 rfl) ?_
  refine lv_bipush (v := 8) hx hb dX13_feed_52 (by decide) ?_
  refine lv_icmp_ge (tgt := 61) hx hb dX13_feed_54 (by decide) (fun c9 => absurd c9 (by decide)) (fun _ => ?_)
  refine lv_iload_n hx hb dX13_feed_57 rfl (lv_at hl 4 rfl) ?_
  refine lv_goto (tgt := 86) hx hb dX13_feed_58 (by decide) ?_
  refine lv_istore (lv' := [(7, .int p2), (6, .int 5), (0, .ref h0), (1, .int p1), (2, .int p2), (3, .int p3), (4, .int p4), (5, .int p5)]) hx hb dX13_feed_86 hl (by decide) rfl (fun ls hl => ?_)
  refine lv_aload_n hx hb dX13_feed_88 rfl (lv_at hl 2 rfl) ?_
  refine va_get (D := D) (ci := 16) (v := .ref q1) (C := RX13) (T := TX13) (N := 126) hx hb hts i_c_X13_feed_X13 hown hK hP 0 rfl rfl 1 (by decide) (hts (.fieldLink RX13 14 "ChanceWorksModel" "tape" "[B") (List.mem_of_getElem? (i := 4) rfl)) (fun _ h9 => h9) rfl dX13_feed_89 ?_
  refine lv_aload_n hx hb dX13_feed_92 rfl (lv_at hl 2 rfl) ?_
  refine va_get (D := D) (ci := 16) (v := .int 5) (C := RX13) (T := TX13) (N := 126) hx hb hts i_c_X13_feed_X13 hown hK hP 0 rfl rfl 2 (by decide) (hts (.fieldLink RX13 253 "ChanceWorksModel" "size" "I") (List.mem_of_getElem? (i := 1) rfl)) (fun _ h9 => h9) rfl dX13_feed_93 ?_
  refine lv_iload hx hb dX13_feed_96 (lv_at hl 0 rfl) ?_
  refine lv_bipush (v := 24) hx hb dX13_feed_98 (by decide) ?_
  refine lv_bipush (v := 8) hx hb dX13_feed_100 (by decide) ?_
  refine lv_iload hx hb dX13_feed_102 (lv_at hl 1 rfl) ?_
  refine lv_iconst (v := 3) hx hb dX13_feed_104 (by decide) ?_
  refine lv_iand hx hb dX13_feed_105 ?_
  rw [show (5 : Int32) &&& 3 = 1 by decide]
  refine lv_imul hx hb dX13_feed_106 ?_
  rw [show (8 : Int32) * 1 = 8 by decide]
  refine lv_isub hx hb dX13_feed_107 ?_
  rw [show (24 : Int32) - 8 = 16 by decide]
  refine lv_ishr hx hb dX13_feed_108 ?_
  refine lv_topi (fun v16 e_v16 => ?_)
  obtain ⟨v17, e_v17⟩ : ∃ z : Int32, z = v16.toInt8.toInt32 := ⟨_, rfl⟩
  refine lv_i2b (v := v17) hx hb dX13_feed_109 e_v17.symm ?_
  refine va_bast hx hb hK hP hD hS 1 1 rfl rfl (by unfold vp_in; decide) dX13_feed_110 (fun H locs hP hD hS => ?_)
  have hP : va_P D vwCl [(h0, .inr (16, [.int 0, .ref q1, .int 5, .int 0, .int 0, .ref q3, .ref q5, .ref q7, .ref q9, .ref q11, .int 0, .int 0, .int 0, .int 0, .int 0, .int 0, .int 0, .int 0, .int 0, .int 0, .ref q13, .ref q15, .ref q17, .ref q19, .ref q21, .ref q23, .ref q25, .ref q27, .ref q29, .ref q31, .ref q33, .ref q35, .ref q37, .ref q39, .ref q41, .ref q43, .ref q45, .ref q47, .ref q49, .ref q51, .int 0, .int 0, .int 0, .ref q53, .ref q55, .ref q57, .int 0, .int 0, .int 0, .int 0, .ref q59, .ref q61, .ref q63, .int 0, .ref q65, .int 0, .ref q67, .ref q69, .int 0, .ref q71, .ref q73, .int 0, .int 0, .int 0, .ref q75, .ref q77, .int 0, .int 0, .ref q79, .int 0, .int 0, .int 0, .int 0, .ref q81, .ref q83, .ref q85, .ref q87, .ref q89, .ref q91, .ref q93, .ref q95, .ref q97, .ref q99, .ref q101, .ref q103, .int 0, .ref q105, .ref q107, .int 0, .int 0, .ref q109, .ref q111, .int 0, .ref q113, .int 0, .ref q115, .ref q117, .ref q119, .ref q121, .ref q123, .int 0, .ref q125, .ref q127, .int 0, .int 0, .ref q129, .int (-1), .int 0, .int 0, .int 0, .long 0, .ref q131, .long 0, .int 0, .int 0, .ref q133, .ref q135, .ref q137, .ref q139, .ref q141, .ref q143, .ref q145, .ref q147, .ref q149, .int 0, .int 0])), (q1, .inl (cy 1, 65536, .inl (upd f15 5 (vp_nar .byte v17))))] H := hP
  have hD : va_D A [(h0, .inr (16, [.int 0, .ref q1, .int 5, .int 0, .int 0, .ref q3, .ref q5, .ref q7, .ref q9, .ref q11, .int 0, .int 0, .int 0, .int 0, .int 0, .int 0, .int 0, .int 0, .int 0, .int 0, .ref q13, .ref q15, .ref q17, .ref q19, .ref q21, .ref q23, .ref q25, .ref q27, .ref q29, .ref q31, .ref q33, .ref q35, .ref q37, .ref q39, .ref q41, .ref q43, .ref q45, .ref q47, .ref q49, .ref q51, .int 0, .int 0, .int 0, .ref q53, .ref q55, .ref q57, .int 0, .int 0, .int 0, .int 0, .ref q59, .ref q61, .ref q63, .int 0, .ref q65, .int 0, .ref q67, .ref q69, .int 0, .ref q71, .ref q73, .int 0, .int 0, .int 0, .ref q75, .ref q77, .int 0, .int 0, .ref q79, .int 0, .int 0, .int 0, .int 0, .ref q81, .ref q83, .ref q85, .ref q87, .ref q89, .ref q91, .ref q93, .ref q95, .ref q97, .ref q99, .ref q101, .ref q103, .int 0, .ref q105, .ref q107, .int 0, .int 0, .ref q109, .ref q111, .int 0, .ref q113, .int 0, .ref q115, .ref q117, .ref q119, .ref q121, .ref q123, .int 0, .ref q125, .ref q127, .int 0, .int 0, .ref q129, .int (-1), .int 0, .int 0, .int 0, .long 0, .ref q131, .long 0, .int 0, .int 0, .ref q133, .ref q135, .ref q137, .ref q139, .ref q141, .ref q143, .ref q145, .ref q147, .ref q149, .int 0, .int 0])), (q1, .inl (cy 1, 65536, .inl (upd f15 5 (vp_nar .byte v17))))] := hD
  generalize (upd f15 5 (vp_nar .byte v17)) = f18 at hP hD
  refine lv_aload_n hx hb dX13_feed_111 rfl (lv_at hl 2 rfl) ?_
  refine lv_dup hx hb dX13_feed_112 rfl ?_
  refine va_get (D := D) (ci := 16) (v := .int 5) (C := RX13) (T := TX13) (N := 126) hx hb hts i_c_X13_feed_X13 hown hK hP 0 rfl rfl 2 (by decide) (hts (.fieldLink RX13 253 "ChanceWorksModel" "size" "I") (List.mem_of_getElem? (i := 1) rfl)) (fun _ h9 => h9) rfl dX13_feed_113 ?_
  refine lv_iconst (v := 1) hx hb dX13_feed_116 (by decide) ?_
  refine lv_iadd hx hb dX13_feed_117 ?_
  rw [show (5 : Int32) + 1 = 6 by decide]
  refine va_put (D := D) (ci := 16) (v := .int 6) (ty := .int) (C := RX13) (T := TX13) (N := 126) hx hb hts i_c_X13_feed_X13 tyX13 tyX13_ok nmX13 hown hK hP hD hS 0 rfl rfl 2 (by decide) (hts (.fieldLink RX13 253 "ChanceWorksModel" "size" "I") (List.mem_of_getElem? (i := 1) rfl)) (fun _ h9 => h9) rfl (by decide +kernel) rfl rfl (Nat.le_of_ble_eq_true rfl) dX13_feed_118 (fun H locs hP hD hS => ?_)
  have hP : va_P D vwCl [(h0, .inr (16, [.int 0, .ref q1, .int 6, .int 0, .int 0, .ref q3, .ref q5, .ref q7, .ref q9, .ref q11, .int 0, .int 0, .int 0, .int 0, .int 0, .int 0, .int 0, .int 0, .int 0, .int 0, .ref q13, .ref q15, .ref q17, .ref q19, .ref q21, .ref q23, .ref q25, .ref q27, .ref q29, .ref q31, .ref q33, .ref q35, .ref q37, .ref q39, .ref q41, .ref q43, .ref q45, .ref q47, .ref q49, .ref q51, .int 0, .int 0, .int 0, .ref q53, .ref q55, .ref q57, .int 0, .int 0, .int 0, .int 0, .ref q59, .ref q61, .ref q63, .int 0, .ref q65, .int 0, .ref q67, .ref q69, .int 0, .ref q71, .ref q73, .int 0, .int 0, .int 0, .ref q75, .ref q77, .int 0, .int 0, .ref q79, .int 0, .int 0, .int 0, .int 0, .ref q81, .ref q83, .ref q85, .ref q87, .ref q89, .ref q91, .ref q93, .ref q95, .ref q97, .ref q99, .ref q101, .ref q103, .int 0, .ref q105, .ref q107, .int 0, .int 0, .ref q109, .ref q111, .int 0, .ref q113, .int 0, .ref q115, .ref q117, .ref q119, .ref q121, .ref q123, .int 0, .ref q125, .ref q127, .int 0, .int 0, .ref q129, .int (-1), .int 0, .int 0, .int 0, .long 0, .ref q131, .long 0, .int 0, .int 0, .ref q133, .ref q135, .ref q137, .ref q139, .ref q141, .ref q143, .ref q145, .ref q147, .ref q149, .int 0, .int 0])), (q1, .inl (cy 1, 65536, .inl f18))] H := hP
  have hD : va_D A [(h0, .inr (16, [.int 0, .ref q1, .int 6, .int 0, .int 0, .ref q3, .ref q5, .ref q7, .ref q9, .ref q11, .int 0, .int 0, .int 0, .int 0, .int 0, .int 0, .int 0, .int 0, .int 0, .int 0, .ref q13, .ref q15, .ref q17, .ref q19, .ref q21, .ref q23, .ref q25, .ref q27, .ref q29, .ref q31, .ref q33, .ref q35, .ref q37, .ref q39, .ref q41, .ref q43, .ref q45, .ref q47, .ref q49, .ref q51, .int 0, .int 0, .int 0, .ref q53, .ref q55, .ref q57, .int 0, .int 0, .int 0, .int 0, .ref q59, .ref q61, .ref q63, .int 0, .ref q65, .int 0, .ref q67, .ref q69, .int 0, .ref q71, .ref q73, .int 0, .int 0, .int 0, .ref q75, .ref q77, .int 0, .int 0, .ref q79, .int 0, .int 0, .int 0, .int 0, .ref q81, .ref q83, .ref q85, .ref q87, .ref q89, .ref q91, .ref q93, .ref q95, .ref q97, .ref q99, .ref q101, .ref q103, .int 0, .ref q105, .ref q107, .int 0, .int 0, .ref q109, .ref q111, .int 0, .ref q113, .int 0, .ref q115, .ref q117, .ref q119, .ref q121, .ref q123, .int 0, .ref q125, .ref q127, .int 0, .int 0, .ref q129, .int (-1), .int 0, .int 0, .int 0, .long 0, .ref q131, .long 0, .int 0, .int 0, .ref q133, .ref q135, .ref q137, .ref q139, .ref q141, .ref q143, .ref q145, .ref q147, .ref q149, .int 0, .int 0])), (q1, .inl (cy 1, 65536, .inl f18))] := hD
  refine lv_iinc (v := 6) (lv' := [(6, .int 6), (7, .int p2), (0, .ref h0), (1, .int p1), (2, .int p2), (3, .int p3), (4, .int p4), (5, .int p5)]) hx hb dX13_feed_121 hl (k := 1) rfl (by decide) (by decide) rfl (fun ls hl => ?_)
  refine lv_goto (tgt := 33) hx hb dX13_feed_124 (by decide) ?_
  refine lv_iload hx hb dX13_feed_33 (lv_at hl 0 rfl) ?_
  refine lv_bipush (v := 20) hx hb dX13_feed_35 (by decide) ?_
  refine lv_icmp_ge (tgt := 127) hx hb dX13_feed_37 (by decide) (fun c9 => absurd c9 (by decide)) (fun _ => ?_)
  refine lv_iload hx hb dX13_feed_40 (lv_at hl 0 rfl) ?_
  refine lv_iconst (v := 4) hx hb dX13_feed_42 (by decide) ?_
  refine lv_icmp_ge (tgt := 50) hx hb dX13_feed_43 (by decide) (fun _ => ?_) (fun c9 => absurd (by decide) c9)
  refine lv_iload hx hb dX13_feed_50 (lv_at hl 0 rfl) ?_
  refine lv_bipush (v := 8) hx hb dX13_feed_52 (by decide) ?_
  refine lv_icmp_ge (tgt := 61) hx hb dX13_feed_54 (by decide) (fun c9 => absurd c9 (by decide)) (fun _ => ?_)
  refine lv_iload_n hx hb dX13_feed_57 rfl (lv_at hl 4 rfl) ?_
  refine lv_goto (tgt := 86) hx hb dX13_feed_58 (by decide) ?_
  refine lv_istore (lv' := [(7, .int p2), (6, .int 6), (0, .ref h0), (1, .int p1), (2, .int p2), (3, .int p3), (4, .int p4), (5, .int p5)]) hx hb dX13_feed_86 hl (by decide) rfl (fun ls hl => ?_)
  refine lv_aload_n hx hb dX13_feed_88 rfl (lv_at hl 2 rfl) ?_
  refine va_get (D := D) (ci := 16) (v := .ref q1) (C := RX13) (T := TX13) (N := 126) hx hb hts i_c_X13_feed_X13 hown hK hP 0 rfl rfl 1 (by decide) (hts (.fieldLink RX13 14 "ChanceWorksModel" "tape" "[B") (List.mem_of_getElem? (i := 4) rfl)) (fun _ h9 => h9) rfl dX13_feed_89 ?_
  refine lv_aload_n hx hb dX13_feed_92 rfl (lv_at hl 2 rfl) ?_
  refine va_get (D := D) (ci := 16) (v := .int 6) (C := RX13) (T := TX13) (N := 126) hx hb hts i_c_X13_feed_X13 hown hK hP 0 rfl rfl 2 (by decide) (hts (.fieldLink RX13 253 "ChanceWorksModel" "size" "I") (List.mem_of_getElem? (i := 1) rfl)) (fun _ h9 => h9) rfl dX13_feed_93 ?_
  refine lv_iload hx hb dX13_feed_96 (lv_at hl 0 rfl) ?_
  refine lv_bipush (v := 24) hx hb dX13_feed_98 (by decide) ?_
  refine lv_bipush (v := 8) hx hb dX13_feed_100 (by decide) ?_
  refine lv_iload hx hb dX13_feed_102 (lv_at hl 1 rfl) ?_
  refine lv_iconst (v := 3) hx hb dX13_feed_104 (by decide) ?_
  refine lv_iand hx hb dX13_feed_105 ?_
  rw [show (6 : Int32) &&& 3 = 2 by decide]
  refine lv_imul hx hb dX13_feed_106 ?_
  rw [show (8 : Int32) * 2 = 16 by decide]
  refine lv_isub hx hb dX13_feed_107 ?_
  rw [show (24 : Int32) - 16 = 8 by decide]
  refine lv_ishr hx hb dX13_feed_108 ?_
  refine lv_topi (fun v19 e_v19 => ?_)
  obtain ⟨v20, e_v20⟩ : ∃ z : Int32, z = v19.toInt8.toInt32 := ⟨_, rfl⟩
  refine lv_i2b (v := v20) hx hb dX13_feed_109 e_v20.symm ?_
  refine va_bast hx hb hK hP hD hS 1 1 rfl rfl (by unfold vp_in; decide) dX13_feed_110 (fun H locs hP hD hS => ?_)
  have hP : va_P D vwCl [(h0, .inr (16, [.int 0, .ref q1, .int 6, .int 0, .int 0, .ref q3, .ref q5, .ref q7, .ref q9, .ref q11, .int 0, .int 0, .int 0, .int 0, .int 0, .int 0, .int 0, .int 0, .int 0, .int 0, .ref q13, .ref q15, .ref q17, .ref q19, .ref q21, .ref q23, .ref q25, .ref q27, .ref q29, .ref q31, .ref q33, .ref q35, .ref q37, .ref q39, .ref q41, .ref q43, .ref q45, .ref q47, .ref q49, .ref q51, .int 0, .int 0, .int 0, .ref q53, .ref q55, .ref q57, .int 0, .int 0, .int 0, .int 0, .ref q59, .ref q61, .ref q63, .int 0, .ref q65, .int 0, .ref q67, .ref q69, .int 0, .ref q71, .ref q73, .int 0, .int 0, .int 0, .ref q75, .ref q77, .int 0, .int 0, .ref q79, .int 0, .int 0, .int 0, .int 0, .ref q81, .ref q83, .ref q85, .ref q87, .ref q89, .ref q91, .ref q93, .ref q95, .ref q97, .ref q99, .ref q101, .ref q103, .int 0, .ref q105, .ref q107, .int 0, .int 0, .ref q109, .ref q111, .int 0, .ref q113, .int 0, .ref q115, .ref q117, .ref q119, .ref q121, .ref q123, .int 0, .ref q125, .ref q127, .int 0, .int 0, .ref q129, .int (-1), .int 0, .int 0, .int 0, .long 0, .ref q131, .long 0, .int 0, .int 0, .ref q133, .ref q135, .ref q137, .ref q139, .ref q141, .ref q143, .ref q145, .ref q147, .ref q149, .int 0, .int 0])), (q1, .inl (cy 1, 65536, .inl (upd f18 6 (vp_nar .byte v20))))] H := hP
  have hD : va_D A [(h0, .inr (16, [.int 0, .ref q1, .int 6, .int 0, .int 0, .ref q3, .ref q5, .ref q7, .ref q9, .ref q11, .int 0, .int 0, .int 0, .int 0, .int 0, .int 0, .int 0, .int 0, .int 0, .int 0, .ref q13, .ref q15, .ref q17, .ref q19, .ref q21, .ref q23, .ref q25, .ref q27, .ref q29, .ref q31, .ref q33, .ref q35, .ref q37, .ref q39, .ref q41, .ref q43, .ref q45, .ref q47, .ref q49, .ref q51, .int 0, .int 0, .int 0, .ref q53, .ref q55, .ref q57, .int 0, .int 0, .int 0, .int 0, .ref q59, .ref q61, .ref q63, .int 0, .ref q65, .int 0, .ref q67, .ref q69, .int 0, .ref q71, .ref q73, .int 0, .int 0, .int 0, .ref q75, .ref q77, .int 0, .int 0, .ref q79, .int 0, .int 0, .int 0, .int 0, .ref q81, .ref q83, .ref q85, .ref q87, .ref q89, .ref q91, .ref q93, .ref q95, .ref q97, .ref q99, .ref q101, .ref q103, .int 0, .ref q105, .ref q107, .int 0, .int 0, .ref q109, .ref q111, .int 0, .ref q113, .int 0, .ref q115, .ref q117, .ref q119, .ref q121, .ref q123, .int 0, .ref q125, .ref q127, .int 0, .int 0, .ref q129, .int (-1), .int 0, .int 0, .int 0, .long 0, .ref q131, .long 0, .int 0, .int 0, .ref q133, .ref q135, .ref q137, .ref q139, .ref q141, .ref q143, .ref q145, .ref q147, .ref q149, .int 0, .int 0])), (q1, .inl (cy 1, 65536, .inl (upd f18 6 (vp_nar .byte v20))))] := hD
  generalize (upd f18 6 (vp_nar .byte v20)) = f21 at hP hD
  refine lv_aload_n hx hb dX13_feed_111 rfl (lv_at hl 2 rfl) ?_
  refine lv_dup hx hb dX13_feed_112 rfl ?_
  refine va_get (D := D) (ci := 16) (v := .int 6) (C := RX13) (T := TX13) (N := 126) hx hb hts i_c_X13_feed_X13 hown hK hP 0 rfl rfl 2 (by decide) (hts (.fieldLink RX13 253 "ChanceWorksModel" "size" "I") (List.mem_of_getElem? (i := 1) rfl)) (fun _ h9 => h9) rfl dX13_feed_113 ?_
  refine lv_iconst (v := 1) hx hb dX13_feed_116 (by decide) ?_
  refine lv_iadd hx hb dX13_feed_117 ?_
  rw [show (6 : Int32) + 1 = 7 by decide]
  refine va_put (D := D) (ci := 16) (v := .int 7) (ty := .int) (C := RX13) (T := TX13) (N := 126) hx hb hts i_c_X13_feed_X13 tyX13 tyX13_ok nmX13 hown hK hP hD hS 0 rfl rfl 2 (by decide) (hts (.fieldLink RX13 253 "ChanceWorksModel" "size" "I") (List.mem_of_getElem? (i := 1) rfl)) (fun _ h9 => h9) rfl (by decide +kernel) rfl rfl (Nat.le_of_ble_eq_true rfl) dX13_feed_118 (fun H locs hP hD hS => ?_)
  have hP : va_P D vwCl [(h0, .inr (16, [.int 0, .ref q1, .int 7, .int 0, .int 0, .ref q3, .ref q5, .ref q7, .ref q9, .ref q11, .int 0, .int 0, .int 0, .int 0, .int 0, .int 0, .int 0, .int 0, .int 0, .int 0, .ref q13, .ref q15, .ref q17, .ref q19, .ref q21, .ref q23, .ref q25, .ref q27, .ref q29, .ref q31, .ref q33, .ref q35, .ref q37, .ref q39, .ref q41, .ref q43, .ref q45, .ref q47, .ref q49, .ref q51, .int 0, .int 0, .int 0, .ref q53, .ref q55, .ref q57, .int 0, .int 0, .int 0, .int 0, .ref q59, .ref q61, .ref q63, .int 0, .ref q65, .int 0, .ref q67, .ref q69, .int 0, .ref q71, .ref q73, .int 0, .int 0, .int 0, .ref q75, .ref q77, .int 0, .int 0, .ref q79, .int 0, .int 0, .int 0, .int 0, .ref q81, .ref q83, .ref q85, .ref q87, .ref q89, .ref q91, .ref q93, .ref q95, .ref q97, .ref q99, .ref q101, .ref q103, .int 0, .ref q105, .ref q107, .int 0, .int 0, .ref q109, .ref q111, .int 0, .ref q113, .int 0, .ref q115, .ref q117, .ref q119, .ref q121, .ref q123, .int 0, .ref q125, .ref q127, .int 0, .int 0, .ref q129, .int (-1), .int 0, .int 0, .int 0, .long 0, .ref q131, .long 0, .int 0, .int 0, .ref q133, .ref q135, .ref q137, .ref q139, .ref q141, .ref q143, .ref q145, .ref q147, .ref q149, .int 0, .int 0])), (q1, .inl (cy 1, 65536, .inl f21))] H := hP
  have hD : va_D A [(h0, .inr (16, [.int 0, .ref q1, .int 7, .int 0, .int 0, .ref q3, .ref q5, .ref q7, .ref q9, .ref q11, .int 0, .int 0, .int 0, .int 0, .int 0, .int 0, .int 0, .int 0, .int 0, .int 0, .ref q13, .ref q15, .ref q17, .ref q19, .ref q21, .ref q23, .ref q25, .ref q27, .ref q29, .ref q31, .ref q33, .ref q35, .ref q37, .ref q39, .ref q41, .ref q43, .ref q45, .ref q47, .ref q49, .ref q51, .int 0, .int 0, .int 0, .ref q53, .ref q55, .ref q57, .int 0, .int 0, .int 0, .int 0, .ref q59, .ref q61, .ref q63, .int 0, .ref q65, .int 0, .ref q67, .ref q69, .int 0, .ref q71, .ref q73, .int 0, .int 0, .int 0, .ref q75, .ref q77, .int 0, .int 0, .ref q79, .int 0, .int 0, .int 0, .int 0, .ref q81, .ref q83, .ref q85, .ref q87, .ref q89, .ref q91, .ref q93, .ref q95, .ref q97, .ref q99, .ref q101, .ref q103, .int 0, .ref q105, .ref q107, .int 0, .int 0, .ref q109, .ref q111, .int 0, .ref q113, .int 0, .ref q115, .ref q117, .ref q119, .ref q121, .ref q123, .int 0, .ref q125, .ref q127, .int 0, .int 0, .ref q129, .int (-1), .int 0, .int 0, .int 0, .long 0, .ref q131, .long 0, .int 0, .int 0, .ref q133, .ref q135, .ref q137, .ref q139, .ref q141, .ref q143, .ref q145, .ref q147, .ref q149, .int 0, .int 0])), (q1, .inl (cy 1, 65536, .inl f21))] := hD
  refine lv_iinc (v := 7) (lv' := [(6, .int 7), (7, .int p2), (0, .ref h0), (1, .int p1), (2, .int p2), (3, .int p3), (4, .int p4), (5, .int p5)]) hx hb dX13_feed_121 hl (k := 1) rfl (by decide) (by decide) rfl (fun ls hl => ?_)
  refine lv_goto (tgt := 33) hx hb dX13_feed_124 (by decide) ?_
  refine lv_iload hx hb dX13_feed_33 (lv_at hl 0 rfl) ?_
  refine lv_bipush (v := 20) hx hb dX13_feed_35 (by decide) ?_
  refine lv_icmp_ge (tgt := 127) hx hb dX13_feed_37 (by decide) (fun c9 => absurd c9 (by decide)) (fun _ => ?_)
  refine lv_iload hx hb dX13_feed_40 (lv_at hl 0 rfl) ?_
  refine lv_iconst (v := 4) hx hb dX13_feed_42 (by decide) ?_
  refine lv_icmp_ge (tgt := 50) hx hb dX13_feed_43 (by decide) (fun _ => ?_) (fun c9 => absurd (by decide) c9)
  refine lv_iload hx hb dX13_feed_50 (lv_at hl 0 rfl) ?_
  refine lv_bipush (v := 8) hx hb dX13_feed_52 (by decide) ?_
  refine lv_icmp_ge (tgt := 61) hx hb dX13_feed_54 (by decide) (fun c9 => absurd c9 (by decide)) (fun _ => ?_)
  refine lv_iload_n hx hb dX13_feed_57 rfl (lv_at hl 4 rfl) ?_
  refine lv_goto (tgt := 86) hx hb dX13_feed_58 (by decide) ?_
  refine lv_istore (lv' := [(7, .int p2), (6, .int 7), (0, .ref h0), (1, .int p1), (2, .int p2), (3, .int p3), (4, .int p4), (5, .int p5)]) hx hb dX13_feed_86 hl (by decide) rfl (fun ls hl => ?_)
  refine lv_aload_n hx hb dX13_feed_88 rfl (lv_at hl 2 rfl) ?_
  refine va_get (D := D) (ci := 16) (v := .ref q1) (C := RX13) (T := TX13) (N := 126) hx hb hts i_c_X13_feed_X13 hown hK hP 0 rfl rfl 1 (by decide) (hts (.fieldLink RX13 14 "ChanceWorksModel" "tape" "[B") (List.mem_of_getElem? (i := 4) rfl)) (fun _ h9 => h9) rfl dX13_feed_89 ?_
  refine lv_aload_n hx hb dX13_feed_92 rfl (lv_at hl 2 rfl) ?_
  refine va_get (D := D) (ci := 16) (v := .int 7) (C := RX13) (T := TX13) (N := 126) hx hb hts i_c_X13_feed_X13 hown hK hP 0 rfl rfl 2 (by decide) (hts (.fieldLink RX13 253 "ChanceWorksModel" "size" "I") (List.mem_of_getElem? (i := 1) rfl)) (fun _ h9 => h9) rfl dX13_feed_93 ?_
  refine lv_iload hx hb dX13_feed_96 (lv_at hl 0 rfl) ?_
  refine lv_bipush (v := 24) hx hb dX13_feed_98 (by decide) ?_
  refine lv_bipush (v := 8) hx hb dX13_feed_100 (by decide) ?_
  refine lv_iload hx hb dX13_feed_102 (lv_at hl 1 rfl) ?_
  refine lv_iconst (v := 3) hx hb dX13_feed_104 (by decide) ?_
  refine lv_iand hx hb dX13_feed_105 ?_
  rw [show (7 : Int32) &&& 3 = 3 by decide]
  refine lv_imul hx hb dX13_feed_106 ?_
  rw [show (8 : Int32) * 3 = 24 by decide]
  refine lv_isub hx hb dX13_feed_107 ?_
  rw [show (24 : Int32) - 24 = 0 by decide]
  refine lv_ishr hx hb dX13_feed_108 ?_
  refine lv_topi (fun v22 e_v22 => ?_)
  obtain ⟨v23, e_v23⟩ : ∃ z : Int32, z = v22.toInt8.toInt32 := ⟨_, rfl⟩
  refine lv_i2b (v := v23) hx hb dX13_feed_109 e_v23.symm ?_
  refine va_bast hx hb hK hP hD hS 1 1 rfl rfl (by unfold vp_in; decide) dX13_feed_110 (fun H locs hP hD hS => ?_)
  have hP : va_P D vwCl [(h0, .inr (16, [.int 0, .ref q1, .int 7, .int 0, .int 0, .ref q3, .ref q5, .ref q7, .ref q9, .ref q11, .int 0, .int 0, .int 0, .int 0, .int 0, .int 0, .int 0, .int 0, .int 0, .int 0, .ref q13, .ref q15, .ref q17, .ref q19, .ref q21, .ref q23, .ref q25, .ref q27, .ref q29, .ref q31, .ref q33, .ref q35, .ref q37, .ref q39, .ref q41, .ref q43, .ref q45, .ref q47, .ref q49, .ref q51, .int 0, .int 0, .int 0, .ref q53, .ref q55, .ref q57, .int 0, .int 0, .int 0, .int 0, .ref q59, .ref q61, .ref q63, .int 0, .ref q65, .int 0, .ref q67, .ref q69, .int 0, .ref q71, .ref q73, .int 0, .int 0, .int 0, .ref q75, .ref q77, .int 0, .int 0, .ref q79, .int 0, .int 0, .int 0, .int 0, .ref q81, .ref q83, .ref q85, .ref q87, .ref q89, .ref q91, .ref q93, .ref q95, .ref q97, .ref q99, .ref q101, .ref q103, .int 0, .ref q105, .ref q107, .int 0, .int 0, .ref q109, .ref q111, .int 0, .ref q113, .int 0, .ref q115, .ref q117, .ref q119, .ref q121, .ref q123, .int 0, .ref q125, .ref q127, .int 0, .int 0, .ref q129, .int (-1), .int 0, .int 0, .int 0, .long 0, .ref q131, .long 0, .int 0, .int 0, .ref q133, .ref q135, .ref q137, .ref q139, .ref q141, .ref q143, .ref q145, .ref q147, .ref q149, .int 0, .int 0])), (q1, .inl (cy 1, 65536, .inl (upd f21 7 (vp_nar .byte v23))))] H := hP
  have hD : va_D A [(h0, .inr (16, [.int 0, .ref q1, .int 7, .int 0, .int 0, .ref q3, .ref q5, .ref q7, .ref q9, .ref q11, .int 0, .int 0, .int 0, .int 0, .int 0, .int 0, .int 0, .int 0, .int 0, .int 0, .ref q13, .ref q15, .ref q17, .ref q19, .ref q21, .ref q23, .ref q25, .ref q27, .ref q29, .ref q31, .ref q33, .ref q35, .ref q37, .ref q39, .ref q41, .ref q43, .ref q45, .ref q47, .ref q49, .ref q51, .int 0, .int 0, .int 0, .ref q53, .ref q55, .ref q57, .int 0, .int 0, .int 0, .int 0, .ref q59, .ref q61, .ref q63, .int 0, .ref q65, .int 0, .ref q67, .ref q69, .int 0, .ref q71, .ref q73, .int 0, .int 0, .int 0, .ref q75, .ref q77, .int 0, .int 0, .ref q79, .int 0, .int 0, .int 0, .int 0, .ref q81, .ref q83, .ref q85, .ref q87, .ref q89, .ref q91, .ref q93, .ref q95, .ref q97, .ref q99, .ref q101, .ref q103, .int 0, .ref q105, .ref q107, .int 0, .int 0, .ref q109, .ref q111, .int 0, .ref q113, .int 0, .ref q115, .ref q117, .ref q119, .ref q121, .ref q123, .int 0, .ref q125, .ref q127, .int 0, .int 0, .ref q129, .int (-1), .int 0, .int 0, .int 0, .long 0, .ref q131, .long 0, .int 0, .int 0, .ref q133, .ref q135, .ref q137, .ref q139, .ref q141, .ref q143, .ref q145, .ref q147, .ref q149, .int 0, .int 0])), (q1, .inl (cy 1, 65536, .inl (upd f21 7 (vp_nar .byte v23))))] := hD
  generalize (upd f21 7 (vp_nar .byte v23)) = f24 at hP hD
  refine lv_aload_n hx hb dX13_feed_111 rfl (lv_at hl 2 rfl) ?_
  refine lv_dup hx hb dX13_feed_112 rfl ?_
  refine va_get (D := D) (ci := 16) (v := .int 7) (C := RX13) (T := TX13) (N := 126) hx hb hts i_c_X13_feed_X13 hown hK hP 0 rfl rfl 2 (by decide) (hts (.fieldLink RX13 253 "ChanceWorksModel" "size" "I") (List.mem_of_getElem? (i := 1) rfl)) (fun _ h9 => h9) rfl dX13_feed_113 ?_
  refine lv_iconst (v := 1) hx hb dX13_feed_116 (by decide) ?_
  refine lv_iadd hx hb dX13_feed_117 ?_
  rw [show (7 : Int32) + 1 = 8 by decide]
  refine va_put (D := D) (ci := 16) (v := .int 8) (ty := .int) (C := RX13) (T := TX13) (N := 126) hx hb hts i_c_X13_feed_X13 tyX13 tyX13_ok nmX13 hown hK hP hD hS 0 rfl rfl 2 (by decide) (hts (.fieldLink RX13 253 "ChanceWorksModel" "size" "I") (List.mem_of_getElem? (i := 1) rfl)) (fun _ h9 => h9) rfl (by decide +kernel) rfl rfl (Nat.le_of_ble_eq_true rfl) dX13_feed_118 (fun H locs hP hD hS => ?_)
  have hP : va_P D vwCl [(h0, .inr (16, [.int 0, .ref q1, .int 8, .int 0, .int 0, .ref q3, .ref q5, .ref q7, .ref q9, .ref q11, .int 0, .int 0, .int 0, .int 0, .int 0, .int 0, .int 0, .int 0, .int 0, .int 0, .ref q13, .ref q15, .ref q17, .ref q19, .ref q21, .ref q23, .ref q25, .ref q27, .ref q29, .ref q31, .ref q33, .ref q35, .ref q37, .ref q39, .ref q41, .ref q43, .ref q45, .ref q47, .ref q49, .ref q51, .int 0, .int 0, .int 0, .ref q53, .ref q55, .ref q57, .int 0, .int 0, .int 0, .int 0, .ref q59, .ref q61, .ref q63, .int 0, .ref q65, .int 0, .ref q67, .ref q69, .int 0, .ref q71, .ref q73, .int 0, .int 0, .int 0, .ref q75, .ref q77, .int 0, .int 0, .ref q79, .int 0, .int 0, .int 0, .int 0, .ref q81, .ref q83, .ref q85, .ref q87, .ref q89, .ref q91, .ref q93, .ref q95, .ref q97, .ref q99, .ref q101, .ref q103, .int 0, .ref q105, .ref q107, .int 0, .int 0, .ref q109, .ref q111, .int 0, .ref q113, .int 0, .ref q115, .ref q117, .ref q119, .ref q121, .ref q123, .int 0, .ref q125, .ref q127, .int 0, .int 0, .ref q129, .int (-1), .int 0, .int 0, .int 0, .long 0, .ref q131, .long 0, .int 0, .int 0, .ref q133, .ref q135, .ref q137, .ref q139, .ref q141, .ref q143, .ref q145, .ref q147, .ref q149, .int 0, .int 0])), (q1, .inl (cy 1, 65536, .inl f24))] H := hP
  have hD : va_D A [(h0, .inr (16, [.int 0, .ref q1, .int 8, .int 0, .int 0, .ref q3, .ref q5, .ref q7, .ref q9, .ref q11, .int 0, .int 0, .int 0, .int 0, .int 0, .int 0, .int 0, .int 0, .int 0, .int 0, .ref q13, .ref q15, .ref q17, .ref q19, .ref q21, .ref q23, .ref q25, .ref q27, .ref q29, .ref q31, .ref q33, .ref q35, .ref q37, .ref q39, .ref q41, .ref q43, .ref q45, .ref q47, .ref q49, .ref q51, .int 0, .int 0, .int 0, .ref q53, .ref q55, .ref q57, .int 0, .int 0, .int 0, .int 0, .ref q59, .ref q61, .ref q63, .int 0, .ref q65, .int 0, .ref q67, .ref q69, .int 0, .ref q71, .ref q73, .int 0, .int 0, .int 0, .ref q75, .ref q77, .int 0, .int 0, .ref q79, .int 0, .int 0, .int 0, .int 0, .ref q81, .ref q83, .ref q85, .ref q87, .ref q89, .ref q91, .ref q93, .ref q95, .ref q97, .ref q99, .ref q101, .ref q103, .int 0, .ref q105, .ref q107, .int 0, .int 0, .ref q109, .ref q111, .int 0, .ref q113, .int 0, .ref q115, .ref q117, .ref q119, .ref q121, .ref q123, .int 0, .ref q125, .ref q127, .int 0, .int 0, .ref q129, .int (-1), .int 0, .int 0, .int 0, .long 0, .ref q131, .long 0, .int 0, .int 0, .ref q133, .ref q135, .ref q137, .ref q139, .ref q141, .ref q143, .ref q145, .ref q147, .ref q149, .int 0, .int 0])), (q1, .inl (cy 1, 65536, .inl f24))] := hD
  refine lv_iinc (v := 8) (lv' := [(6, .int 8), (7, .int p2), (0, .ref h0), (1, .int p1), (2, .int p2), (3, .int p3), (4, .int p4), (5, .int p5)]) hx hb dX13_feed_121 hl (k := 1) rfl (by decide) (by decide) rfl (fun ls hl => ?_)
  refine lv_goto (tgt := 33) hx hb dX13_feed_124 (by decide) ?_
  refine lv_iload hx hb dX13_feed_33 (lv_at hl 0 rfl) ?_
  refine lv_bipush (v := 20) hx hb dX13_feed_35 (by decide) ?_
  refine lv_icmp_ge (tgt := 127) hx hb dX13_feed_37 (by decide) (fun c9 => absurd c9 (by decide)) (fun _ => ?_)
  refine lv_iload hx hb dX13_feed_40 (lv_at hl 0 rfl) ?_
  refine lv_iconst (v := 4) hx hb dX13_feed_42 (by decide) ?_
  refine lv_icmp_ge (tgt := 50) hx hb dX13_feed_43 (by decide) (fun _ => ?_) (fun c9 => absurd (by decide) c9)
  refine lv_iload hx hb dX13_feed_50 (lv_at hl 0 rfl) ?_
  refine lv_bipush (v := 8) hx hb dX13_feed_52 (by decide) ?_
  refine lv_icmp_ge (tgt := 61) hx hb dX13_feed_54 (by decide) (fun _ => ?_) (fun c9 => absurd (by decide) c9)
  refine lv_iload hx hb dX13_feed_61 (lv_at hl 0 rfl) ?_
  refine lv_bipush (v := 12) hx hb dX13_feed_63 (by decide) ?_
  refine lv_icmp_ge (tgt := 72) hx hb dX13_feed_65 (by decide) (fun c9 => absurd c9 (by decide)) (fun _ => ?_)
  refine lv_iload_n hx hb dX13_feed_68 rfl (lv_at hl 5 rfl) ?_
  refine lv_goto (tgt := 86) hx hb dX13_feed_69 (by decide) ?_
  refine lv_istore (lv' := [(7, .int p3), (6, .int 8), (0, .ref h0), (1, .int p1), (2, .int p2), (3, .int p3), (4, .int p4), (5, .int p5)]) hx hb dX13_feed_86 hl (by decide) rfl (fun ls hl => ?_)
  refine lv_aload_n hx hb dX13_feed_88 rfl (lv_at hl 2 rfl) ?_
  refine va_get (D := D) (ci := 16) (v := .ref q1) (C := RX13) (T := TX13) (N := 126) hx hb hts i_c_X13_feed_X13 hown hK hP 0 rfl rfl 1 (by decide) (hts (.fieldLink RX13 14 "ChanceWorksModel" "tape" "[B") (List.mem_of_getElem? (i := 4) rfl)) (fun _ h9 => h9) rfl dX13_feed_89 ?_
  refine lv_aload_n hx hb dX13_feed_92 rfl (lv_at hl 2 rfl) ?_
  refine va_get (D := D) (ci := 16) (v := .int 8) (C := RX13) (T := TX13) (N := 126) hx hb hts i_c_X13_feed_X13 hown hK hP 0 rfl rfl 2 (by decide) (hts (.fieldLink RX13 253 "ChanceWorksModel" "size" "I") (List.mem_of_getElem? (i := 1) rfl)) (fun _ h9 => h9) rfl dX13_feed_93 ?_
  refine lv_iload hx hb dX13_feed_96 (lv_at hl 0 rfl) ?_
  refine lv_bipush (v := 24) hx hb dX13_feed_98 (by decide) ?_
  refine lv_bipush (v := 8) hx hb dX13_feed_100 (by decide) ?_
  refine lv_iload hx hb dX13_feed_102 (lv_at hl 1 rfl) ?_
  refine lv_iconst (v := 3) hx hb dX13_feed_104 (by decide) ?_
  refine lv_iand hx hb dX13_feed_105 ?_
  rw [show (8 : Int32) &&& 3 = 0 by decide]
  refine lv_imul hx hb dX13_feed_106 ?_
  rw [show (8 : Int32) * 0 = 0 by decide]
  refine lv_isub hx hb dX13_feed_107 ?_
  rw [show (24 : Int32) - 0 = 24 by decide]
  refine lv_ishr hx hb dX13_feed_108 ?_
  refine lv_topi (fun v25 e_v25 => ?_)
  obtain ⟨v26, e_v26⟩ : ∃ z : Int32, z = v25.toInt8.toInt32 := ⟨_, rfl⟩
  refine lv_i2b (v := v26) hx hb dX13_feed_109 e_v26.symm ?_
  refine va_bast hx hb hK hP hD hS 1 1 rfl rfl (by unfold vp_in; decide) dX13_feed_110 (fun H locs hP hD hS => ?_)
  have hP : va_P D vwCl [(h0, .inr (16, [.int 0, .ref q1, .int 8, .int 0, .int 0, .ref q3, .ref q5, .ref q7, .ref q9, .ref q11, .int 0, .int 0, .int 0, .int 0, .int 0, .int 0, .int 0, .int 0, .int 0, .int 0, .ref q13, .ref q15, .ref q17, .ref q19, .ref q21, .ref q23, .ref q25, .ref q27, .ref q29, .ref q31, .ref q33, .ref q35, .ref q37, .ref q39, .ref q41, .ref q43, .ref q45, .ref q47, .ref q49, .ref q51, .int 0, .int 0, .int 0, .ref q53, .ref q55, .ref q57, .int 0, .int 0, .int 0, .int 0, .ref q59, .ref q61, .ref q63, .int 0, .ref q65, .int 0, .ref q67, .ref q69, .int 0, .ref q71, .ref q73, .int 0, .int 0, .int 0, .ref q75, .ref q77, .int 0, .int 0, .ref q79, .int 0, .int 0, .int 0, .int 0, .ref q81, .ref q83, .ref q85, .ref q87, .ref q89, .ref q91, .ref q93, .ref q95, .ref q97, .ref q99, .ref q101, .ref q103, .int 0, .ref q105, .ref q107, .int 0, .int 0, .ref q109, .ref q111, .int 0, .ref q113, .int 0, .ref q115, .ref q117, .ref q119, .ref q121, .ref q123, .int 0, .ref q125, .ref q127, .int 0, .int 0, .ref q129, .int (-1), .int 0, .int 0, .int 0, .long 0, .ref q131, .long 0, .int 0, .int 0, .ref q133, .ref q135, .ref q137, .ref q139, .ref q141, .ref q143, .ref q145, .ref q147, .ref q149, .int 0, .int 0])), (q1, .inl (cy 1, 65536, .inl (upd f24 8 (vp_nar .byte v26))))] H := hP
  have hD : va_D A [(h0, .inr (16, [.int 0, .ref q1, .int 8, .int 0, .int 0, .ref q3, .ref q5, .ref q7, .ref q9, .ref q11, .int 0, .int 0, .int 0, .int 0, .int 0, .int 0, .int 0, .int 0, .int 0, .int 0, .ref q13, .ref q15, .ref q17, .ref q19, .ref q21, .ref q23, .ref q25, .ref q27, .ref q29, .ref q31, .ref q33, .ref q35, .ref q37, .ref q39, .ref q41, .ref q43, .ref q45, .ref q47, .ref q49, .ref q51, .int 0, .int 0, .int 0, .ref q53, .ref q55, .ref q57, .int 0, .int 0, .int 0, .int 0, .ref q59, .ref q61, .ref q63, .int 0, .ref q65, .int 0, .ref q67, .ref q69, .int 0, .ref q71, .ref q73, .int 0, .int 0, .int 0, .ref q75, .ref q77, .int 0, .int 0, .ref q79, .int 0, .int 0, .int 0, .int 0, .ref q81, .ref q83, .ref q85, .ref q87, .ref q89, .ref q91, .ref q93, .ref q95, .ref q97, .ref q99, .ref q101, .ref q103, .int 0, .ref q105, .ref q107, .int 0, .int 0, .ref q109, .ref q111, .int 0, .ref q113, .int 0, .ref q115, .ref q117, .ref q119, .ref q121, .ref q123, .int 0, .ref q125, .ref q127, .int 0, .int 0, .ref q129, .int (-1), .int 0, .int 0, .int 0, .long 0, .ref q131, .long 0, .int 0, .int 0, .ref q133, .ref q135, .ref q137, .ref q139, .ref q141, .ref q143, .ref q145, .ref q147, .ref q149, .int 0, .int 0])), (q1, .inl (cy 1, 65536, .inl (upd f24 8 (vp_nar .byte v26))))] := hD
  generalize (upd f24 8 (vp_nar .byte v26)) = f27 at hP hD
  refine lv_aload_n hx hb dX13_feed_111 rfl (lv_at hl 2 rfl) ?_
  refine lv_dup hx hb dX13_feed_112 rfl ?_
  refine va_get (D := D) (ci := 16) (v := .int 8) (C := RX13) (T := TX13) (N := 126) hx hb hts i_c_X13_feed_X13 hown hK hP 0 rfl rfl 2 (by decide) (hts (.fieldLink RX13 253 "ChanceWorksModel" "size" "I") (List.mem_of_getElem? (i := 1) rfl)) (fun _ h9 => h9) rfl dX13_feed_113 ?_
  refine lv_iconst (v := 1) hx hb dX13_feed_116 (by decide) ?_
  refine lv_iadd hx hb dX13_feed_117 ?_
  rw [show (8 : Int32) + 1 = 9 by decide]
  refine va_put (D := D) (ci := 16) (v := .int 9) (ty := .int) (C := RX13) (T := TX13) (N := 126) hx hb hts i_c_X13_feed_X13 tyX13 tyX13_ok nmX13 hown hK hP hD hS 0 rfl rfl 2 (by decide) (hts (.fieldLink RX13 253 "ChanceWorksModel" "size" "I") (List.mem_of_getElem? (i := 1) rfl)) (fun _ h9 => h9) rfl (by decide +kernel) rfl rfl (Nat.le_of_ble_eq_true rfl) dX13_feed_118 (fun H locs hP hD hS => ?_)
  have hP : va_P D vwCl [(h0, .inr (16, [.int 0, .ref q1, .int 9, .int 0, .int 0, .ref q3, .ref q5, .ref q7, .ref q9, .ref q11, .int 0, .int 0, .int 0, .int 0, .int 0, .int 0, .int 0, .int 0, .int 0, .int 0, .ref q13, .ref q15, .ref q17, .ref q19, .ref q21, .ref q23, .ref q25, .ref q27, .ref q29, .ref q31, .ref q33, .ref q35, .ref q37, .ref q39, .ref q41, .ref q43, .ref q45, .ref q47, .ref q49, .ref q51, .int 0, .int 0, .int 0, .ref q53, .ref q55, .ref q57, .int 0, .int 0, .int 0, .int 0, .ref q59, .ref q61, .ref q63, .int 0, .ref q65, .int 0, .ref q67, .ref q69, .int 0, .ref q71, .ref q73, .int 0, .int 0, .int 0, .ref q75, .ref q77, .int 0, .int 0, .ref q79, .int 0, .int 0, .int 0, .int 0, .ref q81, .ref q83, .ref q85, .ref q87, .ref q89, .ref q91, .ref q93, .ref q95, .ref q97, .ref q99, .ref q101, .ref q103, .int 0, .ref q105, .ref q107, .int 0, .int 0, .ref q109, .ref q111, .int 0, .ref q113, .int 0, .ref q115, .ref q117, .ref q119, .ref q121, .ref q123, .int 0, .ref q125, .ref q127, .int 0, .int 0, .ref q129, .int (-1), .int 0, .int 0, .int 0, .long 0, .ref q131, .long 0, .int 0, .int 0, .ref q133, .ref q135, .ref q137, .ref q139, .ref q141, .ref q143, .ref q145, .ref q147, .ref q149, .int 0, .int 0])), (q1, .inl (cy 1, 65536, .inl f27))] H := hP
  have hD : va_D A [(h0, .inr (16, [.int 0, .ref q1, .int 9, .int 0, .int 0, .ref q3, .ref q5, .ref q7, .ref q9, .ref q11, .int 0, .int 0, .int 0, .int 0, .int 0, .int 0, .int 0, .int 0, .int 0, .int 0, .ref q13, .ref q15, .ref q17, .ref q19, .ref q21, .ref q23, .ref q25, .ref q27, .ref q29, .ref q31, .ref q33, .ref q35, .ref q37, .ref q39, .ref q41, .ref q43, .ref q45, .ref q47, .ref q49, .ref q51, .int 0, .int 0, .int 0, .ref q53, .ref q55, .ref q57, .int 0, .int 0, .int 0, .int 0, .ref q59, .ref q61, .ref q63, .int 0, .ref q65, .int 0, .ref q67, .ref q69, .int 0, .ref q71, .ref q73, .int 0, .int 0, .int 0, .ref q75, .ref q77, .int 0, .int 0, .ref q79, .int 0, .int 0, .int 0, .int 0, .ref q81, .ref q83, .ref q85, .ref q87, .ref q89, .ref q91, .ref q93, .ref q95, .ref q97, .ref q99, .ref q101, .ref q103, .int 0, .ref q105, .ref q107, .int 0, .int 0, .ref q109, .ref q111, .int 0, .ref q113, .int 0, .ref q115, .ref q117, .ref q119, .ref q121, .ref q123, .int 0, .ref q125, .ref q127, .int 0, .int 0, .ref q129, .int (-1), .int 0, .int 0, .int 0, .long 0, .ref q131, .long 0, .int 0, .int 0, .ref q133, .ref q135, .ref q137, .ref q139, .ref q141, .ref q143, .ref q145, .ref q147, .ref q149, .int 0, .int 0])), (q1, .inl (cy 1, 65536, .inl f27))] := hD
  refine lv_iinc (v := 9) (lv' := [(6, .int 9), (7, .int p3), (0, .ref h0), (1, .int p1), (2, .int p2), (3, .int p3), (4, .int p4), (5, .int p5)]) hx hb dX13_feed_121 hl (k := 1) rfl (by decide) (by decide) rfl (fun ls hl => ?_)
  refine lv_goto (tgt := 33) hx hb dX13_feed_124 (by decide) ?_
  refine lv_iload hx hb dX13_feed_33 (lv_at hl 0 rfl) ?_
  refine lv_bipush (v := 20) hx hb dX13_feed_35 (by decide) ?_
  refine lv_icmp_ge (tgt := 127) hx hb dX13_feed_37 (by decide) (fun c9 => absurd c9 (by decide)) (fun _ => ?_)
  refine lv_iload hx hb dX13_feed_40 (lv_at hl 0 rfl) ?_
  refine lv_iconst (v := 4) hx hb dX13_feed_42 (by decide) ?_
  refine lv_icmp_ge (tgt := 50) hx hb dX13_feed_43 (by decide) (fun _ => ?_) (fun c9 => absurd (by decide) c9)
  refine lv_iload hx hb dX13_feed_50 (lv_at hl 0 rfl) ?_
  refine lv_bipush (v := 8) hx hb dX13_feed_52 (by decide) ?_
  refine lv_icmp_ge (tgt := 61) hx hb dX13_feed_54 (by decide) (fun _ => ?_) (fun c9 => absurd (by decide) c9)
  refine lv_iload hx hb dX13_feed_61 (lv_at hl 0 rfl) ?_
  refine lv_bipush (v := 12) hx hb dX13_feed_63 (by decide) ?_
  refine lv_icmp_ge (tgt := 72) hx hb dX13_feed_65 (by decide) (fun c9 => absurd c9 (by decide)) (fun _ => ?_)
  refine lv_iload_n hx hb dX13_feed_68 rfl (lv_at hl 5 rfl) ?_
  refine lv_goto (tgt := 86) hx hb dX13_feed_69 (by decide) ?_
  refine lv_istore (lv' := [(7, .int p3), (6, .int 9), (0, .ref h0), (1, .int p1), (2, .int p2), (3, .int p3), (4, .int p4), (5, .int p5)]) hx hb dX13_feed_86 hl (by decide) rfl (fun ls hl => ?_)
  refine lv_aload_n hx hb dX13_feed_88 rfl (lv_at hl 2 rfl) ?_
  refine va_get (D := D) (ci := 16) (v := .ref q1) (C := RX13) (T := TX13) (N := 126) hx hb hts i_c_X13_feed_X13 hown hK hP 0 rfl rfl 1 (by decide) (hts (.fieldLink RX13 14 "ChanceWorksModel" "tape" "[B") (List.mem_of_getElem? (i := 4) rfl)) (fun _ h9 => h9) rfl dX13_feed_89 ?_
  refine lv_aload_n hx hb dX13_feed_92 rfl (lv_at hl 2 rfl) ?_
  refine va_get (D := D) (ci := 16) (v := .int 9) (C := RX13) (T := TX13) (N := 126) hx hb hts i_c_X13_feed_X13 hown hK hP 0 rfl rfl 2 (by decide) (hts (.fieldLink RX13 253 "ChanceWorksModel" "size" "I") (List.mem_of_getElem? (i := 1) rfl)) (fun _ h9 => h9) rfl dX13_feed_93 ?_
  refine lv_iload hx hb dX13_feed_96 (lv_at hl 0 rfl) ?_
  refine lv_bipush (v := 24) hx hb dX13_feed_98 (by decide) ?_
  refine lv_bipush (v := 8) hx hb dX13_feed_100 (by decide) ?_
  refine lv_iload hx hb dX13_feed_102 (lv_at hl 1 rfl) ?_
  refine lv_iconst (v := 3) hx hb dX13_feed_104 (by decide) ?_
  refine lv_iand hx hb dX13_feed_105 ?_
  rw [show (9 : Int32) &&& 3 = 1 by decide]
  refine lv_imul hx hb dX13_feed_106 ?_
  rw [show (8 : Int32) * 1 = 8 by decide]
  refine lv_isub hx hb dX13_feed_107 ?_
  rw [show (24 : Int32) - 8 = 16 by decide]
  refine lv_ishr hx hb dX13_feed_108 ?_
  refine lv_topi (fun v28 e_v28 => ?_)
  obtain ⟨v29, e_v29⟩ : ∃ z : Int32, z = v28.toInt8.toInt32 := ⟨_, rfl⟩
  refine lv_i2b (v := v29) hx hb dX13_feed_109 e_v29.symm ?_
  refine va_bast hx hb hK hP hD hS 1 1 rfl rfl (by unfold vp_in; decide) dX13_feed_110 (fun H locs hP hD hS => ?_)
  have hP : va_P D vwCl [(h0, .inr (16, [.int 0, .ref q1, .int 9, .int 0, .int 0, .ref q3, .ref q5, .ref q7, .ref q9, .ref q11, .int 0, .int 0, .int 0, .int 0, .int 0, .int 0, .int 0, .int 0, .int 0, .int 0, .ref q13, .ref q15, .ref q17, .ref q19, .ref q21, .ref q23, .ref q25, .ref q27, .ref q29, .ref q31, .ref q33, .ref q35, .ref q37, .ref q39, .ref q41, .ref q43, .ref q45, .ref q47, .ref q49, .ref q51, .int 0, .int 0, .int 0, .ref q53, .ref q55, .ref q57, .int 0, .int 0, .int 0, .int 0, .ref q59, .ref q61, .ref q63, .int 0, .ref q65, .int 0, .ref q67, .ref q69, .int 0, .ref q71, .ref q73, .int 0, .int 0, .int 0, .ref q75, .ref q77, .int 0, .int 0, .ref q79, .int 0, .int 0, .int 0, .int 0, .ref q81, .ref q83, .ref q85, .ref q87, .ref q89, .ref q91, .ref q93, .ref q95, .ref q97, .ref q99, .ref q101, .ref q103, .int 0, .ref q105, .ref q107, .int 0, .int 0, .ref q109, .ref q111, .int 0, .ref q113, .int 0, .ref q115, .ref q117, .ref q119, .ref q121, .ref q123, .int 0, .ref q125, .ref q127, .int 0, .int 0, .ref q129, .int (-1), .int 0, .int 0, .int 0, .long 0, .ref q131, .long 0, .int 0, .int 0, .ref q133, .ref q135, .ref q137, .ref q139, .ref q141, .ref q143, .ref q145, .ref q147, .ref q149, .int 0, .int 0])), (q1, .inl (cy 1, 65536, .inl (upd f27 9 (vp_nar .byte v29))))] H := hP
  have hD : va_D A [(h0, .inr (16, [.int 0, .ref q1, .int 9, .int 0, .int 0, .ref q3, .ref q5, .ref q7, .ref q9, .ref q11, .int 0, .int 0, .int 0, .int 0, .int 0, .int 0, .int 0, .int 0, .int 0, .int 0, .ref q13, .ref q15, .ref q17, .ref q19, .ref q21, .ref q23, .ref q25, .ref q27, .ref q29, .ref q31, .ref q33, .ref q35, .ref q37, .ref q39, .ref q41, .ref q43, .ref q45, .ref q47, .ref q49, .ref q51, .int 0, .int 0, .int 0, .ref q53, .ref q55, .ref q57, .int 0, .int 0, .int 0, .int 0, .ref q59, .ref q61, .ref q63, .int 0, .ref q65, .int 0, .ref q67, .ref q69, .int 0, .ref q71, .ref q73, .int 0, .int 0, .int 0, .ref q75, .ref q77, .int 0, .int 0, .ref q79, .int 0, .int 0, .int 0, .int 0, .ref q81, .ref q83, .ref q85, .ref q87, .ref q89, .ref q91, .ref q93, .ref q95, .ref q97, .ref q99, .ref q101, .ref q103, .int 0, .ref q105, .ref q107, .int 0, .int 0, .ref q109, .ref q111, .int 0, .ref q113, .int 0, .ref q115, .ref q117, .ref q119, .ref q121, .ref q123, .int 0, .ref q125, .ref q127, .int 0, .int 0, .ref q129, .int (-1), .int 0, .int 0, .int 0, .long 0, .ref q131, .long 0, .int 0, .int 0, .ref q133, .ref q135, .ref q137, .ref q139, .ref q141, .ref q143, .ref q145, .ref q147, .ref q149, .int 0, .int 0])), (q1, .inl (cy 1, 65536, .inl (upd f27 9 (vp_nar .byte v29))))] := hD
  generalize (upd f27 9 (vp_nar .byte v29)) = f30 at hP hD
  refine lv_aload_n hx hb dX13_feed_111 rfl (lv_at hl 2 rfl) ?_
  refine lv_dup hx hb dX13_feed_112 rfl ?_
  refine va_get (D := D) (ci := 16) (v := .int 9) (C := RX13) (T := TX13) (N := 126) hx hb hts i_c_X13_feed_X13 hown hK hP 0 rfl rfl 2 (by decide) (hts (.fieldLink RX13 253 "ChanceWorksModel" "size" "I") (List.mem_of_getElem? (i := 1) rfl)) (fun _ h9 => h9) rfl dX13_feed_113 ?_
  refine lv_iconst (v := 1) hx hb dX13_feed_116 (by decide) ?_
  refine lv_iadd hx hb dX13_feed_117 ?_
  rw [show (9 : Int32) + 1 = 10 by decide]
  refine va_put (D := D) (ci := 16) (v := .int 10) (ty := .int) (C := RX13) (T := TX13) (N := 126) hx hb hts i_c_X13_feed_X13 tyX13 tyX13_ok nmX13 hown hK hP hD hS 0 rfl rfl 2 (by decide) (hts (.fieldLink RX13 253 "ChanceWorksModel" "size" "I") (List.mem_of_getElem? (i := 1) rfl)) (fun _ h9 => h9) rfl (by decide +kernel) rfl rfl (Nat.le_of_ble_eq_true rfl) dX13_feed_118 (fun H locs hP hD hS => ?_)
  have hP : va_P D vwCl [(h0, .inr (16, [.int 0, .ref q1, .int 10, .int 0, .int 0, .ref q3, .ref q5, .ref q7, .ref q9, .ref q11, .int 0, .int 0, .int 0, .int 0, .int 0, .int 0, .int 0, .int 0, .int 0, .int 0, .ref q13, .ref q15, .ref q17, .ref q19, .ref q21, .ref q23, .ref q25, .ref q27, .ref q29, .ref q31, .ref q33, .ref q35, .ref q37, .ref q39, .ref q41, .ref q43, .ref q45, .ref q47, .ref q49, .ref q51, .int 0, .int 0, .int 0, .ref q53, .ref q55, .ref q57, .int 0, .int 0, .int 0, .int 0, .ref q59, .ref q61, .ref q63, .int 0, .ref q65, .int 0, .ref q67, .ref q69, .int 0, .ref q71, .ref q73, .int 0, .int 0, .int 0, .ref q75, .ref q77, .int 0, .int 0, .ref q79, .int 0, .int 0, .int 0, .int 0, .ref q81, .ref q83, .ref q85, .ref q87, .ref q89, .ref q91, .ref q93, .ref q95, .ref q97, .ref q99, .ref q101, .ref q103, .int 0, .ref q105, .ref q107, .int 0, .int 0, .ref q109, .ref q111, .int 0, .ref q113, .int 0, .ref q115, .ref q117, .ref q119, .ref q121, .ref q123, .int 0, .ref q125, .ref q127, .int 0, .int 0, .ref q129, .int (-1), .int 0, .int 0, .int 0, .long 0, .ref q131, .long 0, .int 0, .int 0, .ref q133, .ref q135, .ref q137, .ref q139, .ref q141, .ref q143, .ref q145, .ref q147, .ref q149, .int 0, .int 0])), (q1, .inl (cy 1, 65536, .inl f30))] H := hP
  have hD : va_D A [(h0, .inr (16, [.int 0, .ref q1, .int 10, .int 0, .int 0, .ref q3, .ref q5, .ref q7, .ref q9, .ref q11, .int 0, .int 0, .int 0, .int 0, .int 0, .int 0, .int 0, .int 0, .int 0, .int 0, .ref q13, .ref q15, .ref q17, .ref q19, .ref q21, .ref q23, .ref q25, .ref q27, .ref q29, .ref q31, .ref q33, .ref q35, .ref q37, .ref q39, .ref q41, .ref q43, .ref q45, .ref q47, .ref q49, .ref q51, .int 0, .int 0, .int 0, .ref q53, .ref q55, .ref q57, .int 0, .int 0, .int 0, .int 0, .ref q59, .ref q61, .ref q63, .int 0, .ref q65, .int 0, .ref q67, .ref q69, .int 0, .ref q71, .ref q73, .int 0, .int 0, .int 0, .ref q75, .ref q77, .int 0, .int 0, .ref q79, .int 0, .int 0, .int 0, .int 0, .ref q81, .ref q83, .ref q85, .ref q87, .ref q89, .ref q91, .ref q93, .ref q95, .ref q97, .ref q99, .ref q101, .ref q103, .int 0, .ref q105, .ref q107, .int 0, .int 0, .ref q109, .ref q111, .int 0, .ref q113, .int 0, .ref q115, .ref q117, .ref q119, .ref q121, .ref q123, .int 0, .ref q125, .ref q127, .int 0, .int 0, .ref q129, .int (-1), .int 0, .int 0, .int 0, .long 0, .ref q131, .long 0, .int 0, .int 0, .ref q133, .ref q135, .ref q137, .ref q139, .ref q141, .ref q143, .ref q145, .ref q147, .ref q149, .int 0, .int 0])), (q1, .inl (cy 1, 65536, .inl f30))] := hD
  refine lv_iinc (v := 10) (lv' := [(6, .int 10), (7, .int p3), (0, .ref h0), (1, .int p1), (2, .int p2), (3, .int p3), (4, .int p4), (5, .int p5)]) hx hb dX13_feed_121 hl (k := 1) rfl (by decide) (by decide) rfl (fun ls hl => ?_)
  refine lv_goto (tgt := 33) hx hb dX13_feed_124 (by decide) ?_
  refine lv_iload hx hb dX13_feed_33 (lv_at hl 0 rfl) ?_
  refine lv_bipush (v := 20) hx hb dX13_feed_35 (by decide) ?_
  refine lv_icmp_ge (tgt := 127) hx hb dX13_feed_37 (by decide) (fun c9 => absurd c9 (by decide)) (fun _ => ?_)
  refine lv_iload hx hb dX13_feed_40 (lv_at hl 0 rfl) ?_
  refine lv_iconst (v := 4) hx hb dX13_feed_42 (by decide) ?_
  refine lv_icmp_ge (tgt := 50) hx hb dX13_feed_43 (by decide) (fun _ => ?_) (fun c9 => absurd (by decide) c9)
  refine lv_iload hx hb dX13_feed_50 (lv_at hl 0 rfl) ?_
  refine lv_bipush (v := 8) hx hb dX13_feed_52 (by decide) ?_
  refine lv_icmp_ge (tgt := 61) hx hb dX13_feed_54 (by decide) (fun _ => ?_) (fun c9 => absurd (by decide) c9)
  refine lv_iload hx hb dX13_feed_61 (lv_at hl 0 rfl) ?_
  refine lv_bipush (v := 12) hx hb dX13_feed_63 (by decide) ?_
  refine lv_icmp_ge (tgt := 72) hx hb dX13_feed_65 (by decide) (fun c9 => absurd c9 (by decide)) (fun _ => ?_)
  refine lv_iload_n hx hb dX13_feed_68 rfl (lv_at hl 5 rfl) ?_
  refine lv_goto (tgt := 86) hx hb dX13_feed_69 (by decide) ?_
  refine lv_istore (lv' := [(7, .int p3), (6, .int 10), (0, .ref h0), (1, .int p1), (2, .int p2), (3, .int p3), (4, .int p4), (5, .int p5)]) hx hb dX13_feed_86 hl (by decide) rfl (fun ls hl => ?_)
  refine lv_aload_n hx hb dX13_feed_88 rfl (lv_at hl 2 rfl) ?_
  refine va_get (D := D) (ci := 16) (v := .ref q1) (C := RX13) (T := TX13) (N := 126) hx hb hts i_c_X13_feed_X13 hown hK hP 0 rfl rfl 1 (by decide) (hts (.fieldLink RX13 14 "ChanceWorksModel" "tape" "[B") (List.mem_of_getElem? (i := 4) rfl)) (fun _ h9 => h9) rfl dX13_feed_89 ?_
  refine lv_aload_n hx hb dX13_feed_92 rfl (lv_at hl 2 rfl) ?_
  refine va_get (D := D) (ci := 16) (v := .int 10) (C := RX13) (T := TX13) (N := 126) hx hb hts i_c_X13_feed_X13 hown hK hP 0 rfl rfl 2 (by decide) (hts (.fieldLink RX13 253 "ChanceWorksModel" "size" "I") (List.mem_of_getElem? (i := 1) rfl)) (fun _ h9 => h9) rfl dX13_feed_93 ?_
  refine lv_iload hx hb dX13_feed_96 (lv_at hl 0 rfl) ?_
  refine lv_bipush (v := 24) hx hb dX13_feed_98 (by decide) ?_
  refine lv_bipush (v := 8) hx hb dX13_feed_100 (by decide) ?_
  refine lv_iload hx hb dX13_feed_102 (lv_at hl 1 rfl) ?_
  refine lv_iconst (v := 3) hx hb dX13_feed_104 (by decide) ?_
  refine lv_iand hx hb dX13_feed_105 ?_
  rw [show (10 : Int32) &&& 3 = 2 by decide]
  refine lv_imul hx hb dX13_feed_106 ?_
  rw [show (8 : Int32) * 2 = 16 by decide]
  refine lv_isub hx hb dX13_feed_107 ?_
  rw [show (24 : Int32) - 16 = 8 by decide]
  refine lv_ishr hx hb dX13_feed_108 ?_
  refine lv_topi (fun v31 e_v31 => ?_)
  obtain ⟨v32, e_v32⟩ : ∃ z : Int32, z = v31.toInt8.toInt32 := ⟨_, rfl⟩
  refine lv_i2b (v := v32) hx hb dX13_feed_109 e_v32.symm ?_
  refine va_bast hx hb hK hP hD hS 1 1 rfl rfl (by unfold vp_in; decide) dX13_feed_110 (fun H locs hP hD hS => ?_)
  have hP : va_P D vwCl [(h0, .inr (16, [.int 0, .ref q1, .int 10, .int 0, .int 0, .ref q3, .ref q5, .ref q7, .ref q9, .ref q11, .int 0, .int 0, .int 0, .int 0, .int 0, .int 0, .int 0, .int 0, .int 0, .int 0, .ref q13, .ref q15, .ref q17, .ref q19, .ref q21, .ref q23, .ref q25, .ref q27, .ref q29, .ref q31, .ref q33, .ref q35, .ref q37, .ref q39, .ref q41, .ref q43, .ref q45, .ref q47, .ref q49, .ref q51, .int 0, .int 0, .int 0, .ref q53, .ref q55, .ref q57, .int 0, .int 0, .int 0, .int 0, .ref q59, .ref q61, .ref q63, .int 0, .ref q65, .int 0, .ref q67, .ref q69, .int 0, .ref q71, .ref q73, .int 0, .int 0, .int 0, .ref q75, .ref q77, .int 0, .int 0, .ref q79, .int 0, .int 0, .int 0, .int 0, .ref q81, .ref q83, .ref q85, .ref q87, .ref q89, .ref q91, .ref q93, .ref q95, .ref q97, .ref q99, .ref q101, .ref q103, .int 0, .ref q105, .ref q107, .int 0, .int 0, .ref q109, .ref q111, .int 0, .ref q113, .int 0, .ref q115, .ref q117, .ref q119, .ref q121, .ref q123, .int 0, .ref q125, .ref q127, .int 0, .int 0, .ref q129, .int (-1), .int 0, .int 0, .int 0, .long 0, .ref q131, .long 0, .int 0, .int 0, .ref q133, .ref q135, .ref q137, .ref q139, .ref q141, .ref q143, .ref q145, .ref q147, .ref q149, .int 0, .int 0])), (q1, .inl (cy 1, 65536, .inl (upd f30 10 (vp_nar .byte v32))))] H := hP
  have hD : va_D A [(h0, .inr (16, [.int 0, .ref q1, .int 10, .int 0, .int 0, .ref q3, .ref q5, .ref q7, .ref q9, .ref q11, .int 0, .int 0, .int 0, .int 0, .int 0, .int 0, .int 0, .int 0, .int 0, .int 0, .ref q13, .ref q15, .ref q17, .ref q19, .ref q21, .ref q23, .ref q25, .ref q27, .ref q29, .ref q31, .ref q33, .ref q35, .ref q37, .ref q39, .ref q41, .ref q43, .ref q45, .ref q47, .ref q49, .ref q51, .int 0, .int 0, .int 0, .ref q53, .ref q55, .ref q57, .int 0, .int 0, .int 0, .int 0, .ref q59, .ref q61, .ref q63, .int 0, .ref q65, .int 0, .ref q67, .ref q69, .int 0, .ref q71, .ref q73, .int 0, .int 0, .int 0, .ref q75, .ref q77, .int 0, .int 0, .ref q79, .int 0, .int 0, .int 0, .int 0, .ref q81, .ref q83, .ref q85, .ref q87, .ref q89, .ref q91, .ref q93, .ref q95, .ref q97, .ref q99, .ref q101, .ref q103, .int 0, .ref q105, .ref q107, .int 0, .int 0, .ref q109, .ref q111, .int 0, .ref q113, .int 0, .ref q115, .ref q117, .ref q119, .ref q121, .ref q123, .int 0, .ref q125, .ref q127, .int 0, .int 0, .ref q129, .int (-1), .int 0, .int 0, .int 0, .long 0, .ref q131, .long 0, .int 0, .int 0, .ref q133, .ref q135, .ref q137, .ref q139, .ref q141, .ref q143, .ref q145, .ref q147, .ref q149, .int 0, .int 0])), (q1, .inl (cy 1, 65536, .inl (upd f30 10 (vp_nar .byte v32))))] := hD
  generalize (upd f30 10 (vp_nar .byte v32)) = f33 at hP hD
  refine lv_aload_n hx hb dX13_feed_111 rfl (lv_at hl 2 rfl) ?_
  refine lv_dup hx hb dX13_feed_112 rfl ?_
  refine va_get (D := D) (ci := 16) (v := .int 10) (C := RX13) (T := TX13) (N := 126) hx hb hts i_c_X13_feed_X13 hown hK hP 0 rfl rfl 2 (by decide) (hts (.fieldLink RX13 253 "ChanceWorksModel" "size" "I") (List.mem_of_getElem? (i := 1) rfl)) (fun _ h9 => h9) rfl dX13_feed_113 ?_
  refine lv_iconst (v := 1) hx hb dX13_feed_116 (by decide) ?_
  refine lv_iadd hx hb dX13_feed_117 ?_
  rw [show (10 : Int32) + 1 = 11 by decide]
  refine va_put (D := D) (ci := 16) (v := .int 11) (ty := .int) (C := RX13) (T := TX13) (N := 126) hx hb hts i_c_X13_feed_X13 tyX13 tyX13_ok nmX13 hown hK hP hD hS 0 rfl rfl 2 (by decide) (hts (.fieldLink RX13 253 "ChanceWorksModel" "size" "I") (List.mem_of_getElem? (i := 1) rfl)) (fun _ h9 => h9) rfl (by decide +kernel) rfl rfl (Nat.le_of_ble_eq_true rfl) dX13_feed_118 (fun H locs hP hD hS => ?_)
  have hP : va_P D vwCl [(h0, .inr (16, [.int 0, .ref q1, .int 11, .int 0, .int 0, .ref q3, .ref q5, .ref q7, .ref q9, .ref q11, .int 0, .int 0, .int 0, .int 0, .int 0, .int 0, .int 0, .int 0, .int 0, .int 0, .ref q13, .ref q15, .ref q17, .ref q19, .ref q21, .ref q23, .ref q25, .ref q27, .ref q29, .ref q31, .ref q33, .ref q35, .ref q37, .ref q39, .ref q41, .ref q43, .ref q45, .ref q47, .ref q49, .ref q51, .int 0, .int 0, .int 0, .ref q53, .ref q55, .ref q57, .int 0, .int 0, .int 0, .int 0, .ref q59, .ref q61, .ref q63, .int 0, .ref q65, .int 0, .ref q67, .ref q69, .int 0, .ref q71, .ref q73, .int 0, .int 0, .int 0, .ref q75, .ref q77, .int 0, .int 0, .ref q79, .int 0, .int 0, .int 0, .int 0, .ref q81, .ref q83, .ref q85, .ref q87, .ref q89, .ref q91, .ref q93, .ref q95, .ref q97, .ref q99, .ref q101, .ref q103, .int 0, .ref q105, .ref q107, .int 0, .int 0, .ref q109, .ref q111, .int 0, .ref q113, .int 0, .ref q115, .ref q117, .ref q119, .ref q121, .ref q123, .int 0, .ref q125, .ref q127, .int 0, .int 0, .ref q129, .int (-1), .int 0, .int 0, .int 0, .long 0, .ref q131, .long 0, .int 0, .int 0, .ref q133, .ref q135, .ref q137, .ref q139, .ref q141, .ref q143, .ref q145, .ref q147, .ref q149, .int 0, .int 0])), (q1, .inl (cy 1, 65536, .inl f33))] H := hP
  have hD : va_D A [(h0, .inr (16, [.int 0, .ref q1, .int 11, .int 0, .int 0, .ref q3, .ref q5, .ref q7, .ref q9, .ref q11, .int 0, .int 0, .int 0, .int 0, .int 0, .int 0, .int 0, .int 0, .int 0, .int 0, .ref q13, .ref q15, .ref q17, .ref q19, .ref q21, .ref q23, .ref q25, .ref q27, .ref q29, .ref q31, .ref q33, .ref q35, .ref q37, .ref q39, .ref q41, .ref q43, .ref q45, .ref q47, .ref q49, .ref q51, .int 0, .int 0, .int 0, .ref q53, .ref q55, .ref q57, .int 0, .int 0, .int 0, .int 0, .ref q59, .ref q61, .ref q63, .int 0, .ref q65, .int 0, .ref q67, .ref q69, .int 0, .ref q71, .ref q73, .int 0, .int 0, .int 0, .ref q75, .ref q77, .int 0, .int 0, .ref q79, .int 0, .int 0, .int 0, .int 0, .ref q81, .ref q83, .ref q85, .ref q87, .ref q89, .ref q91, .ref q93, .ref q95, .ref q97, .ref q99, .ref q101, .ref q103, .int 0, .ref q105, .ref q107, .int 0, .int 0, .ref q109, .ref q111, .int 0, .ref q113, .int 0, .ref q115, .ref q117, .ref q119, .ref q121, .ref q123, .int 0, .ref q125, .ref q127, .int 0, .int 0, .ref q129, .int (-1), .int 0, .int 0, .int 0, .long 0, .ref q131, .long 0, .int 0, .int 0, .ref q133, .ref q135, .ref q137, .ref q139, .ref q141, .ref q143, .ref q145, .ref q147, .ref q149, .int 0, .int 0])), (q1, .inl (cy 1, 65536, .inl f33))] := hD
  refine lv_iinc (v := 11) (lv' := [(6, .int 11), (7, .int p3), (0, .ref h0), (1, .int p1), (2, .int p2), (3, .int p3), (4, .int p4), (5, .int p5)]) hx hb dX13_feed_121 hl (k := 1) rfl (by decide) (by decide) rfl (fun ls hl => ?_)
  refine lv_goto (tgt := 33) hx hb dX13_feed_124 (by decide) ?_
  refine lv_iload hx hb dX13_feed_33 (lv_at hl 0 rfl) ?_
  refine lv_bipush (v := 20) hx hb dX13_feed_35 (by decide) ?_
  refine lv_icmp_ge (tgt := 127) hx hb dX13_feed_37 (by decide) (fun c9 => absurd c9 (by decide)) (fun _ => ?_)
  refine lv_iload hx hb dX13_feed_40 (lv_at hl 0 rfl) ?_
  refine lv_iconst (v := 4) hx hb dX13_feed_42 (by decide) ?_
  refine lv_icmp_ge (tgt := 50) hx hb dX13_feed_43 (by decide) (fun _ => ?_) (fun c9 => absurd (by decide) c9)
  refine lv_iload hx hb dX13_feed_50 (lv_at hl 0 rfl) ?_
  refine lv_bipush (v := 8) hx hb dX13_feed_52 (by decide) ?_
  refine lv_icmp_ge (tgt := 61) hx hb dX13_feed_54 (by decide) (fun _ => ?_) (fun c9 => absurd (by decide) c9)
  refine lv_iload hx hb dX13_feed_61 (lv_at hl 0 rfl) ?_
  refine lv_bipush (v := 12) hx hb dX13_feed_63 (by decide) ?_
  refine lv_icmp_ge (tgt := 72) hx hb dX13_feed_65 (by decide) (fun c9 => absurd c9 (by decide)) (fun _ => ?_)
  refine lv_iload_n hx hb dX13_feed_68 rfl (lv_at hl 5 rfl) ?_
  refine lv_goto (tgt := 86) hx hb dX13_feed_69 (by decide) ?_
  refine lv_istore (lv' := [(7, .int p3), (6, .int 11), (0, .ref h0), (1, .int p1), (2, .int p2), (3, .int p3), (4, .int p4), (5, .int p5)]) hx hb dX13_feed_86 hl (by decide) rfl (fun ls hl => ?_)
  refine lv_aload_n hx hb dX13_feed_88 rfl (lv_at hl 2 rfl) ?_
  refine va_get (D := D) (ci := 16) (v := .ref q1) (C := RX13) (T := TX13) (N := 126) hx hb hts i_c_X13_feed_X13 hown hK hP 0 rfl rfl 1 (by decide) (hts (.fieldLink RX13 14 "ChanceWorksModel" "tape" "[B") (List.mem_of_getElem? (i := 4) rfl)) (fun _ h9 => h9) rfl dX13_feed_89 ?_
  refine lv_aload_n hx hb dX13_feed_92 rfl (lv_at hl 2 rfl) ?_
  refine va_get (D := D) (ci := 16) (v := .int 11) (C := RX13) (T := TX13) (N := 126) hx hb hts i_c_X13_feed_X13 hown hK hP 0 rfl rfl 2 (by decide) (hts (.fieldLink RX13 253 "ChanceWorksModel" "size" "I") (List.mem_of_getElem? (i := 1) rfl)) (fun _ h9 => h9) rfl dX13_feed_93 ?_
  refine lv_iload hx hb dX13_feed_96 (lv_at hl 0 rfl) ?_
  refine lv_bipush (v := 24) hx hb dX13_feed_98 (by decide) ?_
  refine lv_bipush (v := 8) hx hb dX13_feed_100 (by decide) ?_
  refine lv_iload hx hb dX13_feed_102 (lv_at hl 1 rfl) ?_
  refine lv_iconst (v := 3) hx hb dX13_feed_104 (by decide) ?_
  refine lv_iand hx hb dX13_feed_105 ?_
  rw [show (11 : Int32) &&& 3 = 3 by decide]
  refine lv_imul hx hb dX13_feed_106 ?_
  rw [show (8 : Int32) * 3 = 24 by decide]
  refine lv_isub hx hb dX13_feed_107 ?_
  rw [show (24 : Int32) - 24 = 0 by decide]
  refine lv_ishr hx hb dX13_feed_108 ?_
  refine lv_topi (fun v34 e_v34 => ?_)
  obtain ⟨v35, e_v35⟩ : ∃ z : Int32, z = v34.toInt8.toInt32 := ⟨_, rfl⟩
  refine lv_i2b (v := v35) hx hb dX13_feed_109 e_v35.symm ?_
  refine va_bast hx hb hK hP hD hS 1 1 rfl rfl (by unfold vp_in; decide) dX13_feed_110 (fun H locs hP hD hS => ?_)
  have hP : va_P D vwCl [(h0, .inr (16, [.int 0, .ref q1, .int 11, .int 0, .int 0, .ref q3, .ref q5, .ref q7, .ref q9, .ref q11, .int 0, .int 0, .int 0, .int 0, .int 0, .int 0, .int 0, .int 0, .int 0, .int 0, .ref q13, .ref q15, .ref q17, .ref q19, .ref q21, .ref q23, .ref q25, .ref q27, .ref q29, .ref q31, .ref q33, .ref q35, .ref q37, .ref q39, .ref q41, .ref q43, .ref q45, .ref q47, .ref q49, .ref q51, .int 0, .int 0, .int 0, .ref q53, .ref q55, .ref q57, .int 0, .int 0, .int 0, .int 0, .ref q59, .ref q61, .ref q63, .int 0, .ref q65, .int 0, .ref q67, .ref q69, .int 0, .ref q71, .ref q73, .int 0, .int 0, .int 0, .ref q75, .ref q77, .int 0, .int 0, .ref q79, .int 0, .int 0, .int 0, .int 0, .ref q81, .ref q83, .ref q85, .ref q87, .ref q89, .ref q91, .ref q93, .ref q95, .ref q97, .ref q99, .ref q101, .ref q103, .int 0, .ref q105, .ref q107, .int 0, .int 0, .ref q109, .ref q111, .int 0, .ref q113, .int 0, .ref q115, .ref q117, .ref q119, .ref q121, .ref q123, .int 0, .ref q125, .ref q127, .int 0, .int 0, .ref q129, .int (-1), .int 0, .int 0, .int 0, .long 0, .ref q131, .long 0, .int 0, .int 0, .ref q133, .ref q135, .ref q137, .ref q139, .ref q141, .ref q143, .ref q145, .ref q147, .ref q149, .int 0, .int 0])), (q1, .inl (cy 1, 65536, .inl (upd f33 11 (vp_nar .byte v35))))] H := hP
  have hD : va_D A [(h0, .inr (16, [.int 0, .ref q1, .int 11, .int 0, .int 0, .ref q3, .ref q5, .ref q7, .ref q9, .ref q11, .int 0, .int 0, .int 0, .int 0, .int 0, .int 0, .int 0, .int 0, .int 0, .int 0, .ref q13, .ref q15, .ref q17, .ref q19, .ref q21, .ref q23, .ref q25, .ref q27, .ref q29, .ref q31, .ref q33, .ref q35, .ref q37, .ref q39, .ref q41, .ref q43, .ref q45, .ref q47, .ref q49, .ref q51, .int 0, .int 0, .int 0, .ref q53, .ref q55, .ref q57, .int 0, .int 0, .int 0, .int 0, .ref q59, .ref q61, .ref q63, .int 0, .ref q65, .int 0, .ref q67, .ref q69, .int 0, .ref q71, .ref q73, .int 0, .int 0, .int 0, .ref q75, .ref q77, .int 0, .int 0, .ref q79, .int 0, .int 0, .int 0, .int 0, .ref q81, .ref q83, .ref q85, .ref q87, .ref q89, .ref q91, .ref q93, .ref q95, .ref q97, .ref q99, .ref q101, .ref q103, .int 0, .ref q105, .ref q107, .int 0, .int 0, .ref q109, .ref q111, .int 0, .ref q113, .int 0, .ref q115, .ref q117, .ref q119, .ref q121, .ref q123, .int 0, .ref q125, .ref q127, .int 0, .int 0, .ref q129, .int (-1), .int 0, .int 0, .int 0, .long 0, .ref q131, .long 0, .int 0, .int 0, .ref q133, .ref q135, .ref q137, .ref q139, .ref q141, .ref q143, .ref q145, .ref q147, .ref q149, .int 0, .int 0])), (q1, .inl (cy 1, 65536, .inl (upd f33 11 (vp_nar .byte v35))))] := hD
  generalize (upd f33 11 (vp_nar .byte v35)) = f36 at hP hD
  refine lv_aload_n hx hb dX13_feed_111 rfl (lv_at hl 2 rfl) ?_
  refine lv_dup hx hb dX13_feed_112 rfl ?_
  refine va_get (D := D) (ci := 16) (v := .int 11) (C := RX13) (T := TX13) (N := 126) hx hb hts i_c_X13_feed_X13 hown hK hP 0 rfl rfl 2 (by decide) (hts (.fieldLink RX13 253 "ChanceWorksModel" "size" "I") (List.mem_of_getElem? (i := 1) rfl)) (fun _ h9 => h9) rfl dX13_feed_113 ?_
  refine lv_iconst (v := 1) hx hb dX13_feed_116 (by decide) ?_
  refine lv_iadd hx hb dX13_feed_117 ?_
  rw [show (11 : Int32) + 1 = 12 by decide]
  refine va_put (D := D) (ci := 16) (v := .int 12) (ty := .int) (C := RX13) (T := TX13) (N := 126) hx hb hts i_c_X13_feed_X13 tyX13 tyX13_ok nmX13 hown hK hP hD hS 0 rfl rfl 2 (by decide) (hts (.fieldLink RX13 253 "ChanceWorksModel" "size" "I") (List.mem_of_getElem? (i := 1) rfl)) (fun _ h9 => h9) rfl (by decide +kernel) rfl rfl (Nat.le_of_ble_eq_true rfl) dX13_feed_118 (fun H locs hP hD hS => ?_)
  have hP : va_P D vwCl [(h0, .inr (16, [.int 0, .ref q1, .int 12, .int 0, .int 0, .ref q3, .ref q5, .ref q7, .ref q9, .ref q11, .int 0, .int 0, .int 0, .int 0, .int 0, .int 0, .int 0, .int 0, .int 0, .int 0, .ref q13, .ref q15, .ref q17, .ref q19, .ref q21, .ref q23, .ref q25, .ref q27, .ref q29, .ref q31, .ref q33, .ref q35, .ref q37, .ref q39, .ref q41, .ref q43, .ref q45, .ref q47, .ref q49, .ref q51, .int 0, .int 0, .int 0, .ref q53, .ref q55, .ref q57, .int 0, .int 0, .int 0, .int 0, .ref q59, .ref q61, .ref q63, .int 0, .ref q65, .int 0, .ref q67, .ref q69, .int 0, .ref q71, .ref q73, .int 0, .int 0, .int 0, .ref q75, .ref q77, .int 0, .int 0, .ref q79, .int 0, .int 0, .int 0, .int 0, .ref q81, .ref q83, .ref q85, .ref q87, .ref q89, .ref q91, .ref q93, .ref q95, .ref q97, .ref q99, .ref q101, .ref q103, .int 0, .ref q105, .ref q107, .int 0, .int 0, .ref q109, .ref q111, .int 0, .ref q113, .int 0, .ref q115, .ref q117, .ref q119, .ref q121, .ref q123, .int 0, .ref q125, .ref q127, .int 0, .int 0, .ref q129, .int (-1), .int 0, .int 0, .int 0, .long 0, .ref q131, .long 0, .int 0, .int 0, .ref q133, .ref q135, .ref q137, .ref q139, .ref q141, .ref q143, .ref q145, .ref q147, .ref q149, .int 0, .int 0])), (q1, .inl (cy 1, 65536, .inl f36))] H := hP
  have hD : va_D A [(h0, .inr (16, [.int 0, .ref q1, .int 12, .int 0, .int 0, .ref q3, .ref q5, .ref q7, .ref q9, .ref q11, .int 0, .int 0, .int 0, .int 0, .int 0, .int 0, .int 0, .int 0, .int 0, .int 0, .ref q13, .ref q15, .ref q17, .ref q19, .ref q21, .ref q23, .ref q25, .ref q27, .ref q29, .ref q31, .ref q33, .ref q35, .ref q37, .ref q39, .ref q41, .ref q43, .ref q45, .ref q47, .ref q49, .ref q51, .int 0, .int 0, .int 0, .ref q53, .ref q55, .ref q57, .int 0, .int 0, .int 0, .int 0, .ref q59, .ref q61, .ref q63, .int 0, .ref q65, .int 0, .ref q67, .ref q69, .int 0, .ref q71, .ref q73, .int 0, .int 0, .int 0, .ref q75, .ref q77, .int 0, .int 0, .ref q79, .int 0, .int 0, .int 0, .int 0, .ref q81, .ref q83, .ref q85, .ref q87, .ref q89, .ref q91, .ref q93, .ref q95, .ref q97, .ref q99, .ref q101, .ref q103, .int 0, .ref q105, .ref q107, .int 0, .int 0, .ref q109, .ref q111, .int 0, .ref q113, .int 0, .ref q115, .ref q117, .ref q119, .ref q121, .ref q123, .int 0, .ref q125, .ref q127, .int 0, .int 0, .ref q129, .int (-1), .int 0, .int 0, .int 0, .long 0, .ref q131, .long 0, .int 0, .int 0, .ref q133, .ref q135, .ref q137, .ref q139, .ref q141, .ref q143, .ref q145, .ref q147, .ref q149, .int 0, .int 0])), (q1, .inl (cy 1, 65536, .inl f36))] := hD
  refine lv_iinc (v := 12) (lv' := [(6, .int 12), (7, .int p3), (0, .ref h0), (1, .int p1), (2, .int p2), (3, .int p3), (4, .int p4), (5, .int p5)]) hx hb dX13_feed_121 hl (k := 1) rfl (by decide) (by decide) rfl (fun ls hl => ?_)
  refine lv_goto (tgt := 33) hx hb dX13_feed_124 (by decide) ?_
  refine lv_iload hx hb dX13_feed_33 (lv_at hl 0 rfl) ?_
  refine lv_bipush (v := 20) hx hb dX13_feed_35 (by decide) ?_
  refine lv_icmp_ge (tgt := 127) hx hb dX13_feed_37 (by decide) (fun c9 => absurd c9 (by decide)) (fun _ => ?_)
  refine lv_iload hx hb dX13_feed_40 (lv_at hl 0 rfl) ?_
  refine lv_iconst (v := 4) hx hb dX13_feed_42 (by decide) ?_
  refine lv_icmp_ge (tgt := 50) hx hb dX13_feed_43 (by decide) (fun _ => ?_) (fun c9 => absurd (by decide) c9)
  refine lv_iload hx hb dX13_feed_50 (lv_at hl 0 rfl) ?_
  refine lv_bipush (v := 8) hx hb dX13_feed_52 (by decide) ?_
  refine lv_icmp_ge (tgt := 61) hx hb dX13_feed_54 (by decide) (fun _ => ?_) (fun c9 => absurd (by decide) c9)
  refine lv_iload hx hb dX13_feed_61 (lv_at hl 0 rfl) ?_
  refine lv_bipush (v := 12) hx hb dX13_feed_63 (by decide) ?_
  refine lv_icmp_ge (tgt := 72) hx hb dX13_feed_65 (by decide) (fun _ => ?_) (fun c9 => absurd (by decide) c9)
  refine lv_iload hx hb dX13_feed_72 (lv_at hl 0 rfl) ?_
  refine lv_bipush (v := 16) hx hb dX13_feed_74 (by decide) ?_
  refine lv_icmp_ge (tgt := 84) hx hb dX13_feed_76 (by decide) (fun c9 => absurd c9 (by decide)) (fun _ => ?_)
  refine lv_iload hx hb dX13_feed_79 (lv_at hl 6 rfl) ?_
  refine lv_goto (tgt := 86) hx hb dX13_feed_81 (by decide) ?_
  refine lv_istore (lv' := [(7, .int p4), (6, .int 12), (0, .ref h0), (1, .int p1), (2, .int p2), (3, .int p3), (4, .int p4), (5, .int p5)]) hx hb dX13_feed_86 hl (by decide) rfl (fun ls hl => ?_)
  refine lv_aload_n hx hb dX13_feed_88 rfl (lv_at hl 2 rfl) ?_
  refine va_get (D := D) (ci := 16) (v := .ref q1) (C := RX13) (T := TX13) (N := 126) hx hb hts i_c_X13_feed_X13 hown hK hP 0 rfl rfl 1 (by decide) (hts (.fieldLink RX13 14 "ChanceWorksModel" "tape" "[B") (List.mem_of_getElem? (i := 4) rfl)) (fun _ h9 => h9) rfl dX13_feed_89 ?_
  refine lv_aload_n hx hb dX13_feed_92 rfl (lv_at hl 2 rfl) ?_
  refine va_get (D := D) (ci := 16) (v := .int 12) (C := RX13) (T := TX13) (N := 126) hx hb hts i_c_X13_feed_X13 hown hK hP 0 rfl rfl 2 (by decide) (hts (.fieldLink RX13 253 "ChanceWorksModel" "size" "I") (List.mem_of_getElem? (i := 1) rfl)) (fun _ h9 => h9) rfl dX13_feed_93 ?_
  refine lv_iload hx hb dX13_feed_96 (lv_at hl 0 rfl) ?_
  refine lv_bipush (v := 24) hx hb dX13_feed_98 (by decide) ?_
  refine lv_bipush (v := 8) hx hb dX13_feed_100 (by decide) ?_
  refine lv_iload hx hb dX13_feed_102 (lv_at hl 1 rfl) ?_
  refine lv_iconst (v := 3) hx hb dX13_feed_104 (by decide) ?_
  refine lv_iand hx hb dX13_feed_105 ?_
  rw [show (12 : Int32) &&& 3 = 0 by decide]
  refine lv_imul hx hb dX13_feed_106 ?_
  rw [show (8 : Int32) * 0 = 0 by decide]
  refine lv_isub hx hb dX13_feed_107 ?_
  rw [show (24 : Int32) - 0 = 24 by decide]
  refine lv_ishr hx hb dX13_feed_108 ?_
  refine lv_topi (fun v37 e_v37 => ?_)
  obtain ⟨v38, e_v38⟩ : ∃ z : Int32, z = v37.toInt8.toInt32 := ⟨_, rfl⟩
  refine lv_i2b (v := v38) hx hb dX13_feed_109 e_v38.symm ?_
  refine va_bast hx hb hK hP hD hS 1 1 rfl rfl (by unfold vp_in; decide) dX13_feed_110 (fun H locs hP hD hS => ?_)
  have hP : va_P D vwCl [(h0, .inr (16, [.int 0, .ref q1, .int 12, .int 0, .int 0, .ref q3, .ref q5, .ref q7, .ref q9, .ref q11, .int 0, .int 0, .int 0, .int 0, .int 0, .int 0, .int 0, .int 0, .int 0, .int 0, .ref q13, .ref q15, .ref q17, .ref q19, .ref q21, .ref q23, .ref q25, .ref q27, .ref q29, .ref q31, .ref q33, .ref q35, .ref q37, .ref q39, .ref q41, .ref q43, .ref q45, .ref q47, .ref q49, .ref q51, .int 0, .int 0, .int 0, .ref q53, .ref q55, .ref q57, .int 0, .int 0, .int 0, .int 0, .ref q59, .ref q61, .ref q63, .int 0, .ref q65, .int 0, .ref q67, .ref q69, .int 0, .ref q71, .ref q73, .int 0, .int 0, .int 0, .ref q75, .ref q77, .int 0, .int 0, .ref q79, .int 0, .int 0, .int 0, .int 0, .ref q81, .ref q83, .ref q85, .ref q87, .ref q89, .ref q91, .ref q93, .ref q95, .ref q97, .ref q99, .ref q101, .ref q103, .int 0, .ref q105, .ref q107, .int 0, .int 0, .ref q109, .ref q111, .int 0, .ref q113, .int 0, .ref q115, .ref q117, .ref q119, .ref q121, .ref q123, .int 0, .ref q125, .ref q127, .int 0, .int 0, .ref q129, .int (-1), .int 0, .int 0, .int 0, .long 0, .ref q131, .long 0, .int 0, .int 0, .ref q133, .ref q135, .ref q137, .ref q139, .ref q141, .ref q143, .ref q145, .ref q147, .ref q149, .int 0, .int 0])), (q1, .inl (cy 1, 65536, .inl (upd f36 12 (vp_nar .byte v38))))] H := hP
  have hD : va_D A [(h0, .inr (16, [.int 0, .ref q1, .int 12, .int 0, .int 0, .ref q3, .ref q5, .ref q7, .ref q9, .ref q11, .int 0, .int 0, .int 0, .int 0, .int 0, .int 0, .int 0, .int 0, .int 0, .int 0, .ref q13, .ref q15, .ref q17, .ref q19, .ref q21, .ref q23, .ref q25, .ref q27, .ref q29, .ref q31, .ref q33, .ref q35, .ref q37, .ref q39, .ref q41, .ref q43, .ref q45, .ref q47, .ref q49, .ref q51, .int 0, .int 0, .int 0, .ref q53, .ref q55, .ref q57, .int 0, .int 0, .int 0, .int 0, .ref q59, .ref q61, .ref q63, .int 0, .ref q65, .int 0, .ref q67, .ref q69, .int 0, .ref q71, .ref q73, .int 0, .int 0, .int 0, .ref q75, .ref q77, .int 0, .int 0, .ref q79, .int 0, .int 0, .int 0, .int 0, .ref q81, .ref q83, .ref q85, .ref q87, .ref q89, .ref q91, .ref q93, .ref q95, .ref q97, .ref q99, .ref q101, .ref q103, .int 0, .ref q105, .ref q107, .int 0, .int 0, .ref q109, .ref q111, .int 0, .ref q113, .int 0, .ref q115, .ref q117, .ref q119, .ref q121, .ref q123, .int 0, .ref q125, .ref q127, .int 0, .int 0, .ref q129, .int (-1), .int 0, .int 0, .int 0, .long 0, .ref q131, .long 0, .int 0, .int 0, .ref q133, .ref q135, .ref q137, .ref q139, .ref q141, .ref q143, .ref q145, .ref q147, .ref q149, .int 0, .int 0])), (q1, .inl (cy 1, 65536, .inl (upd f36 12 (vp_nar .byte v38))))] := hD
  generalize (upd f36 12 (vp_nar .byte v38)) = f39 at hP hD
  refine lv_aload_n hx hb dX13_feed_111 rfl (lv_at hl 2 rfl) ?_
  refine lv_dup hx hb dX13_feed_112 rfl ?_
  refine va_get (D := D) (ci := 16) (v := .int 12) (C := RX13) (T := TX13) (N := 126) hx hb hts i_c_X13_feed_X13 hown hK hP 0 rfl rfl 2 (by decide) (hts (.fieldLink RX13 253 "ChanceWorksModel" "size" "I") (List.mem_of_getElem? (i := 1) rfl)) (fun _ h9 => h9) rfl dX13_feed_113 ?_
  refine lv_iconst (v := 1) hx hb dX13_feed_116 (by decide) ?_
  refine lv_iadd hx hb dX13_feed_117 ?_
  rw [show (12 : Int32) + 1 = 13 by decide]
  refine va_put (D := D) (ci := 16) (v := .int 13) (ty := .int) (C := RX13) (T := TX13) (N := 126) hx hb hts i_c_X13_feed_X13 tyX13 tyX13_ok nmX13 hown hK hP hD hS 0 rfl rfl 2 (by decide) (hts (.fieldLink RX13 253 "ChanceWorksModel" "size" "I") (List.mem_of_getElem? (i := 1) rfl)) (fun _ h9 => h9) rfl (by decide +kernel) rfl rfl (Nat.le_of_ble_eq_true rfl) dX13_feed_118 (fun H locs hP hD hS => ?_)
  have hP : va_P D vwCl [(h0, .inr (16, [.int 0, .ref q1, .int 13, .int 0, .int 0, .ref q3, .ref q5, .ref q7, .ref q9, .ref q11, .int 0, .int 0, .int 0, .int 0, .int 0, .int 0, .int 0, .int 0, .int 0, .int 0, .ref q13, .ref q15, .ref q17, .ref q19, .ref q21, .ref q23, .ref q25, .ref q27, .ref q29, .ref q31, .ref q33, .ref q35, .ref q37, .ref q39, .ref q41, .ref q43, .ref q45, .ref q47, .ref q49, .ref q51, .int 0, .int 0, .int 0, .ref q53, .ref q55, .ref q57, .int 0, .int 0, .int 0, .int 0, .ref q59, .ref q61, .ref q63, .int 0, .ref q65, .int 0, .ref q67, .ref q69, .int 0, .ref q71, .ref q73, .int 0, .int 0, .int 0, .ref q75, .ref q77, .int 0, .int 0, .ref q79, .int 0, .int 0, .int 0, .int 0, .ref q81, .ref q83, .ref q85, .ref q87, .ref q89, .ref q91, .ref q93, .ref q95, .ref q97, .ref q99, .ref q101, .ref q103, .int 0, .ref q105, .ref q107, .int 0, .int 0, .ref q109, .ref q111, .int 0, .ref q113, .int 0, .ref q115, .ref q117, .ref q119, .ref q121, .ref q123, .int 0, .ref q125, .ref q127, .int 0, .int 0, .ref q129, .int (-1), .int 0, .int 0, .int 0, .long 0, .ref q131, .long 0, .int 0, .int 0, .ref q133, .ref q135, .ref q137, .ref q139, .ref q141, .ref q143, .ref q145, .ref q147, .ref q149, .int 0, .int 0])), (q1, .inl (cy 1, 65536, .inl f39))] H := hP
  have hD : va_D A [(h0, .inr (16, [.int 0, .ref q1, .int 13, .int 0, .int 0, .ref q3, .ref q5, .ref q7, .ref q9, .ref q11, .int 0, .int 0, .int 0, .int 0, .int 0, .int 0, .int 0, .int 0, .int 0, .int 0, .ref q13, .ref q15, .ref q17, .ref q19, .ref q21, .ref q23, .ref q25, .ref q27, .ref q29, .ref q31, .ref q33, .ref q35, .ref q37, .ref q39, .ref q41, .ref q43, .ref q45, .ref q47, .ref q49, .ref q51, .int 0, .int 0, .int 0, .ref q53, .ref q55, .ref q57, .int 0, .int 0, .int 0, .int 0, .ref q59, .ref q61, .ref q63, .int 0, .ref q65, .int 0, .ref q67, .ref q69, .int 0, .ref q71, .ref q73, .int 0, .int 0, .int 0, .ref q75, .ref q77, .int 0, .int 0, .ref q79, .int 0, .int 0, .int 0, .int 0, .ref q81, .ref q83, .ref q85, .ref q87, .ref q89, .ref q91, .ref q93, .ref q95, .ref q97, .ref q99, .ref q101, .ref q103, .int 0, .ref q105, .ref q107, .int 0, .int 0, .ref q109, .ref q111, .int 0, .ref q113, .int 0, .ref q115, .ref q117, .ref q119, .ref q121, .ref q123, .int 0, .ref q125, .ref q127, .int 0, .int 0, .ref q129, .int (-1), .int 0, .int 0, .int 0, .long 0, .ref q131, .long 0, .int 0, .int 0, .ref q133, .ref q135, .ref q137, .ref q139, .ref q141, .ref q143, .ref q145, .ref q147, .ref q149, .int 0, .int 0])), (q1, .inl (cy 1, 65536, .inl f39))] := hD
  refine lv_iinc (v := 13) (lv' := [(6, .int 13), (7, .int p4), (0, .ref h0), (1, .int p1), (2, .int p2), (3, .int p3), (4, .int p4), (5, .int p5)]) hx hb dX13_feed_121 hl (k := 1) rfl (by decide) (by decide) rfl (fun ls hl => ?_)
  refine lv_goto (tgt := 33) hx hb dX13_feed_124 (by decide) ?_
  refine lv_iload hx hb dX13_feed_33 (lv_at hl 0 rfl) ?_
  refine lv_bipush (v := 20) hx hb dX13_feed_35 (by decide) ?_
  refine lv_icmp_ge (tgt := 127) hx hb dX13_feed_37 (by decide) (fun c9 => absurd c9 (by decide)) (fun _ => ?_)
  refine lv_iload hx hb dX13_feed_40 (lv_at hl 0 rfl) ?_
  refine lv_iconst (v := 4) hx hb dX13_feed_42 (by decide) ?_
  refine lv_icmp_ge (tgt := 50) hx hb dX13_feed_43 (by decide) (fun _ => ?_) (fun c9 => absurd (by decide) c9)
  refine lv_iload hx hb dX13_feed_50 (lv_at hl 0 rfl) ?_
  refine lv_bipush (v := 8) hx hb dX13_feed_52 (by decide) ?_
  refine lv_icmp_ge (tgt := 61) hx hb dX13_feed_54 (by decide) (fun _ => ?_) (fun c9 => absurd (by decide) c9)
  refine lv_iload hx hb dX13_feed_61 (lv_at hl 0 rfl) ?_
  refine lv_bipush (v := 12) hx hb dX13_feed_63 (by decide) ?_
  refine lv_icmp_ge (tgt := 72) hx hb dX13_feed_65 (by decide) (fun _ => ?_) (fun c9 => absurd (by decide) c9)
  refine lv_iload hx hb dX13_feed_72 (lv_at hl 0 rfl) ?_
  refine lv_bipush (v := 16) hx hb dX13_feed_74 (by decide) ?_
  refine lv_icmp_ge (tgt := 84) hx hb dX13_feed_76 (by decide) (fun c9 => absurd c9 (by decide)) (fun _ => ?_)
  refine lv_iload hx hb dX13_feed_79 (lv_at hl 6 rfl) ?_
  refine lv_goto (tgt := 86) hx hb dX13_feed_81 (by decide) ?_
  refine lv_istore (lv' := [(7, .int p4), (6, .int 13), (0, .ref h0), (1, .int p1), (2, .int p2), (3, .int p3), (4, .int p4), (5, .int p5)]) hx hb dX13_feed_86 hl (by decide) rfl (fun ls hl => ?_)
  refine lv_aload_n hx hb dX13_feed_88 rfl (lv_at hl 2 rfl) ?_
  refine va_get (D := D) (ci := 16) (v := .ref q1) (C := RX13) (T := TX13) (N := 126) hx hb hts i_c_X13_feed_X13 hown hK hP 0 rfl rfl 1 (by decide) (hts (.fieldLink RX13 14 "ChanceWorksModel" "tape" "[B") (List.mem_of_getElem? (i := 4) rfl)) (fun _ h9 => h9) rfl dX13_feed_89 ?_
  refine lv_aload_n hx hb dX13_feed_92 rfl (lv_at hl 2 rfl) ?_
  refine va_get (D := D) (ci := 16) (v := .int 13) (C := RX13) (T := TX13) (N := 126) hx hb hts i_c_X13_feed_X13 hown hK hP 0 rfl rfl 2 (by decide) (hts (.fieldLink RX13 253 "ChanceWorksModel" "size" "I") (List.mem_of_getElem? (i := 1) rfl)) (fun _ h9 => h9) rfl dX13_feed_93 ?_
  refine lv_iload hx hb dX13_feed_96 (lv_at hl 0 rfl) ?_
  refine lv_bipush (v := 24) hx hb dX13_feed_98 (by decide) ?_
  refine lv_bipush (v := 8) hx hb dX13_feed_100 (by decide) ?_
  refine lv_iload hx hb dX13_feed_102 (lv_at hl 1 rfl) ?_
  refine lv_iconst (v := 3) hx hb dX13_feed_104 (by decide) ?_
  refine lv_iand hx hb dX13_feed_105 ?_
  rw [show (13 : Int32) &&& 3 = 1 by decide]
  refine lv_imul hx hb dX13_feed_106 ?_
  rw [show (8 : Int32) * 1 = 8 by decide]
  refine lv_isub hx hb dX13_feed_107 ?_
  rw [show (24 : Int32) - 8 = 16 by decide]
  refine lv_ishr hx hb dX13_feed_108 ?_
  refine lv_topi (fun v40 e_v40 => ?_)
  obtain ⟨v41, e_v41⟩ : ∃ z : Int32, z = v40.toInt8.toInt32 := ⟨_, rfl⟩
  refine lv_i2b (v := v41) hx hb dX13_feed_109 e_v41.symm ?_
  refine va_bast hx hb hK hP hD hS 1 1 rfl rfl (by unfold vp_in; decide) dX13_feed_110 (fun H locs hP hD hS => ?_)
  have hP : va_P D vwCl [(h0, .inr (16, [.int 0, .ref q1, .int 13, .int 0, .int 0, .ref q3, .ref q5, .ref q7, .ref q9, .ref q11, .int 0, .int 0, .int 0, .int 0, .int 0, .int 0, .int 0, .int 0, .int 0, .int 0, .ref q13, .ref q15, .ref q17, .ref q19, .ref q21, .ref q23, .ref q25, .ref q27, .ref q29, .ref q31, .ref q33, .ref q35, .ref q37, .ref q39, .ref q41, .ref q43, .ref q45, .ref q47, .ref q49, .ref q51, .int 0, .int 0, .int 0, .ref q53, .ref q55, .ref q57, .int 0, .int 0, .int 0, .int 0, .ref q59, .ref q61, .ref q63, .int 0, .ref q65, .int 0, .ref q67, .ref q69, .int 0, .ref q71, .ref q73, .int 0, .int 0, .int 0, .ref q75, .ref q77, .int 0, .int 0, .ref q79, .int 0, .int 0, .int 0, .int 0, .ref q81, .ref q83, .ref q85, .ref q87, .ref q89, .ref q91, .ref q93, .ref q95, .ref q97, .ref q99, .ref q101, .ref q103, .int 0, .ref q105, .ref q107, .int 0, .int 0, .ref q109, .ref q111, .int 0, .ref q113, .int 0, .ref q115, .ref q117, .ref q119, .ref q121, .ref q123, .int 0, .ref q125, .ref q127, .int 0, .int 0, .ref q129, .int (-1), .int 0, .int 0, .int 0, .long 0, .ref q131, .long 0, .int 0, .int 0, .ref q133, .ref q135, .ref q137, .ref q139, .ref q141, .ref q143, .ref q145, .ref q147, .ref q149, .int 0, .int 0])), (q1, .inl (cy 1, 65536, .inl (upd f39 13 (vp_nar .byte v41))))] H := hP
  have hD : va_D A [(h0, .inr (16, [.int 0, .ref q1, .int 13, .int 0, .int 0, .ref q3, .ref q5, .ref q7, .ref q9, .ref q11, .int 0, .int 0, .int 0, .int 0, .int 0, .int 0, .int 0, .int 0, .int 0, .int 0, .ref q13, .ref q15, .ref q17, .ref q19, .ref q21, .ref q23, .ref q25, .ref q27, .ref q29, .ref q31, .ref q33, .ref q35, .ref q37, .ref q39, .ref q41, .ref q43, .ref q45, .ref q47, .ref q49, .ref q51, .int 0, .int 0, .int 0, .ref q53, .ref q55, .ref q57, .int 0, .int 0, .int 0, .int 0, .ref q59, .ref q61, .ref q63, .int 0, .ref q65, .int 0, .ref q67, .ref q69, .int 0, .ref q71, .ref q73, .int 0, .int 0, .int 0, .ref q75, .ref q77, .int 0, .int 0, .ref q79, .int 0, .int 0, .int 0, .int 0, .ref q81, .ref q83, .ref q85, .ref q87, .ref q89, .ref q91, .ref q93, .ref q95, .ref q97, .ref q99, .ref q101, .ref q103, .int 0, .ref q105, .ref q107, .int 0, .int 0, .ref q109, .ref q111, .int 0, .ref q113, .int 0, .ref q115, .ref q117, .ref q119, .ref q121, .ref q123, .int 0, .ref q125, .ref q127, .int 0, .int 0, .ref q129, .int (-1), .int 0, .int 0, .int 0, .long 0, .ref q131, .long 0, .int 0, .int 0, .ref q133, .ref q135, .ref q137, .ref q139, .ref q141, .ref q143, .ref q145, .ref q147, .ref q149, .int 0, .int 0])), (q1, .inl (cy 1, 65536, .inl (upd f39 13 (vp_nar .byte v41))))] := hD
  generalize (upd f39 13 (vp_nar .byte v41)) = f42 at hP hD
  refine lv_aload_n hx hb dX13_feed_111 rfl (lv_at hl 2 rfl) ?_
  refine lv_dup hx hb dX13_feed_112 rfl ?_
  refine va_get (D := D) (ci := 16) (v := .int 13) (C := RX13) (T := TX13) (N := 126) hx hb hts i_c_X13_feed_X13 hown hK hP 0 rfl rfl 2 (by decide) (hts (.fieldLink RX13 253 "ChanceWorksModel" "size" "I") (List.mem_of_getElem? (i := 1) rfl)) (fun _ h9 => h9) rfl dX13_feed_113 ?_
  refine lv_iconst (v := 1) hx hb dX13_feed_116 (by decide) ?_
  refine lv_iadd hx hb dX13_feed_117 ?_
  rw [show (13 : Int32) + 1 = 14 by decide]
  refine va_put (D := D) (ci := 16) (v := .int 14) (ty := .int) (C := RX13) (T := TX13) (N := 126) hx hb hts i_c_X13_feed_X13 tyX13 tyX13_ok nmX13 hown hK hP hD hS 0 rfl rfl 2 (by decide) (hts (.fieldLink RX13 253 "ChanceWorksModel" "size" "I") (List.mem_of_getElem? (i := 1) rfl)) (fun _ h9 => h9) rfl (by decide +kernel) rfl rfl (Nat.le_of_ble_eq_true rfl) dX13_feed_118 (fun H locs hP hD hS => ?_)
  have hP : va_P D vwCl [(h0, .inr (16, [.int 0, .ref q1, .int 14, .int 0, .int 0, .ref q3, .ref q5, .ref q7, .ref q9, .ref q11, .int 0, .int 0, .int 0, .int 0, .int 0, .int 0, .int 0, .int 0, .int 0, .int 0, .ref q13, .ref q15, .ref q17, .ref q19, .ref q21, .ref q23, .ref q25, .ref q27, .ref q29, .ref q31, .ref q33, .ref q35, .ref q37, .ref q39, .ref q41, .ref q43, .ref q45, .ref q47, .ref q49, .ref q51, .int 0, .int 0, .int 0, .ref q53, .ref q55, .ref q57, .int 0, .int 0, .int 0, .int 0, .ref q59, .ref q61, .ref q63, .int 0, .ref q65, .int 0, .ref q67, .ref q69, .int 0, .ref q71, .ref q73, .int 0, .int 0, .int 0, .ref q75, .ref q77, .int 0, .int 0, .ref q79, .int 0, .int 0, .int 0, .int 0, .ref q81, .ref q83, .ref q85, .ref q87, .ref q89, .ref q91, .ref q93, .ref q95, .ref q97, .ref q99, .ref q101, .ref q103, .int 0, .ref q105, .ref q107, .int 0, .int 0, .ref q109, .ref q111, .int 0, .ref q113, .int 0, .ref q115, .ref q117, .ref q119, .ref q121, .ref q123, .int 0, .ref q125, .ref q127, .int 0, .int 0, .ref q129, .int (-1), .int 0, .int 0, .int 0, .long 0, .ref q131, .long 0, .int 0, .int 0, .ref q133, .ref q135, .ref q137, .ref q139, .ref q141, .ref q143, .ref q145, .ref q147, .ref q149, .int 0, .int 0])), (q1, .inl (cy 1, 65536, .inl f42))] H := hP
  have hD : va_D A [(h0, .inr (16, [.int 0, .ref q1, .int 14, .int 0, .int 0, .ref q3, .ref q5, .ref q7, .ref q9, .ref q11, .int 0, .int 0, .int 0, .int 0, .int 0, .int 0, .int 0, .int 0, .int 0, .int 0, .ref q13, .ref q15, .ref q17, .ref q19, .ref q21, .ref q23, .ref q25, .ref q27, .ref q29, .ref q31, .ref q33, .ref q35, .ref q37, .ref q39, .ref q41, .ref q43, .ref q45, .ref q47, .ref q49, .ref q51, .int 0, .int 0, .int 0, .ref q53, .ref q55, .ref q57, .int 0, .int 0, .int 0, .int 0, .ref q59, .ref q61, .ref q63, .int 0, .ref q65, .int 0, .ref q67, .ref q69, .int 0, .ref q71, .ref q73, .int 0, .int 0, .int 0, .ref q75, .ref q77, .int 0, .int 0, .ref q79, .int 0, .int 0, .int 0, .int 0, .ref q81, .ref q83, .ref q85, .ref q87, .ref q89, .ref q91, .ref q93, .ref q95, .ref q97, .ref q99, .ref q101, .ref q103, .int 0, .ref q105, .ref q107, .int 0, .int 0, .ref q109, .ref q111, .int 0, .ref q113, .int 0, .ref q115, .ref q117, .ref q119, .ref q121, .ref q123, .int 0, .ref q125, .ref q127, .int 0, .int 0, .ref q129, .int (-1), .int 0, .int 0, .int 0, .long 0, .ref q131, .long 0, .int 0, .int 0, .ref q133, .ref q135, .ref q137, .ref q139, .ref q141, .ref q143, .ref q145, .ref q147, .ref q149, .int 0, .int 0])), (q1, .inl (cy 1, 65536, .inl f42))] := hD
  refine lv_iinc (v := 14) (lv' := [(6, .int 14), (7, .int p4), (0, .ref h0), (1, .int p1), (2, .int p2), (3, .int p3), (4, .int p4), (5, .int p5)]) hx hb dX13_feed_121 hl (k := 1) rfl (by decide) (by decide) rfl (fun ls hl => ?_)
  refine lv_goto (tgt := 33) hx hb dX13_feed_124 (by decide) ?_
  refine lv_iload hx hb dX13_feed_33 (lv_at hl 0 rfl) ?_
  refine lv_bipush (v := 20) hx hb dX13_feed_35 (by decide) ?_
  refine lv_icmp_ge (tgt := 127) hx hb dX13_feed_37 (by decide) (fun c9 => absurd c9 (by decide)) (fun _ => ?_)
  refine lv_iload hx hb dX13_feed_40 (lv_at hl 0 rfl) ?_
  refine lv_iconst (v := 4) hx hb dX13_feed_42 (by decide) ?_
  refine lv_icmp_ge (tgt := 50) hx hb dX13_feed_43 (by decide) (fun _ => ?_) (fun c9 => absurd (by decide) c9)
  refine lv_iload hx hb dX13_feed_50 (lv_at hl 0 rfl) ?_
  refine lv_bipush (v := 8) hx hb dX13_feed_52 (by decide) ?_
  refine lv_icmp_ge (tgt := 61) hx hb dX13_feed_54 (by decide) (fun _ => ?_) (fun c9 => absurd (by decide) c9)
  refine lv_iload hx hb dX13_feed_61 (lv_at hl 0 rfl) ?_
  refine lv_bipush (v := 12) hx hb dX13_feed_63 (by decide) ?_
  refine lv_icmp_ge (tgt := 72) hx hb dX13_feed_65 (by decide) (fun _ => ?_) (fun c9 => absurd (by decide) c9)
  refine lv_iload hx hb dX13_feed_72 (lv_at hl 0 rfl) ?_
  refine lv_bipush (v := 16) hx hb dX13_feed_74 (by decide) ?_
  refine lv_icmp_ge (tgt := 84) hx hb dX13_feed_76 (by decide) (fun c9 => absurd c9 (by decide)) (fun _ => ?_)
  refine lv_iload hx hb dX13_feed_79 (lv_at hl 6 rfl) ?_
  refine lv_goto (tgt := 86) hx hb dX13_feed_81 (by decide) ?_
  refine lv_istore (lv' := [(7, .int p4), (6, .int 14), (0, .ref h0), (1, .int p1), (2, .int p2), (3, .int p3), (4, .int p4), (5, .int p5)]) hx hb dX13_feed_86 hl (by decide) rfl (fun ls hl => ?_)
  refine lv_aload_n hx hb dX13_feed_88 rfl (lv_at hl 2 rfl) ?_
  refine va_get (D := D) (ci := 16) (v := .ref q1) (C := RX13) (T := TX13) (N := 126) hx hb hts i_c_X13_feed_X13 hown hK hP 0 rfl rfl 1 (by decide) (hts (.fieldLink RX13 14 "ChanceWorksModel" "tape" "[B") (List.mem_of_getElem? (i := 4) rfl)) (fun _ h9 => h9) rfl dX13_feed_89 ?_
  refine lv_aload_n hx hb dX13_feed_92 rfl (lv_at hl 2 rfl) ?_
  refine va_get (D := D) (ci := 16) (v := .int 14) (C := RX13) (T := TX13) (N := 126) hx hb hts i_c_X13_feed_X13 hown hK hP 0 rfl rfl 2 (by decide) (hts (.fieldLink RX13 253 "ChanceWorksModel" "size" "I") (List.mem_of_getElem? (i := 1) rfl)) (fun _ h9 => h9) rfl dX13_feed_93 ?_
  refine lv_iload hx hb dX13_feed_96 (lv_at hl 0 rfl) ?_
  refine lv_bipush (v := 24) hx hb dX13_feed_98 (by decide) ?_
  refine lv_bipush (v := 8) hx hb dX13_feed_100 (by decide) ?_
  refine lv_iload hx hb dX13_feed_102 (lv_at hl 1 rfl) ?_
  refine lv_iconst (v := 3) hx hb dX13_feed_104 (by decide) ?_
  refine lv_iand hx hb dX13_feed_105 ?_
  rw [show (14 : Int32) &&& 3 = 2 by decide]
  refine lv_imul hx hb dX13_feed_106 ?_
  rw [show (8 : Int32) * 2 = 16 by decide]
  refine lv_isub hx hb dX13_feed_107 ?_
  rw [show (24 : Int32) - 16 = 8 by decide]
  refine lv_ishr hx hb dX13_feed_108 ?_
  refine lv_topi (fun v43 e_v43 => ?_)
  obtain ⟨v44, e_v44⟩ : ∃ z : Int32, z = v43.toInt8.toInt32 := ⟨_, rfl⟩
  refine lv_i2b (v := v44) hx hb dX13_feed_109 e_v44.symm ?_
  refine va_bast hx hb hK hP hD hS 1 1 rfl rfl (by unfold vp_in; decide) dX13_feed_110 (fun H locs hP hD hS => ?_)
  have hP : va_P D vwCl [(h0, .inr (16, [.int 0, .ref q1, .int 14, .int 0, .int 0, .ref q3, .ref q5, .ref q7, .ref q9, .ref q11, .int 0, .int 0, .int 0, .int 0, .int 0, .int 0, .int 0, .int 0, .int 0, .int 0, .ref q13, .ref q15, .ref q17, .ref q19, .ref q21, .ref q23, .ref q25, .ref q27, .ref q29, .ref q31, .ref q33, .ref q35, .ref q37, .ref q39, .ref q41, .ref q43, .ref q45, .ref q47, .ref q49, .ref q51, .int 0, .int 0, .int 0, .ref q53, .ref q55, .ref q57, .int 0, .int 0, .int 0, .int 0, .ref q59, .ref q61, .ref q63, .int 0, .ref q65, .int 0, .ref q67, .ref q69, .int 0, .ref q71, .ref q73, .int 0, .int 0, .int 0, .ref q75, .ref q77, .int 0, .int 0, .ref q79, .int 0, .int 0, .int 0, .int 0, .ref q81, .ref q83, .ref q85, .ref q87, .ref q89, .ref q91, .ref q93, .ref q95, .ref q97, .ref q99, .ref q101, .ref q103, .int 0, .ref q105, .ref q107, .int 0, .int 0, .ref q109, .ref q111, .int 0, .ref q113, .int 0, .ref q115, .ref q117, .ref q119, .ref q121, .ref q123, .int 0, .ref q125, .ref q127, .int 0, .int 0, .ref q129, .int (-1), .int 0, .int 0, .int 0, .long 0, .ref q131, .long 0, .int 0, .int 0, .ref q133, .ref q135, .ref q137, .ref q139, .ref q141, .ref q143, .ref q145, .ref q147, .ref q149, .int 0, .int 0])), (q1, .inl (cy 1, 65536, .inl (upd f42 14 (vp_nar .byte v44))))] H := hP
  have hD : va_D A [(h0, .inr (16, [.int 0, .ref q1, .int 14, .int 0, .int 0, .ref q3, .ref q5, .ref q7, .ref q9, .ref q11, .int 0, .int 0, .int 0, .int 0, .int 0, .int 0, .int 0, .int 0, .int 0, .int 0, .ref q13, .ref q15, .ref q17, .ref q19, .ref q21, .ref q23, .ref q25, .ref q27, .ref q29, .ref q31, .ref q33, .ref q35, .ref q37, .ref q39, .ref q41, .ref q43, .ref q45, .ref q47, .ref q49, .ref q51, .int 0, .int 0, .int 0, .ref q53, .ref q55, .ref q57, .int 0, .int 0, .int 0, .int 0, .ref q59, .ref q61, .ref q63, .int 0, .ref q65, .int 0, .ref q67, .ref q69, .int 0, .ref q71, .ref q73, .int 0, .int 0, .int 0, .ref q75, .ref q77, .int 0, .int 0, .ref q79, .int 0, .int 0, .int 0, .int 0, .ref q81, .ref q83, .ref q85, .ref q87, .ref q89, .ref q91, .ref q93, .ref q95, .ref q97, .ref q99, .ref q101, .ref q103, .int 0, .ref q105, .ref q107, .int 0, .int 0, .ref q109, .ref q111, .int 0, .ref q113, .int 0, .ref q115, .ref q117, .ref q119, .ref q121, .ref q123, .int 0, .ref q125, .ref q127, .int 0, .int 0, .ref q129, .int (-1), .int 0, .int 0, .int 0, .long 0, .ref q131, .long 0, .int 0, .int 0, .ref q133, .ref q135, .ref q137, .ref q139, .ref q141, .ref q143, .ref q145, .ref q147, .ref q149, .int 0, .int 0])), (q1, .inl (cy 1, 65536, .inl (upd f42 14 (vp_nar .byte v44))))] := hD
  generalize (upd f42 14 (vp_nar .byte v44)) = f45 at hP hD
  refine lv_aload_n hx hb dX13_feed_111 rfl (lv_at hl 2 rfl) ?_
  refine lv_dup hx hb dX13_feed_112 rfl ?_
  refine va_get (D := D) (ci := 16) (v := .int 14) (C := RX13) (T := TX13) (N := 126) hx hb hts i_c_X13_feed_X13 hown hK hP 0 rfl rfl 2 (by decide) (hts (.fieldLink RX13 253 "ChanceWorksModel" "size" "I") (List.mem_of_getElem? (i := 1) rfl)) (fun _ h9 => h9) rfl dX13_feed_113 ?_
  refine lv_iconst (v := 1) hx hb dX13_feed_116 (by decide) ?_
  refine lv_iadd hx hb dX13_feed_117 ?_
  rw [show (14 : Int32) + 1 = 15 by decide]
  refine va_put (D := D) (ci := 16) (v := .int 15) (ty := .int) (C := RX13) (T := TX13) (N := 126) hx hb hts i_c_X13_feed_X13 tyX13 tyX13_ok nmX13 hown hK hP hD hS 0 rfl rfl 2 (by decide) (hts (.fieldLink RX13 253 "ChanceWorksModel" "size" "I") (List.mem_of_getElem? (i := 1) rfl)) (fun _ h9 => h9) rfl (by decide +kernel) rfl rfl (Nat.le_of_ble_eq_true rfl) dX13_feed_118 (fun H locs hP hD hS => ?_)
  have hP : va_P D vwCl [(h0, .inr (16, [.int 0, .ref q1, .int 15, .int 0, .int 0, .ref q3, .ref q5, .ref q7, .ref q9, .ref q11, .int 0, .int 0, .int 0, .int 0, .int 0, .int 0, .int 0, .int 0, .int 0, .int 0, .ref q13, .ref q15, .ref q17, .ref q19, .ref q21, .ref q23, .ref q25, .ref q27, .ref q29, .ref q31, .ref q33, .ref q35, .ref q37, .ref q39, .ref q41, .ref q43, .ref q45, .ref q47, .ref q49, .ref q51, .int 0, .int 0, .int 0, .ref q53, .ref q55, .ref q57, .int 0, .int 0, .int 0, .int 0, .ref q59, .ref q61, .ref q63, .int 0, .ref q65, .int 0, .ref q67, .ref q69, .int 0, .ref q71, .ref q73, .int 0, .int 0, .int 0, .ref q75, .ref q77, .int 0, .int 0, .ref q79, .int 0, .int 0, .int 0, .int 0, .ref q81, .ref q83, .ref q85, .ref q87, .ref q89, .ref q91, .ref q93, .ref q95, .ref q97, .ref q99, .ref q101, .ref q103, .int 0, .ref q105, .ref q107, .int 0, .int 0, .ref q109, .ref q111, .int 0, .ref q113, .int 0, .ref q115, .ref q117, .ref q119, .ref q121, .ref q123, .int 0, .ref q125, .ref q127, .int 0, .int 0, .ref q129, .int (-1), .int 0, .int 0, .int 0, .long 0, .ref q131, .long 0, .int 0, .int 0, .ref q133, .ref q135, .ref q137, .ref q139, .ref q141, .ref q143, .ref q145, .ref q147, .ref q149, .int 0, .int 0])), (q1, .inl (cy 1, 65536, .inl f45))] H := hP
  have hD : va_D A [(h0, .inr (16, [.int 0, .ref q1, .int 15, .int 0, .int 0, .ref q3, .ref q5, .ref q7, .ref q9, .ref q11, .int 0, .int 0, .int 0, .int 0, .int 0, .int 0, .int 0, .int 0, .int 0, .int 0, .ref q13, .ref q15, .ref q17, .ref q19, .ref q21, .ref q23, .ref q25, .ref q27, .ref q29, .ref q31, .ref q33, .ref q35, .ref q37, .ref q39, .ref q41, .ref q43, .ref q45, .ref q47, .ref q49, .ref q51, .int 0, .int 0, .int 0, .ref q53, .ref q55, .ref q57, .int 0, .int 0, .int 0, .int 0, .ref q59, .ref q61, .ref q63, .int 0, .ref q65, .int 0, .ref q67, .ref q69, .int 0, .ref q71, .ref q73, .int 0, .int 0, .int 0, .ref q75, .ref q77, .int 0, .int 0, .ref q79, .int 0, .int 0, .int 0, .int 0, .ref q81, .ref q83, .ref q85, .ref q87, .ref q89, .ref q91, .ref q93, .ref q95, .ref q97, .ref q99, .ref q101, .ref q103, .int 0, .ref q105, .ref q107, .int 0, .int 0, .ref q109, .ref q111, .int 0, .ref q113, .int 0, .ref q115, .ref q117, .ref q119, .ref q121, .ref q123, .int 0, .ref q125, .ref q127, .int 0, .int 0, .ref q129, .int (-1), .int 0, .int 0, .int 0, .long 0, .ref q131, .long 0, .int 0, .int 0, .ref q133, .ref q135, .ref q137, .ref q139, .ref q141, .ref q143, .ref q145, .ref q147, .ref q149, .int 0, .int 0])), (q1, .inl (cy 1, 65536, .inl f45))] := hD
  refine lv_iinc (v := 15) (lv' := [(6, .int 15), (7, .int p4), (0, .ref h0), (1, .int p1), (2, .int p2), (3, .int p3), (4, .int p4), (5, .int p5)]) hx hb dX13_feed_121 hl (k := 1) rfl (by decide) (by decide) rfl (fun ls hl => ?_)
  refine lv_goto (tgt := 33) hx hb dX13_feed_124 (by decide) ?_
  refine lv_iload hx hb dX13_feed_33 (lv_at hl 0 rfl) ?_
  refine lv_bipush (v := 20) hx hb dX13_feed_35 (by decide) ?_
  refine lv_icmp_ge (tgt := 127) hx hb dX13_feed_37 (by decide) (fun c9 => absurd c9 (by decide)) (fun _ => ?_)
  refine lv_iload hx hb dX13_feed_40 (lv_at hl 0 rfl) ?_
  refine lv_iconst (v := 4) hx hb dX13_feed_42 (by decide) ?_
  refine lv_icmp_ge (tgt := 50) hx hb dX13_feed_43 (by decide) (fun _ => ?_) (fun c9 => absurd (by decide) c9)
  refine lv_iload hx hb dX13_feed_50 (lv_at hl 0 rfl) ?_
  refine lv_bipush (v := 8) hx hb dX13_feed_52 (by decide) ?_
  refine lv_icmp_ge (tgt := 61) hx hb dX13_feed_54 (by decide) (fun _ => ?_) (fun c9 => absurd (by decide) c9)
  refine lv_iload hx hb dX13_feed_61 (lv_at hl 0 rfl) ?_
  refine lv_bipush (v := 12) hx hb dX13_feed_63 (by decide) ?_
  refine lv_icmp_ge (tgt := 72) hx hb dX13_feed_65 (by decide) (fun _ => ?_) (fun c9 => absurd (by decide) c9)
  refine lv_iload hx hb dX13_feed_72 (lv_at hl 0 rfl) ?_
  refine lv_bipush (v := 16) hx hb dX13_feed_74 (by decide) ?_
  refine lv_icmp_ge (tgt := 84) hx hb dX13_feed_76 (by decide) (fun c9 => absurd c9 (by decide)) (fun _ => ?_)
  refine lv_iload hx hb dX13_feed_79 (lv_at hl 6 rfl) ?_
  refine lv_goto (tgt := 86) hx hb dX13_feed_81 (by decide) ?_
  refine lv_istore (lv' := [(7, .int p4), (6, .int 15), (0, .ref h0), (1, .int p1), (2, .int p2), (3, .int p3), (4, .int p4), (5, .int p5)]) hx hb dX13_feed_86 hl (by decide) rfl (fun ls hl => ?_)
  refine lv_aload_n hx hb dX13_feed_88 rfl (lv_at hl 2 rfl) ?_
  refine va_get (D := D) (ci := 16) (v := .ref q1) (C := RX13) (T := TX13) (N := 126) hx hb hts i_c_X13_feed_X13 hown hK hP 0 rfl rfl 1 (by decide) (hts (.fieldLink RX13 14 "ChanceWorksModel" "tape" "[B") (List.mem_of_getElem? (i := 4) rfl)) (fun _ h9 => h9) rfl dX13_feed_89 ?_
  refine lv_aload_n hx hb dX13_feed_92 rfl (lv_at hl 2 rfl) ?_
  refine va_get (D := D) (ci := 16) (v := .int 15) (C := RX13) (T := TX13) (N := 126) hx hb hts i_c_X13_feed_X13 hown hK hP 0 rfl rfl 2 (by decide) (hts (.fieldLink RX13 253 "ChanceWorksModel" "size" "I") (List.mem_of_getElem? (i := 1) rfl)) (fun _ h9 => h9) rfl dX13_feed_93 ?_
  refine lv_iload hx hb dX13_feed_96 (lv_at hl 0 rfl) ?_
  refine lv_bipush (v := 24) hx hb dX13_feed_98 (by decide) ?_
  refine lv_bipush (v := 8) hx hb dX13_feed_100 (by decide) ?_
  refine lv_iload hx hb dX13_feed_102 (lv_at hl 1 rfl) ?_
  refine lv_iconst (v := 3) hx hb dX13_feed_104 (by decide) ?_
  refine lv_iand hx hb dX13_feed_105 ?_
  rw [show (15 : Int32) &&& 3 = 3 by decide]
  refine lv_imul hx hb dX13_feed_106 ?_
  rw [show (8 : Int32) * 3 = 24 by decide]
  refine lv_isub hx hb dX13_feed_107 ?_
  rw [show (24 : Int32) - 24 = 0 by decide]
  refine lv_ishr hx hb dX13_feed_108 ?_
  refine lv_topi (fun v46 e_v46 => ?_)
  obtain ⟨v47, e_v47⟩ : ∃ z : Int32, z = v46.toInt8.toInt32 := ⟨_, rfl⟩
  refine lv_i2b (v := v47) hx hb dX13_feed_109 e_v47.symm ?_
  refine va_bast hx hb hK hP hD hS 1 1 rfl rfl (by unfold vp_in; decide) dX13_feed_110 (fun H locs hP hD hS => ?_)
  have hP : va_P D vwCl [(h0, .inr (16, [.int 0, .ref q1, .int 15, .int 0, .int 0, .ref q3, .ref q5, .ref q7, .ref q9, .ref q11, .int 0, .int 0, .int 0, .int 0, .int 0, .int 0, .int 0, .int 0, .int 0, .int 0, .ref q13, .ref q15, .ref q17, .ref q19, .ref q21, .ref q23, .ref q25, .ref q27, .ref q29, .ref q31, .ref q33, .ref q35, .ref q37, .ref q39, .ref q41, .ref q43, .ref q45, .ref q47, .ref q49, .ref q51, .int 0, .int 0, .int 0, .ref q53, .ref q55, .ref q57, .int 0, .int 0, .int 0, .int 0, .ref q59, .ref q61, .ref q63, .int 0, .ref q65, .int 0, .ref q67, .ref q69, .int 0, .ref q71, .ref q73, .int 0, .int 0, .int 0, .ref q75, .ref q77, .int 0, .int 0, .ref q79, .int 0, .int 0, .int 0, .int 0, .ref q81, .ref q83, .ref q85, .ref q87, .ref q89, .ref q91, .ref q93, .ref q95, .ref q97, .ref q99, .ref q101, .ref q103, .int 0, .ref q105, .ref q107, .int 0, .int 0, .ref q109, .ref q111, .int 0, .ref q113, .int 0, .ref q115, .ref q117, .ref q119, .ref q121, .ref q123, .int 0, .ref q125, .ref q127, .int 0, .int 0, .ref q129, .int (-1), .int 0, .int 0, .int 0, .long 0, .ref q131, .long 0, .int 0, .int 0, .ref q133, .ref q135, .ref q137, .ref q139, .ref q141, .ref q143, .ref q145, .ref q147, .ref q149, .int 0, .int 0])), (q1, .inl (cy 1, 65536, .inl (upd f45 15 (vp_nar .byte v47))))] H := hP
  have hD : va_D A [(h0, .inr (16, [.int 0, .ref q1, .int 15, .int 0, .int 0, .ref q3, .ref q5, .ref q7, .ref q9, .ref q11, .int 0, .int 0, .int 0, .int 0, .int 0, .int 0, .int 0, .int 0, .int 0, .int 0, .ref q13, .ref q15, .ref q17, .ref q19, .ref q21, .ref q23, .ref q25, .ref q27, .ref q29, .ref q31, .ref q33, .ref q35, .ref q37, .ref q39, .ref q41, .ref q43, .ref q45, .ref q47, .ref q49, .ref q51, .int 0, .int 0, .int 0, .ref q53, .ref q55, .ref q57, .int 0, .int 0, .int 0, .int 0, .ref q59, .ref q61, .ref q63, .int 0, .ref q65, .int 0, .ref q67, .ref q69, .int 0, .ref q71, .ref q73, .int 0, .int 0, .int 0, .ref q75, .ref q77, .int 0, .int 0, .ref q79, .int 0, .int 0, .int 0, .int 0, .ref q81, .ref q83, .ref q85, .ref q87, .ref q89, .ref q91, .ref q93, .ref q95, .ref q97, .ref q99, .ref q101, .ref q103, .int 0, .ref q105, .ref q107, .int 0, .int 0, .ref q109, .ref q111, .int 0, .ref q113, .int 0, .ref q115, .ref q117, .ref q119, .ref q121, .ref q123, .int 0, .ref q125, .ref q127, .int 0, .int 0, .ref q129, .int (-1), .int 0, .int 0, .int 0, .long 0, .ref q131, .long 0, .int 0, .int 0, .ref q133, .ref q135, .ref q137, .ref q139, .ref q141, .ref q143, .ref q145, .ref q147, .ref q149, .int 0, .int 0])), (q1, .inl (cy 1, 65536, .inl (upd f45 15 (vp_nar .byte v47))))] := hD
  generalize (upd f45 15 (vp_nar .byte v47)) = f48 at hP hD
  refine lv_aload_n hx hb dX13_feed_111 rfl (lv_at hl 2 rfl) ?_
  refine lv_dup hx hb dX13_feed_112 rfl ?_
  refine va_get (D := D) (ci := 16) (v := .int 15) (C := RX13) (T := TX13) (N := 126) hx hb hts i_c_X13_feed_X13 hown hK hP 0 rfl rfl 2 (by decide) (hts (.fieldLink RX13 253 "ChanceWorksModel" "size" "I") (List.mem_of_getElem? (i := 1) rfl)) (fun _ h9 => h9) rfl dX13_feed_113 ?_
  refine lv_iconst (v := 1) hx hb dX13_feed_116 (by decide) ?_
  refine lv_iadd hx hb dX13_feed_117 ?_
  rw [show (15 : Int32) + 1 = 16 by decide]
  refine va_put (D := D) (ci := 16) (v := .int 16) (ty := .int) (C := RX13) (T := TX13) (N := 126) hx hb hts i_c_X13_feed_X13 tyX13 tyX13_ok nmX13 hown hK hP hD hS 0 rfl rfl 2 (by decide) (hts (.fieldLink RX13 253 "ChanceWorksModel" "size" "I") (List.mem_of_getElem? (i := 1) rfl)) (fun _ h9 => h9) rfl (by decide +kernel) rfl rfl (Nat.le_of_ble_eq_true rfl) dX13_feed_118 (fun H locs hP hD hS => ?_)
  have hP : va_P D vwCl [(h0, .inr (16, [.int 0, .ref q1, .int 16, .int 0, .int 0, .ref q3, .ref q5, .ref q7, .ref q9, .ref q11, .int 0, .int 0, .int 0, .int 0, .int 0, .int 0, .int 0, .int 0, .int 0, .int 0, .ref q13, .ref q15, .ref q17, .ref q19, .ref q21, .ref q23, .ref q25, .ref q27, .ref q29, .ref q31, .ref q33, .ref q35, .ref q37, .ref q39, .ref q41, .ref q43, .ref q45, .ref q47, .ref q49, .ref q51, .int 0, .int 0, .int 0, .ref q53, .ref q55, .ref q57, .int 0, .int 0, .int 0, .int 0, .ref q59, .ref q61, .ref q63, .int 0, .ref q65, .int 0, .ref q67, .ref q69, .int 0, .ref q71, .ref q73, .int 0, .int 0, .int 0, .ref q75, .ref q77, .int 0, .int 0, .ref q79, .int 0, .int 0, .int 0, .int 0, .ref q81, .ref q83, .ref q85, .ref q87, .ref q89, .ref q91, .ref q93, .ref q95, .ref q97, .ref q99, .ref q101, .ref q103, .int 0, .ref q105, .ref q107, .int 0, .int 0, .ref q109, .ref q111, .int 0, .ref q113, .int 0, .ref q115, .ref q117, .ref q119, .ref q121, .ref q123, .int 0, .ref q125, .ref q127, .int 0, .int 0, .ref q129, .int (-1), .int 0, .int 0, .int 0, .long 0, .ref q131, .long 0, .int 0, .int 0, .ref q133, .ref q135, .ref q137, .ref q139, .ref q141, .ref q143, .ref q145, .ref q147, .ref q149, .int 0, .int 0])), (q1, .inl (cy 1, 65536, .inl f48))] H := hP
  have hD : va_D A [(h0, .inr (16, [.int 0, .ref q1, .int 16, .int 0, .int 0, .ref q3, .ref q5, .ref q7, .ref q9, .ref q11, .int 0, .int 0, .int 0, .int 0, .int 0, .int 0, .int 0, .int 0, .int 0, .int 0, .ref q13, .ref q15, .ref q17, .ref q19, .ref q21, .ref q23, .ref q25, .ref q27, .ref q29, .ref q31, .ref q33, .ref q35, .ref q37, .ref q39, .ref q41, .ref q43, .ref q45, .ref q47, .ref q49, .ref q51, .int 0, .int 0, .int 0, .ref q53, .ref q55, .ref q57, .int 0, .int 0, .int 0, .int 0, .ref q59, .ref q61, .ref q63, .int 0, .ref q65, .int 0, .ref q67, .ref q69, .int 0, .ref q71, .ref q73, .int 0, .int 0, .int 0, .ref q75, .ref q77, .int 0, .int 0, .ref q79, .int 0, .int 0, .int 0, .int 0, .ref q81, .ref q83, .ref q85, .ref q87, .ref q89, .ref q91, .ref q93, .ref q95, .ref q97, .ref q99, .ref q101, .ref q103, .int 0, .ref q105, .ref q107, .int 0, .int 0, .ref q109, .ref q111, .int 0, .ref q113, .int 0, .ref q115, .ref q117, .ref q119, .ref q121, .ref q123, .int 0, .ref q125, .ref q127, .int 0, .int 0, .ref q129, .int (-1), .int 0, .int 0, .int 0, .long 0, .ref q131, .long 0, .int 0, .int 0, .ref q133, .ref q135, .ref q137, .ref q139, .ref q141, .ref q143, .ref q145, .ref q147, .ref q149, .int 0, .int 0])), (q1, .inl (cy 1, 65536, .inl f48))] := hD
  refine lv_iinc (v := 16) (lv' := [(6, .int 16), (7, .int p4), (0, .ref h0), (1, .int p1), (2, .int p2), (3, .int p3), (4, .int p4), (5, .int p5)]) hx hb dX13_feed_121 hl (k := 1) rfl (by decide) (by decide) rfl (fun ls hl => ?_)
  refine lv_goto (tgt := 33) hx hb dX13_feed_124 (by decide) ?_
  refine lv_iload hx hb dX13_feed_33 (lv_at hl 0 rfl) ?_
  refine lv_bipush (v := 20) hx hb dX13_feed_35 (by decide) ?_
  refine lv_icmp_ge (tgt := 127) hx hb dX13_feed_37 (by decide) (fun c9 => absurd c9 (by decide)) (fun _ => ?_)
  refine lv_iload hx hb dX13_feed_40 (lv_at hl 0 rfl) ?_
  refine lv_iconst (v := 4) hx hb dX13_feed_42 (by decide) ?_
  refine lv_icmp_ge (tgt := 50) hx hb dX13_feed_43 (by decide) (fun _ => ?_) (fun c9 => absurd (by decide) c9)
  refine lv_iload hx hb dX13_feed_50 (lv_at hl 0 rfl) ?_
  refine lv_bipush (v := 8) hx hb dX13_feed_52 (by decide) ?_
  refine lv_icmp_ge (tgt := 61) hx hb dX13_feed_54 (by decide) (fun _ => ?_) (fun c9 => absurd (by decide) c9)
  refine lv_iload hx hb dX13_feed_61 (lv_at hl 0 rfl) ?_
  refine lv_bipush (v := 12) hx hb dX13_feed_63 (by decide) ?_
  refine lv_icmp_ge (tgt := 72) hx hb dX13_feed_65 (by decide) (fun _ => ?_) (fun c9 => absurd (by decide) c9)
  refine lv_iload hx hb dX13_feed_72 (lv_at hl 0 rfl) ?_
  refine lv_bipush (v := 16) hx hb dX13_feed_74 (by decide) ?_
  refine lv_icmp_ge (tgt := 84) hx hb dX13_feed_76 (by decide) (fun _ => ?_) (fun c9 => absurd (by decide) c9)
  refine lv_iload hx hb dX13_feed_84 (lv_at hl 7 rfl) ?_
  refine lv_istore (lv' := [(7, .int p5), (6, .int 16), (0, .ref h0), (1, .int p1), (2, .int p2), (3, .int p3), (4, .int p4), (5, .int p5)]) hx hb dX13_feed_86 hl (by decide) rfl (fun ls hl => ?_)
  refine lv_aload_n hx hb dX13_feed_88 rfl (lv_at hl 2 rfl) ?_
  refine va_get (D := D) (ci := 16) (v := .ref q1) (C := RX13) (T := TX13) (N := 126) hx hb hts i_c_X13_feed_X13 hown hK hP 0 rfl rfl 1 (by decide) (hts (.fieldLink RX13 14 "ChanceWorksModel" "tape" "[B") (List.mem_of_getElem? (i := 4) rfl)) (fun _ h9 => h9) rfl dX13_feed_89 ?_
  refine lv_aload_n hx hb dX13_feed_92 rfl (lv_at hl 2 rfl) ?_
  refine va_get (D := D) (ci := 16) (v := .int 16) (C := RX13) (T := TX13) (N := 126) hx hb hts i_c_X13_feed_X13 hown hK hP 0 rfl rfl 2 (by decide) (hts (.fieldLink RX13 253 "ChanceWorksModel" "size" "I") (List.mem_of_getElem? (i := 1) rfl)) (fun _ h9 => h9) rfl dX13_feed_93 ?_
  refine lv_iload hx hb dX13_feed_96 (lv_at hl 0 rfl) ?_
  refine lv_bipush (v := 24) hx hb dX13_feed_98 (by decide) ?_
  refine lv_bipush (v := 8) hx hb dX13_feed_100 (by decide) ?_
  refine lv_iload hx hb dX13_feed_102 (lv_at hl 1 rfl) ?_
  refine lv_iconst (v := 3) hx hb dX13_feed_104 (by decide) ?_
  refine lv_iand hx hb dX13_feed_105 ?_
  rw [show (16 : Int32) &&& 3 = 0 by decide]
  refine lv_imul hx hb dX13_feed_106 ?_
  rw [show (8 : Int32) * 0 = 0 by decide]
  refine lv_isub hx hb dX13_feed_107 ?_
  rw [show (24 : Int32) - 0 = 24 by decide]
  refine lv_ishr hx hb dX13_feed_108 ?_
  refine lv_topi (fun v49 e_v49 => ?_)
  obtain ⟨v50, e_v50⟩ : ∃ z : Int32, z = v49.toInt8.toInt32 := ⟨_, rfl⟩
  refine lv_i2b (v := v50) hx hb dX13_feed_109 e_v50.symm ?_
  refine va_bast hx hb hK hP hD hS 1 1 rfl rfl (by unfold vp_in; decide) dX13_feed_110 (fun H locs hP hD hS => ?_)
  have hP : va_P D vwCl [(h0, .inr (16, [.int 0, .ref q1, .int 16, .int 0, .int 0, .ref q3, .ref q5, .ref q7, .ref q9, .ref q11, .int 0, .int 0, .int 0, .int 0, .int 0, .int 0, .int 0, .int 0, .int 0, .int 0, .ref q13, .ref q15, .ref q17, .ref q19, .ref q21, .ref q23, .ref q25, .ref q27, .ref q29, .ref q31, .ref q33, .ref q35, .ref q37, .ref q39, .ref q41, .ref q43, .ref q45, .ref q47, .ref q49, .ref q51, .int 0, .int 0, .int 0, .ref q53, .ref q55, .ref q57, .int 0, .int 0, .int 0, .int 0, .ref q59, .ref q61, .ref q63, .int 0, .ref q65, .int 0, .ref q67, .ref q69, .int 0, .ref q71, .ref q73, .int 0, .int 0, .int 0, .ref q75, .ref q77, .int 0, .int 0, .ref q79, .int 0, .int 0, .int 0, .int 0, .ref q81, .ref q83, .ref q85, .ref q87, .ref q89, .ref q91, .ref q93, .ref q95, .ref q97, .ref q99, .ref q101, .ref q103, .int 0, .ref q105, .ref q107, .int 0, .int 0, .ref q109, .ref q111, .int 0, .ref q113, .int 0, .ref q115, .ref q117, .ref q119, .ref q121, .ref q123, .int 0, .ref q125, .ref q127, .int 0, .int 0, .ref q129, .int (-1), .int 0, .int 0, .int 0, .long 0, .ref q131, .long 0, .int 0, .int 0, .ref q133, .ref q135, .ref q137, .ref q139, .ref q141, .ref q143, .ref q145, .ref q147, .ref q149, .int 0, .int 0])), (q1, .inl (cy 1, 65536, .inl (upd f48 16 (vp_nar .byte v50))))] H := hP
  have hD : va_D A [(h0, .inr (16, [.int 0, .ref q1, .int 16, .int 0, .int 0, .ref q3, .ref q5, .ref q7, .ref q9, .ref q11, .int 0, .int 0, .int 0, .int 0, .int 0, .int 0, .int 0, .int 0, .int 0, .int 0, .ref q13, .ref q15, .ref q17, .ref q19, .ref q21, .ref q23, .ref q25, .ref q27, .ref q29, .ref q31, .ref q33, .ref q35, .ref q37, .ref q39, .ref q41, .ref q43, .ref q45, .ref q47, .ref q49, .ref q51, .int 0, .int 0, .int 0, .ref q53, .ref q55, .ref q57, .int 0, .int 0, .int 0, .int 0, .ref q59, .ref q61, .ref q63, .int 0, .ref q65, .int 0, .ref q67, .ref q69, .int 0, .ref q71, .ref q73, .int 0, .int 0, .int 0, .ref q75, .ref q77, .int 0, .int 0, .ref q79, .int 0, .int 0, .int 0, .int 0, .ref q81, .ref q83, .ref q85, .ref q87, .ref q89, .ref q91, .ref q93, .ref q95, .ref q97, .ref q99, .ref q101, .ref q103, .int 0, .ref q105, .ref q107, .int 0, .int 0, .ref q109, .ref q111, .int 0, .ref q113, .int 0, .ref q115, .ref q117, .ref q119, .ref q121, .ref q123, .int 0, .ref q125, .ref q127, .int 0, .int 0, .ref q129, .int (-1), .int 0, .int 0, .int 0, .long 0, .ref q131, .long 0, .int 0, .int 0, .ref q133, .ref q135, .ref q137, .ref q139, .ref q141, .ref q143, .ref q145, .ref q147, .ref q149, .int 0, .int 0])), (q1, .inl (cy 1, 65536, .inl (upd f48 16 (vp_nar .byte v50))))] := hD
  generalize (upd f48 16 (vp_nar .byte v50)) = f51 at hP hD
  refine lv_aload_n hx hb dX13_feed_111 rfl (lv_at hl 2 rfl) ?_
  refine lv_dup hx hb dX13_feed_112 rfl ?_
  refine va_get (D := D) (ci := 16) (v := .int 16) (C := RX13) (T := TX13) (N := 126) hx hb hts i_c_X13_feed_X13 hown hK hP 0 rfl rfl 2 (by decide) (hts (.fieldLink RX13 253 "ChanceWorksModel" "size" "I") (List.mem_of_getElem? (i := 1) rfl)) (fun _ h9 => h9) rfl dX13_feed_113 ?_
  refine lv_iconst (v := 1) hx hb dX13_feed_116 (by decide) ?_
  refine lv_iadd hx hb dX13_feed_117 ?_
  rw [show (16 : Int32) + 1 = 17 by decide]
  refine va_put (D := D) (ci := 16) (v := .int 17) (ty := .int) (C := RX13) (T := TX13) (N := 126) hx hb hts i_c_X13_feed_X13 tyX13 tyX13_ok nmX13 hown hK hP hD hS 0 rfl rfl 2 (by decide) (hts (.fieldLink RX13 253 "ChanceWorksModel" "size" "I") (List.mem_of_getElem? (i := 1) rfl)) (fun _ h9 => h9) rfl (by decide +kernel) rfl rfl (Nat.le_of_ble_eq_true rfl) dX13_feed_118 (fun H locs hP hD hS => ?_)
  have hP : va_P D vwCl [(h0, .inr (16, [.int 0, .ref q1, .int 17, .int 0, .int 0, .ref q3, .ref q5, .ref q7, .ref q9, .ref q11, .int 0, .int 0, .int 0, .int 0, .int 0, .int 0, .int 0, .int 0, .int 0, .int 0, .ref q13, .ref q15, .ref q17, .ref q19, .ref q21, .ref q23, .ref q25, .ref q27, .ref q29, .ref q31, .ref q33, .ref q35, .ref q37, .ref q39, .ref q41, .ref q43, .ref q45, .ref q47, .ref q49, .ref q51, .int 0, .int 0, .int 0, .ref q53, .ref q55, .ref q57, .int 0, .int 0, .int 0, .int 0, .ref q59, .ref q61, .ref q63, .int 0, .ref q65, .int 0, .ref q67, .ref q69, .int 0, .ref q71, .ref q73, .int 0, .int 0, .int 0, .ref q75, .ref q77, .int 0, .int 0, .ref q79, .int 0, .int 0, .int 0, .int 0, .ref q81, .ref q83, .ref q85, .ref q87, .ref q89, .ref q91, .ref q93, .ref q95, .ref q97, .ref q99, .ref q101, .ref q103, .int 0, .ref q105, .ref q107, .int 0, .int 0, .ref q109, .ref q111, .int 0, .ref q113, .int 0, .ref q115, .ref q117, .ref q119, .ref q121, .ref q123, .int 0, .ref q125, .ref q127, .int 0, .int 0, .ref q129, .int (-1), .int 0, .int 0, .int 0, .long 0, .ref q131, .long 0, .int 0, .int 0, .ref q133, .ref q135, .ref q137, .ref q139, .ref q141, .ref q143, .ref q145, .ref q147, .ref q149, .int 0, .int 0])), (q1, .inl (cy 1, 65536, .inl f51))] H := hP
  have hD : va_D A [(h0, .inr (16, [.int 0, .ref q1, .int 17, .int 0, .int 0, .ref q3, .ref q5, .ref q7, .ref q9, .ref q11, .int 0, .int 0, .int 0, .int 0, .int 0, .int 0, .int 0, .int 0, .int 0, .int 0, .ref q13, .ref q15, .ref q17, .ref q19, .ref q21, .ref q23, .ref q25, .ref q27, .ref q29, .ref q31, .ref q33, .ref q35, .ref q37, .ref q39, .ref q41, .ref q43, .ref q45, .ref q47, .ref q49, .ref q51, .int 0, .int 0, .int 0, .ref q53, .ref q55, .ref q57, .int 0, .int 0, .int 0, .int 0, .ref q59, .ref q61, .ref q63, .int 0, .ref q65, .int 0, .ref q67, .ref q69, .int 0, .ref q71, .ref q73, .int 0, .int 0, .int 0, .ref q75, .ref q77, .int 0, .int 0, .ref q79, .int 0, .int 0, .int 0, .int 0, .ref q81, .ref q83, .ref q85, .ref q87, .ref q89, .ref q91, .ref q93, .ref q95, .ref q97, .ref q99, .ref q101, .ref q103, .int 0, .ref q105, .ref q107, .int 0, .int 0, .ref q109, .ref q111, .int 0, .ref q113, .int 0, .ref q115, .ref q117, .ref q119, .ref q121, .ref q123, .int 0, .ref q125, .ref q127, .int 0, .int 0, .ref q129, .int (-1), .int 0, .int 0, .int 0, .long 0, .ref q131, .long 0, .int 0, .int 0, .ref q133, .ref q135, .ref q137, .ref q139, .ref q141, .ref q143, .ref q145, .ref q147, .ref q149, .int 0, .int 0])), (q1, .inl (cy 1, 65536, .inl f51))] := hD
  refine lv_iinc (v := 17) (lv' := [(6, .int 17), (7, .int p5), (0, .ref h0), (1, .int p1), (2, .int p2), (3, .int p3), (4, .int p4), (5, .int p5)]) hx hb dX13_feed_121 hl (k := 1) rfl (by decide) (by decide) rfl (fun ls hl => ?_)
  refine lv_goto (tgt := 33) hx hb dX13_feed_124 (by decide) ?_
  refine lv_iload hx hb dX13_feed_33 (lv_at hl 0 rfl) ?_
  refine lv_bipush (v := 20) hx hb dX13_feed_35 (by decide) ?_
  refine lv_icmp_ge (tgt := 127) hx hb dX13_feed_37 (by decide) (fun c9 => absurd c9 (by decide)) (fun _ => ?_)
  refine lv_iload hx hb dX13_feed_40 (lv_at hl 0 rfl) ?_
  refine lv_iconst (v := 4) hx hb dX13_feed_42 (by decide) ?_
  refine lv_icmp_ge (tgt := 50) hx hb dX13_feed_43 (by decide) (fun _ => ?_) (fun c9 => absurd (by decide) c9)
  refine lv_iload hx hb dX13_feed_50 (lv_at hl 0 rfl) ?_
  refine lv_bipush (v := 8) hx hb dX13_feed_52 (by decide) ?_
  refine lv_icmp_ge (tgt := 61) hx hb dX13_feed_54 (by decide) (fun _ => ?_) (fun c9 => absurd (by decide) c9)
  refine lv_iload hx hb dX13_feed_61 (lv_at hl 0 rfl) ?_
  refine lv_bipush (v := 12) hx hb dX13_feed_63 (by decide) ?_
  refine lv_icmp_ge (tgt := 72) hx hb dX13_feed_65 (by decide) (fun _ => ?_) (fun c9 => absurd (by decide) c9)
  refine lv_iload hx hb dX13_feed_72 (lv_at hl 0 rfl) ?_
  refine lv_bipush (v := 16) hx hb dX13_feed_74 (by decide) ?_
  refine lv_icmp_ge (tgt := 84) hx hb dX13_feed_76 (by decide) (fun _ => ?_) (fun c9 => absurd (by decide) c9)
  refine lv_iload hx hb dX13_feed_84 (lv_at hl 7 rfl) ?_
  refine lv_istore (lv' := [(7, .int p5), (6, .int 17), (0, .ref h0), (1, .int p1), (2, .int p2), (3, .int p3), (4, .int p4), (5, .int p5)]) hx hb dX13_feed_86 hl (by decide) rfl (fun ls hl => ?_)
  refine lv_aload_n hx hb dX13_feed_88 rfl (lv_at hl 2 rfl) ?_
  refine va_get (D := D) (ci := 16) (v := .ref q1) (C := RX13) (T := TX13) (N := 126) hx hb hts i_c_X13_feed_X13 hown hK hP 0 rfl rfl 1 (by decide) (hts (.fieldLink RX13 14 "ChanceWorksModel" "tape" "[B") (List.mem_of_getElem? (i := 4) rfl)) (fun _ h9 => h9) rfl dX13_feed_89 ?_
  refine lv_aload_n hx hb dX13_feed_92 rfl (lv_at hl 2 rfl) ?_
  refine va_get (D := D) (ci := 16) (v := .int 17) (C := RX13) (T := TX13) (N := 126) hx hb hts i_c_X13_feed_X13 hown hK hP 0 rfl rfl 2 (by decide) (hts (.fieldLink RX13 253 "ChanceWorksModel" "size" "I") (List.mem_of_getElem? (i := 1) rfl)) (fun _ h9 => h9) rfl dX13_feed_93 ?_
  refine lv_iload hx hb dX13_feed_96 (lv_at hl 0 rfl) ?_
  refine lv_bipush (v := 24) hx hb dX13_feed_98 (by decide) ?_
  refine lv_bipush (v := 8) hx hb dX13_feed_100 (by decide) ?_
  refine lv_iload hx hb dX13_feed_102 (lv_at hl 1 rfl) ?_
  refine lv_iconst (v := 3) hx hb dX13_feed_104 (by decide) ?_
  refine lv_iand hx hb dX13_feed_105 ?_
  rw [show (17 : Int32) &&& 3 = 1 by decide]
  refine lv_imul hx hb dX13_feed_106 ?_
  rw [show (8 : Int32) * 1 = 8 by decide]
  refine lv_isub hx hb dX13_feed_107 ?_
  rw [show (24 : Int32) - 8 = 16 by decide]
  refine lv_ishr hx hb dX13_feed_108 ?_
  refine lv_topi (fun v52 e_v52 => ?_)
  obtain ⟨v53, e_v53⟩ : ∃ z : Int32, z = v52.toInt8.toInt32 := ⟨_, rfl⟩
  refine lv_i2b (v := v53) hx hb dX13_feed_109 e_v53.symm ?_
  refine va_bast hx hb hK hP hD hS 1 1 rfl rfl (by unfold vp_in; decide) dX13_feed_110 (fun H locs hP hD hS => ?_)
  have hP : va_P D vwCl [(h0, .inr (16, [.int 0, .ref q1, .int 17, .int 0, .int 0, .ref q3, .ref q5, .ref q7, .ref q9, .ref q11, .int 0, .int 0, .int 0, .int 0, .int 0, .int 0, .int 0, .int 0, .int 0, .int 0, .ref q13, .ref q15, .ref q17, .ref q19, .ref q21, .ref q23, .ref q25, .ref q27, .ref q29, .ref q31, .ref q33, .ref q35, .ref q37, .ref q39, .ref q41, .ref q43, .ref q45, .ref q47, .ref q49, .ref q51, .int 0, .int 0, .int 0, .ref q53, .ref q55, .ref q57, .int 0, .int 0, .int 0, .int 0, .ref q59, .ref q61, .ref q63, .int 0, .ref q65, .int 0, .ref q67, .ref q69, .int 0, .ref q71, .ref q73, .int 0, .int 0, .int 0, .ref q75, .ref q77, .int 0, .int 0, .ref q79, .int 0, .int 0, .int 0, .int 0, .ref q81, .ref q83, .ref q85, .ref q87, .ref q89, .ref q91, .ref q93, .ref q95, .ref q97, .ref q99, .ref q101, .ref q103, .int 0, .ref q105, .ref q107, .int 0, .int 0, .ref q109, .ref q111, .int 0, .ref q113, .int 0, .ref q115, .ref q117, .ref q119, .ref q121, .ref q123, .int 0, .ref q125, .ref q127, .int 0, .int 0, .ref q129, .int (-1), .int 0, .int 0, .int 0, .long 0, .ref q131, .long 0, .int 0, .int 0, .ref q133, .ref q135, .ref q137, .ref q139, .ref q141, .ref q143, .ref q145, .ref q147, .ref q149, .int 0, .int 0])), (q1, .inl (cy 1, 65536, .inl (upd f51 17 (vp_nar .byte v53))))] H := hP
  have hD : va_D A [(h0, .inr (16, [.int 0, .ref q1, .int 17, .int 0, .int 0, .ref q3, .ref q5, .ref q7, .ref q9, .ref q11, .int 0, .int 0, .int 0, .int 0, .int 0, .int 0, .int 0, .int 0, .int 0, .int 0, .ref q13, .ref q15, .ref q17, .ref q19, .ref q21, .ref q23, .ref q25, .ref q27, .ref q29, .ref q31, .ref q33, .ref q35, .ref q37, .ref q39, .ref q41, .ref q43, .ref q45, .ref q47, .ref q49, .ref q51, .int 0, .int 0, .int 0, .ref q53, .ref q55, .ref q57, .int 0, .int 0, .int 0, .int 0, .ref q59, .ref q61, .ref q63, .int 0, .ref q65, .int 0, .ref q67, .ref q69, .int 0, .ref q71, .ref q73, .int 0, .int 0, .int 0, .ref q75, .ref q77, .int 0, .int 0, .ref q79, .int 0, .int 0, .int 0, .int 0, .ref q81, .ref q83, .ref q85, .ref q87, .ref q89, .ref q91, .ref q93, .ref q95, .ref q97, .ref q99, .ref q101, .ref q103, .int 0, .ref q105, .ref q107, .int 0, .int 0, .ref q109, .ref q111, .int 0, .ref q113, .int 0, .ref q115, .ref q117, .ref q119, .ref q121, .ref q123, .int 0, .ref q125, .ref q127, .int 0, .int 0, .ref q129, .int (-1), .int 0, .int 0, .int 0, .long 0, .ref q131, .long 0, .int 0, .int 0, .ref q133, .ref q135, .ref q137, .ref q139, .ref q141, .ref q143, .ref q145, .ref q147, .ref q149, .int 0, .int 0])), (q1, .inl (cy 1, 65536, .inl (upd f51 17 (vp_nar .byte v53))))] := hD
  generalize (upd f51 17 (vp_nar .byte v53)) = f54 at hP hD
  refine lv_aload_n hx hb dX13_feed_111 rfl (lv_at hl 2 rfl) ?_
  refine lv_dup hx hb dX13_feed_112 rfl ?_
  refine va_get (D := D) (ci := 16) (v := .int 17) (C := RX13) (T := TX13) (N := 126) hx hb hts i_c_X13_feed_X13 hown hK hP 0 rfl rfl 2 (by decide) (hts (.fieldLink RX13 253 "ChanceWorksModel" "size" "I") (List.mem_of_getElem? (i := 1) rfl)) (fun _ h9 => h9) rfl dX13_feed_113 ?_
  refine lv_iconst (v := 1) hx hb dX13_feed_116 (by decide) ?_
  refine lv_iadd hx hb dX13_feed_117 ?_
  rw [show (17 : Int32) + 1 = 18 by decide]
  refine va_put (D := D) (ci := 16) (v := .int 18) (ty := .int) (C := RX13) (T := TX13) (N := 126) hx hb hts i_c_X13_feed_X13 tyX13 tyX13_ok nmX13 hown hK hP hD hS 0 rfl rfl 2 (by decide) (hts (.fieldLink RX13 253 "ChanceWorksModel" "size" "I") (List.mem_of_getElem? (i := 1) rfl)) (fun _ h9 => h9) rfl (by decide +kernel) rfl rfl (Nat.le_of_ble_eq_true rfl) dX13_feed_118 (fun H locs hP hD hS => ?_)
  have hP : va_P D vwCl [(h0, .inr (16, [.int 0, .ref q1, .int 18, .int 0, .int 0, .ref q3, .ref q5, .ref q7, .ref q9, .ref q11, .int 0, .int 0, .int 0, .int 0, .int 0, .int 0, .int 0, .int 0, .int 0, .int 0, .ref q13, .ref q15, .ref q17, .ref q19, .ref q21, .ref q23, .ref q25, .ref q27, .ref q29, .ref q31, .ref q33, .ref q35, .ref q37, .ref q39, .ref q41, .ref q43, .ref q45, .ref q47, .ref q49, .ref q51, .int 0, .int 0, .int 0, .ref q53, .ref q55, .ref q57, .int 0, .int 0, .int 0, .int 0, .ref q59, .ref q61, .ref q63, .int 0, .ref q65, .int 0, .ref q67, .ref q69, .int 0, .ref q71, .ref q73, .int 0, .int 0, .int 0, .ref q75, .ref q77, .int 0, .int 0, .ref q79, .int 0, .int 0, .int 0, .int 0, .ref q81, .ref q83, .ref q85, .ref q87, .ref q89, .ref q91, .ref q93, .ref q95, .ref q97, .ref q99, .ref q101, .ref q103, .int 0, .ref q105, .ref q107, .int 0, .int 0, .ref q109, .ref q111, .int 0, .ref q113, .int 0, .ref q115, .ref q117, .ref q119, .ref q121, .ref q123, .int 0, .ref q125, .ref q127, .int 0, .int 0, .ref q129, .int (-1), .int 0, .int 0, .int 0, .long 0, .ref q131, .long 0, .int 0, .int 0, .ref q133, .ref q135, .ref q137, .ref q139, .ref q141, .ref q143, .ref q145, .ref q147, .ref q149, .int 0, .int 0])), (q1, .inl (cy 1, 65536, .inl f54))] H := hP
  have hD : va_D A [(h0, .inr (16, [.int 0, .ref q1, .int 18, .int 0, .int 0, .ref q3, .ref q5, .ref q7, .ref q9, .ref q11, .int 0, .int 0, .int 0, .int 0, .int 0, .int 0, .int 0, .int 0, .int 0, .int 0, .ref q13, .ref q15, .ref q17, .ref q19, .ref q21, .ref q23, .ref q25, .ref q27, .ref q29, .ref q31, .ref q33, .ref q35, .ref q37, .ref q39, .ref q41, .ref q43, .ref q45, .ref q47, .ref q49, .ref q51, .int 0, .int 0, .int 0, .ref q53, .ref q55, .ref q57, .int 0, .int 0, .int 0, .int 0, .ref q59, .ref q61, .ref q63, .int 0, .ref q65, .int 0, .ref q67, .ref q69, .int 0, .ref q71, .ref q73, .int 0, .int 0, .int 0, .ref q75, .ref q77, .int 0, .int 0, .ref q79, .int 0, .int 0, .int 0, .int 0, .ref q81, .ref q83, .ref q85, .ref q87, .ref q89, .ref q91, .ref q93, .ref q95, .ref q97, .ref q99, .ref q101, .ref q103, .int 0, .ref q105, .ref q107, .int 0, .int 0, .ref q109, .ref q111, .int 0, .ref q113, .int 0, .ref q115, .ref q117, .ref q119, .ref q121, .ref q123, .int 0, .ref q125, .ref q127, .int 0, .int 0, .ref q129, .int (-1), .int 0, .int 0, .int 0, .long 0, .ref q131, .long 0, .int 0, .int 0, .ref q133, .ref q135, .ref q137, .ref q139, .ref q141, .ref q143, .ref q145, .ref q147, .ref q149, .int 0, .int 0])), (q1, .inl (cy 1, 65536, .inl f54))] := hD
  refine lv_iinc (v := 18) (lv' := [(6, .int 18), (7, .int p5), (0, .ref h0), (1, .int p1), (2, .int p2), (3, .int p3), (4, .int p4), (5, .int p5)]) hx hb dX13_feed_121 hl (k := 1) rfl (by decide) (by decide) rfl (fun ls hl => ?_)
  refine lv_goto (tgt := 33) hx hb dX13_feed_124 (by decide) ?_
  refine lv_iload hx hb dX13_feed_33 (lv_at hl 0 rfl) ?_
  refine lv_bipush (v := 20) hx hb dX13_feed_35 (by decide) ?_
  refine lv_icmp_ge (tgt := 127) hx hb dX13_feed_37 (by decide) (fun c9 => absurd c9 (by decide)) (fun _ => ?_)
  refine lv_iload hx hb dX13_feed_40 (lv_at hl 0 rfl) ?_
  refine lv_iconst (v := 4) hx hb dX13_feed_42 (by decide) ?_
  refine lv_icmp_ge (tgt := 50) hx hb dX13_feed_43 (by decide) (fun _ => ?_) (fun c9 => absurd (by decide) c9)
  refine lv_iload hx hb dX13_feed_50 (lv_at hl 0 rfl) ?_
  refine lv_bipush (v := 8) hx hb dX13_feed_52 (by decide) ?_
  refine lv_icmp_ge (tgt := 61) hx hb dX13_feed_54 (by decide) (fun _ => ?_) (fun c9 => absurd (by decide) c9)
  refine lv_iload hx hb dX13_feed_61 (lv_at hl 0 rfl) ?_
  refine lv_bipush (v := 12) hx hb dX13_feed_63 (by decide) ?_
  refine lv_icmp_ge (tgt := 72) hx hb dX13_feed_65 (by decide) (fun _ => ?_) (fun c9 => absurd (by decide) c9)
  refine lv_iload hx hb dX13_feed_72 (lv_at hl 0 rfl) ?_
  refine lv_bipush (v := 16) hx hb dX13_feed_74 (by decide) ?_
  refine lv_icmp_ge (tgt := 84) hx hb dX13_feed_76 (by decide) (fun _ => ?_) (fun c9 => absurd (by decide) c9)
  refine lv_iload hx hb dX13_feed_84 (lv_at hl 7 rfl) ?_
  refine lv_istore (lv' := [(7, .int p5), (6, .int 18), (0, .ref h0), (1, .int p1), (2, .int p2), (3, .int p3), (4, .int p4), (5, .int p5)]) hx hb dX13_feed_86 hl (by decide) rfl (fun ls hl => ?_)
  refine lv_aload_n hx hb dX13_feed_88 rfl (lv_at hl 2 rfl) ?_
  refine va_get (D := D) (ci := 16) (v := .ref q1) (C := RX13) (T := TX13) (N := 126) hx hb hts i_c_X13_feed_X13 hown hK hP 0 rfl rfl 1 (by decide) (hts (.fieldLink RX13 14 "ChanceWorksModel" "tape" "[B") (List.mem_of_getElem? (i := 4) rfl)) (fun _ h9 => h9) rfl dX13_feed_89 ?_
  refine lv_aload_n hx hb dX13_feed_92 rfl (lv_at hl 2 rfl) ?_
  refine va_get (D := D) (ci := 16) (v := .int 18) (C := RX13) (T := TX13) (N := 126) hx hb hts i_c_X13_feed_X13 hown hK hP 0 rfl rfl 2 (by decide) (hts (.fieldLink RX13 253 "ChanceWorksModel" "size" "I") (List.mem_of_getElem? (i := 1) rfl)) (fun _ h9 => h9) rfl dX13_feed_93 ?_
  refine lv_iload hx hb dX13_feed_96 (lv_at hl 0 rfl) ?_
  refine lv_bipush (v := 24) hx hb dX13_feed_98 (by decide) ?_
  refine lv_bipush (v := 8) hx hb dX13_feed_100 (by decide) ?_
  refine lv_iload hx hb dX13_feed_102 (lv_at hl 1 rfl) ?_
  refine lv_iconst (v := 3) hx hb dX13_feed_104 (by decide) ?_
  refine lv_iand hx hb dX13_feed_105 ?_
  rw [show (18 : Int32) &&& 3 = 2 by decide]
  refine lv_imul hx hb dX13_feed_106 ?_
  rw [show (8 : Int32) * 2 = 16 by decide]
  refine lv_isub hx hb dX13_feed_107 ?_
  rw [show (24 : Int32) - 16 = 8 by decide]
  refine lv_ishr hx hb dX13_feed_108 ?_
  refine lv_topi (fun v55 e_v55 => ?_)
  obtain ⟨v56, e_v56⟩ : ∃ z : Int32, z = v55.toInt8.toInt32 := ⟨_, rfl⟩
  refine lv_i2b (v := v56) hx hb dX13_feed_109 e_v56.symm ?_
  refine va_bast hx hb hK hP hD hS 1 1 rfl rfl (by unfold vp_in; decide) dX13_feed_110 (fun H locs hP hD hS => ?_)
  have hP : va_P D vwCl [(h0, .inr (16, [.int 0, .ref q1, .int 18, .int 0, .int 0, .ref q3, .ref q5, .ref q7, .ref q9, .ref q11, .int 0, .int 0, .int 0, .int 0, .int 0, .int 0, .int 0, .int 0, .int 0, .int 0, .ref q13, .ref q15, .ref q17, .ref q19, .ref q21, .ref q23, .ref q25, .ref q27, .ref q29, .ref q31, .ref q33, .ref q35, .ref q37, .ref q39, .ref q41, .ref q43, .ref q45, .ref q47, .ref q49, .ref q51, .int 0, .int 0, .int 0, .ref q53, .ref q55, .ref q57, .int 0, .int 0, .int 0, .int 0, .ref q59, .ref q61, .ref q63, .int 0, .ref q65, .int 0, .ref q67, .ref q69, .int 0, .ref q71, .ref q73, .int 0, .int 0, .int 0, .ref q75, .ref q77, .int 0, .int 0, .ref q79, .int 0, .int 0, .int 0, .int 0, .ref q81, .ref q83, .ref q85, .ref q87, .ref q89, .ref q91, .ref q93, .ref q95, .ref q97, .ref q99, .ref q101, .ref q103, .int 0, .ref q105, .ref q107, .int 0, .int 0, .ref q109, .ref q111, .int 0, .ref q113, .int 0, .ref q115, .ref q117, .ref q119, .ref q121, .ref q123, .int 0, .ref q125, .ref q127, .int 0, .int 0, .ref q129, .int (-1), .int 0, .int 0, .int 0, .long 0, .ref q131, .long 0, .int 0, .int 0, .ref q133, .ref q135, .ref q137, .ref q139, .ref q141, .ref q143, .ref q145, .ref q147, .ref q149, .int 0, .int 0])), (q1, .inl (cy 1, 65536, .inl (upd f54 18 (vp_nar .byte v56))))] H := hP
  have hD : va_D A [(h0, .inr (16, [.int 0, .ref q1, .int 18, .int 0, .int 0, .ref q3, .ref q5, .ref q7, .ref q9, .ref q11, .int 0, .int 0, .int 0, .int 0, .int 0, .int 0, .int 0, .int 0, .int 0, .int 0, .ref q13, .ref q15, .ref q17, .ref q19, .ref q21, .ref q23, .ref q25, .ref q27, .ref q29, .ref q31, .ref q33, .ref q35, .ref q37, .ref q39, .ref q41, .ref q43, .ref q45, .ref q47, .ref q49, .ref q51, .int 0, .int 0, .int 0, .ref q53, .ref q55, .ref q57, .int 0, .int 0, .int 0, .int 0, .ref q59, .ref q61, .ref q63, .int 0, .ref q65, .int 0, .ref q67, .ref q69, .int 0, .ref q71, .ref q73, .int 0, .int 0, .int 0, .ref q75, .ref q77, .int 0, .int 0, .ref q79, .int 0, .int 0, .int 0, .int 0, .ref q81, .ref q83, .ref q85, .ref q87, .ref q89, .ref q91, .ref q93, .ref q95, .ref q97, .ref q99, .ref q101, .ref q103, .int 0, .ref q105, .ref q107, .int 0, .int 0, .ref q109, .ref q111, .int 0, .ref q113, .int 0, .ref q115, .ref q117, .ref q119, .ref q121, .ref q123, .int 0, .ref q125, .ref q127, .int 0, .int 0, .ref q129, .int (-1), .int 0, .int 0, .int 0, .long 0, .ref q131, .long 0, .int 0, .int 0, .ref q133, .ref q135, .ref q137, .ref q139, .ref q141, .ref q143, .ref q145, .ref q147, .ref q149, .int 0, .int 0])), (q1, .inl (cy 1, 65536, .inl (upd f54 18 (vp_nar .byte v56))))] := hD
  generalize (upd f54 18 (vp_nar .byte v56)) = f57 at hP hD
  refine lv_aload_n hx hb dX13_feed_111 rfl (lv_at hl 2 rfl) ?_
  refine lv_dup hx hb dX13_feed_112 rfl ?_
  refine va_get (D := D) (ci := 16) (v := .int 18) (C := RX13) (T := TX13) (N := 126) hx hb hts i_c_X13_feed_X13 hown hK hP 0 rfl rfl 2 (by decide) (hts (.fieldLink RX13 253 "ChanceWorksModel" "size" "I") (List.mem_of_getElem? (i := 1) rfl)) (fun _ h9 => h9) rfl dX13_feed_113 ?_
  refine lv_iconst (v := 1) hx hb dX13_feed_116 (by decide) ?_
  refine lv_iadd hx hb dX13_feed_117 ?_
  rw [show (18 : Int32) + 1 = 19 by decide]
  refine va_put (D := D) (ci := 16) (v := .int 19) (ty := .int) (C := RX13) (T := TX13) (N := 126) hx hb hts i_c_X13_feed_X13 tyX13 tyX13_ok nmX13 hown hK hP hD hS 0 rfl rfl 2 (by decide) (hts (.fieldLink RX13 253 "ChanceWorksModel" "size" "I") (List.mem_of_getElem? (i := 1) rfl)) (fun _ h9 => h9) rfl (by decide +kernel) rfl rfl (Nat.le_of_ble_eq_true rfl) dX13_feed_118 (fun H locs hP hD hS => ?_)
  have hP : va_P D vwCl [(h0, .inr (16, [.int 0, .ref q1, .int 19, .int 0, .int 0, .ref q3, .ref q5, .ref q7, .ref q9, .ref q11, .int 0, .int 0, .int 0, .int 0, .int 0, .int 0, .int 0, .int 0, .int 0, .int 0, .ref q13, .ref q15, .ref q17, .ref q19, .ref q21, .ref q23, .ref q25, .ref q27, .ref q29, .ref q31, .ref q33, .ref q35, .ref q37, .ref q39, .ref q41, .ref q43, .ref q45, .ref q47, .ref q49, .ref q51, .int 0, .int 0, .int 0, .ref q53, .ref q55, .ref q57, .int 0, .int 0, .int 0, .int 0, .ref q59, .ref q61, .ref q63, .int 0, .ref q65, .int 0, .ref q67, .ref q69, .int 0, .ref q71, .ref q73, .int 0, .int 0, .int 0, .ref q75, .ref q77, .int 0, .int 0, .ref q79, .int 0, .int 0, .int 0, .int 0, .ref q81, .ref q83, .ref q85, .ref q87, .ref q89, .ref q91, .ref q93, .ref q95, .ref q97, .ref q99, .ref q101, .ref q103, .int 0, .ref q105, .ref q107, .int 0, .int 0, .ref q109, .ref q111, .int 0, .ref q113, .int 0, .ref q115, .ref q117, .ref q119, .ref q121, .ref q123, .int 0, .ref q125, .ref q127, .int 0, .int 0, .ref q129, .int (-1), .int 0, .int 0, .int 0, .long 0, .ref q131, .long 0, .int 0, .int 0, .ref q133, .ref q135, .ref q137, .ref q139, .ref q141, .ref q143, .ref q145, .ref q147, .ref q149, .int 0, .int 0])), (q1, .inl (cy 1, 65536, .inl f57))] H := hP
  have hD : va_D A [(h0, .inr (16, [.int 0, .ref q1, .int 19, .int 0, .int 0, .ref q3, .ref q5, .ref q7, .ref q9, .ref q11, .int 0, .int 0, .int 0, .int 0, .int 0, .int 0, .int 0, .int 0, .int 0, .int 0, .ref q13, .ref q15, .ref q17, .ref q19, .ref q21, .ref q23, .ref q25, .ref q27, .ref q29, .ref q31, .ref q33, .ref q35, .ref q37, .ref q39, .ref q41, .ref q43, .ref q45, .ref q47, .ref q49, .ref q51, .int 0, .int 0, .int 0, .ref q53, .ref q55, .ref q57, .int 0, .int 0, .int 0, .int 0, .ref q59, .ref q61, .ref q63, .int 0, .ref q65, .int 0, .ref q67, .ref q69, .int 0, .ref q71, .ref q73, .int 0, .int 0, .int 0, .ref q75, .ref q77, .int 0, .int 0, .ref q79, .int 0, .int 0, .int 0, .int 0, .ref q81, .ref q83, .ref q85, .ref q87, .ref q89, .ref q91, .ref q93, .ref q95, .ref q97, .ref q99, .ref q101, .ref q103, .int 0, .ref q105, .ref q107, .int 0, .int 0, .ref q109, .ref q111, .int 0, .ref q113, .int 0, .ref q115, .ref q117, .ref q119, .ref q121, .ref q123, .int 0, .ref q125, .ref q127, .int 0, .int 0, .ref q129, .int (-1), .int 0, .int 0, .int 0, .long 0, .ref q131, .long 0, .int 0, .int 0, .ref q133, .ref q135, .ref q137, .ref q139, .ref q141, .ref q143, .ref q145, .ref q147, .ref q149, .int 0, .int 0])), (q1, .inl (cy 1, 65536, .inl f57))] := hD
  refine lv_iinc (v := 19) (lv' := [(6, .int 19), (7, .int p5), (0, .ref h0), (1, .int p1), (2, .int p2), (3, .int p3), (4, .int p4), (5, .int p5)]) hx hb dX13_feed_121 hl (k := 1) rfl (by decide) (by decide) rfl (fun ls hl => ?_)
  refine lv_goto (tgt := 33) hx hb dX13_feed_124 (by decide) ?_
  refine lv_iload hx hb dX13_feed_33 (lv_at hl 0 rfl) ?_
  refine lv_bipush (v := 20) hx hb dX13_feed_35 (by decide) ?_
  refine lv_icmp_ge (tgt := 127) hx hb dX13_feed_37 (by decide) (fun c9 => absurd c9 (by decide)) (fun _ => ?_)
  refine lv_iload hx hb dX13_feed_40 (lv_at hl 0 rfl) ?_
  refine lv_iconst (v := 4) hx hb dX13_feed_42 (by decide) ?_
  refine lv_icmp_ge (tgt := 50) hx hb dX13_feed_43 (by decide) (fun _ => ?_) (fun c9 => absurd (by decide) c9)
  refine lv_iload hx hb dX13_feed_50 (lv_at hl 0 rfl) ?_
  refine lv_bipush (v := 8) hx hb dX13_feed_52 (by decide) ?_
  refine lv_icmp_ge (tgt := 61) hx hb dX13_feed_54 (by decide) (fun _ => ?_) (fun c9 => absurd (by decide) c9)
  refine lv_iload hx hb dX13_feed_61 (lv_at hl 0 rfl) ?_
  refine lv_bipush (v := 12) hx hb dX13_feed_63 (by decide) ?_
  refine lv_icmp_ge (tgt := 72) hx hb dX13_feed_65 (by decide) (fun _ => ?_) (fun c9 => absurd (by decide) c9)
  refine lv_iload hx hb dX13_feed_72 (lv_at hl 0 rfl) ?_
  refine lv_bipush (v := 16) hx hb dX13_feed_74 (by decide) ?_
  refine lv_icmp_ge (tgt := 84) hx hb dX13_feed_76 (by decide) (fun _ => ?_) (fun c9 => absurd (by decide) c9)
  refine lv_iload hx hb dX13_feed_84 (lv_at hl 7 rfl) ?_
  refine lv_istore (lv' := [(7, .int p5), (6, .int 19), (0, .ref h0), (1, .int p1), (2, .int p2), (3, .int p3), (4, .int p4), (5, .int p5)]) hx hb dX13_feed_86 hl (by decide) rfl (fun ls hl => ?_)
  refine lv_aload_n hx hb dX13_feed_88 rfl (lv_at hl 2 rfl) ?_
  refine va_get (D := D) (ci := 16) (v := .ref q1) (C := RX13) (T := TX13) (N := 126) hx hb hts i_c_X13_feed_X13 hown hK hP 0 rfl rfl 1 (by decide) (hts (.fieldLink RX13 14 "ChanceWorksModel" "tape" "[B") (List.mem_of_getElem? (i := 4) rfl)) (fun _ h9 => h9) rfl dX13_feed_89 ?_
  refine lv_aload_n hx hb dX13_feed_92 rfl (lv_at hl 2 rfl) ?_
  refine va_get (D := D) (ci := 16) (v := .int 19) (C := RX13) (T := TX13) (N := 126) hx hb hts i_c_X13_feed_X13 hown hK hP 0 rfl rfl 2 (by decide) (hts (.fieldLink RX13 253 "ChanceWorksModel" "size" "I") (List.mem_of_getElem? (i := 1) rfl)) (fun _ h9 => h9) rfl dX13_feed_93 ?_
  refine lv_iload hx hb dX13_feed_96 (lv_at hl 0 rfl) ?_
  refine lv_bipush (v := 24) hx hb dX13_feed_98 (by decide) ?_
  refine lv_bipush (v := 8) hx hb dX13_feed_100 (by decide) ?_
  refine lv_iload hx hb dX13_feed_102 (lv_at hl 1 rfl) ?_
  refine lv_iconst (v := 3) hx hb dX13_feed_104 (by decide) ?_
  refine lv_iand hx hb dX13_feed_105 ?_
  rw [show (19 : Int32) &&& 3 = 3 by decide]
  refine lv_imul hx hb dX13_feed_106 ?_
  rw [show (8 : Int32) * 3 = 24 by decide]
  refine lv_isub hx hb dX13_feed_107 ?_
  rw [show (24 : Int32) - 24 = 0 by decide]
  refine lv_ishr hx hb dX13_feed_108 ?_
  refine lv_topi (fun v58 e_v58 => ?_)
  obtain ⟨v59, e_v59⟩ : ∃ z : Int32, z = v58.toInt8.toInt32 := ⟨_, rfl⟩
  refine lv_i2b (v := v59) hx hb dX13_feed_109 e_v59.symm ?_
  refine va_bast hx hb hK hP hD hS 1 1 rfl rfl (by unfold vp_in; decide) dX13_feed_110 (fun H locs hP hD hS => ?_)
  have hP : va_P D vwCl [(h0, .inr (16, [.int 0, .ref q1, .int 19, .int 0, .int 0, .ref q3, .ref q5, .ref q7, .ref q9, .ref q11, .int 0, .int 0, .int 0, .int 0, .int 0, .int 0, .int 0, .int 0, .int 0, .int 0, .ref q13, .ref q15, .ref q17, .ref q19, .ref q21, .ref q23, .ref q25, .ref q27, .ref q29, .ref q31, .ref q33, .ref q35, .ref q37, .ref q39, .ref q41, .ref q43, .ref q45, .ref q47, .ref q49, .ref q51, .int 0, .int 0, .int 0, .ref q53, .ref q55, .ref q57, .int 0, .int 0, .int 0, .int 0, .ref q59, .ref q61, .ref q63, .int 0, .ref q65, .int 0, .ref q67, .ref q69, .int 0, .ref q71, .ref q73, .int 0, .int 0, .int 0, .ref q75, .ref q77, .int 0, .int 0, .ref q79, .int 0, .int 0, .int 0, .int 0, .ref q81, .ref q83, .ref q85, .ref q87, .ref q89, .ref q91, .ref q93, .ref q95, .ref q97, .ref q99, .ref q101, .ref q103, .int 0, .ref q105, .ref q107, .int 0, .int 0, .ref q109, .ref q111, .int 0, .ref q113, .int 0, .ref q115, .ref q117, .ref q119, .ref q121, .ref q123, .int 0, .ref q125, .ref q127, .int 0, .int 0, .ref q129, .int (-1), .int 0, .int 0, .int 0, .long 0, .ref q131, .long 0, .int 0, .int 0, .ref q133, .ref q135, .ref q137, .ref q139, .ref q141, .ref q143, .ref q145, .ref q147, .ref q149, .int 0, .int 0])), (q1, .inl (cy 1, 65536, .inl (upd f57 19 (vp_nar .byte v59))))] H := hP
  have hD : va_D A [(h0, .inr (16, [.int 0, .ref q1, .int 19, .int 0, .int 0, .ref q3, .ref q5, .ref q7, .ref q9, .ref q11, .int 0, .int 0, .int 0, .int 0, .int 0, .int 0, .int 0, .int 0, .int 0, .int 0, .ref q13, .ref q15, .ref q17, .ref q19, .ref q21, .ref q23, .ref q25, .ref q27, .ref q29, .ref q31, .ref q33, .ref q35, .ref q37, .ref q39, .ref q41, .ref q43, .ref q45, .ref q47, .ref q49, .ref q51, .int 0, .int 0, .int 0, .ref q53, .ref q55, .ref q57, .int 0, .int 0, .int 0, .int 0, .ref q59, .ref q61, .ref q63, .int 0, .ref q65, .int 0, .ref q67, .ref q69, .int 0, .ref q71, .ref q73, .int 0, .int 0, .int 0, .ref q75, .ref q77, .int 0, .int 0, .ref q79, .int 0, .int 0, .int 0, .int 0, .ref q81, .ref q83, .ref q85, .ref q87, .ref q89, .ref q91, .ref q93, .ref q95, .ref q97, .ref q99, .ref q101, .ref q103, .int 0, .ref q105, .ref q107, .int 0, .int 0, .ref q109, .ref q111, .int 0, .ref q113, .int 0, .ref q115, .ref q117, .ref q119, .ref q121, .ref q123, .int 0, .ref q125, .ref q127, .int 0, .int 0, .ref q129, .int (-1), .int 0, .int 0, .int 0, .long 0, .ref q131, .long 0, .int 0, .int 0, .ref q133, .ref q135, .ref q137, .ref q139, .ref q141, .ref q143, .ref q145, .ref q147, .ref q149, .int 0, .int 0])), (q1, .inl (cy 1, 65536, .inl (upd f57 19 (vp_nar .byte v59))))] := hD
  generalize (upd f57 19 (vp_nar .byte v59)) = f60 at hP hD
  refine lv_aload_n hx hb dX13_feed_111 rfl (lv_at hl 2 rfl) ?_
  refine lv_dup hx hb dX13_feed_112 rfl ?_
  refine va_get (D := D) (ci := 16) (v := .int 19) (C := RX13) (T := TX13) (N := 126) hx hb hts i_c_X13_feed_X13 hown hK hP 0 rfl rfl 2 (by decide) (hts (.fieldLink RX13 253 "ChanceWorksModel" "size" "I") (List.mem_of_getElem? (i := 1) rfl)) (fun _ h9 => h9) rfl dX13_feed_113 ?_
  refine lv_iconst (v := 1) hx hb dX13_feed_116 (by decide) ?_
  refine lv_iadd hx hb dX13_feed_117 ?_
  rw [show (19 : Int32) + 1 = 20 by decide]
  refine va_put (D := D) (ci := 16) (v := .int 20) (ty := .int) (C := RX13) (T := TX13) (N := 126) hx hb hts i_c_X13_feed_X13 tyX13 tyX13_ok nmX13 hown hK hP hD hS 0 rfl rfl 2 (by decide) (hts (.fieldLink RX13 253 "ChanceWorksModel" "size" "I") (List.mem_of_getElem? (i := 1) rfl)) (fun _ h9 => h9) rfl (by decide +kernel) rfl rfl (Nat.le_of_ble_eq_true rfl) dX13_feed_118 (fun H locs hP hD hS => ?_)
  have hP : va_P D vwCl [(h0, .inr (16, [.int 0, .ref q1, .int 20, .int 0, .int 0, .ref q3, .ref q5, .ref q7, .ref q9, .ref q11, .int 0, .int 0, .int 0, .int 0, .int 0, .int 0, .int 0, .int 0, .int 0, .int 0, .ref q13, .ref q15, .ref q17, .ref q19, .ref q21, .ref q23, .ref q25, .ref q27, .ref q29, .ref q31, .ref q33, .ref q35, .ref q37, .ref q39, .ref q41, .ref q43, .ref q45, .ref q47, .ref q49, .ref q51, .int 0, .int 0, .int 0, .ref q53, .ref q55, .ref q57, .int 0, .int 0, .int 0, .int 0, .ref q59, .ref q61, .ref q63, .int 0, .ref q65, .int 0, .ref q67, .ref q69, .int 0, .ref q71, .ref q73, .int 0, .int 0, .int 0, .ref q75, .ref q77, .int 0, .int 0, .ref q79, .int 0, .int 0, .int 0, .int 0, .ref q81, .ref q83, .ref q85, .ref q87, .ref q89, .ref q91, .ref q93, .ref q95, .ref q97, .ref q99, .ref q101, .ref q103, .int 0, .ref q105, .ref q107, .int 0, .int 0, .ref q109, .ref q111, .int 0, .ref q113, .int 0, .ref q115, .ref q117, .ref q119, .ref q121, .ref q123, .int 0, .ref q125, .ref q127, .int 0, .int 0, .ref q129, .int (-1), .int 0, .int 0, .int 0, .long 0, .ref q131, .long 0, .int 0, .int 0, .ref q133, .ref q135, .ref q137, .ref q139, .ref q141, .ref q143, .ref q145, .ref q147, .ref q149, .int 0, .int 0])), (q1, .inl (cy 1, 65536, .inl f60))] H := hP
  have hD : va_D A [(h0, .inr (16, [.int 0, .ref q1, .int 20, .int 0, .int 0, .ref q3, .ref q5, .ref q7, .ref q9, .ref q11, .int 0, .int 0, .int 0, .int 0, .int 0, .int 0, .int 0, .int 0, .int 0, .int 0, .ref q13, .ref q15, .ref q17, .ref q19, .ref q21, .ref q23, .ref q25, .ref q27, .ref q29, .ref q31, .ref q33, .ref q35, .ref q37, .ref q39, .ref q41, .ref q43, .ref q45, .ref q47, .ref q49, .ref q51, .int 0, .int 0, .int 0, .ref q53, .ref q55, .ref q57, .int 0, .int 0, .int 0, .int 0, .ref q59, .ref q61, .ref q63, .int 0, .ref q65, .int 0, .ref q67, .ref q69, .int 0, .ref q71, .ref q73, .int 0, .int 0, .int 0, .ref q75, .ref q77, .int 0, .int 0, .ref q79, .int 0, .int 0, .int 0, .int 0, .ref q81, .ref q83, .ref q85, .ref q87, .ref q89, .ref q91, .ref q93, .ref q95, .ref q97, .ref q99, .ref q101, .ref q103, .int 0, .ref q105, .ref q107, .int 0, .int 0, .ref q109, .ref q111, .int 0, .ref q113, .int 0, .ref q115, .ref q117, .ref q119, .ref q121, .ref q123, .int 0, .ref q125, .ref q127, .int 0, .int 0, .ref q129, .int (-1), .int 0, .int 0, .int 0, .long 0, .ref q131, .long 0, .int 0, .int 0, .ref q133, .ref q135, .ref q137, .ref q139, .ref q141, .ref q143, .ref q145, .ref q147, .ref q149, .int 0, .int 0])), (q1, .inl (cy 1, 65536, .inl f60))] := hD
  refine lv_iinc (v := 20) (lv' := [(6, .int 20), (7, .int p5), (0, .ref h0), (1, .int p1), (2, .int p2), (3, .int p3), (4, .int p4), (5, .int p5)]) hx hb dX13_feed_121 hl (k := 1) rfl (by decide) (by decide) rfl (fun ls hl => ?_)
  refine lv_goto (tgt := 33) hx hb dX13_feed_124 (by decide) ?_
  refine lv_iload hx hb dX13_feed_33 (lv_at hl 0 rfl) ?_
  refine lv_bipush (v := 20) hx hb dX13_feed_35 (by decide) ?_
  refine lv_icmp_ge (tgt := 127) hx hb dX13_feed_37 (by decide) (fun _ => ?_) (fun c9 => absurd (by decide) c9)
  refine lv_aload_n hx hb dX13_feed_127 rfl (lv_at hl 2 rfl) ?_
  refine va_get (D := D) (ci := 16) (v := .int 20) (C := RX13) (T := TX13) (N := 126) hx hb hts i_c_X13_feed_X13 hown hK hP 0 rfl rfl 2 (by decide) (hts (.fieldLink RX13 253 "ChanceWorksModel" "size" "I") (List.mem_of_getElem? (i := 1) rfl)) (fun _ h9 => h9) rfl dX13_feed_128 ?_
  refine W.widen (k := 0) (n := 0) (Nat.le_of_ble_eq_true rfl) (Nat.le_of_ble_eq_true rfl) ?_
  exact W.iret (v := 20) hx hb hr (fun t ht hW => ⟨⟨20, 0, rfl, ⟨rfl, rfl⟩, [.int 0, .ref q1, .int 20, .int 0, .int 0, .ref q3, .ref q5, .ref q7, .ref q9, .ref q11, .int 0, .int 0, .int 0, .int 0, .int 0, .int 0, .int 0, .int 0, .int 0, .int 0, .ref q13, .ref q15, .ref q17, .ref q19, .ref q21, .ref q23, .ref q25, .ref q27, .ref q29, .ref q31, .ref q33, .ref q35, .ref q37, .ref q39, .ref q41, .ref q43, .ref q45, .ref q47, .ref q49, .ref q51, .int 0, .int 0, .int 0, .ref q53, .ref q55, .ref q57, .int 0, .int 0, .int 0, .int 0, .ref q59, .ref q61, .ref q63, .int 0, .ref q65, .int 0, .ref q67, .ref q69, .int 0, .ref q71, .ref q73, .int 0, .int 0, .int 0, .ref q75, .ref q77, .int 0, .int 0, .ref q79, .int 0, .int 0, .int 0, .int 0, .ref q81, .ref q83, .ref q85, .ref q87, .ref q89, .ref q91, .ref q93, .ref q95, .ref q97, .ref q99, .ref q101, .ref q103, .int 0, .ref q105, .ref q107, .int 0, .int 0, .ref q109, .ref q111, .int 0, .ref q113, .int 0, .ref q115, .ref q117, .ref q119, .ref q121, .ref q123, .int 0, .ref q125, .ref q127, .int 0, .int 0, .ref q129, .int (-1), .int 0, .int 0, .int 0, .long 0, .ref q131, .long 0, .int 0, .int 0, .ref q133, .ref q135, .ref q137, .ref q139, .ref q141, .ref q143, .ref q145, .ref q147, .ref q149, .int 0, .int 0], by rw [ht]; exact hP.sub [0] rfl, hD.sub [0] (by decide) rfl, rfl⟩, hS.F ht⟩) hS.2.2 dX13_feed_131
