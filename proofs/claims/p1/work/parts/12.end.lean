def wq_c_X12_end : List Cond := .code yX12_end cX12_end 2 none :: ([.classLink RX12 118 "java/lang/IllegalArgumentException", .initialized "java/lang/IllegalArgumentException", .fieldLink RX12 12 "ChanceWorks" "tape" "LChanceWorks$Tape;", .fieldLink RX12 100 "ChanceWorks$Tape" "length" "I"] ++ (((vx_atS RX12 122 "java/lang/IllegalArgumentException" ["java/lang/RuntimeException", "java/lang/Exception"]).filter goodWord) ++ ((u_ws RX12 TX12 18) ++ (u_ws RX10 TX10 6))))
theorem t_c_X12_end_0 : ∀ w ∈ (vx_atS RX12 122 "java/lang/IllegalArgumentException" ["java/lang/RuntimeException", "java/lang/Exception"]).filter goodWord, w ∈ wq_c_X12_end := fun w h => List.mem_cons_of_mem _ (List.mem_append_right _ (List.mem_append_left _ (h)))
theorem i_c_X12_end_X12 : ∀ w ∈ u_ws RX12 TX12 18, w ∈ wq_c_X12_end := fun w h => List.mem_cons_of_mem _ (List.mem_append_right _ (List.mem_append_right _ (List.mem_append_left _ (h))))
theorem i_c_X12_end_X10 : ∀ w ∈ u_ws RX10 TX10 6, w ∈ wq_c_X12_end := fun w h => List.mem_cons_of_mem _ (List.mem_append_right _ (List.mem_append_right _ (List.mem_append_right _ (h))))
set_option maxHeartbeats 4000000 in
set_option maxRecDepth 100000 in
theorem c_X12_end (l : Launch) (D : va_G) (cy : Nat → ClassId) (h0 q1 q26 q6 q16 q35 q41 q88 q111 q127 q132 q134 q136 q138 q140 q2 q3 q4 q5 : Nat) (p1 : Int32) (sz : Nat) (hst : l.stackTraces = false) : vx_Met l yX12_end wq_c_X12_end ({ frames := 6, cells := 1, slots := 6, locals := 82 }) (va_Pc [.ref h0, .int p1] (fun U => U.heap.size = sz ∧ va_P D vwCl [(h0, .inr (15, [.ref q1, .ref q26, .ref q6, .ref q16, .int 0, .int 0, .ref q35, .ref q41, .ref q88, .ref q111, .ref q127, .ref q132, .int 0, .int 0, .ref q134, .ref q136, .ref q138, .ref q140])), (q1, .inr (13, [.ref q2, .int 0, .ref q3, .ref q4, .ref q5, .int 0]))] U.heap ∧ kK D cy U ∧ va_D (fun _ => True) [(h0, .inr (15, [.ref q1, .ref q26, .ref q6, .ref q16, .int 0, .int 0, .ref q35, .ref q41, .ref q88, .ref q111, .ref q127, .ref q132, .int 0, .int 0, .ref q134, .ref q136, .ref q138, .ref q140])), (q1, .inr (13, [.ref q2, .int 0, .ref q3, .ref q4, .ref q5, .int 0]))] ∧ tK (va_A [(h0, .inr (15, [.ref q1, .ref q26, .ref q6, .ref q16, .int 0, .int 0, .ref q35, .ref q41, .ref q88, .ref q111, .ref q127, .ref q132, .int 0, .int 0, .ref q134, .ref q136, .ref q138, .ref q140])), (q1, .inr (13, [.ref q2, .int 0, .ref q3, .ref q4, .ref q5, .int 0]))] sz) U)) (va_Qv (fun (_ : Unit) => (p1 = 0 ∧ ¬ p1 < 0 ∧ p1 ≤ 0)) (fun _ t => True) (va_A [(h0, .inr (15, [.ref q1, .ref q26, .ref q6, .ref q16, .int 0, .int 0, .ref q35, .ref q41, .ref q88, .ref q111, .ref q127, .ref q132, .int 0, .int 0, .ref q134, .ref q136, .ref q138, .ref q140])), (q1, .inr (13, [.ref q2, .int 0, .ref q3, .ref q4, .ref q5, .int 0]))] sz)) (vx_X (fun _ : Unit => True) (fun (E9 : String) _ t => ((E9 = "java/lang/IllegalArgumentException" ∧ p1 < 0) ∨ (E9 = "java/lang/IllegalArgumentException" ∧ ¬ p1 < 0 ∧ ¬ p1 ≤ 0))) (va_A [(h0, .inr (15, [.ref q1, .ref q26, .ref q6, .ref q16, .int 0, .int 0, .ref q35, .ref q41, .ref q88, .ref q111, .ref q127, .ref q132, .int 0, .int 0, .ref q134, .ref q136, .ref q138, .ref q140])), (q1, .inr (13, [.ref q2, .int 0, .ref q3, .ref q4, .ref q5, .int 0]))] sz)) 1 6 (va_A [(h0, .inr (15, [.ref q1, .ref q26, .ref q6, .ref q16, .int 0, .int 0, .ref q35, .ref q41, .ref q88, .ref q111, .ref q127, .ref q132, .int 0, .int 0, .ref q134, .ref q136, .ref q138, .ref q140])), (q1, .inr (13, [.ref q2, .int 0, .ref q3, .ref q4, .ref q5, .int 0]))] sz) := by
  refine vx_ofW (cc := cX12_end) (maxL := 2) (ret := none) (by decide) rfl ?_
  intro p e s m args below meth c s₁ B hml hout hv
  obtain ⟨rfl, hsz, hP, hKK, hD0, hTK⟩ := hv
  have hK := hKK.1
  have hx := B.exec
  have hb := B.bytes
  have hr := B.returns
  have hts := atoms_spec (ws := wq_c_X12_end) B.pre
  have hown : s.vm.findClass RX12 = some m.cls := findClass_of_methodNamed B.named
  have hlocks := B.notSynchronized
  subst hsz
  have hD := hD0.self (sz := s.heap.size)
  generalize hAe : va_A [(h0, .inr (15, [.ref q1, .ref q26, .ref q6, .ref q16, .int 0, .int 0, .ref q35, .ref q41, .ref q88, .ref q111, .ref q127, .ref q132, .int 0, .int 0, .ref q134, .ref q136, .ref q138, .ref q140])), (q1, .inr (13, [.ref q2, .int 0, .ref q3, .ref q4, .ref q5, .int 0]))] s.heap.size = A at hD hTK ⊢
  have hA : ∀ q : Nat, s.heap.size ≤ q → A q := fun q h => by rw [← hAe]; exact Or.inr h
  obtain ⟨H, hS, hP, hgo⟩ : ∃ H, va_S A s.heap H [] ∧ va_P D vwCl [(h0, .inr (15, [.ref q1, .ref q26, .ref q6, .ref q16, .int 0, .int 0, .ref q35, .ref q41, .ref q88, .ref q111, .ref q127, .ref q132, .int 0, .int 0, .ref q134, .ref q136, .ref q138, .ref q140])), (q1, .inr (13, [.ref q2, .int 0, .ref q3, .ref q4, .ref q5, .int 0]))] H ∧ H = s.heap := ⟨s.heap, va_S.rf, hP, rfl⟩
  rw [← hgo]
  have hl := lv_entry ([.ref h0, .int p1]) (n := 2) (Nat.le_of_ble_eq_true rfl)
  rw [lg_entry_eq]
  generalize (lg_sl ([.ref h0, .int p1]) ++ List.replicate (2 - (lg_sl ([.ref h0, .int p1])).length) Slot.unset).toArray = ls at hl ⊢
  have hl : lv_has ls 2 [(0, .ref h0), (1, .int p1)] := hl
  refine lv_iload_n hx hb dX12_end_0 rfl (lv_at hl 1 rfl) ?_
  refine lv_if_lt (tgt := 15) hx hb dX12_end_1 (by decide) (fun c1 => ?_) (fun c1 => ?_)
  · skip
    obtain ⟨sa, hstr⟩ := hTK.2.2.2.2.2 (RX12, 120, "the tape has not so many bytes") (List.mem_of_getElem? (i := 2) rfl)
    refine vx_throwS (own := RX12) (cls := "java/lang/IllegalArgumentException") (text := "the tape has not so many bytes") (names := ["java/lang/RuntimeException", "java/lang/Exception"]) (A := A) hx hb hst hown (by decide) (by decide) (hts (.classLink RX12 118 "java/lang/IllegalArgumentException") (List.mem_of_getElem? (i := 1) rfl)) (hts (.initialized "java/lang/IllegalArgumentException") (List.mem_of_getElem? (i := 2) rfl)) hstr (vx_hat (B := [.castable "java/lang/IllegalArgumentException" "java/lang/IllegalArgumentException", .declares (Bundle.initS "java/lang/RuntimeException"), .declares (Bundle.initS "java/lang/Exception"), .declares (Bundle.initS "java/lang/Throwable")]) (fun w h => hts w (t_c_X12_end_0 w h)) (by decide +kernel) (vx_c (va_Nw.use rfl (hTK.2.2.1 "java/lang/IllegalArgumentException" (by decide))) (vx_c (va_Nw.use rfl (hTK.2.2.2.1 "java/lang/RuntimeException" (by decide))) (vx_c (va_Nw.use rfl (hTK.2.2.2.1 "java/lang/Exception" (by decide))) (vx_c (va_Nw.use rfl (hTK.2.2.2.1 "java/lang/Throwable" (by decide))) vx_n))))) (by decide +kernel) hTK.1 hTK.2.1 hS (hl.1.trans hml.symm) dX12_end_15 dX12_end_18 dX12_end_19 dX12_end_21 dX12_end_24 (fun x h => (hout x h).elim) (Nat.le_of_ble_eq_true rfl) (Nat.le_of_ble_eq_true rfl) (Nat.le_of_ble_eq_true rfl) (Nat.le_of_ble_eq_true rfl) hlocks (fun t hal hz9 hk9 => ⟨(), trivial, Or.inl (⟨rfl, c1⟩), t_F hS hz9 hk9⟩) hS.2.2 (Nat.le_of_ble_eq_true rfl) (Nat.le_of_ble_eq_true rfl)
  · skip
    refine lv_iload_n hx hb dX12_end_4 rfl (lv_at hl 1 rfl) ?_
    refine lv_aload_n hx hb dX12_end_5 rfl (lv_at hl 0 rfl) ?_
    refine va_get (D := D) (ci := 15) (v := .ref q1) (C := RX12) (T := TX12) (N := 18) hx hb hts i_c_X12_end_X12 hown hK hP 0 rfl rfl 0 (by decide) (hts (.fieldLink RX12 12 "ChanceWorks" "tape" "LChanceWorks$Tape;") (List.mem_of_getElem? (i := 3) rfl)) (fun _ h9 => h9) rfl dX12_end_6 ?_
    refine va_get (D := D) (ci := 13) (v := .int 0) (C := RX10) (T := TX10) (N := 6) hx hb hts i_c_X12_end_X10 hown hK hP 1 rfl rfl 1 (by decide) (hts (.fieldLink RX12 100 "ChanceWorks$Tape" "length" "I") (List.mem_of_getElem? (i := 4) rfl)) (fun _ h9 => h9) rfl dX12_end_9 ?_
    refine lv_icmp_le (tgt := 25) hx hb dX12_end_12 (by decide) (fun c2 => ?_) (fun c2 => ?_)
    · skip
      obtain rfl : p1 = 0 := by have e_c1 := mt i_lt.mpr c1; have e_c2 := i_le.mp c2; have l_0 : (0 : Int32).toInt = 0 := (by decide); have m_0 : (0 : Int32).toInt = 0 := (by decide); rw [i_eq]; omega
      refine lv_aload_n hx hb dX12_end_25 rfl (lv_at hl 0 rfl) ?_
      refine va_get (D := D) (ci := 15) (v := .ref q1) (C := RX12) (T := TX12) (N := 18) hx hb hts i_c_X12_end_X12 hown hK hP 0 rfl rfl 0 (by decide) (hts (.fieldLink RX12 12 "ChanceWorks" "tape" "LChanceWorks$Tape;") (List.mem_of_getElem? (i := 3) rfl)) (fun _ h9 => h9) rfl dX12_end_26 ?_
      refine lv_iload_n hx hb dX12_end_29 rfl (lv_at hl 1 rfl) ?_
      refine va_put (D := D) (ci := 13) (v := .int 0) (ty := .int) (C := RX10) (T := TX10) (N := 6) hx hb hts i_c_X12_end_X10 tyX10 tyX10_ok nmX10 hown hK hP hD hS 1 rfl rfl 1 (by decide) (hts (.fieldLink RX12 100 "ChanceWorks$Tape" "length" "I") (List.mem_of_getElem? (i := 4) rfl)) (fun _ h9 => h9) rfl (by decide +kernel) rfl rfl (Nat.le_of_ble_eq_true rfl) dX12_end_30 (fun H locs hP hD hS => ?_)
      have hP : va_P D vwCl [(h0, .inr (15, [.ref q1, .ref q26, .ref q6, .ref q16, .int 0, .int 0, .ref q35, .ref q41, .ref q88, .ref q111, .ref q127, .ref q132, .int 0, .int 0, .ref q134, .ref q136, .ref q138, .ref q140])), (q1, .inr (13, [.ref q2, .int 0, .ref q3, .ref q4, .ref q5, .int 0]))] H := hP
      have hD : va_D A [(h0, .inr (15, [.ref q1, .ref q26, .ref q6, .ref q16, .int 0, .int 0, .ref q35, .ref q41, .ref q88, .ref q111, .ref q127, .ref q132, .int 0, .int 0, .ref q134, .ref q136, .ref q138, .ref q140])), (q1, .inr (13, [.ref q2, .int 0, .ref q3, .ref q4, .ref q5, .int 0]))] := hD
      refine W.widen (k := 1) (n := 6) (Nat.le_of_ble_eq_true rfl) (Nat.le_of_ble_eq_true rfl) ?_
      refine vx_ret ?_
      exact W.vret hx hb hr (fun t ht hW => ⟨⟨(), rfl, ⟨rfl, c1, c2⟩, trivial⟩, hS.F ht⟩) hS.2.2 dX12_end_33
    · skip
      obtain ⟨sa, hstr⟩ := hTK.2.2.2.2.2 (RX12, 120, "the tape has not so many bytes") (List.mem_of_getElem? (i := 2) rfl)
      refine vx_throwS (own := RX12) (cls := "java/lang/IllegalArgumentException") (text := "the tape has not so many bytes") (names := ["java/lang/RuntimeException", "java/lang/Exception"]) (A := A) hx hb hst hown (by decide) (by decide) (hts (.classLink RX12 118 "java/lang/IllegalArgumentException") (List.mem_of_getElem? (i := 1) rfl)) (hts (.initialized "java/lang/IllegalArgumentException") (List.mem_of_getElem? (i := 2) rfl)) hstr (vx_hat (B := [.castable "java/lang/IllegalArgumentException" "java/lang/IllegalArgumentException", .declares (Bundle.initS "java/lang/RuntimeException"), .declares (Bundle.initS "java/lang/Exception"), .declares (Bundle.initS "java/lang/Throwable")]) (fun w h => hts w (t_c_X12_end_0 w h)) (by decide +kernel) (vx_c (va_Nw.use rfl (hTK.2.2.1 "java/lang/IllegalArgumentException" (by decide))) (vx_c (va_Nw.use rfl (hTK.2.2.2.1 "java/lang/RuntimeException" (by decide))) (vx_c (va_Nw.use rfl (hTK.2.2.2.1 "java/lang/Exception" (by decide))) (vx_c (va_Nw.use rfl (hTK.2.2.2.1 "java/lang/Throwable" (by decide))) vx_n))))) (by decide +kernel) hTK.1 hTK.2.1 hS (hl.1.trans hml.symm) dX12_end_15 dX12_end_18 dX12_end_19 dX12_end_21 dX12_end_24 (fun x h => (hout x h).elim) (Nat.le_of_ble_eq_true rfl) (Nat.le_of_ble_eq_true rfl) (Nat.le_of_ble_eq_true rfl) (Nat.le_of_ble_eq_true rfl) hlocks (fun t hal hz9 hk9 => ⟨(), trivial, Or.inr (⟨rfl, c1, c2⟩), t_F hS hz9 hk9⟩) hS.2.2 (Nat.le_of_ble_eq_true rfl) (Nat.le_of_ble_eq_true rfl)
def wq_c_L_end : List Cond := .codeWith yL_end cL_end 3 (some .int) [(0, 5, 8, 19)] :: ([.classLink RL 19 "java/lang/IllegalArgumentException"] ++ (wsV RL 15 RX12 yX12_end wq_c_X12_end))
set_option maxRecDepth 100000 in
theorem g_c_L_end_0 : GoodIn wq_c_L_end (wsV RL 15 RX12 yX12_end wq_c_X12_end) := goodIn_sub (fun w h => List.mem_cons_of_mem _ (List.mem_append_right _ (h))) (by decide +kernel)
set_option maxHeartbeats 4000000 in
set_option maxRecDepth 100000 in
theorem c_L_end (l : Launch) (D : va_G) (cy : Nat → ClassId) (h0 q1 q26 q6 q16 q35 q41 q88 q111 q127 q132 q134 q136 q138 q140 q2 q3 q4 q5 : Nat) (p1 : Int32) (sz : Nat) (hst : l.stackTraces = false) : Met l yL_end wq_c_L_end ({ frames := 7, cells := 1, slots := 6, locals := 103 }) (va_Pc [.ref h0, .int p1] (fun U => U.heap.size = sz ∧ va_P D vwCl [(h0, .inr (15, [.ref q1, .ref q26, .ref q6, .ref q16, .int 0, .int 0, .ref q35, .ref q41, .ref q88, .ref q111, .ref q127, .ref q132, .int 0, .int 0, .ref q134, .ref q136, .ref q138, .ref q140])), (q1, .inr (13, [.ref q2, .int 0, .ref q3, .ref q4, .ref q5, .int 0]))] U.heap ∧ kK D cy U ∧ va_D (fun _ => True) [(h0, .inr (15, [.ref q1, .ref q26, .ref q6, .ref q16, .int 0, .int 0, .ref q35, .ref q41, .ref q88, .ref q111, .ref q127, .ref q132, .int 0, .int 0, .ref q134, .ref q136, .ref q138, .ref q140])), (q1, .inr (13, [.ref q2, .int 0, .ref q3, .ref q4, .ref q5, .int 0]))] ∧ tK (va_A [(h0, .inr (15, [.ref q1, .ref q26, .ref q6, .ref q16, .int 0, .int 0, .ref q35, .ref q41, .ref q88, .ref q111, .ref q127, .ref q132, .int 0, .int 0, .ref q134, .ref q136, .ref q138, .ref q140])), (q1, .inr (13, [.ref q2, .int 0, .ref q3, .ref q4, .ref q5, .int 0]))] sz) U)) (va_Qi (fun (r : Int32) (_ : Unit) => (p1 < 0 ∧ r = 1) ∨ (¬ p1 < 0 ∧ ¬ p1 ≤ 0 ∧ r = 1) ∨ (p1 = 0 ∧ ¬ p1 < 0 ∧ p1 ≤ 0 ∧ r = 0)) (fun _ t => True) (va_A [(h0, .inr (15, [.ref q1, .ref q26, .ref q6, .ref q16, .int 0, .int 0, .ref q35, .ref q41, .ref q88, .ref q111, .ref q127, .ref q132, .int 0, .int 0, .ref q134, .ref q136, .ref q138, .ref q140])), (q1, .inr (13, [.ref q2, .int 0, .ref q3, .ref q4, .ref q5, .int 0]))] sz)) 1 6 (va_A [(h0, .inr (15, [.ref q1, .ref q26, .ref q6, .ref q16, .int 0, .int 0, .ref q35, .ref q41, .ref q88, .ref q111, .ref q127, .ref q132, .int 0, .int 0, .ref q134, .ref q136, .ref q138, .ref q140])), (q1, .inr (13, [.ref q2, .int 0, .ref q3, .ref q4, .ref q5, .int 0]))] sz) := by
  refine va_MetW (cc := cL_end) (maxL := 3) (ret := (some .int)) (by decide) rfl ?_
  intro p e s m args below meth c s₁ B hml hv
  obtain ⟨rfl, hsz, hP, hKK, hD0, hTK⟩ := hv
  have hK := hKK.1
  have hx := B.exec
  have hb := B.bytes
  have hr := B.returns
  have hts := atoms_spec (ws := wq_c_L_end) B.pre
  have hown : s.vm.findClass RL = some m.cls := findClass_of_methodNamed B.named
  have hlocks := B.notSynchronized
  have htab := vx_table (x := yL_end) B (hts _ List.mem_cons_self)
  subst hsz
  have hD := hD0.self (sz := s.heap.size)
  generalize hAe : va_A [(h0, .inr (15, [.ref q1, .ref q26, .ref q6, .ref q16, .int 0, .int 0, .ref q35, .ref q41, .ref q88, .ref q111, .ref q127, .ref q132, .int 0, .int 0, .ref q134, .ref q136, .ref q138, .ref q140])), (q1, .inr (13, [.ref q2, .int 0, .ref q3, .ref q4, .ref q5, .int 0]))] s.heap.size = A at hD hTK ⊢
  have hA : ∀ q : Nat, s.heap.size ≤ q → A q := fun q h => by rw [← hAe]; exact Or.inr h
  obtain ⟨H, hS, hP, hgo⟩ : ∃ H, va_S A s.heap H [] ∧ va_P D vwCl [(h0, .inr (15, [.ref q1, .ref q26, .ref q6, .ref q16, .int 0, .int 0, .ref q35, .ref q41, .ref q88, .ref q111, .ref q127, .ref q132, .int 0, .int 0, .ref q134, .ref q136, .ref q138, .ref q140])), (q1, .inr (13, [.ref q2, .int 0, .ref q3, .ref q4, .ref q5, .int 0]))] H ∧ H = s.heap := ⟨s.heap, va_S.rf, hP, rfl⟩
  rw [← hgo]
  have hl := lv_entry ([.ref h0, .int p1]) (n := 3) (Nat.le_of_ble_eq_true rfl)
  rw [lg_entry_eq]
  generalize (lg_sl ([.ref h0, .int p1]) ++ List.replicate (3 - (lg_sl ([.ref h0, .int p1])).length) Slot.unset).toArray = ls at hl ⊢
  have hl : lv_has ls 3 [(0, .ref h0), (1, .int p1)] := hl
  refine lv_aload_n hx hb dL_end_0 rfl (lv_at hl 0 rfl) ?_
  refine lv_iload_n hx hb dL_end_1 rfl (lv_at hl 1 rfl) ?_
  have hPc := hP.sub (ws' := [(h0, .inr (15, [.ref q1, .ref q26, .ref q6, .ref q16, .int 0, .int 0, .ref q35, .ref q41, .ref q88, .ref q111, .ref q127, .ref q132, .int 0, .int 0, .ref q134, .ref q136, .ref q138, .ref q140])), (q1, .inr (13, [.ref q2, .int 0, .ref q3, .ref q4, .ref q5, .int 0]))]) [0, 1] rfl
  have hDc := hD.sub (ws' := [(h0, .inr (15, [.ref q1, .ref q26, .ref q6, .ref q16, .int 0, .int 0, .ref q35, .ref q41, .ref q88, .ref q111, .ref q127, .ref q132, .int 0, .int 0, .ref q134, .ref q136, .ref q138, .ref q140])), (q1, .inr (13, [.ref q2, .int 0, .ref q3, .ref q4, .ref q5, .int 0]))]) [0, 1] (by decide) rfl
  have hFc := va_free (wc := [(h0, .inr (15, [.ref q1, .ref q26, .ref q6, .ref q16, .int 0, .int 0, .ref q35, .ref q41, .ref q88, .ref q111, .ref q127, .ref q132, .int 0, .int 0, .ref q134, .ref q136, .ref q138, .ref q140])), (q1, .inr (13, [.ref q2, .int 0, .ref q3, .ref q4, .ref q5, .int 0]))]) hD hS hA [0, 1] rfl
  refine vx_callv (vx_runV (As := [.int p1]) (rest := []) ⟨hx, hb, hml, hown, hts⟩ (c_X12_end l D cy h0 q1 q26 q6 q16 q35 q41 q88 q111 q127 q132 q134 q136 q138 q140 q2 q3 q4 q5 p1 H.size hst) (cwV 1 hts g_c_L_end_0 rfl rfl rfl (by decide +kernel) ⟨(Nat.le_of_ble_eq_true rfl), (Nat.le_of_ble_eq_true rfl)⟩) ⟨fun a U g mk q => by obtain ⟨q0, q1, qP, qK, qD, qT⟩ := q; exact ⟨q0, q1, qP, kK.moved (u := U) (U := U.calling g mk a) (Vm.Alike.refl U.vm) qK, qD, tK.same rfl rfl qT⟩, va_recv hK hPc (ci := 15) (q0 := 0) rfl rfl, fun U hU hW => ⟨rfl, by rw [hU], by rw [hU]; exact hPc, kK.moved hW.alike hKK, hDc.weaken (fun _ _ _ _ => trivial), tK.at hTK hS hU hW hFc⟩⟩ rfl rfl hl.1 rfl (lv_room (Nat.le_of_ble_eq_true rfl)) dL_end_2 ⟨(Nat.le_of_ble_eq_true rfl), (Nat.le_of_ble_eq_true rfl)⟩) hS (fun q _ h => hFc q h) hFc (fun q _ h => hFc q h) (fun E9 ce q9 u t H1 locs ht hvm hpx hBX hz1 hk1 hS hce hcv hcl => ?_) (fun u2 t H1 locs ht hvm hw hB hz1 hk1 hS => ?_)
  · skip
    rcases hBX with ⟨rfl, c3⟩ | ⟨rfl, c4, c5⟩
    · skip
      obtain ⟨hP, hD⟩ := va_join (wr := []) (w1 := []) hP hD [0, 1] [] rfl rfl (by decide) (by decide) hk1 hFc va_P0 va_D0
      generalize H1 = H at hP hS hce ⊢
      have hP : va_P D vwCl [] H := hP
      have hD : va_D A [] := hD
      refine vx_catch (own := RL) (name := "java/lang/IllegalArgumentException") hown [] ⟨0, 5, 8, 19⟩ [] htab (fun z hz => by cases hz) (by decide) (by decide) (hts (.classLink RL 19 "java/lang/IllegalArgumentException") (List.mem_of_getElem? (i := 1) rfl)) (va_Nw.use rfl (hTK.2.2.1 "java/lang/IllegalArgumentException" (by decide))) hce hcv hcl ?_
      refine W.widen (k := 1) (n := 6) (Nat.le_of_ble_eq_true rfl) (Nat.le_of_ble_eq_true rfl) ?_
      refine lv_astore_n (lv' := [(2, .ref q9), (0, .ref h0), (1, .int p1)]) hx hb dL_end_8 rfl hl (by decide) rfl (fun ls hl => ?_)
      refine lv_iconst (v := 1) hx hb dL_end_9 (by decide) ?_
      refine W.widen (k := 1) (n := 6) (Nat.le_of_ble_eq_true rfl) (Nat.le_of_ble_eq_true rfl) ?_
      exact W.iret (v := 1) hx hb hr (fun t ht hW => ⟨⟨1, (), rfl, Or.inl (⟨c3, rfl⟩), trivial⟩, hS.F ht⟩) hS.2.2 dL_end_10
    · skip
      obtain ⟨hP, hD⟩ := va_join (wr := []) (w1 := []) hP hD [0, 1] [] rfl rfl (by decide) (by decide) hk1 hFc va_P0 va_D0
      generalize H1 = H at hP hS hce ⊢
      have hP : va_P D vwCl [] H := hP
      have hD : va_D A [] := hD
      refine vx_catch (own := RL) (name := "java/lang/IllegalArgumentException") hown [] ⟨0, 5, 8, 19⟩ [] htab (fun z hz => by cases hz) (by decide) (by decide) (hts (.classLink RL 19 "java/lang/IllegalArgumentException") (List.mem_of_getElem? (i := 1) rfl)) (va_Nw.use rfl (hTK.2.2.1 "java/lang/IllegalArgumentException" (by decide))) hce hcv hcl ?_
      refine W.widen (k := 1) (n := 6) (Nat.le_of_ble_eq_true rfl) (Nat.le_of_ble_eq_true rfl) ?_
      refine lv_astore_n (lv' := [(2, .ref q9), (0, .ref h0), (1, .int p1)]) hx hb dL_end_8 rfl hl (by decide) rfl (fun ls hl => ?_)
      refine lv_iconst (v := 1) hx hb dL_end_9 (by decide) ?_
      refine W.widen (k := 1) (n := 6) (Nat.le_of_ble_eq_true rfl) (Nat.le_of_ble_eq_true rfl) ?_
      exact W.iret (v := 1) hx hb hr (fun t ht hW => ⟨⟨1, (), rfl, Or.inr (Or.inl (⟨c4, c5, rfl⟩)), trivial⟩, hS.F ht⟩) hS.2.2 dL_end_10
  · skip
    obtain ⟨hP, hD⟩ := va_join (wr := []) (w1 := []) hP hD [0, 1] [] rfl rfl (by decide) (by decide) hk1 hFc va_P0 va_D0
    generalize H1 = H at hP hS ⊢
    have hP : va_P D vwCl [] H := hP
    have hD : va_D A [] := hD
    refine W.widen (k := 1) (n := 6) (Nat.le_of_ble_eq_true rfl) (Nat.le_of_ble_eq_true rfl) ?_
    rcases hw with ⟨c6, c7, c8⟩
    refine lv_goto (tgt := 11) hx hb dL_end_5 (by decide) ?_
    refine lv_iconst (v := 0) hx hb dL_end_11 (by decide) ?_
    refine W.widen (k := 1) (n := 6) (Nat.le_of_ble_eq_true rfl) (Nat.le_of_ble_eq_true rfl) ?_
    exact W.iret (v := 0) hx hb hr (fun t ht hW => ⟨⟨0, (), rfl, Or.inr (Or.inr (⟨c6, c7, c8, rfl⟩)), trivial⟩, hS.F ht⟩) hS.2.2 dL_end_12
