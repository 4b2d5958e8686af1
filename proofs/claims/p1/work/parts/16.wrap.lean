def wq_c_L_count : List Cond := .codeWith yL_count cL_count 4 (some .int) [(0, 9, 12, 25)] :: ([.classLink RL 25 "java/lang/IndexOutOfBoundsException"] ++ (wsV RL 21 RX12 yX12_count wq_c_X12_count))
set_option maxRecDepth 100000 in
theorem g_c_L_count_0 : GoodIn wq_c_L_count (wsV RL 21 RX12 yX12_count wq_c_X12_count) := goodIn_sub (fun w h => List.mem_cons_of_mem _ (List.mem_append_right _ (h))) (by decide +kernel)
set_option maxHeartbeats 4000000 in
set_option maxRecDepth 100000 in
theorem c_L_count (l : Launch) (D : va_G) (cy : Nat → ClassId) (h0 q1 q26 q6 q16 q35 q41 q88 q111 q127 q132 q134 q136 q138 q140 q2 q3 q4 q5 q42 q57 q61 q65 q66 q67 q68 q69 q70 q71 q72 q73 ou : Nat) (p1 : Int32) (sz : Nat) (hst : l.stackTraces = false) : Met l yL_count wq_c_L_count ({ frames := 7, cells := 1, slots := 6, locals := 103 }) (va_Pc [.ref h0, .int p1, .ref ou] (fun U => U.heap.size = sz ∧ va_P D vwCl [(h0, .inr (15, [.ref q1, .ref q26, .ref q6, .ref q16, .int 0, .int 0, .ref q35, .ref q41, .ref q88, .ref q111, .ref q127, .ref q132, .int 0, .int 0, .ref q134, .ref q136, .ref q138, .ref q140])), (q1, .inr (13, [.ref q2, .int 0, .ref q3, .ref q4, .ref q5, .int 0])), (q41, .inr (3, [.ref q35, .ref q42, .ref q57, .ref q61, .int 0, .ref q6, .ref q65, .ref q66, .ref q67, .ref q68, .ref q69, .ref q70, .ref q71, .ref q72, .ref q73, .int 0, .int 0, .int 0])), (ou, .inl (cy 2, 1, .inr (.inl (fun _ => 0))))] U.heap ∧ kK D cy U ∧ va_D (fun _ => True) [(h0, .inr (15, [.ref q1, .ref q26, .ref q6, .ref q16, .int 0, .int 0, .ref q35, .ref q41, .ref q88, .ref q111, .ref q127, .ref q132, .int 0, .int 0, .ref q134, .ref q136, .ref q138, .ref q140])), (q1, .inr (13, [.ref q2, .int 0, .ref q3, .ref q4, .ref q5, .int 0])), (q41, .inr (3, [.ref q35, .ref q42, .ref q57, .ref q61, .int 0, .ref q6, .ref q65, .ref q66, .ref q67, .ref q68, .ref q69, .ref q70, .ref q71, .ref q72, .ref q73, .int 0, .int 0, .int 0])), (ou, .inl (cy 2, 1, .inr (.inl (fun _ => 0))))] ∧ tK (va_A [(h0, .inr (15, [.ref q1, .ref q26, .ref q6, .ref q16, .int 0, .int 0, .ref q35, .ref q41, .ref q88, .ref q111, .ref q127, .ref q132, .int 0, .int 0, .ref q134, .ref q136, .ref q138, .ref q140])), (q1, .inr (13, [.ref q2, .int 0, .ref q3, .ref q4, .ref q5, .int 0])), (q41, .inr (3, [.ref q35, .ref q42, .ref q57, .ref q61, .int 0, .ref q6, .ref q65, .ref q66, .ref q67, .ref q68, .ref q69, .ref q70, .ref q71, .ref q72, .ref q73, .int 0, .int 0, .int 0])), (ou, .inl (cy 2, 1, .inr (.inl (fun _ => 0))))] sz) U)) (va_Qi (fun (r : Int32) (u : Int64) => (p1 < 0 ∧ r = 1 ∧ u = 0) ∨ (¬ p1 < 0 ∧ ¬ p1 ≤ 11 ∧ r = 1 ∧ u = 0) ∨ (¬ p1 < 0 ∧ p1 ≤ 11 ∧ ¬ p1 = 11 ∧ 4 ≤ p1 ∧ r = 0 ∧ u = 0) ∨ (¬ p1 < 0 ∧ p1 ≤ 11 ∧ ¬ p1 = 11 ∧ ¬ 4 ≤ p1 ∧ r = 0 ∧ u = 0) ∨ (p1 = 11 ∧ ¬ p1 < 0 ∧ p1 ≤ 11 ∧ p1 = 11 ∧ r = 0 ∧ u = 0)) (fun (u : Int64) t => ∃ f : Nat → Int64, va_P D vwCl [(ou, .inl (cy 2, 1, .inr (.inl f)))] t.heap ∧ va_D (va_A [(h0, .inr (15, [.ref q1, .ref q26, .ref q6, .ref q16, .int 0, .int 0, .ref q35, .ref q41, .ref q88, .ref q111, .ref q127, .ref q132, .int 0, .int 0, .ref q134, .ref q136, .ref q138, .ref q140])), (q1, .inr (13, [.ref q2, .int 0, .ref q3, .ref q4, .ref q5, .int 0])), (q41, .inr (3, [.ref q35, .ref q42, .ref q57, .ref q61, .int 0, .ref q6, .ref q65, .ref q66, .ref q67, .ref q68, .ref q69, .ref q70, .ref q71, .ref q72, .ref q73, .int 0, .int 0, .int 0])), (ou, .inl (cy 2, 1, .inr (.inl (fun _ => 0))))] sz) [(ou, .inl (cy 2, 1, .inr (.inl f)))] ∧ f 0 = u) (va_A [(h0, .inr (15, [.ref q1, .ref q26, .ref q6, .ref q16, .int 0, .int 0, .ref q35, .ref q41, .ref q88, .ref q111, .ref q127, .ref q132, .int 0, .int 0, .ref q134, .ref q136, .ref q138, .ref q140])), (q1, .inr (13, [.ref q2, .int 0, .ref q3, .ref q4, .ref q5, .int 0])), (q41, .inr (3, [.ref q35, .ref q42, .ref q57, .ref q61, .int 0, .ref q6, .ref q65, .ref q66, .ref q67, .ref q68, .ref q69, .ref q70, .ref q71, .ref q72, .ref q73, .int 0, .int 0, .int 0])), (ou, .inl (cy 2, 1, .inr (.inl (fun _ => 0))))] sz)) 1 6 (va_A [(h0, .inr (15, [.ref q1, .ref q26, .ref q6, .ref q16, .int 0, .int 0, .ref q35, .ref q41, .ref q88, .ref q111, .ref q127, .ref q132, .int 0, .int 0, .ref q134, .ref q136, .ref q138, .ref q140])), (q1, .inr (13, [.ref q2, .int 0, .ref q3, .ref q4, .ref q5, .int 0])), (q41, .inr (3, [.ref q35, .ref q42, .ref q57, .ref q61, .int 0, .ref q6, .ref q65, .ref q66, .ref q67, .ref q68, .ref q69, .ref q70, .ref q71, .ref q72, .ref q73, .int 0, .int 0, .int 0])), (ou, .inl (cy 2, 1, .inr (.inl (fun _ => 0))))] sz) := by
  refine va_MetW (cc := cL_count) (maxL := 4) (ret := (some .int)) (by decide) rfl ?_
  intro p e s m args below meth c s₁ B hml hv
  obtain ⟨rfl, hsz, hP, hKK, hD0, hTK⟩ := hv
  have hK := hKK.1
  have hx := B.exec
  have hb := B.bytes
  have hr := B.returns
  have hts := atoms_spec (ws := wq_c_L_count) B.pre
  have hown : s.vm.findClass RL = some m.cls := findClass_of_methodNamed B.named
  have hlocks := B.notSynchronized
  have htab := vx_table (x := yL_count) B (hts _ List.mem_cons_self)
  subst hsz
  have hD := hD0.self (sz := s.heap.size)
  generalize hAe : va_A [(h0, .inr (15, [.ref q1, .ref q26, .ref q6, .ref q16, .int 0, .int 0, .ref q35, .ref q41, .ref q88, .ref q111, .ref q127, .ref q132, .int 0, .int 0, .ref q134, .ref q136, .ref q138, .ref q140])), (q1, .inr (13, [.ref q2, .int 0, .ref q3, .ref q4, .ref q5, .int 0])), (q41, .inr (3, [.ref q35, .ref q42, .ref q57, .ref q61, .int 0, .ref q6, .ref q65, .ref q66, .ref q67, .ref q68, .ref q69, .ref q70, .ref q71, .ref q72, .ref q73, .int 0, .int 0, .int 0])), (ou, .inl (cy 2, 1, .inr (.inl (fun _ => 0))))] s.heap.size = A at hD hTK ⊢
  have hA : ∀ q : Nat, s.heap.size ≤ q → A q := fun q h => by rw [← hAe]; exact Or.inr h
  obtain ⟨H, hS, hP, hgo⟩ : ∃ H, va_S A s.heap H [] ∧ va_P D vwCl [(h0, .inr (15, [.ref q1, .ref q26, .ref q6, .ref q16, .int 0, .int 0, .ref q35, .ref q41, .ref q88, .ref q111, .ref q127, .ref q132, .int 0, .int 0, .ref q134, .ref q136, .ref q138, .ref q140])), (q1, .inr (13, [.ref q2, .int 0, .ref q3, .ref q4, .ref q5, .int 0])), (q41, .inr (3, [.ref q35, .ref q42, .ref q57, .ref q61, .int 0, .ref q6, .ref q65, .ref q66, .ref q67, .ref q68, .ref q69, .ref q70, .ref q71, .ref q72, .ref q73, .int 0, .int 0, .int 0])), (ou, .inl (cy 2, 1, .inr (.inl (fun _ => 0))))] H ∧ H = s.heap := ⟨s.heap, va_S.rf, hP, rfl⟩
  rw [← hgo]
  have hl := lv_entry ([.ref h0, .int p1, .ref ou]) (n := 4) (Nat.le_of_ble_eq_true rfl)
  rw [lg_entry_eq]
  generalize (lg_sl ([.ref h0, .int p1, .ref ou]) ++ List.replicate (4 - (lg_sl ([.ref h0, .int p1, .ref ou])).length) Slot.unset).toArray = ls at hl ⊢
  have hl : lv_has ls 4 [(0, .ref h0), (1, .int p1), (2, .ref ou)] := hl
  refine lv_aload_n hx hb dL_count_0 rfl (lv_at hl 2 rfl) ?_
  refine lv_iconst (v := 0) hx hb dL_count_1 (by decide) ?_
  refine lv_aload_n hx hb dL_count_2 rfl (lv_at hl 0 rfl) ?_
  refine lv_iload_n hx hb dL_count_3 rfl (lv_at hl 1 rfl) ?_
  have hPc := hP.sub (ws' := [(h0, .inr (15, [.ref q1, .ref q26, .ref q6, .ref q16, .int 0, .int 0, .ref q35, .ref q41, .ref q88, .ref q111, .ref q127, .ref q132, .int 0, .int 0, .ref q134, .ref q136, .ref q138, .ref q140])), (q1, .inr (13, [.ref q2, .int 0, .ref q3, .ref q4, .ref q5, .int 0])), (q41, .inr (3, [.ref q35, .ref q42, .ref q57, .ref q61, .int 0, .ref q6, .ref q65, .ref q66, .ref q67, .ref q68, .ref q69, .ref q70, .ref q71, .ref q72, .ref q73, .int 0, .int 0, .int 0]))]) [0, 1, 2] rfl
  have hDc := hD.sub (ws' := [(h0, .inr (15, [.ref q1, .ref q26, .ref q6, .ref q16, .int 0, .int 0, .ref q35, .ref q41, .ref q88, .ref q111, .ref q127, .ref q132, .int 0, .int 0, .ref q134, .ref q136, .ref q138, .ref q140])), (q1, .inr (13, [.ref q2, .int 0, .ref q3, .ref q4, .ref q5, .int 0])), (q41, .inr (3, [.ref q35, .ref q42, .ref q57, .ref q61, .int 0, .ref q6, .ref q65, .ref q66, .ref q67, .ref q68, .ref q69, .ref q70, .ref q71, .ref q72, .ref q73, .int 0, .int 0, .int 0]))]) [0, 1, 2] (by decide) rfl
  have hFc := va_free (wc := [(h0, .inr (15, [.ref q1, .ref q26, .ref q6, .ref q16, .int 0, .int 0, .ref q35, .ref q41, .ref q88, .ref q111, .ref q127, .ref q132, .int 0, .int 0, .ref q134, .ref q136, .ref q138, .ref q140])), (q1, .inr (13, [.ref q2, .int 0, .ref q3, .ref q4, .ref q5, .int 0])), (q41, .inr (3, [.ref q35, .ref q42, .ref q57, .ref q61, .int 0, .ref q6, .ref q65, .ref q66, .ref q67, .ref q68, .ref q69, .ref q70, .ref q71, .ref q72, .ref q73, .int 0, .int 0, .int 0]))]) hD hS hA [0, 1, 2] rfl
  refine vx_calli (vx_runV (As := [.int p1]) (rest := [.int 0, .ref ou]) ⟨hx, hb, hml, hown, hts⟩ (c_X12_count l D cy h0 q1 q26 q6 q16 q35 q41 q88 q111 q127 q132 q134 q136 q138 q140 q2 q3 q4 q5 q42 q57 q61 q65 q66 q67 q68 q69 q70 q71 q72 q73 p1 H.size hst) (cwV 1 hts g_c_L_count_0 rfl rfl rfl (by decide +kernel) ⟨(Nat.le_of_ble_eq_true rfl), (Nat.le_of_ble_eq_true rfl)⟩) ⟨fun a U g mk q => by obtain ⟨q0, q1, qP, qK, qD, qT⟩ := q; exact ⟨q0, q1, qP, kK.moved (u := U) (U := U.calling g mk a) (Vm.Alike.refl U.vm) qK, qD, tK.same rfl rfl qT⟩, va_recv hK hPc (ci := 15) (q0 := 0) rfl rfl, fun U hU hW => ⟨rfl, by rw [hU], by rw [hU]; exact hPc, kK.moved hW.alike hKK, hDc.weaken (fun _ _ _ _ => trivial), tK.at hTK hS hU hW hFc⟩⟩ rfl rfl hl.1 rfl (lv_room (Nat.le_of_ble_eq_true rfl)) dL_count_4 ⟨(Nat.le_of_ble_eq_true rfl), (Nat.le_of_ble_eq_true rfl)⟩) hS (fun q _ h => hFc q h) hFc (fun q _ h => hFc q h) (fun E9 ce q9 u t H1 locs ht hvm hpx hBX hz1 hk1 hS hce hcv hcl => ?_) (fun r1 u2 t H1 locs ht hvm hw hB hz1 hk1 hS => ?_)
  · skip
    rcases hBX with ⟨rfl, c3⟩ | ⟨rfl, c4, c5⟩
    · skip
      obtain ⟨hP, hD⟩ := va_join (wr := [(ou, .inl (cy 2, 1, .inr (.inl (fun _ => 0))))]) (w1 := []) hP hD [0, 1, 2] [3] rfl rfl (by decide) (by decide) hk1 hFc va_P0 va_D0
      generalize H1 = H at hP hS hce ⊢
      have hP : va_P D vwCl [(ou, .inl (cy 2, 1, .inr (.inl (fun _ => 0))))] H := hP
      have hD : va_D A [(ou, .inl (cy 2, 1, .inr (.inl (fun _ => 0))))] := hD
      refine vx_catch (own := RL) (name := "java/lang/IndexOutOfBoundsException") hown [] ⟨0, 9, 12, 25⟩ [] htab (fun z hz => by cases hz) (by decide) (by decide) (hts (.classLink RL 25 "java/lang/IndexOutOfBoundsException") (List.mem_of_getElem? (i := 1) rfl)) (va_Nw.use rfl (hTK.2.2.1 "java/lang/IndexOutOfBoundsException" (by decide))) hce hcv hcl ?_
      refine W.widen (k := 1) (n := 6) (Nat.le_of_ble_eq_true rfl) (Nat.le_of_ble_eq_true rfl) ?_
      refine lv_astore_n (lv' := [(3, .ref q9), (0, .ref h0), (1, .int p1), (2, .ref ou)]) hx hb dL_count_12 rfl hl (by decide) rfl (fun ls hl => ?_)
      refine lv_iconst (v := 1) hx hb dL_count_13 (by decide) ?_
      refine W.widen (k := 1) (n := 6) (Nat.le_of_ble_eq_true rfl) (Nat.le_of_ble_eq_true rfl) ?_
      exact W.iret (v := 1) hx hb hr (fun t ht hW => ⟨⟨1, 0, rfl, Or.inl (⟨c3, rfl, rfl⟩), (fun _ => 0), by rw [ht]; exact hP.sub [0] rfl, hD.sub [0] (by decide) rfl, rfl⟩, hS.F ht⟩) hS.2.2 dL_count_14
    · skip
      obtain ⟨hP, hD⟩ := va_join (wr := [(ou, .inl (cy 2, 1, .inr (.inl (fun _ => 0))))]) (w1 := []) hP hD [0, 1, 2] [3] rfl rfl (by decide) (by decide) hk1 hFc va_P0 va_D0
      generalize H1 = H at hP hS hce ⊢
      have hP : va_P D vwCl [(ou, .inl (cy 2, 1, .inr (.inl (fun _ => 0))))] H := hP
      have hD : va_D A [(ou, .inl (cy 2, 1, .inr (.inl (fun _ => 0))))] := hD
      refine vx_catch (own := RL) (name := "java/lang/IndexOutOfBoundsException") hown [] ⟨0, 9, 12, 25⟩ [] htab (fun z hz => by cases hz) (by decide) (by decide) (hts (.classLink RL 25 "java/lang/IndexOutOfBoundsException") (List.mem_of_getElem? (i := 1) rfl)) (va_Nw.use rfl (hTK.2.2.1 "java/lang/IndexOutOfBoundsException" (by decide))) hce hcv hcl ?_
      refine W.widen (k := 1) (n := 6) (Nat.le_of_ble_eq_true rfl) (Nat.le_of_ble_eq_true rfl) ?_
      refine lv_astore_n (lv' := [(3, .ref q9), (0, .ref h0), (1, .int p1), (2, .ref ou)]) hx hb dL_count_12 rfl hl (by decide) rfl (fun ls hl => ?_)
      refine lv_iconst (v := 1) hx hb dL_count_13 (by decide) ?_
      refine W.widen (k := 1) (n := 6) (Nat.le_of_ble_eq_true rfl) (Nat.le_of_ble_eq_true rfl) ?_
      exact W.iret (v := 1) hx hb hr (fun t ht hW => ⟨⟨1, 0, rfl, Or.inr (Or.inl (⟨c4, c5, rfl, rfl⟩)), (fun _ => 0), by rw [ht]; exact hP.sub [0] rfl, hD.sub [0] (by decide) rfl, rfl⟩, hS.F ht⟩) hS.2.2 dL_count_14
  · skip
    obtain ⟨hP, hD⟩ := va_join (wr := [(ou, .inl (cy 2, 1, .inr (.inl (fun _ => 0))))]) (w1 := []) hP hD [0, 1, 2] [3] rfl rfl (by decide) (by decide) hk1 hFc va_P0 va_D0
    generalize H1 = H at hP hS ⊢
    have hP : va_P D vwCl [(ou, .inl (cy 2, 1, .inr (.inl (fun _ => 0))))] H := hP
    have hD : va_D A [(ou, .inl (cy 2, 1, .inr (.inl (fun _ => 0))))] := hD
    refine W.widen (k := 1) (n := 6) (Nat.le_of_ble_eq_true rfl) (Nat.le_of_ble_eq_true rfl) ?_
    rcases hw with ⟨c6, c7, c8, c9, rfl⟩ | ⟨c10, c11, c12, c13, rfl⟩ | ⟨c14, c15, c16, c17, rfl⟩
    · skip
      refine lv_i2l (v := 0) hx hb dL_count_7 (by decide) ?_
      refine va_last hx hb hK hP hD hS 0 2 rfl rfl (by unfold vp_in; decide) dL_count_8 (fun H locs hP hD hS => ?_)
      have hP : va_P D vwCl [(ou, .inl (cy 2, 1, .inr (.inl (vp_updL (fun _ => 0) 0 0))))] H := hP
      have hD : va_D A [(ou, .inl (cy 2, 1, .inr (.inl (vp_updL (fun _ => 0) 0 0))))] := hD
      refine lv_goto (tgt := 15) hx hb dL_count_9 (by decide) ?_
      refine lv_iconst (v := 0) hx hb dL_count_15 (by decide) ?_
      refine W.widen (k := 1) (n := 6) (Nat.le_of_ble_eq_true rfl) (Nat.le_of_ble_eq_true rfl) ?_
      exact W.iret (v := 0) hx hb hr (fun t ht hW => ⟨⟨0, 0, rfl, Or.inr (Or.inr (Or.inl (⟨c6, c7, c8, c9, rfl, rfl⟩))), (vp_updL (fun _ => 0) 0 0), by rw [ht]; exact hP.sub [0] rfl, hD.sub [0] (by decide) rfl, rfl⟩, hS.F ht⟩) hS.2.2 dL_count_16
    · skip
      refine lv_i2l (v := 0) hx hb dL_count_7 (by decide) ?_
      refine va_last hx hb hK hP hD hS 0 2 rfl rfl (by unfold vp_in; decide) dL_count_8 (fun H locs hP hD hS => ?_)
      have hP : va_P D vwCl [(ou, .inl (cy 2, 1, .inr (.inl (vp_updL (fun _ => 0) 0 0))))] H := hP
      have hD : va_D A [(ou, .inl (cy 2, 1, .inr (.inl (vp_updL (fun _ => 0) 0 0))))] := hD
      refine lv_goto (tgt := 15) hx hb dL_count_9 (by decide) ?_
      refine lv_iconst (v := 0) hx hb dL_count_15 (by decide) ?_
      refine W.widen (k := 1) (n := 6) (Nat.le_of_ble_eq_true rfl) (Nat.le_of_ble_eq_true rfl) ?_
      exact W.iret (v := 0) hx hb hr (fun t ht hW => ⟨⟨0, 0, rfl, Or.inr (Or.inr (Or.inr (Or.inl (⟨c10, c11, c12, c13, rfl, rfl⟩)))), (vp_updL (fun _ => 0) 0 0), by rw [ht]; exact hP.sub [0] rfl, hD.sub [0] (by decide) rfl, rfl⟩, hS.F ht⟩) hS.2.2 dL_count_16
    · skip
      refine lv_i2l (v := 0) hx hb dL_count_7 (by decide) ?_
      refine va_last hx hb hK hP hD hS 0 2 rfl rfl (by unfold vp_in; decide) dL_count_8 (fun H locs hP hD hS => ?_)
      have hP : va_P D vwCl [(ou, .inl (cy 2, 1, .inr (.inl (vp_updL (fun _ => 0) 0 0))))] H := hP
      have hD : va_D A [(ou, .inl (cy 2, 1, .inr (.inl (vp_updL (fun _ => 0) 0 0))))] := hD
      refine lv_goto (tgt := 15) hx hb dL_count_9 (by decide) ?_
      refine lv_iconst (v := 0) hx hb dL_count_15 (by decide) ?_
      refine W.widen (k := 1) (n := 6) (Nat.le_of_ble_eq_true rfl) (Nat.le_of_ble_eq_true rfl) ?_
      exact W.iret (v := 0) hx hb hr (fun t ht hW => ⟨⟨0, 0, rfl, Or.inr (Or.inr (Or.inr (Or.inr (⟨c14, c15, c16, c17, rfl, rfl⟩)))), (vp_updL (fun _ => 0) 0 0), by rw [ht]; exact hP.sub [0] rfl, hD.sub [0] (by decide) rfl, rfl⟩, hS.F ht⟩) hS.2.2 dL_count_16
def wq_c_L_explore : List Cond := .codeWith yL_explore cL_explore 4 (some .int) [(0, 9, 12, 30), (0, 9, 15, 19)] :: ([.classLink RL 30 "java/lang/IllegalStateException"] ++ (wsV RL 27 RX12 yX12_explore wq_c_X12_explore))
set_option maxRecDepth 100000 in
theorem g_c_L_explore_0 : GoodIn wq_c_L_explore (wsV RL 27 RX12 yX12_explore wq_c_X12_explore) := goodIn_sub (fun w h => List.mem_cons_of_mem _ (List.mem_append_right _ (h))) (by decide +kernel)
set_option maxHeartbeats 4000000 in
set_option maxRecDepth 100000 in
theorem c_L_explore (l : Launch) (D : va_G) (cy : Nat → ClassId) (h0 q1 q26 q6 q16 q35 q41 q88 q111 q127 q132 q134 q136 q138 q140 ou : Nat) (p1 : Int32) (sz : Nat) (hst : l.stackTraces = false) : Met l yL_explore wq_c_L_explore ({ frames := 7, cells := 1, slots := 6, locals := 103 }) (va_Pc [.ref h0, .int p1, .ref ou] (fun U => U.heap.size = sz ∧ va_P D vwCl [(h0, .inr (15, [.ref q1, .ref q26, .ref q6, .ref q16, .int 0, .int 0, .ref q35, .ref q41, .ref q88, .ref q111, .ref q127, .ref q132, .int 0, .int 0, .ref q134, .ref q136, .ref q138, .ref q140])), (ou, .inl (cy 2, 1, .inr (.inl (fun _ => 0))))] U.heap ∧ kK D cy U ∧ va_D (fun _ => True) [(h0, .inr (15, [.ref q1, .ref q26, .ref q6, .ref q16, .int 0, .int 0, .ref q35, .ref q41, .ref q88, .ref q111, .ref q127, .ref q132, .int 0, .int 0, .ref q134, .ref q136, .ref q138, .ref q140])), (ou, .inl (cy 2, 1, .inr (.inl (fun _ => 0))))] ∧ tK (va_A [(h0, .inr (15, [.ref q1, .ref q26, .ref q6, .ref q16, .int 0, .int 0, .ref q35, .ref q41, .ref q88, .ref q111, .ref q127, .ref q132, .int 0, .int 0, .ref q134, .ref q136, .ref q138, .ref q140])), (ou, .inl (cy 2, 1, .inr (.inl (fun _ => 0))))] sz) U)) (va_Qi (fun (r : Int32) (u : Int64) => (r = 1 ∧ u = 0)) (fun (u : Int64) t => ∃ f : Nat → Int64, va_P D vwCl [(ou, .inl (cy 2, 1, .inr (.inl f)))] t.heap ∧ va_D (va_A [(h0, .inr (15, [.ref q1, .ref q26, .ref q6, .ref q16, .int 0, .int 0, .ref q35, .ref q41, .ref q88, .ref q111, .ref q127, .ref q132, .int 0, .int 0, .ref q134, .ref q136, .ref q138, .ref q140])), (ou, .inl (cy 2, 1, .inr (.inl (fun _ => 0))))] sz) [(ou, .inl (cy 2, 1, .inr (.inl f)))] ∧ f 0 = u) (va_A [(h0, .inr (15, [.ref q1, .ref q26, .ref q6, .ref q16, .int 0, .int 0, .ref q35, .ref q41, .ref q88, .ref q111, .ref q127, .ref q132, .int 0, .int 0, .ref q134, .ref q136, .ref q138, .ref q140])), (ou, .inl (cy 2, 1, .inr (.inl (fun _ => 0))))] sz)) 1 6 (va_A [(h0, .inr (15, [.ref q1, .ref q26, .ref q6, .ref q16, .int 0, .int 0, .ref q35, .ref q41, .ref q88, .ref q111, .ref q127, .ref q132, .int 0, .int 0, .ref q134, .ref q136, .ref q138, .ref q140])), (ou, .inl (cy 2, 1, .inr (.inl (fun _ => 0))))] sz) := by
  refine va_MetW (cc := cL_explore) (maxL := 4) (ret := (some .int)) (by decide) rfl ?_
  intro p e s m args below meth c s₁ B hml hv
  obtain ⟨rfl, hsz, hP, hKK, hD0, hTK⟩ := hv
  have hK := hKK.1
  have hx := B.exec
  have hb := B.bytes
  have hr := B.returns
  have hts := atoms_spec (ws := wq_c_L_explore) B.pre
  have hown : s.vm.findClass RL = some m.cls := findClass_of_methodNamed B.named
  have hlocks := B.notSynchronized
  have htab := vx_table (x := yL_explore) B (hts _ List.mem_cons_self)
  subst hsz
  have hD := hD0.self (sz := s.heap.size)
  generalize hAe : va_A [(h0, .inr (15, [.ref q1, .ref q26, .ref q6, .ref q16, .int 0, .int 0, .ref q35, .ref q41, .ref q88, .ref q111, .ref q127, .ref q132, .int 0, .int 0, .ref q134, .ref q136, .ref q138, .ref q140])), (ou, .inl (cy 2, 1, .inr (.inl (fun _ => 0))))] s.heap.size = A at hD hTK ⊢
  have hA : ∀ q : Nat, s.heap.size ≤ q → A q := fun q h => by rw [← hAe]; exact Or.inr h
  obtain ⟨H, hS, hP, hgo⟩ : ∃ H, va_S A s.heap H [] ∧ va_P D vwCl [(h0, .inr (15, [.ref q1, .ref q26, .ref q6, .ref q16, .int 0, .int 0, .ref q35, .ref q41, .ref q88, .ref q111, .ref q127, .ref q132, .int 0, .int 0, .ref q134, .ref q136, .ref q138, .ref q140])), (ou, .inl (cy 2, 1, .inr (.inl (fun _ => 0))))] H ∧ H = s.heap := ⟨s.heap, va_S.rf, hP, rfl⟩
  rw [← hgo]
  have hl := lv_entry ([.ref h0, .int p1, .ref ou]) (n := 4) (Nat.le_of_ble_eq_true rfl)
  rw [lg_entry_eq]
  generalize (lg_sl ([.ref h0, .int p1, .ref ou]) ++ List.replicate (4 - (lg_sl ([.ref h0, .int p1, .ref ou])).length) Slot.unset).toArray = ls at hl ⊢
  have hl : lv_has ls 4 [(0, .ref h0), (1, .int p1), (2, .ref ou)] := hl
  refine lv_aload_n hx hb dL_explore_0 rfl (lv_at hl 2 rfl) ?_
  refine lv_iconst (v := 0) hx hb dL_explore_1 (by decide) ?_
  refine lv_aload_n hx hb dL_explore_2 rfl (lv_at hl 0 rfl) ?_
  refine lv_iload_n hx hb dL_explore_3 rfl (lv_at hl 1 rfl) ?_
  have hPc := hP.sub (ws' := [(h0, .inr (15, [.ref q1, .ref q26, .ref q6, .ref q16, .int 0, .int 0, .ref q35, .ref q41, .ref q88, .ref q111, .ref q127, .ref q132, .int 0, .int 0, .ref q134, .ref q136, .ref q138, .ref q140]))]) [0] rfl
  have hDc := hD.sub (ws' := [(h0, .inr (15, [.ref q1, .ref q26, .ref q6, .ref q16, .int 0, .int 0, .ref q35, .ref q41, .ref q88, .ref q111, .ref q127, .ref q132, .int 0, .int 0, .ref q134, .ref q136, .ref q138, .ref q140]))]) [0] (by decide) rfl
  have hFc := va_free (wc := [(h0, .inr (15, [.ref q1, .ref q26, .ref q6, .ref q16, .int 0, .int 0, .ref q35, .ref q41, .ref q88, .ref q111, .ref q127, .ref q132, .int 0, .int 0, .ref q134, .ref q136, .ref q138, .ref q140]))]) hD hS hA [0] rfl
  refine vx_calli (vx_runV (As := [.int p1]) (rest := [.int 0, .ref ou]) ⟨hx, hb, hml, hown, hts⟩ (c_X12_explore l D cy h0 q1 q26 q6 q16 q35 q41 q88 q111 q127 q132 q134 q136 q138 q140 p1 H.size hst) (cwV 1 hts g_c_L_explore_0 rfl rfl rfl (by decide +kernel) ⟨(Nat.le_of_ble_eq_true rfl), (Nat.le_of_ble_eq_true rfl)⟩) ⟨fun a U g mk q => by obtain ⟨q0, q1, qP, qK, qD, qT⟩ := q; exact ⟨q0, q1, qP, kK.moved (u := U) (U := U.calling g mk a) (Vm.Alike.refl U.vm) qK, qD, tK.same rfl rfl qT⟩, va_recv hK hPc (ci := 15) (q0 := 0) rfl rfl, fun U hU hW => ⟨rfl, by rw [hU], by rw [hU]; exact hPc, kK.moved hW.alike hKK, hDc.weaken (fun _ _ _ _ => trivial), tK.at hTK hS hU hW hFc⟩⟩ rfl rfl hl.1 rfl (lv_room (Nat.le_of_ble_eq_true rfl)) dL_explore_4 ⟨(Nat.le_of_ble_eq_true rfl), (Nat.le_of_ble_eq_true rfl)⟩) hS (fun q _ h => hFc q h) hFc (fun q _ h => hFc q h) (fun E9 ce q9 u t H1 locs ht hvm hpx hBX hz1 hk1 hS hce hcv hcl => ?_) (fun r1 u2 t H1 locs ht hvm hw hB hz1 hk1 hS => ?_)
  · skip
    rcases hBX with rfl
    obtain ⟨hP, hD⟩ := va_join (wr := [(ou, .inl (cy 2, 1, .inr (.inl (fun _ => 0))))]) (w1 := []) hP hD [0] [1] rfl rfl (by decide) (by decide) hk1 hFc va_P0 va_D0
    generalize H1 = H at hP hS hce ⊢
    have hP : va_P D vwCl [(ou, .inl (cy 2, 1, .inr (.inl (fun _ => 0))))] H := hP
    have hD : va_D A [(ou, .inl (cy 2, 1, .inr (.inl (fun _ => 0))))] := hD
    refine vx_catch (own := RL) (name := "java/lang/IllegalStateException") hown [] ⟨0, 9, 12, 30⟩ [⟨0, 9, 15, 19⟩] htab (fun z hz => by cases hz) (by decide) (by decide) (hts (.classLink RL 30 "java/lang/IllegalStateException") (List.mem_of_getElem? (i := 1) rfl)) (va_Nw.use rfl (hTK.2.2.1 "java/lang/IllegalStateException" (by decide))) hce hcv hcl ?_
    refine W.widen (k := 1) (n := 6) (Nat.le_of_ble_eq_true rfl) (Nat.le_of_ble_eq_true rfl) ?_
    refine lv_astore_n (lv' := [(3, .ref q9), (0, .ref h0), (1, .int p1), (2, .ref ou)]) hx hb dL_explore_12 rfl hl (by decide) rfl (fun ls hl => ?_)
    refine lv_iconst (v := 1) hx hb dL_explore_13 (by decide) ?_
    refine W.widen (k := 1) (n := 6) (Nat.le_of_ble_eq_true rfl) (Nat.le_of_ble_eq_true rfl) ?_
    exact W.iret (v := 1) hx hb hr (fun t ht hW => ⟨⟨1, 0, rfl, ⟨rfl, rfl⟩, (fun _ => 0), by rw [ht]; exact hP.sub [0] rfl, hD.sub [0] (by decide) rfl, rfl⟩, hS.F ht⟩) hS.2.2 dL_explore_14
  · skip
    exact hw.elim
def wq_c_L_state : List Cond := .codeWith yL_state cL_state 5 (some .int) [(0, 10, 13, 25)] :: ([.classLink RL 25 "java/lang/IndexOutOfBoundsException"] ++ (wsV RL 32 RX12 yX12_state wq_c_X12_state))
set_option maxRecDepth 100000 in
theorem g_c_L_state_0 : GoodIn wq_c_L_state (wsV RL 32 RX12 yX12_state wq_c_X12_state) := goodIn_sub (fun w h => List.mem_cons_of_mem _ (List.mem_append_right _ (h))) (by decide +kernel)
set_option maxHeartbeats 4000000 in
set_option maxRecDepth 100000 in
theorem c_L_state (l : Launch) (D : va_G) (cy : Nat → ClassId) (h0 q1 q26 q6 q16 q35 q41 q88 q111 q127 q132 q134 q136 q138 q140 q42 q57 q61 q65 q66 q67 q68 q69 q70 q71 q72 q73 ou : Nat) (p1 p2 : Int32) (sz : Nat) (hst : l.stackTraces = false) : Met l yL_state wq_c_L_state ({ frames := 7, cells := 1, slots := 6, locals := 104 }) (va_Pc [.ref h0, .int p1, .int p2, .ref ou] (fun U => U.heap.size = sz ∧ va_P D vwCl [(h0, .inr (15, [.ref q1, .ref q26, .ref q6, .ref q16, .int 0, .int 0, .ref q35, .ref q41, .ref q88, .ref q111, .ref q127, .ref q132, .int 0, .int 0, .ref q134, .ref q136, .ref q138, .ref q140])), (q41, .inr (3, [.ref q35, .ref q42, .ref q57, .ref q61, .int 0, .ref q6, .ref q65, .ref q66, .ref q67, .ref q68, .ref q69, .ref q70, .ref q71, .ref q72, .ref q73, .int 0, .int 0, .int 0])), (ou, .inl (cy 2, 1, .inr (.inl (fun _ => 0))))] U.heap ∧ kK D cy U ∧ va_D (fun _ => True) [(h0, .inr (15, [.ref q1, .ref q26, .ref q6, .ref q16, .int 0, .int 0, .ref q35, .ref q41, .ref q88, .ref q111, .ref q127, .ref q132, .int 0, .int 0, .ref q134, .ref q136, .ref q138, .ref q140])), (q41, .inr (3, [.ref q35, .ref q42, .ref q57, .ref q61, .int 0, .ref q6, .ref q65, .ref q66, .ref q67, .ref q68, .ref q69, .ref q70, .ref q71, .ref q72, .ref q73, .int 0, .int 0, .int 0])), (ou, .inl (cy 2, 1, .inr (.inl (fun _ => 0))))] ∧ tK (va_A [(h0, .inr (15, [.ref q1, .ref q26, .ref q6, .ref q16, .int 0, .int 0, .ref q35, .ref q41, .ref q88, .ref q111, .ref q127, .ref q132, .int 0, .int 0, .ref q134, .ref q136, .ref q138, .ref q140])), (q41, .inr (3, [.ref q35, .ref q42, .ref q57, .ref q61, .int 0, .ref q6, .ref q65, .ref q66, .ref q67, .ref q68, .ref q69, .ref q70, .ref q71, .ref q72, .ref q73, .int 0, .int 0, .int 0])), (ou, .inl (cy 2, 1, .inr (.inl (fun _ => 0))))] sz) U)) (va_Qi (fun (r : Int32) (u : Int64) => (r = 1 ∧ u = 0)) (fun (u : Int64) t => ∃ f : Nat → Int64, va_P D vwCl [(ou, .inl (cy 2, 1, .inr (.inl f)))] t.heap ∧ va_D (va_A [(h0, .inr (15, [.ref q1, .ref q26, .ref q6, .ref q16, .int 0, .int 0, .ref q35, .ref q41, .ref q88, .ref q111, .ref q127, .ref q132, .int 0, .int 0, .ref q134, .ref q136, .ref q138, .ref q140])), (q41, .inr (3, [.ref q35, .ref q42, .ref q57, .ref q61, .int 0, .ref q6, .ref q65, .ref q66, .ref q67, .ref q68, .ref q69, .ref q70, .ref q71, .ref q72, .ref q73, .int 0, .int 0, .int 0])), (ou, .inl (cy 2, 1, .inr (.inl (fun _ => 0))))] sz) [(ou, .inl (cy 2, 1, .inr (.inl f)))] ∧ f 0 = u) (va_A [(h0, .inr (15, [.ref q1, .ref q26, .ref q6, .ref q16, .int 0, .int 0, .ref q35, .ref q41, .ref q88, .ref q111, .ref q127, .ref q132, .int 0, .int 0, .ref q134, .ref q136, .ref q138, .ref q140])), (q41, .inr (3, [.ref q35, .ref q42, .ref q57, .ref q61, .int 0, .ref q6, .ref q65, .ref q66, .ref q67, .ref q68, .ref q69, .ref q70, .ref q71, .ref q72, .ref q73, .int 0, .int 0, .int 0])), (ou, .inl (cy 2, 1, .inr (.inl (fun _ => 0))))] sz)) 1 6 (va_A [(h0, .inr (15, [.ref q1, .ref q26, .ref q6, .ref q16, .int 0, .int 0, .ref q35, .ref q41, .ref q88, .ref q111, .ref q127, .ref q132, .int 0, .int 0, .ref q134, .ref q136, .ref q138, .ref q140])), (q41, .inr (3, [.ref q35, .ref q42, .ref q57, .ref q61, .int 0, .ref q6, .ref q65, .ref q66, .ref q67, .ref q68, .ref q69, .ref q70, .ref q71, .ref q72, .ref q73, .int 0, .int 0, .int 0])), (ou, .inl (cy 2, 1, .inr (.inl (fun _ => 0))))] sz) := by
  refine va_MetW (cc := cL_state) (maxL := 5) (ret := (some .int)) (by decide) rfl ?_
  intro p e s m args below meth c s₁ B hml hv
  obtain ⟨rfl, hsz, hP, hKK, hD0, hTK⟩ := hv
  have hK := hKK.1
  have hx := B.exec
  have hb := B.bytes
  have hr := B.returns
  have hts := atoms_spec (ws := wq_c_L_state) B.pre
  have hown : s.vm.findClass RL = some m.cls := findClass_of_methodNamed B.named
  have hlocks := B.notSynchronized
  have htab := vx_table (x := yL_state) B (hts _ List.mem_cons_self)
  subst hsz
  have hD := hD0.self (sz := s.heap.size)
  generalize hAe : va_A [(h0, .inr (15, [.ref q1, .ref q26, .ref q6, .ref q16, .int 0, .int 0, .ref q35, .ref q41, .ref q88, .ref q111, .ref q127, .ref q132, .int 0, .int 0, .ref q134, .ref q136, .ref q138, .ref q140])), (q41, .inr (3, [.ref q35, .ref q42, .ref q57, .ref q61, .int 0, .ref q6, .ref q65, .ref q66, .ref q67, .ref q68, .ref q69, .ref q70, .ref q71, .ref q72, .ref q73, .int 0, .int 0, .int 0])), (ou, .inl (cy 2, 1, .inr (.inl (fun _ => 0))))] s.heap.size = A at hD hTK ⊢
  have hA : ∀ q : Nat, s.heap.size ≤ q → A q := fun q h => by rw [← hAe]; exact Or.inr h
  obtain ⟨H, hS, hP, hgo⟩ : ∃ H, va_S A s.heap H [] ∧ va_P D vwCl [(h0, .inr (15, [.ref q1, .ref q26, .ref q6, .ref q16, .int 0, .int 0, .ref q35, .ref q41, .ref q88, .ref q111, .ref q127, .ref q132, .int 0, .int 0, .ref q134, .ref q136, .ref q138, .ref q140])), (q41, .inr (3, [.ref q35, .ref q42, .ref q57, .ref q61, .int 0, .ref q6, .ref q65, .ref q66, .ref q67, .ref q68, .ref q69, .ref q70, .ref q71, .ref q72, .ref q73, .int 0, .int 0, .int 0])), (ou, .inl (cy 2, 1, .inr (.inl (fun _ => 0))))] H ∧ H = s.heap := ⟨s.heap, va_S.rf, hP, rfl⟩
  rw [← hgo]
  have hl := lv_entry ([.ref h0, .int p1, .int p2, .ref ou]) (n := 5) (Nat.le_of_ble_eq_true rfl)
  rw [lg_entry_eq]
  generalize (lg_sl ([.ref h0, .int p1, .int p2, .ref ou]) ++ List.replicate (5 - (lg_sl ([.ref h0, .int p1, .int p2, .ref ou])).length) Slot.unset).toArray = ls at hl ⊢
  have hl : lv_has ls 5 [(0, .ref h0), (1, .int p1), (2, .int p2), (3, .ref ou)] := hl
  refine lv_aload_n hx hb dL_state_0 rfl (lv_at hl 3 rfl) ?_
  refine lv_iconst (v := 0) hx hb dL_state_1 (by decide) ?_
  refine lv_aload_n hx hb dL_state_2 rfl (lv_at hl 0 rfl) ?_
  refine lv_iload_n hx hb dL_state_3 rfl (lv_at hl 1 rfl) ?_
  refine lv_iload_n hx hb dL_state_4 rfl (lv_at hl 2 rfl) ?_
  have hPc := hP.sub (ws' := [(h0, .inr (15, [.ref q1, .ref q26, .ref q6, .ref q16, .int 0, .int 0, .ref q35, .ref q41, .ref q88, .ref q111, .ref q127, .ref q132, .int 0, .int 0, .ref q134, .ref q136, .ref q138, .ref q140])), (q41, .inr (3, [.ref q35, .ref q42, .ref q57, .ref q61, .int 0, .ref q6, .ref q65, .ref q66, .ref q67, .ref q68, .ref q69, .ref q70, .ref q71, .ref q72, .ref q73, .int 0, .int 0, .int 0]))]) [0, 1] rfl
  have hDc := hD.sub (ws' := [(h0, .inr (15, [.ref q1, .ref q26, .ref q6, .ref q16, .int 0, .int 0, .ref q35, .ref q41, .ref q88, .ref q111, .ref q127, .ref q132, .int 0, .int 0, .ref q134, .ref q136, .ref q138, .ref q140])), (q41, .inr (3, [.ref q35, .ref q42, .ref q57, .ref q61, .int 0, .ref q6, .ref q65, .ref q66, .ref q67, .ref q68, .ref q69, .ref q70, .ref q71, .ref q72, .ref q73, .int 0, .int 0, .int 0]))]) [0, 1] (by decide) rfl
  have hFc := va_free (wc := [(h0, .inr (15, [.ref q1, .ref q26, .ref q6, .ref q16, .int 0, .int 0, .ref q35, .ref q41, .ref q88, .ref q111, .ref q127, .ref q132, .int 0, .int 0, .ref q134, .ref q136, .ref q138, .ref q140])), (q41, .inr (3, [.ref q35, .ref q42, .ref q57, .ref q61, .int 0, .ref q6, .ref q65, .ref q66, .ref q67, .ref q68, .ref q69, .ref q70, .ref q71, .ref q72, .ref q73, .int 0, .int 0, .int 0]))]) hD hS hA [0, 1] rfl
  refine vx_calli (vx_runV (As := [.int p1, .int p2]) (rest := [.int 0, .ref ou]) ⟨hx, hb, hml, hown, hts⟩ (c_X12_state l D cy h0 q1 q26 q6 q16 q35 q41 q88 q111 q127 q132 q134 q136 q138 q140 q42 q57 q61 q65 q66 q67 q68 q69 q70 q71 q72 q73 p1 p2 H.size hst) (cwV 2 hts g_c_L_state_0 rfl rfl rfl (by decide +kernel) ⟨(Nat.le_of_ble_eq_true rfl), (Nat.le_of_ble_eq_true rfl)⟩) ⟨fun a U g mk q => by obtain ⟨q0, q1, qP, qK, qD, qT⟩ := q; exact ⟨q0, q1, qP, kK.moved (u := U) (U := U.calling g mk a) (Vm.Alike.refl U.vm) qK, qD, tK.same rfl rfl qT⟩, va_recv hK hPc (ci := 15) (q0 := 0) rfl rfl, fun U hU hW => ⟨rfl, by rw [hU], by rw [hU]; exact hPc, kK.moved hW.alike hKK, hDc.weaken (fun _ _ _ _ => trivial), tK.at hTK hS hU hW hFc⟩⟩ rfl rfl hl.1 rfl (lv_room (Nat.le_of_ble_eq_true rfl)) dL_state_5 ⟨(Nat.le_of_ble_eq_true rfl), (Nat.le_of_ble_eq_true rfl)⟩) hS (fun q _ h => hFc q h) hFc (fun q _ h => hFc q h) (fun E9 ce q9 u t H1 locs ht hvm hpx hBX hz1 hk1 hS hce hcv hcl => ?_) (fun r1 u2 t H1 locs ht hvm hw hB hz1 hk1 hS => ?_)
  · skip
    rcases hBX with rfl
    obtain ⟨hP, hD⟩ := va_join (wr := [(ou, .inl (cy 2, 1, .inr (.inl (fun _ => 0))))]) (w1 := []) hP hD [0, 1] [2] rfl rfl (by decide) (by decide) hk1 hFc va_P0 va_D0
    generalize H1 = H at hP hS hce ⊢
    have hP : va_P D vwCl [(ou, .inl (cy 2, 1, .inr (.inl (fun _ => 0))))] H := hP
    have hD : va_D A [(ou, .inl (cy 2, 1, .inr (.inl (fun _ => 0))))] := hD
    refine vx_catch (own := RL) (name := "java/lang/IndexOutOfBoundsException") hown [] ⟨0, 10, 13, 25⟩ [] htab (fun z hz => by cases hz) (by decide) (by decide) (hts (.classLink RL 25 "java/lang/IndexOutOfBoundsException") (List.mem_of_getElem? (i := 1) rfl)) (va_Nw.use rfl (hTK.2.2.1 "java/lang/IndexOutOfBoundsException" (by decide))) hce hcv hcl ?_
    refine W.widen (k := 1) (n := 6) (Nat.le_of_ble_eq_true rfl) (Nat.le_of_ble_eq_true rfl) ?_
    refine lv_astore (lv' := [(4, .ref q9), (0, .ref h0), (1, .int p1), (2, .int p2), (3, .ref ou)]) hx hb dL_state_13 hl (by decide) rfl (fun ls hl => ?_)
    refine lv_iconst (v := 1) hx hb dL_state_15 (by decide) ?_
    refine W.widen (k := 1) (n := 6) (Nat.le_of_ble_eq_true rfl) (Nat.le_of_ble_eq_true rfl) ?_
    exact W.iret (v := 1) hx hb hr (fun t ht hW => ⟨⟨1, 0, rfl, ⟨rfl, rfl⟩, (fun _ => 0), by rw [ht]; exact hP.sub [0] rfl, hD.sub [0] (by decide) rfl, rfl⟩, hS.F ht⟩) hS.2.2 dL_state_16
  · skip
    exact hw.elim
def wq_c_L_value : List Cond := .codeWith yL_value cL_value 6 (some .int) [(0, 12, 15, 25)] :: ([.classLink RL 25 "java/lang/IndexOutOfBoundsException"] ++ (wsV RL 36 RX12 yX12_value wq_c_X12_value))
set_option maxRecDepth 100000 in
theorem g_c_L_value_0 : GoodIn wq_c_L_value (wsV RL 36 RX12 yX12_value wq_c_X12_value) := goodIn_sub (fun w h => List.mem_cons_of_mem _ (List.mem_append_right _ (h))) (by decide +kernel)
set_option maxHeartbeats 4000000 in
set_option maxRecDepth 100000 in
theorem c_L_value (l : Launch) (D : va_G) (cy : Nat → ClassId) (h0 q1 q26 q6 q16 q35 q41 q88 q111 q127 q132 q134 q136 q138 q140 q42 q57 q61 q65 q66 q67 q68 q69 q70 q71 q72 q73 ou : Nat) (p1 p2 p3 : Int32) (sz : Nat) (hst : l.stackTraces = false) : Met l yL_value wq_c_L_value ({ frames := 7, cells := 1, slots := 6, locals := 105 }) (va_Pc [.ref h0, .int p1, .int p2, .int p3, .ref ou] (fun U => U.heap.size = sz ∧ va_P D vwCl [(h0, .inr (15, [.ref q1, .ref q26, .ref q6, .ref q16, .int 0, .int 0, .ref q35, .ref q41, .ref q88, .ref q111, .ref q127, .ref q132, .int 0, .int 0, .ref q134, .ref q136, .ref q138, .ref q140])), (q41, .inr (3, [.ref q35, .ref q42, .ref q57, .ref q61, .int 0, .ref q6, .ref q65, .ref q66, .ref q67, .ref q68, .ref q69, .ref q70, .ref q71, .ref q72, .ref q73, .int 0, .int 0, .int 0])), (ou, .inl (cy 2, 1, .inr (.inl (fun _ => 0))))] U.heap ∧ kK D cy U ∧ va_D (fun _ => True) [(h0, .inr (15, [.ref q1, .ref q26, .ref q6, .ref q16, .int 0, .int 0, .ref q35, .ref q41, .ref q88, .ref q111, .ref q127, .ref q132, .int 0, .int 0, .ref q134, .ref q136, .ref q138, .ref q140])), (q41, .inr (3, [.ref q35, .ref q42, .ref q57, .ref q61, .int 0, .ref q6, .ref q65, .ref q66, .ref q67, .ref q68, .ref q69, .ref q70, .ref q71, .ref q72, .ref q73, .int 0, .int 0, .int 0])), (ou, .inl (cy 2, 1, .inr (.inl (fun _ => 0))))] ∧ tK (va_A [(h0, .inr (15, [.ref q1, .ref q26, .ref q6, .ref q16, .int 0, .int 0, .ref q35, .ref q41, .ref q88, .ref q111, .ref q127, .ref q132, .int 0, .int 0, .ref q134, .ref q136, .ref q138, .ref q140])), (q41, .inr (3, [.ref q35, .ref q42, .ref q57, .ref q61, .int 0, .ref q6, .ref q65, .ref q66, .ref q67, .ref q68, .ref q69, .ref q70, .ref q71, .ref q72, .ref q73, .int 0, .int 0, .int 0])), (ou, .inl (cy 2, 1, .inr (.inl (fun _ => 0))))] sz) U)) (va_Qi (fun (r : Int32) (u : Int64) => (r = 1 ∧ u = 0)) (fun (u : Int64) t => ∃ f : Nat → Int64, va_P D vwCl [(ou, .inl (cy 2, 1, .inr (.inl f)))] t.heap ∧ va_D (va_A [(h0, .inr (15, [.ref q1, .ref q26, .ref q6, .ref q16, .int 0, .int 0, .ref q35, .ref q41, .ref q88, .ref q111, .ref q127, .ref q132, .int 0, .int 0, .ref q134, .ref q136, .ref q138, .ref q140])), (q41, .inr (3, [.ref q35, .ref q42, .ref q57, .ref q61, .int 0, .ref q6, .ref q65, .ref q66, .ref q67, .ref q68, .ref q69, .ref q70, .ref q71, .ref q72, .ref q73, .int 0, .int 0, .int 0])), (ou, .inl (cy 2, 1, .inr (.inl (fun _ => 0))))] sz) [(ou, .inl (cy 2, 1, .inr (.inl f)))] ∧ f 0 = u) (va_A [(h0, .inr (15, [.ref q1, .ref q26, .ref q6, .ref q16, .int 0, .int 0, .ref q35, .ref q41, .ref q88, .ref q111, .ref q127, .ref q132, .int 0, .int 0, .ref q134, .ref q136, .ref q138, .ref q140])), (q41, .inr (3, [.ref q35, .ref q42, .ref q57, .ref q61, .int 0, .ref q6, .ref q65, .ref q66, .ref q67, .ref q68, .ref q69, .ref q70, .ref q71, .ref q72, .ref q73, .int 0, .int 0, .int 0])), (ou, .inl (cy 2, 1, .inr (.inl (fun _ => 0))))] sz)) 1 6 (va_A [(h0, .inr (15, [.ref q1, .ref q26, .ref q6, .ref q16, .int 0, .int 0, .ref q35, .ref q41, .ref q88, .ref q111, .ref q127, .ref q132, .int 0, .int 0, .ref q134, .ref q136, .ref q138, .ref q140])), (q41, .inr (3, [.ref q35, .ref q42, .ref q57, .ref q61, .int 0, .ref q6, .ref q65, .ref q66, .ref q67, .ref q68, .ref q69, .ref q70, .ref q71, .ref q72, .ref q73, .int 0, .int 0, .int 0])), (ou, .inl (cy 2, 1, .inr (.inl (fun _ => 0))))] sz) := by
  refine va_MetW (cc := cL_value) (maxL := 6) (ret := (some .int)) (by decide) rfl ?_
  intro p e s m args below meth c s₁ B hml hv
  obtain ⟨rfl, hsz, hP, hKK, hD0, hTK⟩ := hv
  have hK := hKK.1
  have hx := B.exec
  have hb := B.bytes
  have hr := B.returns
  have hts := atoms_spec (ws := wq_c_L_value) B.pre
  have hown : s.vm.findClass RL = some m.cls := findClass_of_methodNamed B.named
  have hlocks := B.notSynchronized
  have htab := vx_table (x := yL_value) B (hts _ List.mem_cons_self)
  subst hsz
  have hD := hD0.self (sz := s.heap.size)
  generalize hAe : va_A [(h0, .inr (15, [.ref q1, .ref q26, .ref q6, .ref q16, .int 0, .int 0, .ref q35, .ref q41, .ref q88, .ref q111, .ref q127, .ref q132, .int 0, .int 0, .ref q134, .ref q136, .ref q138, .ref q140])), (q41, .inr (3, [.ref q35, .ref q42, .ref q57, .ref q61, .int 0, .ref q6, .ref q65, .ref q66, .ref q67, .ref q68, .ref q69, .ref q70, .ref q71, .ref q72, .ref q73, .int 0, .int 0, .int 0])), (ou, .inl (cy 2, 1, .inr (.inl (fun _ => 0))))] s.heap.size = A at hD hTK ⊢
  have hA : ∀ q : Nat, s.heap.size ≤ q → A q := fun q h => by rw [← hAe]; exact Or.inr h
  obtain ⟨H, hS, hP, hgo⟩ : ∃ H, va_S A s.heap H [] ∧ va_P D vwCl [(h0, .inr (15, [.ref q1, .ref q26, .ref q6, .ref q16, .int 0, .int 0, .ref q35, .ref q41, .ref q88, .ref q111, .ref q127, .ref q132, .int 0, .int 0, .ref q134, .ref q136, .ref q138, .ref q140])), (q41, .inr (3, [.ref q35, .ref q42, .ref q57, .ref q61, .int 0, .ref q6, .ref q65, .ref q66, .ref q67, .ref q68, .ref q69, .ref q70, .ref q71, .ref q72, .ref q73, .int 0, .int 0, .int 0])), (ou, .inl (cy 2, 1, .inr (.inl (fun _ => 0))))] H ∧ H = s.heap := ⟨s.heap, va_S.rf, hP, rfl⟩
  rw [← hgo]
  have hl := lv_entry ([.ref h0, .int p1, .int p2, .int p3, .ref ou]) (n := 6) (Nat.le_of_ble_eq_true rfl)
  rw [lg_entry_eq]
  generalize (lg_sl ([.ref h0, .int p1, .int p2, .int p3, .ref ou]) ++ List.replicate (6 - (lg_sl ([.ref h0, .int p1, .int p2, .int p3, .ref ou])).length) Slot.unset).toArray = ls at hl ⊢
  have hl : lv_has ls 6 [(0, .ref h0), (1, .int p1), (2, .int p2), (3, .int p3), (4, .ref ou)] := hl
  refine lv_aload hx hb dL_value_0 (lv_at hl 4 rfl) ?_
  refine lv_iconst (v := 0) hx hb dL_value_2 (by decide) ?_
  refine lv_aload_n hx hb dL_value_3 rfl (lv_at hl 0 rfl) ?_
  refine lv_iload_n hx hb dL_value_4 rfl (lv_at hl 1 rfl) ?_
  refine lv_iload_n hx hb dL_value_5 rfl (lv_at hl 2 rfl) ?_
  refine lv_iload_n hx hb dL_value_6 rfl (lv_at hl 3 rfl) ?_
  have hPc := hP.sub (ws' := [(h0, .inr (15, [.ref q1, .ref q26, .ref q6, .ref q16, .int 0, .int 0, .ref q35, .ref q41, .ref q88, .ref q111, .ref q127, .ref q132, .int 0, .int 0, .ref q134, .ref q136, .ref q138, .ref q140])), (q41, .inr (3, [.ref q35, .ref q42, .ref q57, .ref q61, .int 0, .ref q6, .ref q65, .ref q66, .ref q67, .ref q68, .ref q69, .ref q70, .ref q71, .ref q72, .ref q73, .int 0, .int 0, .int 0]))]) [0, 1] rfl
  have hDc := hD.sub (ws' := [(h0, .inr (15, [.ref q1, .ref q26, .ref q6, .ref q16, .int 0, .int 0, .ref q35, .ref q41, .ref q88, .ref q111, .ref q127, .ref q132, .int 0, .int 0, .ref q134, .ref q136, .ref q138, .ref q140])), (q41, .inr (3, [.ref q35, .ref q42, .ref q57, .ref q61, .int 0, .ref q6, .ref q65, .ref q66, .ref q67, .ref q68, .ref q69, .ref q70, .ref q71, .ref q72, .ref q73, .int 0, .int 0, .int 0]))]) [0, 1] (by decide) rfl
  have hFc := va_free (wc := [(h0, .inr (15, [.ref q1, .ref q26, .ref q6, .ref q16, .int 0, .int 0, .ref q35, .ref q41, .ref q88, .ref q111, .ref q127, .ref q132, .int 0, .int 0, .ref q134, .ref q136, .ref q138, .ref q140])), (q41, .inr (3, [.ref q35, .ref q42, .ref q57, .ref q61, .int 0, .ref q6, .ref q65, .ref q66, .ref q67, .ref q68, .ref q69, .ref q70, .ref q71, .ref q72, .ref q73, .int 0, .int 0, .int 0]))]) hD hS hA [0, 1] rfl
  refine vx_calli (vx_runV (As := [.int p1, .int p2, .int p3]) (rest := [.int 0, .ref ou]) ⟨hx, hb, hml, hown, hts⟩ (c_X12_value l D cy h0 q1 q26 q6 q16 q35 q41 q88 q111 q127 q132 q134 q136 q138 q140 q42 q57 q61 q65 q66 q67 q68 q69 q70 q71 q72 q73 p1 p2 p3 H.size hst) (cwV 3 hts g_c_L_value_0 rfl rfl rfl (by decide +kernel) ⟨(Nat.le_of_ble_eq_true rfl), (Nat.le_of_ble_eq_true rfl)⟩) ⟨fun a U g mk q => by obtain ⟨q0, q1, qP, qK, qD, qT⟩ := q; exact ⟨q0, q1, qP, kK.moved (u := U) (U := U.calling g mk a) (Vm.Alike.refl U.vm) qK, qD, tK.same rfl rfl qT⟩, va_recv hK hPc (ci := 15) (q0 := 0) rfl rfl, fun U hU hW => ⟨rfl, by rw [hU], by rw [hU]; exact hPc, kK.moved hW.alike hKK, hDc.weaken (fun _ _ _ _ => trivial), tK.at hTK hS hU hW hFc⟩⟩ rfl rfl hl.1 rfl (lv_room (Nat.le_of_ble_eq_true rfl)) dL_value_7 ⟨(Nat.le_of_ble_eq_true rfl), (Nat.le_of_ble_eq_true rfl)⟩) hS (fun q _ h => hFc q h) hFc (fun q _ h => hFc q h) (fun E9 ce q9 u t H1 locs ht hvm hpx hBX hz1 hk1 hS hce hcv hcl => ?_) (fun r1 u2 t H1 locs ht hvm hw hB hz1 hk1 hS => ?_)
  · skip
    rcases hBX with rfl
    obtain ⟨hP, hD⟩ := va_join (wr := [(ou, .inl (cy 2, 1, .inr (.inl (fun _ => 0))))]) (w1 := []) hP hD [0, 1] [2] rfl rfl (by decide) (by decide) hk1 hFc va_P0 va_D0
    generalize H1 = H at hP hS hce ⊢
    have hP : va_P D vwCl [(ou, .inl (cy 2, 1, .inr (.inl (fun _ => 0))))] H := hP
    have hD : va_D A [(ou, .inl (cy 2, 1, .inr (.inl (fun _ => 0))))] := hD
    refine vx_catch (own := RL) (name := "java/lang/IndexOutOfBoundsException") hown [] ⟨0, 12, 15, 25⟩ [] htab (fun z hz => by cases hz) (by decide) (by decide) (hts (.classLink RL 25 "java/lang/IndexOutOfBoundsException") (List.mem_of_getElem? (i := 1) rfl)) (va_Nw.use rfl (hTK.2.2.1 "java/lang/IndexOutOfBoundsException" (by decide))) hce hcv hcl ?_
    refine W.widen (k := 1) (n := 6) (Nat.le_of_ble_eq_true rfl) (Nat.le_of_ble_eq_true rfl) ?_
    refine lv_astore (lv' := [(5, .ref q9), (0, .ref h0), (1, .int p1), (2, .int p2), (3, .int p3), (4, .ref ou)]) hx hb dL_value_15 hl (by decide) rfl (fun ls hl => ?_)
    refine lv_iconst (v := 1) hx hb dL_value_17 (by decide) ?_
    refine W.widen (k := 1) (n := 6) (Nat.le_of_ble_eq_true rfl) (Nat.le_of_ble_eq_true rfl) ?_
    exact W.iret (v := 1) hx hb hr (fun t ht hW => ⟨⟨1, 0, rfl, ⟨rfl, rfl⟩, (fun _ => 0), by rw [ht]; exact hP.sub [0] rfl, hD.sub [0] (by decide) rfl, rfl⟩, hS.F ht⟩) hS.2.2 dL_value_18
  · skip
    exact hw.elim
def wq_c_L_next : List Cond := .codeWith yL_next cL_next 6 (some .int) [(0, 12, 15, 25)] :: ([.classLink RL 25 "java/lang/IndexOutOfBoundsException"] ++ (wsV RL 40 RX12 yX12_next wq_c_X12_next))
set_option maxRecDepth 100000 in
theorem g_c_L_next_0 : GoodIn wq_c_L_next (wsV RL 40 RX12 yX12_next wq_c_X12_next) := goodIn_sub (fun w h => List.mem_cons_of_mem _ (List.mem_append_right _ (h))) (by decide +kernel)
set_option maxHeartbeats 4000000 in
set_option maxRecDepth 100000 in
theorem c_L_next (l : Launch) (D : va_G) (cy : Nat → ClassId) (h0 q1 q26 q6 q16 q35 q41 q88 q111 q127 q132 q134 q136 q138 q140 q42 q57 q61 q65 q66 q67 q68 q69 q70 q71 q72 q73 ou : Nat) (p1 p2 p3 : Int32) (sz : Nat) (hst : l.stackTraces = false) : Met l yL_next wq_c_L_next ({ frames := 7, cells := 1, slots := 6, locals := 106 }) (va_Pc [.ref h0, .int p1, .int p2, .int p3, .ref ou] (fun U => U.heap.size = sz ∧ va_P D vwCl [(h0, .inr (15, [.ref q1, .ref q26, .ref q6, .ref q16, .int 0, .int 0, .ref q35, .ref q41, .ref q88, .ref q111, .ref q127, .ref q132, .int 0, .int 0, .ref q134, .ref q136, .ref q138, .ref q140])), (q41, .inr (3, [.ref q35, .ref q42, .ref q57, .ref q61, .int 0, .ref q6, .ref q65, .ref q66, .ref q67, .ref q68, .ref q69, .ref q70, .ref q71, .ref q72, .ref q73, .int 0, .int 0, .int 0])), (ou, .inl (cy 2, 1, .inr (.inl (fun _ => 0))))] U.heap ∧ kK D cy U ∧ va_D (fun _ => True) [(h0, .inr (15, [.ref q1, .ref q26, .ref q6, .ref q16, .int 0, .int 0, .ref q35, .ref q41, .ref q88, .ref q111, .ref q127, .ref q132, .int 0, .int 0, .ref q134, .ref q136, .ref q138, .ref q140])), (q41, .inr (3, [.ref q35, .ref q42, .ref q57, .ref q61, .int 0, .ref q6, .ref q65, .ref q66, .ref q67, .ref q68, .ref q69, .ref q70, .ref q71, .ref q72, .ref q73, .int 0, .int 0, .int 0])), (ou, .inl (cy 2, 1, .inr (.inl (fun _ => 0))))] ∧ tK (va_A [(h0, .inr (15, [.ref q1, .ref q26, .ref q6, .ref q16, .int 0, .int 0, .ref q35, .ref q41, .ref q88, .ref q111, .ref q127, .ref q132, .int 0, .int 0, .ref q134, .ref q136, .ref q138, .ref q140])), (q41, .inr (3, [.ref q35, .ref q42, .ref q57, .ref q61, .int 0, .ref q6, .ref q65, .ref q66, .ref q67, .ref q68, .ref q69, .ref q70, .ref q71, .ref q72, .ref q73, .int 0, .int 0, .int 0])), (ou, .inl (cy 2, 1, .inr (.inl (fun _ => 0))))] sz) U)) (va_Qi (fun (r : Int32) (u : Int64) => (r = 1 ∧ u = 0)) (fun (u : Int64) t => ∃ f : Nat → Int64, va_P D vwCl [(ou, .inl (cy 2, 1, .inr (.inl f)))] t.heap ∧ va_D (va_A [(h0, .inr (15, [.ref q1, .ref q26, .ref q6, .ref q16, .int 0, .int 0, .ref q35, .ref q41, .ref q88, .ref q111, .ref q127, .ref q132, .int 0, .int 0, .ref q134, .ref q136, .ref q138, .ref q140])), (q41, .inr (3, [.ref q35, .ref q42, .ref q57, .ref q61, .int 0, .ref q6, .ref q65, .ref q66, .ref q67, .ref q68, .ref q69, .ref q70, .ref q71, .ref q72, .ref q73, .int 0, .int 0, .int 0])), (ou, .inl (cy 2, 1, .inr (.inl (fun _ => 0))))] sz) [(ou, .inl (cy 2, 1, .inr (.inl f)))] ∧ f 0 = u) (va_A [(h0, .inr (15, [.ref q1, .ref q26, .ref q6, .ref q16, .int 0, .int 0, .ref q35, .ref q41, .ref q88, .ref q111, .ref q127, .ref q132, .int 0, .int 0, .ref q134, .ref q136, .ref q138, .ref q140])), (q41, .inr (3, [.ref q35, .ref q42, .ref q57, .ref q61, .int 0, .ref q6, .ref q65, .ref q66, .ref q67, .ref q68, .ref q69, .ref q70, .ref q71, .ref q72, .ref q73, .int 0, .int 0, .int 0])), (ou, .inl (cy 2, 1, .inr (.inl (fun _ => 0))))] sz)) 1 6 (va_A [(h0, .inr (15, [.ref q1, .ref q26, .ref q6, .ref q16, .int 0, .int 0, .ref q35, .ref q41, .ref q88, .ref q111, .ref q127, .ref q132, .int 0, .int 0, .ref q134, .ref q136, .ref q138, .ref q140])), (q41, .inr (3, [.ref q35, .ref q42, .ref q57, .ref q61, .int 0, .ref q6, .ref q65, .ref q66, .ref q67, .ref q68, .ref q69, .ref q70, .ref q71, .ref q72, .ref q73, .int 0, .int 0, .int 0])), (ou, .inl (cy 2, 1, .inr (.inl (fun _ => 0))))] sz) := by
  refine va_MetW (cc := cL_next) (maxL := 6) (ret := (some .int)) (by decide) rfl ?_
  intro p e s m args below meth c s₁ B hml hv
  obtain ⟨rfl, hsz, hP, hKK, hD0, hTK⟩ := hv
  have hK := hKK.1
  have hx := B.exec
  have hb := B.bytes
  have hr := B.returns
  have hts := atoms_spec (ws := wq_c_L_next) B.pre
  have hown : s.vm.findClass RL = some m.cls := findClass_of_methodNamed B.named
  have hlocks := B.notSynchronized
  have htab := vx_table (x := yL_next) B (hts _ List.mem_cons_self)
  subst hsz
  have hD := hD0.self (sz := s.heap.size)
  generalize hAe : va_A [(h0, .inr (15, [.ref q1, .ref q26, .ref q6, .ref q16, .int 0, .int 0, .ref q35, .ref q41, .ref q88, .ref q111, .ref q127, .ref q132, .int 0, .int 0, .ref q134, .ref q136, .ref q138, .ref q140])), (q41, .inr (3, [.ref q35, .ref q42, .ref q57, .ref q61, .int 0, .ref q6, .ref q65, .ref q66, .ref q67, .ref q68, .ref q69, .ref q70, .ref q71, .ref q72, .ref q73, .int 0, .int 0, .int 0])), (ou, .inl (cy 2, 1, .inr (.inl (fun _ => 0))))] s.heap.size = A at hD hTK ⊢
  have hA : ∀ q : Nat, s.heap.size ≤ q → A q := fun q h => by rw [← hAe]; exact Or.inr h
  obtain ⟨H, hS, hP, hgo⟩ : ∃ H, va_S A s.heap H [] ∧ va_P D vwCl [(h0, .inr (15, [.ref q1, .ref q26, .ref q6, .ref q16, .int 0, .int 0, .ref q35, .ref q41, .ref q88, .ref q111, .ref q127, .ref q132, .int 0, .int 0, .ref q134, .ref q136, .ref q138, .ref q140])), (q41, .inr (3, [.ref q35, .ref q42, .ref q57, .ref q61, .int 0, .ref q6, .ref q65, .ref q66, .ref q67, .ref q68, .ref q69, .ref q70, .ref q71, .ref q72, .ref q73, .int 0, .int 0, .int 0])), (ou, .inl (cy 2, 1, .inr (.inl (fun _ => 0))))] H ∧ H = s.heap := ⟨s.heap, va_S.rf, hP, rfl⟩
  rw [← hgo]
  have hl := lv_entry ([.ref h0, .int p1, .int p2, .int p3, .ref ou]) (n := 6) (Nat.le_of_ble_eq_true rfl)
  rw [lg_entry_eq]
  generalize (lg_sl ([.ref h0, .int p1, .int p2, .int p3, .ref ou]) ++ List.replicate (6 - (lg_sl ([.ref h0, .int p1, .int p2, .int p3, .ref ou])).length) Slot.unset).toArray = ls at hl ⊢
  have hl : lv_has ls 6 [(0, .ref h0), (1, .int p1), (2, .int p2), (3, .int p3), (4, .ref ou)] := hl
  refine lv_aload hx hb dL_next_0 (lv_at hl 4 rfl) ?_
  refine lv_iconst (v := 0) hx hb dL_next_2 (by decide) ?_
  refine lv_aload_n hx hb dL_next_3 rfl (lv_at hl 0 rfl) ?_
  refine lv_iload_n hx hb dL_next_4 rfl (lv_at hl 1 rfl) ?_
  refine lv_iload_n hx hb dL_next_5 rfl (lv_at hl 2 rfl) ?_
  refine lv_iload_n hx hb dL_next_6 rfl (lv_at hl 3 rfl) ?_
  have hPc := hP.sub (ws' := [(h0, .inr (15, [.ref q1, .ref q26, .ref q6, .ref q16, .int 0, .int 0, .ref q35, .ref q41, .ref q88, .ref q111, .ref q127, .ref q132, .int 0, .int 0, .ref q134, .ref q136, .ref q138, .ref q140])), (q41, .inr (3, [.ref q35, .ref q42, .ref q57, .ref q61, .int 0, .ref q6, .ref q65, .ref q66, .ref q67, .ref q68, .ref q69, .ref q70, .ref q71, .ref q72, .ref q73, .int 0, .int 0, .int 0]))]) [0, 1] rfl
  have hDc := hD.sub (ws' := [(h0, .inr (15, [.ref q1, .ref q26, .ref q6, .ref q16, .int 0, .int 0, .ref q35, .ref q41, .ref q88, .ref q111, .ref q127, .ref q132, .int 0, .int 0, .ref q134, .ref q136, .ref q138, .ref q140])), (q41, .inr (3, [.ref q35, .ref q42, .ref q57, .ref q61, .int 0, .ref q6, .ref q65, .ref q66, .ref q67, .ref q68, .ref q69, .ref q70, .ref q71, .ref q72, .ref q73, .int 0, .int 0, .int 0]))]) [0, 1] (by decide) rfl
  have hFc := va_free (wc := [(h0, .inr (15, [.ref q1, .ref q26, .ref q6, .ref q16, .int 0, .int 0, .ref q35, .ref q41, .ref q88, .ref q111, .ref q127, .ref q132, .int 0, .int 0, .ref q134, .ref q136, .ref q138, .ref q140])), (q41, .inr (3, [.ref q35, .ref q42, .ref q57, .ref q61, .int 0, .ref q6, .ref q65, .ref q66, .ref q67, .ref q68, .ref q69, .ref q70, .ref q71, .ref q72, .ref q73, .int 0, .int 0, .int 0]))]) hD hS hA [0, 1] rfl
  refine vx_calli (vx_runV (As := [.int p1, .int p2, .int p3]) (rest := [.int 0, .ref ou]) ⟨hx, hb, hml, hown, hts⟩ (c_X12_next l D cy h0 q1 q26 q6 q16 q35 q41 q88 q111 q127 q132 q134 q136 q138 q140 q42 q57 q61 q65 q66 q67 q68 q69 q70 q71 q72 q73 p1 p2 p3 H.size hst) (cwV 3 hts g_c_L_next_0 rfl rfl rfl (by decide +kernel) ⟨(Nat.le_of_ble_eq_true rfl), (Nat.le_of_ble_eq_true rfl)⟩) ⟨fun a U g mk q => by obtain ⟨q0, q1, qP, qK, qD, qT⟩ := q; exact ⟨q0, q1, qP, kK.moved (u := U) (U := U.calling g mk a) (Vm.Alike.refl U.vm) qK, qD, tK.same rfl rfl qT⟩, va_recv hK hPc (ci := 15) (q0 := 0) rfl rfl, fun U hU hW => ⟨rfl, by rw [hU], by rw [hU]; exact hPc, kK.moved hW.alike hKK, hDc.weaken (fun _ _ _ _ => trivial), tK.at hTK hS hU hW hFc⟩⟩ rfl rfl hl.1 rfl (lv_room (Nat.le_of_ble_eq_true rfl)) dL_next_7 ⟨(Nat.le_of_ble_eq_true rfl), (Nat.le_of_ble_eq_true rfl)⟩) hS (fun q _ h => hFc q h) hFc (fun q _ h => hFc q h) (fun E9 ce q9 u t H1 locs ht hvm hpx hBX hz1 hk1 hS hce hcv hcl => ?_) (fun r1 u2 t H1 locs ht hvm hw hB hz1 hk1 hS => ?_)
  · skip
    rcases hBX with rfl
    obtain ⟨hP, hD⟩ := va_join (wr := [(ou, .inl (cy 2, 1, .inr (.inl (fun _ => 0))))]) (w1 := []) hP hD [0, 1] [2] rfl rfl (by decide) (by decide) hk1 hFc va_P0 va_D0
    generalize H1 = H at hP hS hce ⊢
    have hP : va_P D vwCl [(ou, .inl (cy 2, 1, .inr (.inl (fun _ => 0))))] H := hP
    have hD : va_D A [(ou, .inl (cy 2, 1, .inr (.inl (fun _ => 0))))] := hD
    refine vx_catch (own := RL) (name := "java/lang/IndexOutOfBoundsException") hown [] ⟨0, 12, 15, 25⟩ [] htab (fun z hz => by cases hz) (by decide) (by decide) (hts (.classLink RL 25 "java/lang/IndexOutOfBoundsException") (List.mem_of_getElem? (i := 1) rfl)) (va_Nw.use rfl (hTK.2.2.1 "java/lang/IndexOutOfBoundsException" (by decide))) hce hcv hcl ?_
    refine W.widen (k := 1) (n := 6) (Nat.le_of_ble_eq_true rfl) (Nat.le_of_ble_eq_true rfl) ?_
    refine lv_astore (lv' := [(5, .ref q9), (0, .ref h0), (1, .int p1), (2, .int p2), (3, .int p3), (4, .ref ou)]) hx hb dL_next_15 hl (by decide) rfl (fun ls hl => ?_)
    refine lv_iconst (v := 1) hx hb dL_next_17 (by decide) ?_
    refine W.widen (k := 1) (n := 6) (Nat.le_of_ble_eq_true rfl) (Nat.le_of_ble_eq_true rfl) ?_
    exact W.iret (v := 1) hx hb hr (fun t ht hW => ⟨⟨1, 0, rfl, ⟨rfl, rfl⟩, (fun _ => 0), by rw [ht]; exact hP.sub [0] rfl, hD.sub [0] (by decide) rfl, rfl⟩, hS.F ht⟩) hS.2.2 dL_next_18
  · skip
    exact hw.elim
def wq_c_L_ending : List Cond := .codeWith yL_ending cL_ending 5 (some .int) [(0, 10, 13, 25)] :: ([.classLink RL 25 "java/lang/IndexOutOfBoundsException"] ++ (wsV RL 43 RX12 yX12_ending wq_c_X12_ending))
set_option maxRecDepth 100000 in
theorem g_c_L_ending_0 : GoodIn wq_c_L_ending (wsV RL 43 RX12 yX12_ending wq_c_X12_ending) := goodIn_sub (fun w h => List.mem_cons_of_mem _ (List.mem_append_right _ (h))) (by decide +kernel)
set_option maxHeartbeats 4000000 in
set_option maxRecDepth 100000 in
theorem c_L_ending (l : Launch) (D : va_G) (cy : Nat → ClassId) (h0 q1 q26 q6 q16 q35 q41 q88 q111 q127 q132 q134 q136 q138 q140 q42 q57 q61 q65 q66 q67 q68 q69 q70 q71 q72 q73 ou : Nat) (p1 p2 : Int32) (sz : Nat) (hst : l.stackTraces = false) : Met l yL_ending wq_c_L_ending ({ frames := 7, cells := 1, slots := 6, locals := 104 }) (va_Pc [.ref h0, .int p1, .int p2, .ref ou] (fun U => U.heap.size = sz ∧ va_P D vwCl [(h0, .inr (15, [.ref q1, .ref q26, .ref q6, .ref q16, .int 0, .int 0, .ref q35, .ref q41, .ref q88, .ref q111, .ref q127, .ref q132, .int 0, .int 0, .ref q134, .ref q136, .ref q138, .ref q140])), (q41, .inr (3, [.ref q35, .ref q42, .ref q57, .ref q61, .int 0, .ref q6, .ref q65, .ref q66, .ref q67, .ref q68, .ref q69, .ref q70, .ref q71, .ref q72, .ref q73, .int 0, .int 0, .int 0])), (ou, .inl (cy 2, 1, .inr (.inl (fun _ => 0))))] U.heap ∧ kK D cy U ∧ va_D (fun _ => True) [(h0, .inr (15, [.ref q1, .ref q26, .ref q6, .ref q16, .int 0, .int 0, .ref q35, .ref q41, .ref q88, .ref q111, .ref q127, .ref q132, .int 0, .int 0, .ref q134, .ref q136, .ref q138, .ref q140])), (q41, .inr (3, [.ref q35, .ref q42, .ref q57, .ref q61, .int 0, .ref q6, .ref q65, .ref q66, .ref q67, .ref q68, .ref q69, .ref q70, .ref q71, .ref q72, .ref q73, .int 0, .int 0, .int 0])), (ou, .inl (cy 2, 1, .inr (.inl (fun _ => 0))))] ∧ tK (va_A [(h0, .inr (15, [.ref q1, .ref q26, .ref q6, .ref q16, .int 0, .int 0, .ref q35, .ref q41, .ref q88, .ref q111, .ref q127, .ref q132, .int 0, .int 0, .ref q134, .ref q136, .ref q138, .ref q140])), (q41, .inr (3, [.ref q35, .ref q42, .ref q57, .ref q61, .int 0, .ref q6, .ref q65, .ref q66, .ref q67, .ref q68, .ref q69, .ref q70, .ref q71, .ref q72, .ref q73, .int 0, .int 0, .int 0])), (ou, .inl (cy 2, 1, .inr (.inl (fun _ => 0))))] sz) U)) (va_Qi (fun (r : Int32) (u : Int64) => (r = 1 ∧ u = 0)) (fun (u : Int64) t => ∃ f : Nat → Int64, va_P D vwCl [(ou, .inl (cy 2, 1, .inr (.inl f)))] t.heap ∧ va_D (va_A [(h0, .inr (15, [.ref q1, .ref q26, .ref q6, .ref q16, .int 0, .int 0, .ref q35, .ref q41, .ref q88, .ref q111, .ref q127, .ref q132, .int 0, .int 0, .ref q134, .ref q136, .ref q138, .ref q140])), (q41, .inr (3, [.ref q35, .ref q42, .ref q57, .ref q61, .int 0, .ref q6, .ref q65, .ref q66, .ref q67, .ref q68, .ref q69, .ref q70, .ref q71, .ref q72, .ref q73, .int 0, .int 0, .int 0])), (ou, .inl (cy 2, 1, .inr (.inl (fun _ => 0))))] sz) [(ou, .inl (cy 2, 1, .inr (.inl f)))] ∧ f 0 = u) (va_A [(h0, .inr (15, [.ref q1, .ref q26, .ref q6, .ref q16, .int 0, .int 0, .ref q35, .ref q41, .ref q88, .ref q111, .ref q127, .ref q132, .int 0, .int 0, .ref q134, .ref q136, .ref q138, .ref q140])), (q41, .inr (3, [.ref q35, .ref q42, .ref q57, .ref q61, .int 0, .ref q6, .ref q65, .ref q66, .ref q67, .ref q68, .ref q69, .ref q70, .ref q71, .ref q72, .ref q73, .int 0, .int 0, .int 0])), (ou, .inl (cy 2, 1, .inr (.inl (fun _ => 0))))] sz)) 1 6 (va_A [(h0, .inr (15, [.ref q1, .ref q26, .ref q6, .ref q16, .int 0, .int 0, .ref q35, .ref q41, .ref q88, .ref q111, .ref q127, .ref q132, .int 0, .int 0, .ref q134, .ref q136, .ref q138, .ref q140])), (q41, .inr (3, [.ref q35, .ref q42, .ref q57, .ref q61, .int 0, .ref q6, .ref q65, .ref q66, .ref q67, .ref q68, .ref q69, .ref q70, .ref q71, .ref q72, .ref q73, .int 0, .int 0, .int 0])), (ou, .inl (cy 2, 1, .inr (.inl (fun _ => 0))))] sz) := by
  refine va_MetW (cc := cL_ending) (maxL := 5) (ret := (some .int)) (by decide) rfl ?_
  intro p e s m args below meth c s₁ B hml hv
  obtain ⟨rfl, hsz, hP, hKK, hD0, hTK⟩ := hv
  have hK := hKK.1
  have hx := B.exec
  have hb := B.bytes
  have hr := B.returns
  have hts := atoms_spec (ws := wq_c_L_ending) B.pre
  have hown : s.vm.findClass RL = some m.cls := findClass_of_methodNamed B.named
  have hlocks := B.notSynchronized
  have htab := vx_table (x := yL_ending) B (hts _ List.mem_cons_self)
  subst hsz
  have hD := hD0.self (sz := s.heap.size)
  generalize hAe : va_A [(h0, .inr (15, [.ref q1, .ref q26, .ref q6, .ref q16, .int 0, .int 0, .ref q35, .ref q41, .ref q88, .ref q111, .ref q127, .ref q132, .int 0, .int 0, .ref q134, .ref q136, .ref q138, .ref q140])), (q41, .inr (3, [.ref q35, .ref q42, .ref q57, .ref q61, .int 0, .ref q6, .ref q65, .ref q66, .ref q67, .ref q68, .ref q69, .ref q70, .ref q71, .ref q72, .ref q73, .int 0, .int 0, .int 0])), (ou, .inl (cy 2, 1, .inr (.inl (fun _ => 0))))] s.heap.size = A at hD hTK ⊢
  have hA : ∀ q : Nat, s.heap.size ≤ q → A q := fun q h => by rw [← hAe]; exact Or.inr h
  obtain ⟨H, hS, hP, hgo⟩ : ∃ H, va_S A s.heap H [] ∧ va_P D vwCl [(h0, .inr (15, [.ref q1, .ref q26, .ref q6, .ref q16, .int 0, .int 0, .ref q35, .ref q41, .ref q88, .ref q111, .ref q127, .ref q132, .int 0, .int 0, .ref q134, .ref q136, .ref q138, .ref q140])), (q41, .inr (3, [.ref q35, .ref q42, .ref q57, .ref q61, .int 0, .ref q6, .ref q65, .ref q66, .ref q67, .ref q68, .ref q69, .ref q70, .ref q71, .ref q72, .ref q73, .int 0, .int 0, .int 0])), (ou, .inl (cy 2, 1, .inr (.inl (fun _ => 0))))] H ∧ H = s.heap := ⟨s.heap, va_S.rf, hP, rfl⟩
  rw [← hgo]
  have hl := lv_entry ([.ref h0, .int p1, .int p2, .ref ou]) (n := 5) (Nat.le_of_ble_eq_true rfl)
  rw [lg_entry_eq]
  generalize (lg_sl ([.ref h0, .int p1, .int p2, .ref ou]) ++ List.replicate (5 - (lg_sl ([.ref h0, .int p1, .int p2, .ref ou])).length) Slot.unset).toArray = ls at hl ⊢
  have hl : lv_has ls 5 [(0, .ref h0), (1, .int p1), (2, .int p2), (3, .ref ou)] := hl
  refine lv_aload_n hx hb dL_ending_0 rfl (lv_at hl 3 rfl) ?_
  refine lv_iconst (v := 0) hx hb dL_ending_1 (by decide) ?_
  refine lv_aload_n hx hb dL_ending_2 rfl (lv_at hl 0 rfl) ?_
  refine lv_iload_n hx hb dL_ending_3 rfl (lv_at hl 1 rfl) ?_
  refine lv_iload_n hx hb dL_ending_4 rfl (lv_at hl 2 rfl) ?_
  have hPc := hP.sub (ws' := [(h0, .inr (15, [.ref q1, .ref q26, .ref q6, .ref q16, .int 0, .int 0, .ref q35, .ref q41, .ref q88, .ref q111, .ref q127, .ref q132, .int 0, .int 0, .ref q134, .ref q136, .ref q138, .ref q140])), (q41, .inr (3, [.ref q35, .ref q42, .ref q57, .ref q61, .int 0, .ref q6, .ref q65, .ref q66, .ref q67, .ref q68, .ref q69, .ref q70, .ref q71, .ref q72, .ref q73, .int 0, .int 0, .int 0]))]) [0, 1] rfl
  have hDc := hD.sub (ws' := [(h0, .inr (15, [.ref q1, .ref q26, .ref q6, .ref q16, .int 0, .int 0, .ref q35, .ref q41, .ref q88, .ref q111, .ref q127, .ref q132, .int 0, .int 0, .ref q134, .ref q136, .ref q138, .ref q140])), (q41, .inr (3, [.ref q35, .ref q42, .ref q57, .ref q61, .int 0, .ref q6, .ref q65, .ref q66, .ref q67, .ref q68, .ref q69, .ref q70, .ref q71, .ref q72, .ref q73, .int 0, .int 0, .int 0]))]) [0, 1] (by decide) rfl
  have hFc := va_free (wc := [(h0, .inr (15, [.ref q1, .ref q26, .ref q6, .ref q16, .int 0, .int 0, .ref q35, .ref q41, .ref q88, .ref q111, .ref q127, .ref q132, .int 0, .int 0, .ref q134, .ref q136, .ref q138, .ref q140])), (q41, .inr (3, [.ref q35, .ref q42, .ref q57, .ref q61, .int 0, .ref q6, .ref q65, .ref q66, .ref q67, .ref q68, .ref q69, .ref q70, .ref q71, .ref q72, .ref q73, .int 0, .int 0, .int 0]))]) hD hS hA [0, 1] rfl
  refine vx_calli (vx_runV (As := [.int p1, .int p2]) (rest := [.int 0, .ref ou]) ⟨hx, hb, hml, hown, hts⟩ (c_X12_ending l D cy h0 q1 q26 q6 q16 q35 q41 q88 q111 q127 q132 q134 q136 q138 q140 q42 q57 q61 q65 q66 q67 q68 q69 q70 q71 q72 q73 p1 p2 H.size hst) (cwV 2 hts g_c_L_ending_0 rfl rfl rfl (by decide +kernel) ⟨(Nat.le_of_ble_eq_true rfl), (Nat.le_of_ble_eq_true rfl)⟩) ⟨fun a U g mk q => by obtain ⟨q0, q1, qP, qK, qD, qT⟩ := q; exact ⟨q0, q1, qP, kK.moved (u := U) (U := U.calling g mk a) (Vm.Alike.refl U.vm) qK, qD, tK.same rfl rfl qT⟩, va_recv hK hPc (ci := 15) (q0 := 0) rfl rfl, fun U hU hW => ⟨rfl, by rw [hU], by rw [hU]; exact hPc, kK.moved hW.alike hKK, hDc.weaken (fun _ _ _ _ => trivial), tK.at hTK hS hU hW hFc⟩⟩ rfl rfl hl.1 rfl (lv_room (Nat.le_of_ble_eq_true rfl)) dL_ending_5 ⟨(Nat.le_of_ble_eq_true rfl), (Nat.le_of_ble_eq_true rfl)⟩) hS (fun q _ h => hFc q h) hFc (fun q _ h => hFc q h) (fun E9 ce q9 u t H1 locs ht hvm hpx hBX hz1 hk1 hS hce hcv hcl => ?_) (fun r1 u2 t H1 locs ht hvm hw hB hz1 hk1 hS => ?_)
  · skip
    rcases hBX with rfl
    obtain ⟨hP, hD⟩ := va_join (wr := [(ou, .inl (cy 2, 1, .inr (.inl (fun _ => 0))))]) (w1 := []) hP hD [0, 1] [2] rfl rfl (by decide) (by decide) hk1 hFc va_P0 va_D0
    generalize H1 = H at hP hS hce ⊢
    have hP : va_P D vwCl [(ou, .inl (cy 2, 1, .inr (.inl (fun _ => 0))))] H := hP
    have hD : va_D A [(ou, .inl (cy 2, 1, .inr (.inl (fun _ => 0))))] := hD
    refine vx_catch (own := RL) (name := "java/lang/IndexOutOfBoundsException") hown [] ⟨0, 10, 13, 25⟩ [] htab (fun z hz => by cases hz) (by decide) (by decide) (hts (.classLink RL 25 "java/lang/IndexOutOfBoundsException") (List.mem_of_getElem? (i := 1) rfl)) (va_Nw.use rfl (hTK.2.2.1 "java/lang/IndexOutOfBoundsException" (by decide))) hce hcv hcl ?_
    refine W.widen (k := 1) (n := 6) (Nat.le_of_ble_eq_true rfl) (Nat.le_of_ble_eq_true rfl) ?_
    refine lv_astore (lv' := [(4, .ref q9), (0, .ref h0), (1, .int p1), (2, .int p2), (3, .ref ou)]) hx hb dL_ending_13 hl (by decide) rfl (fun ls hl => ?_)
    refine lv_iconst (v := 1) hx hb dL_ending_15 (by decide) ?_
    refine W.widen (k := 1) (n := 6) (Nat.le_of_ble_eq_true rfl) (Nat.le_of_ble_eq_true rfl) ?_
    exact W.iret (v := 1) hx hb hr (fun t ht hW => ⟨⟨1, 0, rfl, ⟨rfl, rfl⟩, (fun _ => 0), by rw [ht]; exact hP.sub [0] rfl, hD.sub [0] (by decide) rfl, rfl⟩, hS.F ht⟩) hS.2.2 dL_ending_16
  · skip
    exact hw.elim
def wq_c_L_decide : List Cond := .codeWith yL_decide cL_decide 5 (some .int) [(0, 10, 13, 25)] :: ([.classLink RL 25 "java/lang/IndexOutOfBoundsException"] ++ (wsV RL 46 RX12 yX12_decide wq_c_X12_decide))
set_option maxRecDepth 100000 in
theorem g_c_L_decide_0 : GoodIn wq_c_L_decide (wsV RL 46 RX12 yX12_decide wq_c_X12_decide) := goodIn_sub (fun w h => List.mem_cons_of_mem _ (List.mem_append_right _ (h))) (by decide +kernel)
set_option maxHeartbeats 4000000 in
set_option maxRecDepth 100000 in
theorem c_L_decide (l : Launch) (D : va_G) (cy : Nat → ClassId) (h0 q1 q26 q6 q16 q35 q41 q88 q111 q127 q132 q134 q136 q138 q140 q42 q57 q61 q65 q66 q67 q68 q69 q70 q71 q72 q73 ou : Nat) (p1 p2 : Int32) (sz : Nat) (hst : l.stackTraces = false) : Met l yL_decide wq_c_L_decide ({ frames := 7, cells := 1, slots := 6, locals := 105 }) (va_Pc [.ref h0, .int p1, .int p2, .ref ou] (fun U => U.heap.size = sz ∧ va_P D vwCl [(h0, .inr (15, [.ref q1, .ref q26, .ref q6, .ref q16, .int 0, .int 0, .ref q35, .ref q41, .ref q88, .ref q111, .ref q127, .ref q132, .int 0, .int 0, .ref q134, .ref q136, .ref q138, .ref q140])), (q41, .inr (3, [.ref q35, .ref q42, .ref q57, .ref q61, .int 0, .ref q6, .ref q65, .ref q66, .ref q67, .ref q68, .ref q69, .ref q70, .ref q71, .ref q72, .ref q73, .int 0, .int 0, .int 0])), (ou, .inl (cy 2, 1, .inr (.inl (fun _ => 0))))] U.heap ∧ kK D cy U ∧ va_D (fun _ => True) [(h0, .inr (15, [.ref q1, .ref q26, .ref q6, .ref q16, .int 0, .int 0, .ref q35, .ref q41, .ref q88, .ref q111, .ref q127, .ref q132, .int 0, .int 0, .ref q134, .ref q136, .ref q138, .ref q140])), (q41, .inr (3, [.ref q35, .ref q42, .ref q57, .ref q61, .int 0, .ref q6, .ref q65, .ref q66, .ref q67, .ref q68, .ref q69, .ref q70, .ref q71, .ref q72, .ref q73, .int 0, .int 0, .int 0])), (ou, .inl (cy 2, 1, .inr (.inl (fun _ => 0))))] ∧ tK (va_A [(h0, .inr (15, [.ref q1, .ref q26, .ref q6, .ref q16, .int 0, .int 0, .ref q35, .ref q41, .ref q88, .ref q111, .ref q127, .ref q132, .int 0, .int 0, .ref q134, .ref q136, .ref q138, .ref q140])), (q41, .inr (3, [.ref q35, .ref q42, .ref q57, .ref q61, .int 0, .ref q6, .ref q65, .ref q66, .ref q67, .ref q68, .ref q69, .ref q70, .ref q71, .ref q72, .ref q73, .int 0, .int 0, .int 0])), (ou, .inl (cy 2, 1, .inr (.inl (fun _ => 0))))] sz) U)) (va_Qi (fun (r : Int32) (u : Int64) => (r = 1 ∧ u = 0)) (fun (u : Int64) t => ∃ f : Nat → Int64, va_P D vwCl [(ou, .inl (cy 2, 1, .inr (.inl f)))] t.heap ∧ va_D (va_A [(h0, .inr (15, [.ref q1, .ref q26, .ref q6, .ref q16, .int 0, .int 0, .ref q35, .ref q41, .ref q88, .ref q111, .ref q127, .ref q132, .int 0, .int 0, .ref q134, .ref q136, .ref q138, .ref q140])), (q41, .inr (3, [.ref q35, .ref q42, .ref q57, .ref q61, .int 0, .ref q6, .ref q65, .ref q66, .ref q67, .ref q68, .ref q69, .ref q70, .ref q71, .ref q72, .ref q73, .int 0, .int 0, .int 0])), (ou, .inl (cy 2, 1, .inr (.inl (fun _ => 0))))] sz) [(ou, .inl (cy 2, 1, .inr (.inl f)))] ∧ f 0 = u) (va_A [(h0, .inr (15, [.ref q1, .ref q26, .ref q6, .ref q16, .int 0, .int 0, .ref q35, .ref q41, .ref q88, .ref q111, .ref q127, .ref q132, .int 0, .int 0, .ref q134, .ref q136, .ref q138, .ref q140])), (q41, .inr (3, [.ref q35, .ref q42, .ref q57, .ref q61, .int 0, .ref q6, .ref q65, .ref q66, .ref q67, .ref q68, .ref q69, .ref q70, .ref q71, .ref q72, .ref q73, .int 0, .int 0, .int 0])), (ou, .inl (cy 2, 1, .inr (.inl (fun _ => 0))))] sz)) 1 6 (va_A [(h0, .inr (15, [.ref q1, .ref q26, .ref q6, .ref q16, .int 0, .int 0, .ref q35, .ref q41, .ref q88, .ref q111, .ref q127, .ref q132, .int 0, .int 0, .ref q134, .ref q136, .ref q138, .ref q140])), (q41, .inr (3, [.ref q35, .ref q42, .ref q57, .ref q61, .int 0, .ref q6, .ref q65, .ref q66, .ref q67, .ref q68, .ref q69, .ref q70, .ref q71, .ref q72, .ref q73, .int 0, .int 0, .int 0])), (ou, .inl (cy 2, 1, .inr (.inl (fun _ => 0))))] sz) := by
  refine va_MetW (cc := cL_decide) (maxL := 5) (ret := (some .int)) (by decide) rfl ?_
  intro p e s m args below meth c s₁ B hml hv
  obtain ⟨rfl, hsz, hP, hKK, hD0, hTK⟩ := hv
  have hK := hKK.1
  have hx := B.exec
  have hb := B.bytes
  have hr := B.returns
  have hts := atoms_spec (ws := wq_c_L_decide) B.pre
  have hown : s.vm.findClass RL = some m.cls := findClass_of_methodNamed B.named
  have hlocks := B.notSynchronized
  have htab := vx_table (x := yL_decide) B (hts _ List.mem_cons_self)
  subst hsz
  have hD := hD0.self (sz := s.heap.size)
  generalize hAe : va_A [(h0, .inr (15, [.ref q1, .ref q26, .ref q6, .ref q16, .int 0, .int 0, .ref q35, .ref q41, .ref q88, .ref q111, .ref q127, .ref q132, .int 0, .int 0, .ref q134, .ref q136, .ref q138, .ref q140])), (q41, .inr (3, [.ref q35, .ref q42, .ref q57, .ref q61, .int 0, .ref q6, .ref q65, .ref q66, .ref q67, .ref q68, .ref q69, .ref q70, .ref q71, .ref q72, .ref q73, .int 0, .int 0, .int 0])), (ou, .inl (cy 2, 1, .inr (.inl (fun _ => 0))))] s.heap.size = A at hD hTK ⊢
  have hA : ∀ q : Nat, s.heap.size ≤ q → A q := fun q h => by rw [← hAe]; exact Or.inr h
  obtain ⟨H, hS, hP, hgo⟩ : ∃ H, va_S A s.heap H [] ∧ va_P D vwCl [(h0, .inr (15, [.ref q1, .ref q26, .ref q6, .ref q16, .int 0, .int 0, .ref q35, .ref q41, .ref q88, .ref q111, .ref q127, .ref q132, .int 0, .int 0, .ref q134, .ref q136, .ref q138, .ref q140])), (q41, .inr (3, [.ref q35, .ref q42, .ref q57, .ref q61, .int 0, .ref q6, .ref q65, .ref q66, .ref q67, .ref q68, .ref q69, .ref q70, .ref q71, .ref q72, .ref q73, .int 0, .int 0, .int 0])), (ou, .inl (cy 2, 1, .inr (.inl (fun _ => 0))))] H ∧ H = s.heap := ⟨s.heap, va_S.rf, hP, rfl⟩
  rw [← hgo]
  have hl := lv_entry ([.ref h0, .int p1, .int p2, .ref ou]) (n := 5) (Nat.le_of_ble_eq_true rfl)
  rw [lg_entry_eq]
  generalize (lg_sl ([.ref h0, .int p1, .int p2, .ref ou]) ++ List.replicate (5 - (lg_sl ([.ref h0, .int p1, .int p2, .ref ou])).length) Slot.unset).toArray = ls at hl ⊢
  have hl : lv_has ls 5 [(0, .ref h0), (1, .int p1), (2, .int p2), (3, .ref ou)] := hl
  refine lv_aload_n hx hb dL_decide_0 rfl (lv_at hl 3 rfl) ?_
  refine lv_iconst (v := 0) hx hb dL_decide_1 (by decide) ?_
  refine lv_aload_n hx hb dL_decide_2 rfl (lv_at hl 0 rfl) ?_
  refine lv_iload_n hx hb dL_decide_3 rfl (lv_at hl 1 rfl) ?_
  refine lv_iload_n hx hb dL_decide_4 rfl (lv_at hl 2 rfl) ?_
  have hPc := hP.sub (ws' := [(h0, .inr (15, [.ref q1, .ref q26, .ref q6, .ref q16, .int 0, .int 0, .ref q35, .ref q41, .ref q88, .ref q111, .ref q127, .ref q132, .int 0, .int 0, .ref q134, .ref q136, .ref q138, .ref q140])), (q41, .inr (3, [.ref q35, .ref q42, .ref q57, .ref q61, .int 0, .ref q6, .ref q65, .ref q66, .ref q67, .ref q68, .ref q69, .ref q70, .ref q71, .ref q72, .ref q73, .int 0, .int 0, .int 0]))]) [0, 1] rfl
  have hDc := hD.sub (ws' := [(h0, .inr (15, [.ref q1, .ref q26, .ref q6, .ref q16, .int 0, .int 0, .ref q35, .ref q41, .ref q88, .ref q111, .ref q127, .ref q132, .int 0, .int 0, .ref q134, .ref q136, .ref q138, .ref q140])), (q41, .inr (3, [.ref q35, .ref q42, .ref q57, .ref q61, .int 0, .ref q6, .ref q65, .ref q66, .ref q67, .ref q68, .ref q69, .ref q70, .ref q71, .ref q72, .ref q73, .int 0, .int 0, .int 0]))]) [0, 1] (by decide) rfl
  have hFc := va_free (wc := [(h0, .inr (15, [.ref q1, .ref q26, .ref q6, .ref q16, .int 0, .int 0, .ref q35, .ref q41, .ref q88, .ref q111, .ref q127, .ref q132, .int 0, .int 0, .ref q134, .ref q136, .ref q138, .ref q140])), (q41, .inr (3, [.ref q35, .ref q42, .ref q57, .ref q61, .int 0, .ref q6, .ref q65, .ref q66, .ref q67, .ref q68, .ref q69, .ref q70, .ref q71, .ref q72, .ref q73, .int 0, .int 0, .int 0]))]) hD hS hA [0, 1] rfl
  refine vx_calli (vx_runV (As := [.int p1, .int p2]) (rest := [.int 0, .ref ou]) ⟨hx, hb, hml, hown, hts⟩ (c_X12_decide l D cy h0 q1 q26 q6 q16 q35 q41 q88 q111 q127 q132 q134 q136 q138 q140 q42 q57 q61 q65 q66 q67 q68 q69 q70 q71 q72 q73 p1 p2 H.size hst) (cwV 2 hts g_c_L_decide_0 rfl rfl rfl (by decide +kernel) ⟨(Nat.le_of_ble_eq_true rfl), (Nat.le_of_ble_eq_true rfl)⟩) ⟨fun a U g mk q => by obtain ⟨q0, q1, qP, qK, qD, qT⟩ := q; exact ⟨q0, q1, qP, kK.moved (u := U) (U := U.calling g mk a) (Vm.Alike.refl U.vm) qK, qD, tK.same rfl rfl qT⟩, va_recv hK hPc (ci := 15) (q0 := 0) rfl rfl, fun U hU hW => ⟨rfl, by rw [hU], by rw [hU]; exact hPc, kK.moved hW.alike hKK, hDc.weaken (fun _ _ _ _ => trivial), tK.at hTK hS hU hW hFc⟩⟩ rfl rfl hl.1 rfl (lv_room (Nat.le_of_ble_eq_true rfl)) dL_decide_5 ⟨(Nat.le_of_ble_eq_true rfl), (Nat.le_of_ble_eq_true rfl)⟩) hS (fun q _ h => hFc q h) hFc (fun q _ h => hFc q h) (fun E9 ce q9 u t H1 locs ht hvm hpx hBX hz1 hk1 hS hce hcv hcl => ?_) (fun r1 u2 t H1 locs ht hvm hw hB hz1 hk1 hS => ?_)
  · skip
    rcases hBX with rfl
    obtain ⟨hP, hD⟩ := va_join (wr := [(ou, .inl (cy 2, 1, .inr (.inl (fun _ => 0))))]) (w1 := []) hP hD [0, 1] [2] rfl rfl (by decide) (by decide) hk1 hFc va_P0 va_D0
    generalize H1 = H at hP hS hce ⊢
    have hP : va_P D vwCl [(ou, .inl (cy 2, 1, .inr (.inl (fun _ => 0))))] H := hP
    have hD : va_D A [(ou, .inl (cy 2, 1, .inr (.inl (fun _ => 0))))] := hD
    refine vx_catch (own := RL) (name := "java/lang/IndexOutOfBoundsException") hown [] ⟨0, 10, 13, 25⟩ [] htab (fun z hz => by cases hz) (by decide) (by decide) (hts (.classLink RL 25 "java/lang/IndexOutOfBoundsException") (List.mem_of_getElem? (i := 1) rfl)) (va_Nw.use rfl (hTK.2.2.1 "java/lang/IndexOutOfBoundsException" (by decide))) hce hcv hcl ?_
    refine W.widen (k := 1) (n := 6) (Nat.le_of_ble_eq_true rfl) (Nat.le_of_ble_eq_true rfl) ?_
    refine lv_astore (lv' := [(4, .ref q9), (0, .ref h0), (1, .int p1), (2, .int p2), (3, .ref ou)]) hx hb dL_decide_13 hl (by decide) rfl (fun ls hl => ?_)
    refine lv_iconst (v := 1) hx hb dL_decide_15 (by decide) ?_
    refine W.widen (k := 1) (n := 6) (Nat.le_of_ble_eq_true rfl) (Nat.le_of_ble_eq_true rfl) ?_
    exact W.iret (v := 1) hx hb hr (fun t ht hW => ⟨⟨1, 0, rfl, ⟨rfl, rfl⟩, (fun _ => 0), by rw [ht]; exact hP.sub [0] rfl, hD.sub [0] (by decide) rfl, rfl⟩, hS.F ht⟩) hS.2.2 dL_decide_16
  · skip
    exact hw.elim
def wq_c_L_decided : List Cond := .codeWith yL_decided cL_decided 4 (some .int) [(0, 9, 12, 25)] :: ([.classLink RL 25 "java/lang/IndexOutOfBoundsException"] ++ (wsV RL 49 RX12 yX12_decided wq_c_X12_decided))
set_option maxRecDepth 100000 in
theorem g_c_L_decided_0 : GoodIn wq_c_L_decided (wsV RL 49 RX12 yX12_decided wq_c_X12_decided) := goodIn_sub (fun w h => List.mem_cons_of_mem _ (List.mem_append_right _ (h))) (by decide +kernel)
set_option maxHeartbeats 4000000 in
set_option maxRecDepth 100000 in
theorem c_L_decided (l : Launch) (D : va_G) (cy : Nat → ClassId) (h0 q1 q26 q6 q16 q35 q41 q88 q111 q127 q132 q134 q136 q138 q140 q42 q57 q61 q65 q66 q67 q68 q69 q70 q71 q72 q73 ou : Nat) (p1 : Int32) (sz : Nat) (hst : l.stackTraces = false) : Met l yL_decided wq_c_L_decided ({ frames := 7, cells := 1, slots := 6, locals := 103 }) (va_Pc [.ref h0, .int p1, .ref ou] (fun U => U.heap.size = sz ∧ va_P D vwCl [(h0, .inr (15, [.ref q1, .ref q26, .ref q6, .ref q16, .int 0, .int 0, .ref q35, .ref q41, .ref q88, .ref q111, .ref q127, .ref q132, .int 0, .int 0, .ref q134, .ref q136, .ref q138, .ref q140])), (q41, .inr (3, [.ref q35, .ref q42, .ref q57, .ref q61, .int 0, .ref q6, .ref q65, .ref q66, .ref q67, .ref q68, .ref q69, .ref q70, .ref q71, .ref q72, .ref q73, .int 0, .int 0, .int 0])), (ou, .inl (cy 2, 1, .inr (.inl (fun _ => 0))))] U.heap ∧ kK D cy U ∧ va_D (fun _ => True) [(h0, .inr (15, [.ref q1, .ref q26, .ref q6, .ref q16, .int 0, .int 0, .ref q35, .ref q41, .ref q88, .ref q111, .ref q127, .ref q132, .int 0, .int 0, .ref q134, .ref q136, .ref q138, .ref q140])), (q41, .inr (3, [.ref q35, .ref q42, .ref q57, .ref q61, .int 0, .ref q6, .ref q65, .ref q66, .ref q67, .ref q68, .ref q69, .ref q70, .ref q71, .ref q72, .ref q73, .int 0, .int 0, .int 0])), (ou, .inl (cy 2, 1, .inr (.inl (fun _ => 0))))] ∧ tK (va_A [(h0, .inr (15, [.ref q1, .ref q26, .ref q6, .ref q16, .int 0, .int 0, .ref q35, .ref q41, .ref q88, .ref q111, .ref q127, .ref q132, .int 0, .int 0, .ref q134, .ref q136, .ref q138, .ref q140])), (q41, .inr (3, [.ref q35, .ref q42, .ref q57, .ref q61, .int 0, .ref q6, .ref q65, .ref q66, .ref q67, .ref q68, .ref q69, .ref q70, .ref q71, .ref q72, .ref q73, .int 0, .int 0, .int 0])), (ou, .inl (cy 2, 1, .inr (.inl (fun _ => 0))))] sz) U)) (va_Qi (fun (r : Int32) (u : Int64) => (r = 1 ∧ u = 0)) (fun (u : Int64) t => ∃ f : Nat → Int64, va_P D vwCl [(ou, .inl (cy 2, 1, .inr (.inl f)))] t.heap ∧ va_D (va_A [(h0, .inr (15, [.ref q1, .ref q26, .ref q6, .ref q16, .int 0, .int 0, .ref q35, .ref q41, .ref q88, .ref q111, .ref q127, .ref q132, .int 0, .int 0, .ref q134, .ref q136, .ref q138, .ref q140])), (q41, .inr (3, [.ref q35, .ref q42, .ref q57, .ref q61, .int 0, .ref q6, .ref q65, .ref q66, .ref q67, .ref q68, .ref q69, .ref q70, .ref q71, .ref q72, .ref q73, .int 0, .int 0, .int 0])), (ou, .inl (cy 2, 1, .inr (.inl (fun _ => 0))))] sz) [(ou, .inl (cy 2, 1, .inr (.inl f)))] ∧ f 0 = u) (va_A [(h0, .inr (15, [.ref q1, .ref q26, .ref q6, .ref q16, .int 0, .int 0, .ref q35, .ref q41, .ref q88, .ref q111, .ref q127, .ref q132, .int 0, .int 0, .ref q134, .ref q136, .ref q138, .ref q140])), (q41, .inr (3, [.ref q35, .ref q42, .ref q57, .ref q61, .int 0, .ref q6, .ref q65, .ref q66, .ref q67, .ref q68, .ref q69, .ref q70, .ref q71, .ref q72, .ref q73, .int 0, .int 0, .int 0])), (ou, .inl (cy 2, 1, .inr (.inl (fun _ => 0))))] sz)) 1 6 (va_A [(h0, .inr (15, [.ref q1, .ref q26, .ref q6, .ref q16, .int 0, .int 0, .ref q35, .ref q41, .ref q88, .ref q111, .ref q127, .ref q132, .int 0, .int 0, .ref q134, .ref q136, .ref q138, .ref q140])), (q41, .inr (3, [.ref q35, .ref q42, .ref q57, .ref q61, .int 0, .ref q6, .ref q65, .ref q66, .ref q67, .ref q68, .ref q69, .ref q70, .ref q71, .ref q72, .ref q73, .int 0, .int 0, .int 0])), (ou, .inl (cy 2, 1, .inr (.inl (fun _ => 0))))] sz) := by
  refine va_MetW (cc := cL_decided) (maxL := 4) (ret := (some .int)) (by decide) rfl ?_
  intro p e s m args below meth c s₁ B hml hv
  obtain ⟨rfl, hsz, hP, hKK, hD0, hTK⟩ := hv
  have hK := hKK.1
  have hx := B.exec
  have hb := B.bytes
  have hr := B.returns
  have hts := atoms_spec (ws := wq_c_L_decided) B.pre
  have hown : s.vm.findClass RL = some m.cls := findClass_of_methodNamed B.named
  have hlocks := B.notSynchronized
  have htab := vx_table (x := yL_decided) B (hts _ List.mem_cons_self)
  subst hsz
  have hD := hD0.self (sz := s.heap.size)
  generalize hAe : va_A [(h0, .inr (15, [.ref q1, .ref q26, .ref q6, .ref q16, .int 0, .int 0, .ref q35, .ref q41, .ref q88, .ref q111, .ref q127, .ref q132, .int 0, .int 0, .ref q134, .ref q136, .ref q138, .ref q140])), (q41, .inr (3, [.ref q35, .ref q42, .ref q57, .ref q61, .int 0, .ref q6, .ref q65, .ref q66, .ref q67, .ref q68, .ref q69, .ref q70, .ref q71, .ref q72, .ref q73, .int 0, .int 0, .int 0])), (ou, .inl (cy 2, 1, .inr (.inl (fun _ => 0))))] s.heap.size = A at hD hTK ⊢
  have hA : ∀ q : Nat, s.heap.size ≤ q → A q := fun q h => by rw [← hAe]; exact Or.inr h
  obtain ⟨H, hS, hP, hgo⟩ : ∃ H, va_S A s.heap H [] ∧ va_P D vwCl [(h0, .inr (15, [.ref q1, .ref q26, .ref q6, .ref q16, .int 0, .int 0, .ref q35, .ref q41, .ref q88, .ref q111, .ref q127, .ref q132, .int 0, .int 0, .ref q134, .ref q136, .ref q138, .ref q140])), (q41, .inr (3, [.ref q35, .ref q42, .ref q57, .ref q61, .int 0, .ref q6, .ref q65, .ref q66, .ref q67, .ref q68, .ref q69, .ref q70, .ref q71, .ref q72, .ref q73, .int 0, .int 0, .int 0])), (ou, .inl (cy 2, 1, .inr (.inl (fun _ => 0))))] H ∧ H = s.heap := ⟨s.heap, va_S.rf, hP, rfl⟩
  rw [← hgo]
  have hl := lv_entry ([.ref h0, .int p1, .ref ou]) (n := 4) (Nat.le_of_ble_eq_true rfl)
  rw [lg_entry_eq]
  generalize (lg_sl ([.ref h0, .int p1, .ref ou]) ++ List.replicate (4 - (lg_sl ([.ref h0, .int p1, .ref ou])).length) Slot.unset).toArray = ls at hl ⊢
  have hl : lv_has ls 4 [(0, .ref h0), (1, .int p1), (2, .ref ou)] := hl
  refine lv_aload_n hx hb dL_decided_0 rfl (lv_at hl 2 rfl) ?_
  refine lv_iconst (v := 0) hx hb dL_decided_1 (by decide) ?_
  refine lv_aload_n hx hb dL_decided_2 rfl (lv_at hl 0 rfl) ?_
  refine lv_iload_n hx hb dL_decided_3 rfl (lv_at hl 1 rfl) ?_
  have hPc := hP.sub (ws' := [(h0, .inr (15, [.ref q1, .ref q26, .ref q6, .ref q16, .int 0, .int 0, .ref q35, .ref q41, .ref q88, .ref q111, .ref q127, .ref q132, .int 0, .int 0, .ref q134, .ref q136, .ref q138, .ref q140])), (q41, .inr (3, [.ref q35, .ref q42, .ref q57, .ref q61, .int 0, .ref q6, .ref q65, .ref q66, .ref q67, .ref q68, .ref q69, .ref q70, .ref q71, .ref q72, .ref q73, .int 0, .int 0, .int 0]))]) [0, 1] rfl
  have hDc := hD.sub (ws' := [(h0, .inr (15, [.ref q1, .ref q26, .ref q6, .ref q16, .int 0, .int 0, .ref q35, .ref q41, .ref q88, .ref q111, .ref q127, .ref q132, .int 0, .int 0, .ref q134, .ref q136, .ref q138, .ref q140])), (q41, .inr (3, [.ref q35, .ref q42, .ref q57, .ref q61, .int 0, .ref q6, .ref q65, .ref q66, .ref q67, .ref q68, .ref q69, .ref q70, .ref q71, .ref q72, .ref q73, .int 0, .int 0, .int 0]))]) [0, 1] (by decide) rfl
  have hFc := va_free (wc := [(h0, .inr (15, [.ref q1, .ref q26, .ref q6, .ref q16, .int 0, .int 0, .ref q35, .ref q41, .ref q88, .ref q111, .ref q127, .ref q132, .int 0, .int 0, .ref q134, .ref q136, .ref q138, .ref q140])), (q41, .inr (3, [.ref q35, .ref q42, .ref q57, .ref q61, .int 0, .ref q6, .ref q65, .ref q66, .ref q67, .ref q68, .ref q69, .ref q70, .ref q71, .ref q72, .ref q73, .int 0, .int 0, .int 0]))]) hD hS hA [0, 1] rfl
  refine vx_calli (vx_runV (As := [.int p1]) (rest := [.int 0, .ref ou]) ⟨hx, hb, hml, hown, hts⟩ (c_X12_decided l D cy h0 q1 q26 q6 q16 q35 q41 q88 q111 q127 q132 q134 q136 q138 q140 q42 q57 q61 q65 q66 q67 q68 q69 q70 q71 q72 q73 p1 H.size hst) (cwV 1 hts g_c_L_decided_0 rfl rfl rfl (by decide +kernel) ⟨(Nat.le_of_ble_eq_true rfl), (Nat.le_of_ble_eq_true rfl)⟩) ⟨fun a U g mk q => by obtain ⟨q0, q1, qP, qK, qD, qT⟩ := q; exact ⟨q0, q1, qP, kK.moved (u := U) (U := U.calling g mk a) (Vm.Alike.refl U.vm) qK, qD, tK.same rfl rfl qT⟩, va_recv hK hPc (ci := 15) (q0 := 0) rfl rfl, fun U hU hW => ⟨rfl, by rw [hU], by rw [hU]; exact hPc, kK.moved hW.alike hKK, hDc.weaken (fun _ _ _ _ => trivial), tK.at hTK hS hU hW hFc⟩⟩ rfl rfl hl.1 rfl (lv_room (Nat.le_of_ble_eq_true rfl)) dL_decided_4 ⟨(Nat.le_of_ble_eq_true rfl), (Nat.le_of_ble_eq_true rfl)⟩) hS (fun q _ h => hFc q h) hFc (fun q _ h => hFc q h) (fun E9 ce q9 u t H1 locs ht hvm hpx hBX hz1 hk1 hS hce hcv hcl => ?_) (fun r1 u2 t H1 locs ht hvm hw hB hz1 hk1 hS => ?_)
  · skip
    rcases hBX with rfl
    obtain ⟨hP, hD⟩ := va_join (wr := [(ou, .inl (cy 2, 1, .inr (.inl (fun _ => 0))))]) (w1 := []) hP hD [0, 1] [2] rfl rfl (by decide) (by decide) hk1 hFc va_P0 va_D0
    generalize H1 = H at hP hS hce ⊢
    have hP : va_P D vwCl [(ou, .inl (cy 2, 1, .inr (.inl (fun _ => 0))))] H := hP
    have hD : va_D A [(ou, .inl (cy 2, 1, .inr (.inl (fun _ => 0))))] := hD
    refine vx_catch (own := RL) (name := "java/lang/IndexOutOfBoundsException") hown [] ⟨0, 9, 12, 25⟩ [] htab (fun z hz => by cases hz) (by decide) (by decide) (hts (.classLink RL 25 "java/lang/IndexOutOfBoundsException") (List.mem_of_getElem? (i := 1) rfl)) (va_Nw.use rfl (hTK.2.2.1 "java/lang/IndexOutOfBoundsException" (by decide))) hce hcv hcl ?_
    refine W.widen (k := 1) (n := 6) (Nat.le_of_ble_eq_true rfl) (Nat.le_of_ble_eq_true rfl) ?_
    refine lv_astore_n (lv' := [(3, .ref q9), (0, .ref h0), (1, .int p1), (2, .ref ou)]) hx hb dL_decided_12 rfl hl (by decide) rfl (fun ls hl => ?_)
    refine lv_iconst (v := 1) hx hb dL_decided_13 (by decide) ?_
    refine W.widen (k := 1) (n := 6) (Nat.le_of_ble_eq_true rfl) (Nat.le_of_ble_eq_true rfl) ?_
    exact W.iret (v := 1) hx hb hr (fun t ht hW => ⟨⟨1, 0, rfl, ⟨rfl, rfl⟩, (fun _ => 0), by rw [ht]; exact hP.sub [0] rfl, hD.sub [0] (by decide) rfl, rfl⟩, hS.F ht⟩) hS.2.2 dL_decided_14
  · skip
    exact hw.elim
def wq_c_L_best : List Cond := .codeWith yL_best cL_best 3 (some .int) [(0, 8, 11, 30)] :: ([.classLink RL 30 "java/lang/IllegalStateException"] ++ (wsV RL 52 RX12 yX12_best wq_c_X12_best))
set_option maxRecDepth 100000 in
theorem g_c_L_best_0 : GoodIn wq_c_L_best (wsV RL 52 RX12 yX12_best wq_c_X12_best) := goodIn_sub (fun w h => List.mem_cons_of_mem _ (List.mem_append_right _ (h))) (by decide +kernel)
set_option maxHeartbeats 4000000 in
set_option maxRecDepth 100000 in
theorem c_L_best (l : Launch) (D : va_G) (cy : Nat → ClassId) (h0 q1 q26 q6 q16 q35 q41 q88 q111 q127 q132 q134 q136 q138 q140 q42 q57 q61 q65 q66 q67 q68 q69 q70 q71 q72 q73 ou : Nat) (sz : Nat) (hst : l.stackTraces = false) : Met l yL_best wq_c_L_best ({ frames := 7, cells := 1, slots := 6, locals := 102 }) (va_Pc [.ref h0, .ref ou] (fun U => U.heap.size = sz ∧ va_P D vwCl [(h0, .inr (15, [.ref q1, .ref q26, .ref q6, .ref q16, .int 0, .int 0, .ref q35, .ref q41, .ref q88, .ref q111, .ref q127, .ref q132, .int 0, .int 0, .ref q134, .ref q136, .ref q138, .ref q140])), (q41, .inr (3, [.ref q35, .ref q42, .ref q57, .ref q61, .int 0, .ref q6, .ref q65, .ref q66, .ref q67, .ref q68, .ref q69, .ref q70, .ref q71, .ref q72, .ref q73, .int 0, .int 0, .int 0])), (ou, .inl (cy 2, 1, .inr (.inl (fun _ => 0))))] U.heap ∧ kK D cy U ∧ va_D (fun _ => True) [(h0, .inr (15, [.ref q1, .ref q26, .ref q6, .ref q16, .int 0, .int 0, .ref q35, .ref q41, .ref q88, .ref q111, .ref q127, .ref q132, .int 0, .int 0, .ref q134, .ref q136, .ref q138, .ref q140])), (q41, .inr (3, [.ref q35, .ref q42, .ref q57, .ref q61, .int 0, .ref q6, .ref q65, .ref q66, .ref q67, .ref q68, .ref q69, .ref q70, .ref q71, .ref q72, .ref q73, .int 0, .int 0, .int 0])), (ou, .inl (cy 2, 1, .inr (.inl (fun _ => 0))))] ∧ tK (va_A [(h0, .inr (15, [.ref q1, .ref q26, .ref q6, .ref q16, .int 0, .int 0, .ref q35, .ref q41, .ref q88, .ref q111, .ref q127, .ref q132, .int 0, .int 0, .ref q134, .ref q136, .ref q138, .ref q140])), (q41, .inr (3, [.ref q35, .ref q42, .ref q57, .ref q61, .int 0, .ref q6, .ref q65, .ref q66, .ref q67, .ref q68, .ref q69, .ref q70, .ref q71, .ref q72, .ref q73, .int 0, .int 0, .int 0])), (ou, .inl (cy 2, 1, .inr (.inl (fun _ => 0))))] sz) U)) (va_Qi (fun (r : Int32) (u : Int64) => (r = 1 ∧ u = 0)) (fun (u : Int64) t => ∃ f : Nat → Int64, va_P D vwCl [(ou, .inl (cy 2, 1, .inr (.inl f)))] t.heap ∧ va_D (va_A [(h0, .inr (15, [.ref q1, .ref q26, .ref q6, .ref q16, .int 0, .int 0, .ref q35, .ref q41, .ref q88, .ref q111, .ref q127, .ref q132, .int 0, .int 0, .ref q134, .ref q136, .ref q138, .ref q140])), (q41, .inr (3, [.ref q35, .ref q42, .ref q57, .ref q61, .int 0, .ref q6, .ref q65, .ref q66, .ref q67, .ref q68, .ref q69, .ref q70, .ref q71, .ref q72, .ref q73, .int 0, .int 0, .int 0])), (ou, .inl (cy 2, 1, .inr (.inl (fun _ => 0))))] sz) [(ou, .inl (cy 2, 1, .inr (.inl f)))] ∧ f 0 = u) (va_A [(h0, .inr (15, [.ref q1, .ref q26, .ref q6, .ref q16, .int 0, .int 0, .ref q35, .ref q41, .ref q88, .ref q111, .ref q127, .ref q132, .int 0, .int 0, .ref q134, .ref q136, .ref q138, .ref q140])), (q41, .inr (3, [.ref q35, .ref q42, .ref q57, .ref q61, .int 0, .ref q6, .ref q65, .ref q66, .ref q67, .ref q68, .ref q69, .ref q70, .ref q71, .ref q72, .ref q73, .int 0, .int 0, .int 0])), (ou, .inl (cy 2, 1, .inr (.inl (fun _ => 0))))] sz)) 1 6 (va_A [(h0, .inr (15, [.ref q1, .ref q26, .ref q6, .ref q16, .int 0, .int 0, .ref q35, .ref q41, .ref q88, .ref q111, .ref q127, .ref q132, .int 0, .int 0, .ref q134, .ref q136, .ref q138, .ref q140])), (q41, .inr (3, [.ref q35, .ref q42, .ref q57, .ref q61, .int 0, .ref q6, .ref q65, .ref q66, .ref q67, .ref q68, .ref q69, .ref q70, .ref q71, .ref q72, .ref q73, .int 0, .int 0, .int 0])), (ou, .inl (cy 2, 1, .inr (.inl (fun _ => 0))))] sz) := by
  refine va_MetW (cc := cL_best) (maxL := 3) (ret := (some .int)) (by decide) rfl ?_
  intro p e s m args below meth c s₁ B hml hv
  obtain ⟨rfl, hsz, hP, hKK, hD0, hTK⟩ := hv
  have hK := hKK.1
  have hx := B.exec
  have hb := B.bytes
  have hr := B.returns
  have hts := atoms_spec (ws := wq_c_L_best) B.pre
  have hown : s.vm.findClass RL = some m.cls := findClass_of_methodNamed B.named
  have hlocks := B.notSynchronized
  have htab := vx_table (x := yL_best) B (hts _ List.mem_cons_self)
  subst hsz
  have hD := hD0.self (sz := s.heap.size)
  generalize hAe : va_A [(h0, .inr (15, [.ref q1, .ref q26, .ref q6, .ref q16, .int 0, .int 0, .ref q35, .ref q41, .ref q88, .ref q111, .ref q127, .ref q132, .int 0, .int 0, .ref q134, .ref q136, .ref q138, .ref q140])), (q41, .inr (3, [.ref q35, .ref q42, .ref q57, .ref q61, .int 0, .ref q6, .ref q65, .ref q66, .ref q67, .ref q68, .ref q69, .ref q70, .ref q71, .ref q72, .ref q73, .int 0, .int 0, .int 0])), (ou, .inl (cy 2, 1, .inr (.inl (fun _ => 0))))] s.heap.size = A at hD hTK ⊢
  have hA : ∀ q : Nat, s.heap.size ≤ q → A q := fun q h => by rw [← hAe]; exact Or.inr h
  obtain ⟨H, hS, hP, hgo⟩ : ∃ H, va_S A s.heap H [] ∧ va_P D vwCl [(h0, .inr (15, [.ref q1, .ref q26, .ref q6, .ref q16, .int 0, .int 0, .ref q35, .ref q41, .ref q88, .ref q111, .ref q127, .ref q132, .int 0, .int 0, .ref q134, .ref q136, .ref q138, .ref q140])), (q41, .inr (3, [.ref q35, .ref q42, .ref q57, .ref q61, .int 0, .ref q6, .ref q65, .ref q66, .ref q67, .ref q68, .ref q69, .ref q70, .ref q71, .ref q72, .ref q73, .int 0, .int 0, .int 0])), (ou, .inl (cy 2, 1, .inr (.inl (fun _ => 0))))] H ∧ H = s.heap := ⟨s.heap, va_S.rf, hP, rfl⟩
  rw [← hgo]
  have hl := lv_entry ([.ref h0, .ref ou]) (n := 3) (Nat.le_of_ble_eq_true rfl)
  rw [lg_entry_eq]
  generalize (lg_sl ([.ref h0, .ref ou]) ++ List.replicate (3 - (lg_sl ([.ref h0, .ref ou])).length) Slot.unset).toArray = ls at hl ⊢
  have hl : lv_has ls 3 [(0, .ref h0), (1, .ref ou)] := hl
  refine lv_aload_n hx hb dL_best_0 rfl (lv_at hl 1 rfl) ?_
  refine lv_iconst (v := 0) hx hb dL_best_1 (by decide) ?_
  refine lv_aload_n hx hb dL_best_2 rfl (lv_at hl 0 rfl) ?_
  have hPc := hP.sub (ws' := [(h0, .inr (15, [.ref q1, .ref q26, .ref q6, .ref q16, .int 0, .int 0, .ref q35, .ref q41, .ref q88, .ref q111, .ref q127, .ref q132, .int 0, .int 0, .ref q134, .ref q136, .ref q138, .ref q140])), (q41, .inr (3, [.ref q35, .ref q42, .ref q57, .ref q61, .int 0, .ref q6, .ref q65, .ref q66, .ref q67, .ref q68, .ref q69, .ref q70, .ref q71, .ref q72, .ref q73, .int 0, .int 0, .int 0]))]) [0, 1] rfl
  have hDc := hD.sub (ws' := [(h0, .inr (15, [.ref q1, .ref q26, .ref q6, .ref q16, .int 0, .int 0, .ref q35, .ref q41, .ref q88, .ref q111, .ref q127, .ref q132, .int 0, .int 0, .ref q134, .ref q136, .ref q138, .ref q140])), (q41, .inr (3, [.ref q35, .ref q42, .ref q57, .ref q61, .int 0, .ref q6, .ref q65, .ref q66, .ref q67, .ref q68, .ref q69, .ref q70, .ref q71, .ref q72, .ref q73, .int 0, .int 0, .int 0]))]) [0, 1] (by decide) rfl
  have hFc := va_free (wc := [(h0, .inr (15, [.ref q1, .ref q26, .ref q6, .ref q16, .int 0, .int 0, .ref q35, .ref q41, .ref q88, .ref q111, .ref q127, .ref q132, .int 0, .int 0, .ref q134, .ref q136, .ref q138, .ref q140])), (q41, .inr (3, [.ref q35, .ref q42, .ref q57, .ref q61, .int 0, .ref q6, .ref q65, .ref q66, .ref q67, .ref q68, .ref q69, .ref q70, .ref q71, .ref q72, .ref q73, .int 0, .int 0, .int 0]))]) hD hS hA [0, 1] rfl
  refine vx_calli (vx_runV (As := []) (rest := [.int 0, .ref ou]) ⟨hx, hb, hml, hown, hts⟩ (c_X12_best l D cy h0 q1 q26 q6 q16 q35 q41 q88 q111 q127 q132 q134 q136 q138 q140 q42 q57 q61 q65 q66 q67 q68 q69 q70 q71 q72 q73 H.size hst) (cwV 0 hts g_c_L_best_0 rfl rfl rfl (by decide +kernel) ⟨(Nat.le_of_ble_eq_true rfl), (Nat.le_of_ble_eq_true rfl)⟩) ⟨fun a U g mk q => by obtain ⟨q0, q1, qP, qK, qD, qT⟩ := q; exact ⟨q0, q1, qP, kK.moved (u := U) (U := U.calling g mk a) (Vm.Alike.refl U.vm) qK, qD, tK.same rfl rfl qT⟩, va_recv hK hPc (ci := 15) (q0 := 0) rfl rfl, fun U hU hW => ⟨rfl, by rw [hU], by rw [hU]; exact hPc, kK.moved hW.alike hKK, hDc.weaken (fun _ _ _ _ => trivial), tK.at hTK hS hU hW hFc⟩⟩ rfl rfl hl.1 rfl (lv_room (Nat.le_of_ble_eq_true rfl)) dL_best_3 ⟨(Nat.le_of_ble_eq_true rfl), (Nat.le_of_ble_eq_true rfl)⟩) hS (fun q _ h => hFc q h) hFc (fun q _ h => hFc q h) (fun E9 ce q9 u t H1 locs ht hvm hpx hBX hz1 hk1 hS hce hcv hcl => ?_) (fun r1 u2 t H1 locs ht hvm hw hB hz1 hk1 hS => ?_)
  · skip
    rcases hBX with rfl
    obtain ⟨hP, hD⟩ := va_join (wr := [(ou, .inl (cy 2, 1, .inr (.inl (fun _ => 0))))]) (w1 := []) hP hD [0, 1] [2] rfl rfl (by decide) (by decide) hk1 hFc va_P0 va_D0
    generalize H1 = H at hP hS hce ⊢
    have hP : va_P D vwCl [(ou, .inl (cy 2, 1, .inr (.inl (fun _ => 0))))] H := hP
    have hD : va_D A [(ou, .inl (cy 2, 1, .inr (.inl (fun _ => 0))))] := hD
    refine vx_catch (own := RL) (name := "java/lang/IllegalStateException") hown [] ⟨0, 8, 11, 30⟩ [] htab (fun z hz => by cases hz) (by decide) (by decide) (hts (.classLink RL 30 "java/lang/IllegalStateException") (List.mem_of_getElem? (i := 1) rfl)) (va_Nw.use rfl (hTK.2.2.1 "java/lang/IllegalStateException" (by decide))) hce hcv hcl ?_
    refine W.widen (k := 1) (n := 6) (Nat.le_of_ble_eq_true rfl) (Nat.le_of_ble_eq_true rfl) ?_
    refine lv_astore_n (lv' := [(2, .ref q9), (0, .ref h0), (1, .ref ou)]) hx hb dL_best_11 rfl hl (by decide) rfl (fun ls hl => ?_)
    refine lv_iconst (v := 1) hx hb dL_best_12 (by decide) ?_
    refine W.widen (k := 1) (n := 6) (Nat.le_of_ble_eq_true rfl) (Nat.le_of_ble_eq_true rfl) ?_
    exact W.iret (v := 1) hx hb hr (fun t ht hW => ⟨⟨1, 0, rfl, ⟨rfl, rfl⟩, (fun _ => 0), by rw [ht]; exact hP.sub [0] rfl, hD.sub [0] (by decide) rfl, rfl⟩, hS.F ht⟩) hS.2.2 dL_best_13
  · skip
    exact hw.elim
def wq_c_L_solve : List Cond := .codeWith yL_solve cL_solve 3 (some .int) [(0, 8, 11, 30)] :: ([.classLink RL 30 "java/lang/IllegalStateException"] ++ (wsV RL 56 RX12 yX12_solve wq_c_X12_solve))
set_option maxRecDepth 100000 in
theorem g_c_L_solve_0 : GoodIn wq_c_L_solve (wsV RL 56 RX12 yX12_solve wq_c_X12_solve) := goodIn_sub (fun w h => List.mem_cons_of_mem _ (List.mem_append_right _ (h))) (by decide +kernel)
set_option maxHeartbeats 4000000 in
set_option maxRecDepth 100000 in
theorem c_L_solve (l : Launch) (D : va_G) (cy : Nat → ClassId) (h0 q1 q26 q6 q16 q35 q41 q88 q111 q127 q132 q134 q136 q138 q140 q42 q57 q61 q65 q66 q67 q68 q69 q70 q71 q72 q73 ou : Nat) (sz : Nat) (hst : l.stackTraces = false) : Met l yL_solve wq_c_L_solve ({ frames := 7, cells := 1, slots := 6, locals := 102 }) (va_Pc [.ref h0, .ref ou] (fun U => U.heap.size = sz ∧ va_P D vwCl [(h0, .inr (15, [.ref q1, .ref q26, .ref q6, .ref q16, .int 0, .int 0, .ref q35, .ref q41, .ref q88, .ref q111, .ref q127, .ref q132, .int 0, .int 0, .ref q134, .ref q136, .ref q138, .ref q140])), (q41, .inr (3, [.ref q35, .ref q42, .ref q57, .ref q61, .int 0, .ref q6, .ref q65, .ref q66, .ref q67, .ref q68, .ref q69, .ref q70, .ref q71, .ref q72, .ref q73, .int 0, .int 0, .int 0])), (ou, .inl (cy 2, 1, .inr (.inl (fun _ => 0))))] U.heap ∧ kK D cy U ∧ va_D (fun _ => True) [(h0, .inr (15, [.ref q1, .ref q26, .ref q6, .ref q16, .int 0, .int 0, .ref q35, .ref q41, .ref q88, .ref q111, .ref q127, .ref q132, .int 0, .int 0, .ref q134, .ref q136, .ref q138, .ref q140])), (q41, .inr (3, [.ref q35, .ref q42, .ref q57, .ref q61, .int 0, .ref q6, .ref q65, .ref q66, .ref q67, .ref q68, .ref q69, .ref q70, .ref q71, .ref q72, .ref q73, .int 0, .int 0, .int 0])), (ou, .inl (cy 2, 1, .inr (.inl (fun _ => 0))))] ∧ tK (va_A [(h0, .inr (15, [.ref q1, .ref q26, .ref q6, .ref q16, .int 0, .int 0, .ref q35, .ref q41, .ref q88, .ref q111, .ref q127, .ref q132, .int 0, .int 0, .ref q134, .ref q136, .ref q138, .ref q140])), (q41, .inr (3, [.ref q35, .ref q42, .ref q57, .ref q61, .int 0, .ref q6, .ref q65, .ref q66, .ref q67, .ref q68, .ref q69, .ref q70, .ref q71, .ref q72, .ref q73, .int 0, .int 0, .int 0])), (ou, .inl (cy 2, 1, .inr (.inl (fun _ => 0))))] sz) U)) (va_Qi (fun (r : Int32) (u : Int64) => (r = 1 ∧ u = 0)) (fun (u : Int64) t => ∃ f : Nat → Int64, va_P D vwCl [(ou, .inl (cy 2, 1, .inr (.inl f)))] t.heap ∧ va_D (va_A [(h0, .inr (15, [.ref q1, .ref q26, .ref q6, .ref q16, .int 0, .int 0, .ref q35, .ref q41, .ref q88, .ref q111, .ref q127, .ref q132, .int 0, .int 0, .ref q134, .ref q136, .ref q138, .ref q140])), (q41, .inr (3, [.ref q35, .ref q42, .ref q57, .ref q61, .int 0, .ref q6, .ref q65, .ref q66, .ref q67, .ref q68, .ref q69, .ref q70, .ref q71, .ref q72, .ref q73, .int 0, .int 0, .int 0])), (ou, .inl (cy 2, 1, .inr (.inl (fun _ => 0))))] sz) [(ou, .inl (cy 2, 1, .inr (.inl f)))] ∧ f 0 = u) (va_A [(h0, .inr (15, [.ref q1, .ref q26, .ref q6, .ref q16, .int 0, .int 0, .ref q35, .ref q41, .ref q88, .ref q111, .ref q127, .ref q132, .int 0, .int 0, .ref q134, .ref q136, .ref q138, .ref q140])), (q41, .inr (3, [.ref q35, .ref q42, .ref q57, .ref q61, .int 0, .ref q6, .ref q65, .ref q66, .ref q67, .ref q68, .ref q69, .ref q70, .ref q71, .ref q72, .ref q73, .int 0, .int 0, .int 0])), (ou, .inl (cy 2, 1, .inr (.inl (fun _ => 0))))] sz)) 1 6 (va_A [(h0, .inr (15, [.ref q1, .ref q26, .ref q6, .ref q16, .int 0, .int 0, .ref q35, .ref q41, .ref q88, .ref q111, .ref q127, .ref q132, .int 0, .int 0, .ref q134, .ref q136, .ref q138, .ref q140])), (q41, .inr (3, [.ref q35, .ref q42, .ref q57, .ref q61, .int 0, .ref q6, .ref q65, .ref q66, .ref q67, .ref q68, .ref q69, .ref q70, .ref q71, .ref q72, .ref q73, .int 0, .int 0, .int 0])), (ou, .inl (cy 2, 1, .inr (.inl (fun _ => 0))))] sz) := by
  refine va_MetW (cc := cL_solve) (maxL := 3) (ret := (some .int)) (by decide) rfl ?_
  intro p e s m args below meth c s₁ B hml hv
  obtain ⟨rfl, hsz, hP, hKK, hD0, hTK⟩ := hv
  have hK := hKK.1
  have hx := B.exec
  have hb := B.bytes
  have hr := B.returns
  have hts := atoms_spec (ws := wq_c_L_solve) B.pre
  have hown : s.vm.findClass RL = some m.cls := findClass_of_methodNamed B.named
  have hlocks := B.notSynchronized
  have htab := vx_table (x := yL_solve) B (hts _ List.mem_cons_self)
  subst hsz
  have hD := hD0.self (sz := s.heap.size)
  generalize hAe : va_A [(h0, .inr (15, [.ref q1, .ref q26, .ref q6, .ref q16, .int 0, .int 0, .ref q35, .ref q41, .ref q88, .ref q111, .ref q127, .ref q132, .int 0, .int 0, .ref q134, .ref q136, .ref q138, .ref q140])), (q41, .inr (3, [.ref q35, .ref q42, .ref q57, .ref q61, .int 0, .ref q6, .ref q65, .ref q66, .ref q67, .ref q68, .ref q69, .ref q70, .ref q71, .ref q72, .ref q73, .int 0, .int 0, .int 0])), (ou, .inl (cy 2, 1, .inr (.inl (fun _ => 0))))] s.heap.size = A at hD hTK ⊢
  have hA : ∀ q : Nat, s.heap.size ≤ q → A q := fun q h => by rw [← hAe]; exact Or.inr h
  obtain ⟨H, hS, hP, hgo⟩ : ∃ H, va_S A s.heap H [] ∧ va_P D vwCl [(h0, .inr (15, [.ref q1, .ref q26, .ref q6, .ref q16, .int 0, .int 0, .ref q35, .ref q41, .ref q88, .ref q111, .ref q127, .ref q132, .int 0, .int 0, .ref q134, .ref q136, .ref q138, .ref q140])), (q41, .inr (3, [.ref q35, .ref q42, .ref q57, .ref q61, .int 0, .ref q6, .ref q65, .ref q66, .ref q67, .ref q68, .ref q69, .ref q70, .ref q71, .ref q72, .ref q73, .int 0, .int 0, .int 0])), (ou, .inl (cy 2, 1, .inr (.inl (fun _ => 0))))] H ∧ H = s.heap := ⟨s.heap, va_S.rf, hP, rfl⟩
  rw [← hgo]
  have hl := lv_entry ([.ref h0, .ref ou]) (n := 3) (Nat.le_of_ble_eq_true rfl)
  rw [lg_entry_eq]
  generalize (lg_sl ([.ref h0, .ref ou]) ++ List.replicate (3 - (lg_sl ([.ref h0, .ref ou])).length) Slot.unset).toArray = ls at hl ⊢
  have hl : lv_has ls 3 [(0, .ref h0), (1, .ref ou)] := hl
  refine lv_aload_n hx hb dL_solve_0 rfl (lv_at hl 1 rfl) ?_
  refine lv_iconst (v := 0) hx hb dL_solve_1 (by decide) ?_
  refine lv_aload_n hx hb dL_solve_2 rfl (lv_at hl 0 rfl) ?_
  have hPc := hP.sub (ws' := [(h0, .inr (15, [.ref q1, .ref q26, .ref q6, .ref q16, .int 0, .int 0, .ref q35, .ref q41, .ref q88, .ref q111, .ref q127, .ref q132, .int 0, .int 0, .ref q134, .ref q136, .ref q138, .ref q140])), (q41, .inr (3, [.ref q35, .ref q42, .ref q57, .ref q61, .int 0, .ref q6, .ref q65, .ref q66, .ref q67, .ref q68, .ref q69, .ref q70, .ref q71, .ref q72, .ref q73, .int 0, .int 0, .int 0]))]) [0, 1] rfl
  have hDc := hD.sub (ws' := [(h0, .inr (15, [.ref q1, .ref q26, .ref q6, .ref q16, .int 0, .int 0, .ref q35, .ref q41, .ref q88, .ref q111, .ref q127, .ref q132, .int 0, .int 0, .ref q134, .ref q136, .ref q138, .ref q140])), (q41, .inr (3, [.ref q35, .ref q42, .ref q57, .ref q61, .int 0, .ref q6, .ref q65, .ref q66, .ref q67, .ref q68, .ref q69, .ref q70, .ref q71, .ref q72, .ref q73, .int 0, .int 0, .int 0]))]) [0, 1] (by decide) rfl
  have hFc := va_free (wc := [(h0, .inr (15, [.ref q1, .ref q26, .ref q6, .ref q16, .int 0, .int 0, .ref q35, .ref q41, .ref q88, .ref q111, .ref q127, .ref q132, .int 0, .int 0, .ref q134, .ref q136, .ref q138, .ref q140])), (q41, .inr (3, [.ref q35, .ref q42, .ref q57, .ref q61, .int 0, .ref q6, .ref q65, .ref q66, .ref q67, .ref q68, .ref q69, .ref q70, .ref q71, .ref q72, .ref q73, .int 0, .int 0, .int 0]))]) hD hS hA [0, 1] rfl
  refine vx_calli (vx_runV (As := []) (rest := [.int 0, .ref ou]) ⟨hx, hb, hml, hown, hts⟩ (c_X12_solve l D cy h0 q1 q26 q6 q16 q35 q41 q88 q111 q127 q132 q134 q136 q138 q140 q42 q57 q61 q65 q66 q67 q68 q69 q70 q71 q72 q73 H.size hst) (cwV 0 hts g_c_L_solve_0 rfl rfl rfl (by decide +kernel) ⟨(Nat.le_of_ble_eq_true rfl), (Nat.le_of_ble_eq_true rfl)⟩) ⟨fun a U g mk q => by obtain ⟨q0, q1, qP, qK, qD, qT⟩ := q; exact ⟨q0, q1, qP, kK.moved (u := U) (U := U.calling g mk a) (Vm.Alike.refl U.vm) qK, qD, tK.same rfl rfl qT⟩, va_recv hK hPc (ci := 15) (q0 := 0) rfl rfl, fun U hU hW => ⟨rfl, by rw [hU], by rw [hU]; exact hPc, kK.moved hW.alike hKK, hDc.weaken (fun _ _ _ _ => trivial), tK.at hTK hS hU hW hFc⟩⟩ rfl rfl hl.1 rfl (lv_room (Nat.le_of_ble_eq_true rfl)) dL_solve_3 ⟨(Nat.le_of_ble_eq_true rfl), (Nat.le_of_ble_eq_true rfl)⟩) hS (fun q _ h => hFc q h) hFc (fun q _ h => hFc q h) (fun E9 ce q9 u t H1 locs ht hvm hpx hBX hz1 hk1 hS hce hcv hcl => ?_) (fun r1 u2 t H1 locs ht hvm hw hB hz1 hk1 hS => ?_)
  · skip
    rcases hBX with rfl
    obtain ⟨hP, hD⟩ := va_join (wr := [(ou, .inl (cy 2, 1, .inr (.inl (fun _ => 0))))]) (w1 := []) hP hD [0, 1] [2] rfl rfl (by decide) (by decide) hk1 hFc va_P0 va_D0
    generalize H1 = H at hP hS hce ⊢
    have hP : va_P D vwCl [(ou, .inl (cy 2, 1, .inr (.inl (fun _ => 0))))] H := hP
    have hD : va_D A [(ou, .inl (cy 2, 1, .inr (.inl (fun _ => 0))))] := hD
    refine vx_catch (own := RL) (name := "java/lang/IllegalStateException") hown [] ⟨0, 8, 11, 30⟩ [] htab (fun z hz => by cases hz) (by decide) (by decide) (hts (.classLink RL 30 "java/lang/IllegalStateException") (List.mem_of_getElem? (i := 1) rfl)) (va_Nw.use rfl (hTK.2.2.1 "java/lang/IllegalStateException" (by decide))) hce hcv hcl ?_
    refine W.widen (k := 1) (n := 6) (Nat.le_of_ble_eq_true rfl) (Nat.le_of_ble_eq_true rfl) ?_
    refine lv_astore_n (lv' := [(2, .ref q9), (0, .ref h0), (1, .ref ou)]) hx hb dL_solve_11 rfl hl (by decide) rfl (fun ls hl => ?_)
    refine lv_iconst (v := 1) hx hb dL_solve_12 (by decide) ?_
    refine W.widen (k := 1) (n := 6) (Nat.le_of_ble_eq_true rfl) (Nat.le_of_ble_eq_true rfl) ?_
    exact W.iret (v := 1) hx hb hr (fun t ht hW => ⟨⟨1, 0, rfl, ⟨rfl, rfl⟩, (fun _ => 0), by rw [ht]; exact hP.sub [0] rfl, hD.sub [0] (by decide) rfl, rfl⟩, hS.F ht⟩) hS.2.2 dL_solve_13
  · skip
    exact hw.elim
def wq_c_L_show : List Cond := .codeWith yL_show cL_show 5 (some .int) [(0, 10, 13, 19), (0, 10, 17, 30), (0, 10, 21, 25)] :: ([.classLink RL 19 "java/lang/IllegalArgumentException", .classLink RL 30 "java/lang/IllegalStateException"] ++ (wsV RL 59 RX12 yX12_show wq_c_X12_show))
set_option maxRecDepth 100000 in
theorem g_c_L_show_0 : GoodIn wq_c_L_show (wsV RL 59 RX12 yX12_show wq_c_X12_show) := goodIn_sub (fun w h => List.mem_cons_of_mem _ (List.mem_append_right _ (h))) (by decide +kernel)
set_option maxHeartbeats 4000000 in
set_option maxRecDepth 100000 in
theorem c_L_show (l : Launch) (D : va_G) (cy : Nat → ClassId) (h0 q1 q26 q6 q16 q35 q41 q88 q111 q127 q132 q134 q136 q138 q140 q42 q74 q89 q90 q91 q93 q98 q100 q102 q104 q106 q108 q109 q110 ou : Nat) (p1 p2 : Int32) (sz : Nat) (hst : l.stackTraces = false) : Met l yL_show wq_c_L_show ({ frames := 7, cells := 1, slots := 6, locals := 104 }) (va_Pc [.ref h0, .int p1, .int p2, .ref ou] (fun U => U.heap.size = sz ∧ va_P D vwCl [(h0, .inr (15, [.ref q1, .ref q26, .ref q6, .ref q16, .int 0, .int 0, .ref q35, .ref q41, .ref q88, .ref q111, .ref q127, .ref q132, .int 0, .int 0, .ref q134, .ref q136, .ref q138, .ref q140])), (q88, .inr (12, [.ref q41, .ref q42, .ref q74, .int 0, .int 0, .ref q89, .ref q90, .ref q91, .ref q93, .ref q98, .ref q100, .ref q102, .ref q104, .ref q106, .ref q108, .ref q109, .ref q110])), (ou, .inl (cy 2, 1, .inr (.inl (fun _ => 0))))] U.heap ∧ kK D cy U ∧ va_D (fun _ => True) [(h0, .inr (15, [.ref q1, .ref q26, .ref q6, .ref q16, .int 0, .int 0, .ref q35, .ref q41, .ref q88, .ref q111, .ref q127, .ref q132, .int 0, .int 0, .ref q134, .ref q136, .ref q138, .ref q140])), (q88, .inr (12, [.ref q41, .ref q42, .ref q74, .int 0, .int 0, .ref q89, .ref q90, .ref q91, .ref q93, .ref q98, .ref q100, .ref q102, .ref q104, .ref q106, .ref q108, .ref q109, .ref q110])), (ou, .inl (cy 2, 1, .inr (.inl (fun _ => 0))))] ∧ tK (va_A [(h0, .inr (15, [.ref q1, .ref q26, .ref q6, .ref q16, .int 0, .int 0, .ref q35, .ref q41, .ref q88, .ref q111, .ref q127, .ref q132, .int 0, .int 0, .ref q134, .ref q136, .ref q138, .ref q140])), (q88, .inr (12, [.ref q41, .ref q42, .ref q74, .int 0, .int 0, .ref q89, .ref q90, .ref q91, .ref q93, .ref q98, .ref q100, .ref q102, .ref q104, .ref q106, .ref q108, .ref q109, .ref q110])), (ou, .inl (cy 2, 1, .inr (.inl (fun _ => 0))))] sz) U)) (va_Qi (fun (r : Int32) (u : Int64) => (p1 < 0 ∧ r = 1 ∧ u = 0) ∨ (¬ p1 < 0 ∧ p1 ≤ 12 ∧ ¬ p1 = 12 ∧ ¬ p1 = 11 ∧ r = 2 ∧ u = 0) ∨ (¬ p1 < 0 ∧ p1 ≤ 12 ∧ p1 = 11 ∧ ¬ p1 = 12 ∧ p1 = 11 ∧ r = 2 ∧ u = 0) ∨ (¬ p1 < 0 ∧ p1 ≤ 12 ∧ p1 = 12 ∧ p1 = 12 ∧ r = 2 ∧ u = 0) ∨ (¬ p1 < 0 ∧ ¬ p1 ≤ 12 ∧ r = 1 ∧ u = 0)) (fun (u : Int64) t => ∃ f : Nat → Int64, va_P D vwCl [(ou, .inl (cy 2, 1, .inr (.inl f)))] t.heap ∧ va_D (va_A [(h0, .inr (15, [.ref q1, .ref q26, .ref q6, .ref q16, .int 0, .int 0, .ref q35, .ref q41, .ref q88, .ref q111, .ref q127, .ref q132, .int 0, .int 0, .ref q134, .ref q136, .ref q138, .ref q140])), (q88, .inr (12, [.ref q41, .ref q42, .ref q74, .int 0, .int 0, .ref q89, .ref q90, .ref q91, .ref q93, .ref q98, .ref q100, .ref q102, .ref q104, .ref q106, .ref q108, .ref q109, .ref q110])), (ou, .inl (cy 2, 1, .inr (.inl (fun _ => 0))))] sz) [(ou, .inl (cy 2, 1, .inr (.inl f)))] ∧ f 0 = u) (va_A [(h0, .inr (15, [.ref q1, .ref q26, .ref q6, .ref q16, .int 0, .int 0, .ref q35, .ref q41, .ref q88, .ref q111, .ref q127, .ref q132, .int 0, .int 0, .ref q134, .ref q136, .ref q138, .ref q140])), (q88, .inr (12, [.ref q41, .ref q42, .ref q74, .int 0, .int 0, .ref q89, .ref q90, .ref q91, .ref q93, .ref q98, .ref q100, .ref q102, .ref q104, .ref q106, .ref q108, .ref q109, .ref q110])), (ou, .inl (cy 2, 1, .inr (.inl (fun _ => 0))))] sz)) 1 6 (va_A [(h0, .inr (15, [.ref q1, .ref q26, .ref q6, .ref q16, .int 0, .int 0, .ref q35, .ref q41, .ref q88, .ref q111, .ref q127, .ref q132, .int 0, .int 0, .ref q134, .ref q136, .ref q138, .ref q140])), (q88, .inr (12, [.ref q41, .ref q42, .ref q74, .int 0, .int 0, .ref q89, .ref q90, .ref q91, .ref q93, .ref q98, .ref q100, .ref q102, .ref q104, .ref q106, .ref q108, .ref q109, .ref q110])), (ou, .inl (cy 2, 1, .inr (.inl (fun _ => 0))))] sz) := by
  refine va_MetW (cc := cL_show) (maxL := 5) (ret := (some .int)) (by decide) rfl ?_
  intro p e s m args below meth c s₁ B hml hv
  obtain ⟨rfl, hsz, hP, hKK, hD0, hTK⟩ := hv
  have hK := hKK.1
  have hx := B.exec
  have hb := B.bytes
  have hr := B.returns
  have hts := atoms_spec (ws := wq_c_L_show) B.pre
  have hown : s.vm.findClass RL = some m.cls := findClass_of_methodNamed B.named
  have hlocks := B.notSynchronized
  have htab := vx_table (x := yL_show) B (hts _ List.mem_cons_self)
  subst hsz
  have hD := hD0.self (sz := s.heap.size)
  generalize hAe : va_A [(h0, .inr (15, [.ref q1, .ref q26, .ref q6, .ref q16, .int 0, .int 0, .ref q35, .ref q41, .ref q88, .ref q111, .ref q127, .ref q132, .int 0, .int 0, .ref q134, .ref q136, .ref q138, .ref q140])), (q88, .inr (12, [.ref q41, .ref q42, .ref q74, .int 0, .int 0, .ref q89, .ref q90, .ref q91, .ref q93, .ref q98, .ref q100, .ref q102, .ref q104, .ref q106, .ref q108, .ref q109, .ref q110])), (ou, .inl (cy 2, 1, .inr (.inl (fun _ => 0))))] s.heap.size = A at hD hTK ⊢
  have hA : ∀ q : Nat, s.heap.size ≤ q → A q := fun q h => by rw [← hAe]; exact Or.inr h
  obtain ⟨H, hS, hP, hgo⟩ : ∃ H, va_S A s.heap H [] ∧ va_P D vwCl [(h0, .inr (15, [.ref q1, .ref q26, .ref q6, .ref q16, .int 0, .int 0, .ref q35, .ref q41, .ref q88, .ref q111, .ref q127, .ref q132, .int 0, .int 0, .ref q134, .ref q136, .ref q138, .ref q140])), (q88, .inr (12, [.ref q41, .ref q42, .ref q74, .int 0, .int 0, .ref q89, .ref q90, .ref q91, .ref q93, .ref q98, .ref q100, .ref q102, .ref q104, .ref q106, .ref q108, .ref q109, .ref q110])), (ou, .inl (cy 2, 1, .inr (.inl (fun _ => 0))))] H ∧ H = s.heap := ⟨s.heap, va_S.rf, hP, rfl⟩
  rw [← hgo]
  have hl := lv_entry ([.ref h0, .int p1, .int p2, .ref ou]) (n := 5) (Nat.le_of_ble_eq_true rfl)
  rw [lg_entry_eq]
  generalize (lg_sl ([.ref h0, .int p1, .int p2, .ref ou]) ++ List.replicate (5 - (lg_sl ([.ref h0, .int p1, .int p2, .ref ou])).length) Slot.unset).toArray = ls at hl ⊢
  have hl : lv_has ls 5 [(0, .ref h0), (1, .int p1), (2, .int p2), (3, .ref ou)] := hl
  refine lv_aload_n hx hb dL_show_0 rfl (lv_at hl 3 rfl) ?_
  refine lv_iconst (v := 0) hx hb dL_show_1 (by decide) ?_
  refine lv_aload_n hx hb dL_show_2 rfl (lv_at hl 0 rfl) ?_
  refine lv_iload_n hx hb dL_show_3 rfl (lv_at hl 1 rfl) ?_
  refine lv_iload_n hx hb dL_show_4 rfl (lv_at hl 2 rfl) ?_
  have hPc := hP.sub (ws' := [(h0, .inr (15, [.ref q1, .ref q26, .ref q6, .ref q16, .int 0, .int 0, .ref q35, .ref q41, .ref q88, .ref q111, .ref q127, .ref q132, .int 0, .int 0, .ref q134, .ref q136, .ref q138, .ref q140])), (q88, .inr (12, [.ref q41, .ref q42, .ref q74, .int 0, .int 0, .ref q89, .ref q90, .ref q91, .ref q93, .ref q98, .ref q100, .ref q102, .ref q104, .ref q106, .ref q108, .ref q109, .ref q110]))]) [0, 1] rfl
  have hDc := hD.sub (ws' := [(h0, .inr (15, [.ref q1, .ref q26, .ref q6, .ref q16, .int 0, .int 0, .ref q35, .ref q41, .ref q88, .ref q111, .ref q127, .ref q132, .int 0, .int 0, .ref q134, .ref q136, .ref q138, .ref q140])), (q88, .inr (12, [.ref q41, .ref q42, .ref q74, .int 0, .int 0, .ref q89, .ref q90, .ref q91, .ref q93, .ref q98, .ref q100, .ref q102, .ref q104, .ref q106, .ref q108, .ref q109, .ref q110]))]) [0, 1] (by decide) rfl
  have hFc := va_free (wc := [(h0, .inr (15, [.ref q1, .ref q26, .ref q6, .ref q16, .int 0, .int 0, .ref q35, .ref q41, .ref q88, .ref q111, .ref q127, .ref q132, .int 0, .int 0, .ref q134, .ref q136, .ref q138, .ref q140])), (q88, .inr (12, [.ref q41, .ref q42, .ref q74, .int 0, .int 0, .ref q89, .ref q90, .ref q91, .ref q93, .ref q98, .ref q100, .ref q102, .ref q104, .ref q106, .ref q108, .ref q109, .ref q110]))]) hD hS hA [0, 1] rfl
  refine vx_calli (vx_runV (As := [.int p1, .int p2]) (rest := [.int 0, .ref ou]) ⟨hx, hb, hml, hown, hts⟩ (c_X12_show l D cy h0 q1 q26 q6 q16 q35 q41 q88 q111 q127 q132 q134 q136 q138 q140 q42 q74 q89 q90 q91 q93 q98 q100 q102 q104 q106 q108 q109 q110 p1 p2 H.size hst) (cwV 2 hts g_c_L_show_0 rfl rfl rfl (by decide +kernel) ⟨(Nat.le_of_ble_eq_true rfl), (Nat.le_of_ble_eq_true rfl)⟩) ⟨fun a U g mk q => by obtain ⟨q0, q1, qP, qK, qD, qT⟩ := q; exact ⟨q0, q1, qP, kK.moved (u := U) (U := U.calling g mk a) (Vm.Alike.refl U.vm) qK, qD, tK.same rfl rfl qT⟩, va_recv hK hPc (ci := 15) (q0 := 0) rfl rfl, fun U hU hW => ⟨rfl, by rw [hU], by rw [hU]; exact hPc, kK.moved hW.alike hKK, hDc.weaken (fun _ _ _ _ => trivial), tK.at hTK hS hU hW hFc⟩⟩ rfl rfl hl.1 rfl (lv_room (Nat.le_of_ble_eq_true rfl)) dL_show_5 ⟨(Nat.le_of_ble_eq_true rfl), (Nat.le_of_ble_eq_true rfl)⟩) hS (fun q _ h => hFc q h) hFc (fun q _ h => hFc q h) (fun E9 ce q9 u t H1 locs ht hvm hpx hBX hz1 hk1 hS hce hcv hcl => ?_) (fun r1 u2 t H1 locs ht hvm hw hB hz1 hk1 hS => ?_)
  · skip
    rcases hBX with ⟨rfl, c3⟩ | ⟨rfl, c4, c5, c6, c7⟩ | ⟨rfl, c8, c9, c10, c11, c12⟩ | ⟨rfl, c13, c14, c15, c16⟩ | ⟨rfl, c17, c18⟩
    · skip
      obtain ⟨hP, hD⟩ := va_join (wr := [(ou, .inl (cy 2, 1, .inr (.inl (fun _ => 0))))]) (w1 := []) hP hD [0, 1] [2] rfl rfl (by decide) (by decide) hk1 hFc va_P0 va_D0
      generalize H1 = H at hP hS hce ⊢
      have hP : va_P D vwCl [(ou, .inl (cy 2, 1, .inr (.inl (fun _ => 0))))] H := hP
      have hD : va_D A [(ou, .inl (cy 2, 1, .inr (.inl (fun _ => 0))))] := hD
      refine vx_catch (own := RL) (name := "java/lang/IllegalArgumentException") hown [] ⟨0, 10, 13, 19⟩ [⟨0, 10, 17, 30⟩, ⟨0, 10, 21, 25⟩] htab (fun z hz => by cases hz) (by decide) (by decide) (hts (.classLink RL 19 "java/lang/IllegalArgumentException") (List.mem_of_getElem? (i := 1) rfl)) (va_Nw.use rfl (hTK.2.2.1 "java/lang/IllegalArgumentException" (by decide))) hce hcv hcl ?_
      refine W.widen (k := 1) (n := 6) (Nat.le_of_ble_eq_true rfl) (Nat.le_of_ble_eq_true rfl) ?_
      refine lv_astore (lv' := [(4, .ref q9), (0, .ref h0), (1, .int p1), (2, .int p2), (3, .ref ou)]) hx hb dL_show_13 hl (by decide) rfl (fun ls hl => ?_)
      refine lv_iconst (v := 1) hx hb dL_show_15 (by decide) ?_
      refine W.widen (k := 1) (n := 6) (Nat.le_of_ble_eq_true rfl) (Nat.le_of_ble_eq_true rfl) ?_
      exact W.iret (v := 1) hx hb hr (fun t ht hW => ⟨⟨1, 0, rfl, Or.inl (⟨c3, rfl, rfl⟩), (fun _ => 0), by rw [ht]; exact hP.sub [0] rfl, hD.sub [0] (by decide) rfl, rfl⟩, hS.F ht⟩) hS.2.2 dL_show_16
    · skip
      obtain ⟨hP, hD⟩ := va_join (wr := [(ou, .inl (cy 2, 1, .inr (.inl (fun _ => 0))))]) (w1 := []) hP hD [0, 1] [2] rfl rfl (by decide) (by decide) hk1 hFc va_P0 va_D0
      generalize H1 = H at hP hS hce ⊢
      have hP : va_P D vwCl [(ou, .inl (cy 2, 1, .inr (.inl (fun _ => 0))))] H := hP
      have hD : va_D A [(ou, .inl (cy 2, 1, .inr (.inl (fun _ => 0))))] := hD
      refine vx_catch (own := RL) (name := "java/lang/IllegalStateException") hown [⟨0, 10, 13, 19⟩] ⟨0, 10, 17, 30⟩ [⟨0, 10, 21, 25⟩] htab (fun z hz => by rw [List.mem_singleton] at hz; subst hz; exact Or.inr ⟨by decide, "java/lang/IllegalArgumentException", hts (.classLink RL 19 "java/lang/IllegalArgumentException") (by decide +kernel), hTK.2.2.2.2.1⟩) (by decide) (by decide) (hts (.classLink RL 30 "java/lang/IllegalStateException") (List.mem_of_getElem? (i := 2) rfl)) (va_Nw.use rfl (hTK.2.2.1 "java/lang/IllegalStateException" (by decide))) hce hcv hcl ?_
      refine W.widen (k := 1) (n := 6) (Nat.le_of_ble_eq_true rfl) (Nat.le_of_ble_eq_true rfl) ?_
      refine lv_astore (lv' := [(4, .ref q9), (0, .ref h0), (1, .int p1), (2, .int p2), (3, .ref ou)]) hx hb dL_show_17 hl (by decide) rfl (fun ls hl => ?_)
      refine lv_iconst (v := 2) hx hb dL_show_19 (by decide) ?_
      refine W.widen (k := 1) (n := 6) (Nat.le_of_ble_eq_true rfl) (Nat.le_of_ble_eq_true rfl) ?_
      exact W.iret (v := 2) hx hb hr (fun t ht hW => ⟨⟨2, 0, rfl, Or.inr (Or.inl (⟨c4, c5, c6, c7, rfl, rfl⟩)), (fun _ => 0), by rw [ht]; exact hP.sub [0] rfl, hD.sub [0] (by decide) rfl, rfl⟩, hS.F ht⟩) hS.2.2 dL_show_20
    · skip
      obtain ⟨hP, hD⟩ := va_join (wr := [(ou, .inl (cy 2, 1, .inr (.inl (fun _ => 0))))]) (w1 := []) hP hD [0, 1] [2] rfl rfl (by decide) (by decide) hk1 hFc va_P0 va_D0
      generalize H1 = H at hP hS hce ⊢
      have hP : va_P D vwCl [(ou, .inl (cy 2, 1, .inr (.inl (fun _ => 0))))] H := hP
      have hD : va_D A [(ou, .inl (cy 2, 1, .inr (.inl (fun _ => 0))))] := hD
      refine vx_catch (own := RL) (name := "java/lang/IllegalStateException") hown [⟨0, 10, 13, 19⟩] ⟨0, 10, 17, 30⟩ [⟨0, 10, 21, 25⟩] htab (fun z hz => by rw [List.mem_singleton] at hz; subst hz; exact Or.inr ⟨by decide, "java/lang/IllegalArgumentException", hts (.classLink RL 19 "java/lang/IllegalArgumentException") (by decide +kernel), hTK.2.2.2.2.1⟩) (by decide) (by decide) (hts (.classLink RL 30 "java/lang/IllegalStateException") (List.mem_of_getElem? (i := 2) rfl)) (va_Nw.use rfl (hTK.2.2.1 "java/lang/IllegalStateException" (by decide))) hce hcv hcl ?_
      refine W.widen (k := 1) (n := 6) (Nat.le_of_ble_eq_true rfl) (Nat.le_of_ble_eq_true rfl) ?_
      refine lv_astore (lv' := [(4, .ref q9), (0, .ref h0), (1, .int p1), (2, .int p2), (3, .ref ou)]) hx hb dL_show_17 hl (by decide) rfl (fun ls hl => ?_)
      refine lv_iconst (v := 2) hx hb dL_show_19 (by decide) ?_
      refine W.widen (k := 1) (n := 6) (Nat.le_of_ble_eq_true rfl) (Nat.le_of_ble_eq_true rfl) ?_
      exact W.iret (v := 2) hx hb hr (fun t ht hW => ⟨⟨2, 0, rfl, Or.inr (Or.inr (Or.inl (⟨c8, c9, c10, c11, c12, rfl, rfl⟩))), (fun _ => 0), by rw [ht]; exact hP.sub [0] rfl, hD.sub [0] (by decide) rfl, rfl⟩, hS.F ht⟩) hS.2.2 dL_show_20
    · skip
      obtain ⟨hP, hD⟩ := va_join (wr := [(ou, .inl (cy 2, 1, .inr (.inl (fun _ => 0))))]) (w1 := []) hP hD [0, 1] [2] rfl rfl (by decide) (by decide) hk1 hFc va_P0 va_D0
      generalize H1 = H at hP hS hce ⊢
      have hP : va_P D vwCl [(ou, .inl (cy 2, 1, .inr (.inl (fun _ => 0))))] H := hP
      have hD : va_D A [(ou, .inl (cy 2, 1, .inr (.inl (fun _ => 0))))] := hD
      refine vx_catch (own := RL) (name := "java/lang/IllegalStateException") hown [⟨0, 10, 13, 19⟩] ⟨0, 10, 17, 30⟩ [⟨0, 10, 21, 25⟩] htab (fun z hz => by rw [List.mem_singleton] at hz; subst hz; exact Or.inr ⟨by decide, "java/lang/IllegalArgumentException", hts (.classLink RL 19 "java/lang/IllegalArgumentException") (by decide +kernel), hTK.2.2.2.2.1⟩) (by decide) (by decide) (hts (.classLink RL 30 "java/lang/IllegalStateException") (List.mem_of_getElem? (i := 2) rfl)) (va_Nw.use rfl (hTK.2.2.1 "java/lang/IllegalStateException" (by decide))) hce hcv hcl ?_
      refine W.widen (k := 1) (n := 6) (Nat.le_of_ble_eq_true rfl) (Nat.le_of_ble_eq_true rfl) ?_
      refine lv_astore (lv' := [(4, .ref q9), (0, .ref h0), (1, .int p1), (2, .int p2), (3, .ref ou)]) hx hb dL_show_17 hl (by decide) rfl (fun ls hl => ?_)
      refine lv_iconst (v := 2) hx hb dL_show_19 (by decide) ?_
      refine W.widen (k := 1) (n := 6) (Nat.le_of_ble_eq_true rfl) (Nat.le_of_ble_eq_true rfl) ?_
      exact W.iret (v := 2) hx hb hr (fun t ht hW => ⟨⟨2, 0, rfl, Or.inr (Or.inr (Or.inr (Or.inl (⟨c13, c14, c15, c16, rfl, rfl⟩)))), (fun _ => 0), by rw [ht]; exact hP.sub [0] rfl, hD.sub [0] (by decide) rfl, rfl⟩, hS.F ht⟩) hS.2.2 dL_show_20
    · skip
      obtain ⟨hP, hD⟩ := va_join (wr := [(ou, .inl (cy 2, 1, .inr (.inl (fun _ => 0))))]) (w1 := []) hP hD [0, 1] [2] rfl rfl (by decide) (by decide) hk1 hFc va_P0 va_D0
      generalize H1 = H at hP hS hce ⊢
      have hP : va_P D vwCl [(ou, .inl (cy 2, 1, .inr (.inl (fun _ => 0))))] H := hP
      have hD : va_D A [(ou, .inl (cy 2, 1, .inr (.inl (fun _ => 0))))] := hD
      refine vx_catch (own := RL) (name := "java/lang/IllegalArgumentException") hown [] ⟨0, 10, 13, 19⟩ [⟨0, 10, 17, 30⟩, ⟨0, 10, 21, 25⟩] htab (fun z hz => by cases hz) (by decide) (by decide) (hts (.classLink RL 19 "java/lang/IllegalArgumentException") (List.mem_of_getElem? (i := 1) rfl)) (va_Nw.use rfl (hTK.2.2.1 "java/lang/IllegalArgumentException" (by decide))) hce hcv hcl ?_
      refine W.widen (k := 1) (n := 6) (Nat.le_of_ble_eq_true rfl) (Nat.le_of_ble_eq_true rfl) ?_
      refine lv_astore (lv' := [(4, .ref q9), (0, .ref h0), (1, .int p1), (2, .int p2), (3, .ref ou)]) hx hb dL_show_13 hl (by decide) rfl (fun ls hl => ?_)
      refine lv_iconst (v := 1) hx hb dL_show_15 (by decide) ?_
      refine W.widen (k := 1) (n := 6) (Nat.le_of_ble_eq_true rfl) (Nat.le_of_ble_eq_true rfl) ?_
      exact W.iret (v := 1) hx hb hr (fun t ht hW => ⟨⟨1, 0, rfl, Or.inr (Or.inr (Or.inr (Or.inr (⟨c17, c18, rfl, rfl⟩)))), (fun _ => 0), by rw [ht]; exact hP.sub [0] rfl, hD.sub [0] (by decide) rfl, rfl⟩, hS.F ht⟩) hS.2.2 dL_show_16
  · skip
    exact hw.elim
def wq_c_L_tell : List Cond := .codeWith yL_tell cL_tell 4 (some .int) [(0, 9, 12, 13)] :: ([] ++ (wsV RL 68 RX12 yX12_tell wq_c_X12_tell))
set_option maxRecDepth 100000 in
theorem g_c_L_tell_0 : GoodIn wq_c_L_tell (wsV RL 68 RX12 yX12_tell wq_c_X12_tell) := goodIn_sub (fun w h => List.mem_cons_of_mem _ (List.mem_append_right _ (h))) (by decide +kernel)
set_option maxHeartbeats 4000000 in
set_option maxRecDepth 100000 in
theorem c_L_tell (l : Launch) (D : va_G) (cy : Nat → ClassId) (h0 q1 q26 q6 q16 q35 q41 q88 q111 q127 q132 q134 q136 q138 q140 ou : Nat) (p1 : Int32) (sz : Nat) (hst : l.stackTraces = false) : Met l yL_tell wq_c_L_tell ({ frames := 1, cells := 0, slots := 0, locals := 21 }) (va_Pc [.ref h0, .int p1, .ref ou] (fun U => U.heap.size = sz ∧ va_P D vwCl [(h0, .inr (15, [.ref q1, .ref q26, .ref q6, .ref q16, .int 0, .int 0, .ref q35, .ref q41, .ref q88, .ref q111, .ref q127, .ref q132, .int 0, .int 0, .ref q134, .ref q136, .ref q138, .ref q140])), (q132, .inl (cy 0, 200, .inl (fun _ => 0))), (ou, .inl (cy 2, 1, .inr (.inl (fun _ => 0))))] U.heap ∧ kK D cy U ∧ va_D (fun _ => True) [(h0, .inr (15, [.ref q1, .ref q26, .ref q6, .ref q16, .int 0, .int 0, .ref q35, .ref q41, .ref q88, .ref q111, .ref q127, .ref q132, .int 0, .int 0, .ref q134, .ref q136, .ref q138, .ref q140])), (q132, .inl (cy 0, 200, .inl (fun _ => 0))), (ou, .inl (cy 2, 1, .inr (.inl (fun _ => 0))))] ∧ tK (va_A [(h0, .inr (15, [.ref q1, .ref q26, .ref q6, .ref q16, .int 0, .int 0, .ref q35, .ref q41, .ref q88, .ref q111, .ref q127, .ref q132, .int 0, .int 0, .ref q134, .ref q136, .ref q138, .ref q140])), (q132, .inl (cy 0, 200, .inl (fun _ => 0))), (ou, .inl (cy 2, 1, .inr (.inl (fun _ => 0))))] sz) U)) (va_Qi (fun (r : Int32) (u : Int64) => (r = 0 ∧ u = 1)) (fun (u : Int64) t => ∃ f : Nat → Int64, va_P D vwCl [(ou, .inl (cy 2, 1, .inr (.inl f)))] t.heap ∧ va_D (va_A [(h0, .inr (15, [.ref q1, .ref q26, .ref q6, .ref q16, .int 0, .int 0, .ref q35, .ref q41, .ref q88, .ref q111, .ref q127, .ref q132, .int 0, .int 0, .ref q134, .ref q136, .ref q138, .ref q140])), (q132, .inl (cy 0, 200, .inl (fun _ => 0))), (ou, .inl (cy 2, 1, .inr (.inl (fun _ => 0))))] sz) [(ou, .inl (cy 2, 1, .inr (.inl f)))] ∧ f 0 = u) (va_A [(h0, .inr (15, [.ref q1, .ref q26, .ref q6, .ref q16, .int 0, .int 0, .ref q35, .ref q41, .ref q88, .ref q111, .ref q127, .ref q132, .int 0, .int 0, .ref q134, .ref q136, .ref q138, .ref q140])), (q132, .inl (cy 0, 200, .inl (fun _ => 0))), (ou, .inl (cy 2, 1, .inr (.inl (fun _ => 0))))] sz)) 0 0 (va_A [(h0, .inr (15, [.ref q1, .ref q26, .ref q6, .ref q16, .int 0, .int 0, .ref q35, .ref q41, .ref q88, .ref q111, .ref q127, .ref q132, .int 0, .int 0, .ref q134, .ref q136, .ref q138, .ref q140])), (q132, .inl (cy 0, 200, .inl (fun _ => 0))), (ou, .inl (cy 2, 1, .inr (.inl (fun _ => 0))))] sz) := by
  refine va_MetW (cc := cL_tell) (maxL := 4) (ret := (some .int)) (by decide) rfl ?_
  intro p e s m args below meth c s₁ B hml hv
  obtain ⟨rfl, hsz, hP, hKK, hD0, hTK⟩ := hv
  have hK := hKK.1
  have hx := B.exec
  have hb := B.bytes
  have hr := B.returns
  have hts := atoms_spec (ws := wq_c_L_tell) B.pre
  have hown : s.vm.findClass RL = some m.cls := findClass_of_methodNamed B.named
  have hlocks := B.notSynchronized
  have htab := vx_table (x := yL_tell) B (hts _ List.mem_cons_self)
  subst hsz
  have hD := hD0.self (sz := s.heap.size)
  generalize hAe : va_A [(h0, .inr (15, [.ref q1, .ref q26, .ref q6, .ref q16, .int 0, .int 0, .ref q35, .ref q41, .ref q88, .ref q111, .ref q127, .ref q132, .int 0, .int 0, .ref q134, .ref q136, .ref q138, .ref q140])), (q132, .inl (cy 0, 200, .inl (fun _ => 0))), (ou, .inl (cy 2, 1, .inr (.inl (fun _ => 0))))] s.heap.size = A at hD hTK ⊢
  have hA : ∀ q : Nat, s.heap.size ≤ q → A q := fun q h => by rw [← hAe]; exact Or.inr h
  obtain ⟨H, hS, hP, hgo⟩ : ∃ H, va_S A s.heap H [] ∧ va_P D vwCl [(h0, .inr (15, [.ref q1, .ref q26, .ref q6, .ref q16, .int 0, .int 0, .ref q35, .ref q41, .ref q88, .ref q111, .ref q127, .ref q132, .int 0, .int 0, .ref q134, .ref q136, .ref q138, .ref q140])), (q132, .inl (cy 0, 200, .inl (fun _ => 0))), (ou, .inl (cy 2, 1, .inr (.inl (fun _ => 0))))] H ∧ H = s.heap := ⟨s.heap, va_S.rf, hP, rfl⟩
  rw [← hgo]
  have hl := lv_entry ([.ref h0, .int p1, .ref ou]) (n := 4) (Nat.le_of_ble_eq_true rfl)
  rw [lg_entry_eq]
  generalize (lg_sl ([.ref h0, .int p1, .ref ou]) ++ List.replicate (4 - (lg_sl ([.ref h0, .int p1, .ref ou])).length) Slot.unset).toArray = ls at hl ⊢
  have hl : lv_has ls 4 [(0, .ref h0), (1, .int p1), (2, .ref ou)] := hl
  refine lv_aload_n hx hb dL_tell_0 rfl (lv_at hl 2 rfl) ?_
  refine lv_iconst (v := 0) hx hb dL_tell_1 (by decide) ?_
  refine lv_aload_n hx hb dL_tell_2 rfl (lv_at hl 0 rfl) ?_
  refine lv_iload_n hx hb dL_tell_3 rfl (lv_at hl 1 rfl) ?_
  have hPc := hP.sub (ws' := [(h0, .inr (15, [.ref q1, .ref q26, .ref q6, .ref q16, .int 0, .int 0, .ref q35, .ref q41, .ref q88, .ref q111, .ref q127, .ref q132, .int 0, .int 0, .ref q134, .ref q136, .ref q138, .ref q140])), (q132, .inl (cy 0, 200, .inl (fun _ => 0)))]) [0, 1] rfl
  have hDc := hD.sub (ws' := [(h0, .inr (15, [.ref q1, .ref q26, .ref q6, .ref q16, .int 0, .int 0, .ref q35, .ref q41, .ref q88, .ref q111, .ref q127, .ref q132, .int 0, .int 0, .ref q134, .ref q136, .ref q138, .ref q140])), (q132, .inl (cy 0, 200, .inl (fun _ => 0)))]) [0, 1] (by decide) rfl
  have hFc := va_free (wc := [(h0, .inr (15, [.ref q1, .ref q26, .ref q6, .ref q16, .int 0, .int 0, .ref q35, .ref q41, .ref q88, .ref q111, .ref q127, .ref q132, .int 0, .int 0, .ref q134, .ref q136, .ref q138, .ref q140])), (q132, .inl (cy 0, 200, .inl (fun _ => 0)))]) hD hS hA [0, 1] rfl
  refine vx_calli (vx_runV (As := [.int p1]) (rest := [.int 0, .ref ou]) ⟨hx, hb, hml, hown, hts⟩ (c_X12_tell l D cy h0 q1 q26 q6 q16 q35 q41 q88 q111 q127 q132 q134 q136 q138 q140 p1 H.size hst) (cwV 1 hts g_c_L_tell_0 rfl rfl rfl (by decide +kernel) ⟨(Nat.le_of_ble_eq_true rfl), (Nat.le_of_ble_eq_true rfl)⟩) ⟨fun a U g mk q => by obtain ⟨q0, q1, qP, qK, qD, qT⟩ := q; exact ⟨q0, q1, qP, kK.moved (u := U) (U := U.calling g mk a) (Vm.Alike.refl U.vm) qK, qD, tK.same rfl rfl qT⟩, va_recv hK hPc (ci := 15) (q0 := 0) rfl rfl, fun U hU hW => ⟨rfl, by rw [hU], by rw [hU]; exact hPc, kK.moved hW.alike hKK, hDc.weaken (fun _ _ _ _ => trivial), tK.at hTK hS hU hW hFc⟩⟩ rfl rfl hl.1 rfl (lv_room (Nat.le_of_ble_eq_true rfl)) dL_tell_4 ⟨(Nat.le_of_ble_eq_true rfl), (Nat.le_of_ble_eq_true rfl)⟩) hS (fun q _ h => hFc q h) hFc (fun q _ h => hFc q h) (fun E9 ce q9 u t H1 locs ht hvm hpx hBX hz1 hk1 hS hce hcv hcl => ?_) (fun r1 u2 t H1 locs ht hvm hw hB hz1 hk1 hS => ?_)
  · skip
    exact hBX.elim
  · skip
    obtain ⟨hP, hD⟩ := va_join (wr := [(ou, .inl (cy 2, 1, .inr (.inl (fun _ => 0))))]) (w1 := []) hP hD [0, 1] [2] rfl rfl (by decide) (by decide) hk1 hFc va_P0 va_D0
    generalize H1 = H at hP hS ⊢
    have hP : va_P D vwCl [(ou, .inl (cy 2, 1, .inr (.inl (fun _ => 0))))] H := hP
    have hD : va_D A [(ou, .inl (cy 2, 1, .inr (.inl (fun _ => 0))))] := hD
    rcases hw with rfl
    refine lv_i2l (v := 1) hx hb dL_tell_7 (by decide) ?_
    refine va_last hx hb hK hP hD hS 0 2 rfl rfl (by unfold vp_in; decide) dL_tell_8 (fun H locs hP hD hS => ?_)
    have hP : va_P D vwCl [(ou, .inl (cy 2, 1, .inr (.inl (vp_updL (fun _ => 0) 0 1))))] H := hP
    have hD : va_D A [(ou, .inl (cy 2, 1, .inr (.inl (vp_updL (fun _ => 0) 0 1))))] := hD
    refine lv_goto (tgt := 15) hx hb dL_tell_9 (by decide) ?_
    refine lv_iconst (v := 0) hx hb dL_tell_15 (by decide) ?_
    refine W.widen (k := 0) (n := 0) (Nat.le_of_ble_eq_true rfl) (Nat.le_of_ble_eq_true rfl) ?_
    exact W.iret (v := 0) hx hb hr (fun t ht hW => ⟨⟨0, 1, rfl, ⟨rfl, rfl⟩, (vp_updL (fun _ => 0) 0 1), by rw [ht]; exact hP.sub [0] rfl, hD.sub [0] (by decide) rfl, rfl⟩, hS.F ht⟩) hS.2.2 dL_tell_16
def wq_c_L_play : List Cond := .codeWith yL_play cL_play 6 (some .int) [(0, 11, 14, 30), (0, 11, 18, 19)] :: ([.classLink RL 30 "java/lang/IllegalStateException"] ++ (wsV RL 71 RX12 yX12_play wq_c_X12_play))
set_option maxRecDepth 100000 in
theorem g_c_L_play_0 : GoodIn wq_c_L_play (wsV RL 71 RX12 yX12_play wq_c_X12_play) := goodIn_sub (fun w h => List.mem_cons_of_mem _ (List.mem_append_right _ (h))) (by decide +kernel)
set_option maxHeartbeats 4000000 in
set_option maxRecDepth 100000 in
theorem c_L_play (l : Launch) (D : va_G) (cy : Nat → ClassId) (h0 q1 q26 q6 q16 q35 q41 q88 q111 q127 q132 q134 q136 q138 q140 ou : Nat) (p2 : Int32) (p1 : Int64) (sz : Nat) (hst : l.stackTraces = false) : Met l yL_play wq_c_L_play ({ frames := 7, cells := 1, slots := 6, locals := 105 }) (va_Pc [.ref h0, .long p1, .int p2, .ref ou] (fun U => U.heap.size = sz ∧ va_P D vwCl [(h0, .inr (15, [.ref q1, .ref q26, .ref q6, .ref q16, .int 0, .int 0, .ref q35, .ref q41, .ref q88, .ref q111, .ref q127, .ref q132, .int 0, .int 0, .ref q134, .ref q136, .ref q138, .ref q140])), (ou, .inl (cy 2, 1, .inr (.inl (fun _ => 0))))] U.heap ∧ kK D cy U ∧ va_D (fun _ => True) [(h0, .inr (15, [.ref q1, .ref q26, .ref q6, .ref q16, .int 0, .int 0, .ref q35, .ref q41, .ref q88, .ref q111, .ref q127, .ref q132, .int 0, .int 0, .ref q134, .ref q136, .ref q138, .ref q140])), (ou, .inl (cy 2, 1, .inr (.inl (fun _ => 0))))] ∧ tK (va_A [(h0, .inr (15, [.ref q1, .ref q26, .ref q6, .ref q16, .int 0, .int 0, .ref q35, .ref q41, .ref q88, .ref q111, .ref q127, .ref q132, .int 0, .int 0, .ref q134, .ref q136, .ref q138, .ref q140])), (ou, .inl (cy 2, 1, .inr (.inl (fun _ => 0))))] sz) U)) (va_Qi (fun (r : Int32) (u : Int64) => (r = 1 ∧ u = 0)) (fun (u : Int64) t => ∃ f : Nat → Int64, va_P D vwCl [(ou, .inl (cy 2, 1, .inr (.inl f)))] t.heap ∧ va_D (va_A [(h0, .inr (15, [.ref q1, .ref q26, .ref q6, .ref q16, .int 0, .int 0, .ref q35, .ref q41, .ref q88, .ref q111, .ref q127, .ref q132, .int 0, .int 0, .ref q134, .ref q136, .ref q138, .ref q140])), (ou, .inl (cy 2, 1, .inr (.inl (fun _ => 0))))] sz) [(ou, .inl (cy 2, 1, .inr (.inl f)))] ∧ f 0 = u) (va_A [(h0, .inr (15, [.ref q1, .ref q26, .ref q6, .ref q16, .int 0, .int 0, .ref q35, .ref q41, .ref q88, .ref q111, .ref q127, .ref q132, .int 0, .int 0, .ref q134, .ref q136, .ref q138, .ref q140])), (ou, .inl (cy 2, 1, .inr (.inl (fun _ => 0))))] sz)) 1 6 (va_A [(h0, .inr (15, [.ref q1, .ref q26, .ref q6, .ref q16, .int 0, .int 0, .ref q35, .ref q41, .ref q88, .ref q111, .ref q127, .ref q132, .int 0, .int 0, .ref q134, .ref q136, .ref q138, .ref q140])), (ou, .inl (cy 2, 1, .inr (.inl (fun _ => 0))))] sz) := by
  refine va_MetW (cc := cL_play) (maxL := 6) (ret := (some .int)) (by decide) rfl ?_
  intro p e s m args below meth c s₁ B hml hv
  obtain ⟨rfl, hsz, hP, hKK, hD0, hTK⟩ := hv
  have hK := hKK.1
  have hx := B.exec
  have hb := B.bytes
  have hr := B.returns
  have hts := atoms_spec (ws := wq_c_L_play) B.pre
  have hown : s.vm.findClass RL = some m.cls := findClass_of_methodNamed B.named
  have hlocks := B.notSynchronized
  have htab := vx_table (x := yL_play) B (hts _ List.mem_cons_self)
  subst hsz
  have hD := hD0.self (sz := s.heap.size)
  generalize hAe : va_A [(h0, .inr (15, [.ref q1, .ref q26, .ref q6, .ref q16, .int 0, .int 0, .ref q35, .ref q41, .ref q88, .ref q111, .ref q127, .ref q132, .int 0, .int 0, .ref q134, .ref q136, .ref q138, .ref q140])), (ou, .inl (cy 2, 1, .inr (.inl (fun _ => 0))))] s.heap.size = A at hD hTK ⊢
  have hA : ∀ q : Nat, s.heap.size ≤ q → A q := fun q h => by rw [← hAe]; exact Or.inr h
  obtain ⟨H, hS, hP, hgo⟩ : ∃ H, va_S A s.heap H [] ∧ va_P D vwCl [(h0, .inr (15, [.ref q1, .ref q26, .ref q6, .ref q16, .int 0, .int 0, .ref q35, .ref q41, .ref q88, .ref q111, .ref q127, .ref q132, .int 0, .int 0, .ref q134, .ref q136, .ref q138, .ref q140])), (ou, .inl (cy 2, 1, .inr (.inl (fun _ => 0))))] H ∧ H = s.heap := ⟨s.heap, va_S.rf, hP, rfl⟩
  rw [← hgo]
  have hl := lv_entry ([.ref h0, .long p1, .int p2, .ref ou]) (n := 6) (Nat.le_of_ble_eq_true rfl)
  rw [lg_entry_eq]
  generalize (lg_sl ([.ref h0, .long p1, .int p2, .ref ou]) ++ List.replicate (6 - (lg_sl ([.ref h0, .long p1, .int p2, .ref ou])).length) Slot.unset).toArray = ls at hl ⊢
  have hl : lv_has ls 6 [(0, .ref h0), (1, .long p1), (3, .int p2), (4, .ref ou)] := hl
  refine lv_aload hx hb dL_play_0 (lv_at hl 3 rfl) ?_
  refine lv_iconst (v := 0) hx hb dL_play_2 (by decide) ?_
  refine lv_aload_n hx hb dL_play_3 rfl (lv_at hl 0 rfl) ?_
  refine lv_lload_n hx hb dL_play_4 rfl (lv_at hl 1 rfl) ?_
  refine lv_iload_n hx hb dL_play_5 rfl (lv_at hl 2 rfl) ?_
  have hPc := hP.sub (ws' := [(h0, .inr (15, [.ref q1, .ref q26, .ref q6, .ref q16, .int 0, .int 0, .ref q35, .ref q41, .ref q88, .ref q111, .ref q127, .ref q132, .int 0, .int 0, .ref q134, .ref q136, .ref q138, .ref q140]))]) [0] rfl
  have hDc := hD.sub (ws' := [(h0, .inr (15, [.ref q1, .ref q26, .ref q6, .ref q16, .int 0, .int 0, .ref q35, .ref q41, .ref q88, .ref q111, .ref q127, .ref q132, .int 0, .int 0, .ref q134, .ref q136, .ref q138, .ref q140]))]) [0] (by decide) rfl
  have hFc := va_free (wc := [(h0, .inr (15, [.ref q1, .ref q26, .ref q6, .ref q16, .int 0, .int 0, .ref q35, .ref q41, .ref q88, .ref q111, .ref q127, .ref q132, .int 0, .int 0, .ref q134, .ref q136, .ref q138, .ref q140]))]) hD hS hA [0] rfl
  refine vx_calli (vx_runV (As := [.long p1, .int p2]) (rest := [.int 0, .ref ou]) ⟨hx, hb, hml, hown, hts⟩ (c_X12_play l D cy h0 q1 q26 q6 q16 q35 q41 q88 q111 q127 q132 q134 q136 q138 q140 p2 p1 H.size hst) (cwV 2 hts g_c_L_play_0 rfl rfl rfl (by decide +kernel) ⟨(Nat.le_of_ble_eq_true rfl), (Nat.le_of_ble_eq_true rfl)⟩) ⟨fun a U g mk q => by obtain ⟨q0, q1, qP, qK, qD, qT⟩ := q; exact ⟨q0, q1, qP, kK.moved (u := U) (U := U.calling g mk a) (Vm.Alike.refl U.vm) qK, qD, tK.same rfl rfl qT⟩, va_recv hK hPc (ci := 15) (q0 := 0) rfl rfl, fun U hU hW => ⟨rfl, by rw [hU], by rw [hU]; exact hPc, kK.moved hW.alike hKK, hDc.weaken (fun _ _ _ _ => trivial), tK.at hTK hS hU hW hFc⟩⟩ rfl rfl hl.1 rfl (lv_room (Nat.le_of_ble_eq_true rfl)) dL_play_6 ⟨(Nat.le_of_ble_eq_true rfl), (Nat.le_of_ble_eq_true rfl)⟩) hS (fun q _ h => hFc q h) hFc (fun q _ h => hFc q h) (fun E9 ce q9 u t H1 locs ht hvm hpx hBX hz1 hk1 hS hce hcv hcl => ?_) (fun r1 u2 t H1 locs ht hvm hw hB hz1 hk1 hS => ?_)
  · skip
    rcases hBX with rfl
    obtain ⟨hP, hD⟩ := va_join (wr := [(ou, .inl (cy 2, 1, .inr (.inl (fun _ => 0))))]) (w1 := []) hP hD [0] [1] rfl rfl (by decide) (by decide) hk1 hFc va_P0 va_D0
    generalize H1 = H at hP hS hce ⊢
    have hP : va_P D vwCl [(ou, .inl (cy 2, 1, .inr (.inl (fun _ => 0))))] H := hP
    have hD : va_D A [(ou, .inl (cy 2, 1, .inr (.inl (fun _ => 0))))] := hD
    refine vx_catch (own := RL) (name := "java/lang/IllegalStateException") hown [] ⟨0, 11, 14, 30⟩ [⟨0, 11, 18, 19⟩] htab (fun z hz => by cases hz) (by decide) (by decide) (hts (.classLink RL 30 "java/lang/IllegalStateException") (List.mem_of_getElem? (i := 1) rfl)) (va_Nw.use rfl (hTK.2.2.1 "java/lang/IllegalStateException" (by decide))) hce hcv hcl ?_
    refine W.widen (k := 1) (n := 6) (Nat.le_of_ble_eq_true rfl) (Nat.le_of_ble_eq_true rfl) ?_
    refine lv_astore (lv' := [(5, .ref q9), (0, .ref h0), (1, .long p1), (3, .int p2), (4, .ref ou)]) hx hb dL_play_14 hl (by decide) rfl (fun ls hl => ?_)
    refine lv_iconst (v := 1) hx hb dL_play_16 (by decide) ?_
    refine W.widen (k := 1) (n := 6) (Nat.le_of_ble_eq_true rfl) (Nat.le_of_ble_eq_true rfl) ?_
    exact W.iret (v := 1) hx hb hr (fun t ht hW => ⟨⟨1, 0, rfl, ⟨rfl, rfl⟩, (fun _ => 0), by rw [ht]; exact hP.sub [0] rfl, hD.sub [0] (by decide) rfl, rfl⟩, hS.F ht⟩) hS.2.2 dL_play_17
  · skip
    exact hw.elim
def wq_c_L_walk : List Cond := .codeWith yL_walk cL_walk 4 (some .int) [(0, 9, 12, 30), (0, 9, 15, 19)] :: ([.classLink RL 30 "java/lang/IllegalStateException"] ++ (wsV RL 75 RX12 yX12_walk wq_c_X12_walk))
set_option maxRecDepth 100000 in
theorem g_c_L_walk_0 : GoodIn wq_c_L_walk (wsV RL 75 RX12 yX12_walk wq_c_X12_walk) := goodIn_sub (fun w h => List.mem_cons_of_mem _ (List.mem_append_right _ (h))) (by decide +kernel)
set_option maxHeartbeats 4000000 in
set_option maxRecDepth 100000 in
theorem c_L_walk (l : Launch) (D : va_G) (cy : Nat → ClassId) (h0 q1 q26 q6 q16 q35 q41 q88 q111 q127 q132 q134 q136 q138 q140 ou : Nat) (p1 : Int32) (sz : Nat) (hst : l.stackTraces = false) : Met l yL_walk wq_c_L_walk ({ frames := 7, cells := 1, slots := 6, locals := 103 }) (va_Pc [.ref h0, .int p1, .ref ou] (fun U => U.heap.size = sz ∧ va_P D vwCl [(h0, .inr (15, [.ref q1, .ref q26, .ref q6, .ref q16, .int 0, .int 0, .ref q35, .ref q41, .ref q88, .ref q111, .ref q127, .ref q132, .int 0, .int 0, .ref q134, .ref q136, .ref q138, .ref q140])), (ou, .inl (cy 2, 1, .inr (.inl (fun _ => 0))))] U.heap ∧ kK D cy U ∧ va_D (fun _ => True) [(h0, .inr (15, [.ref q1, .ref q26, .ref q6, .ref q16, .int 0, .int 0, .ref q35, .ref q41, .ref q88, .ref q111, .ref q127, .ref q132, .int 0, .int 0, .ref q134, .ref q136, .ref q138, .ref q140])), (ou, .inl (cy 2, 1, .inr (.inl (fun _ => 0))))] ∧ tK (va_A [(h0, .inr (15, [.ref q1, .ref q26, .ref q6, .ref q16, .int 0, .int 0, .ref q35, .ref q41, .ref q88, .ref q111, .ref q127, .ref q132, .int 0, .int 0, .ref q134, .ref q136, .ref q138, .ref q140])), (ou, .inl (cy 2, 1, .inr (.inl (fun _ => 0))))] sz) U)) (va_Qi (fun (r : Int32) (u : Int64) => (r = 1 ∧ u = 0)) (fun (u : Int64) t => ∃ f : Nat → Int64, va_P D vwCl [(ou, .inl (cy 2, 1, .inr (.inl f)))] t.heap ∧ va_D (va_A [(h0, .inr (15, [.ref q1, .ref q26, .ref q6, .ref q16, .int 0, .int 0, .ref q35, .ref q41, .ref q88, .ref q111, .ref q127, .ref q132, .int 0, .int 0, .ref q134, .ref q136, .ref q138, .ref q140])), (ou, .inl (cy 2, 1, .inr (.inl (fun _ => 0))))] sz) [(ou, .inl (cy 2, 1, .inr (.inl f)))] ∧ f 0 = u) (va_A [(h0, .inr (15, [.ref q1, .ref q26, .ref q6, .ref q16, .int 0, .int 0, .ref q35, .ref q41, .ref q88, .ref q111, .ref q127, .ref q132, .int 0, .int 0, .ref q134, .ref q136, .ref q138, .ref q140])), (ou, .inl (cy 2, 1, .inr (.inl (fun _ => 0))))] sz)) 1 6 (va_A [(h0, .inr (15, [.ref q1, .ref q26, .ref q6, .ref q16, .int 0, .int 0, .ref q35, .ref q41, .ref q88, .ref q111, .ref q127, .ref q132, .int 0, .int 0, .ref q134, .ref q136, .ref q138, .ref q140])), (ou, .inl (cy 2, 1, .inr (.inl (fun _ => 0))))] sz) := by
  refine va_MetW (cc := cL_walk) (maxL := 4) (ret := (some .int)) (by decide) rfl ?_
  intro p e s m args below meth c s₁ B hml hv
  obtain ⟨rfl, hsz, hP, hKK, hD0, hTK⟩ := hv
  have hK := hKK.1
  have hx := B.exec
  have hb := B.bytes
  have hr := B.returns
  have hts := atoms_spec (ws := wq_c_L_walk) B.pre
  have hown : s.vm.findClass RL = some m.cls := findClass_of_methodNamed B.named
  have hlocks := B.notSynchronized
  have htab := vx_table (x := yL_walk) B (hts _ List.mem_cons_self)
  subst hsz
  have hD := hD0.self (sz := s.heap.size)
  generalize hAe : va_A [(h0, .inr (15, [.ref q1, .ref q26, .ref q6, .ref q16, .int 0, .int 0, .ref q35, .ref q41, .ref q88, .ref q111, .ref q127, .ref q132, .int 0, .int 0, .ref q134, .ref q136, .ref q138, .ref q140])), (ou, .inl (cy 2, 1, .inr (.inl (fun _ => 0))))] s.heap.size = A at hD hTK ⊢
  have hA : ∀ q : Nat, s.heap.size ≤ q → A q := fun q h => by rw [← hAe]; exact Or.inr h
  obtain ⟨H, hS, hP, hgo⟩ : ∃ H, va_S A s.heap H [] ∧ va_P D vwCl [(h0, .inr (15, [.ref q1, .ref q26, .ref q6, .ref q16, .int 0, .int 0, .ref q35, .ref q41, .ref q88, .ref q111, .ref q127, .ref q132, .int 0, .int 0, .ref q134, .ref q136, .ref q138, .ref q140])), (ou, .inl (cy 2, 1, .inr (.inl (fun _ => 0))))] H ∧ H = s.heap := ⟨s.heap, va_S.rf, hP, rfl⟩
  rw [← hgo]
  have hl := lv_entry ([.ref h0, .int p1, .ref ou]) (n := 4) (Nat.le_of_ble_eq_true rfl)
  rw [lg_entry_eq]
  generalize (lg_sl ([.ref h0, .int p1, .ref ou]) ++ List.replicate (4 - (lg_sl ([.ref h0, .int p1, .ref ou])).length) Slot.unset).toArray = ls at hl ⊢
  have hl : lv_has ls 4 [(0, .ref h0), (1, .int p1), (2, .ref ou)] := hl
  refine lv_aload_n hx hb dL_walk_0 rfl (lv_at hl 2 rfl) ?_
  refine lv_iconst (v := 0) hx hb dL_walk_1 (by decide) ?_
  refine lv_aload_n hx hb dL_walk_2 rfl (lv_at hl 0 rfl) ?_
  refine lv_iload_n hx hb dL_walk_3 rfl (lv_at hl 1 rfl) ?_
  have hPc := hP.sub (ws' := [(h0, .inr (15, [.ref q1, .ref q26, .ref q6, .ref q16, .int 0, .int 0, .ref q35, .ref q41, .ref q88, .ref q111, .ref q127, .ref q132, .int 0, .int 0, .ref q134, .ref q136, .ref q138, .ref q140]))]) [0] rfl
  have hDc := hD.sub (ws' := [(h0, .inr (15, [.ref q1, .ref q26, .ref q6, .ref q16, .int 0, .int 0, .ref q35, .ref q41, .ref q88, .ref q111, .ref q127, .ref q132, .int 0, .int 0, .ref q134, .ref q136, .ref q138, .ref q140]))]) [0] (by decide) rfl
  have hFc := va_free (wc := [(h0, .inr (15, [.ref q1, .ref q26, .ref q6, .ref q16, .int 0, .int 0, .ref q35, .ref q41, .ref q88, .ref q111, .ref q127, .ref q132, .int 0, .int 0, .ref q134, .ref q136, .ref q138, .ref q140]))]) hD hS hA [0] rfl
  refine vx_calli (vx_runV (As := [.int p1]) (rest := [.int 0, .ref ou]) ⟨hx, hb, hml, hown, hts⟩ (c_X12_walk l D cy h0 q1 q26 q6 q16 q35 q41 q88 q111 q127 q132 q134 q136 q138 q140 p1 H.size hst) (cwV 1 hts g_c_L_walk_0 rfl rfl rfl (by decide +kernel) ⟨(Nat.le_of_ble_eq_true rfl), (Nat.le_of_ble_eq_true rfl)⟩) ⟨fun a U g mk q => by obtain ⟨q0, q1, qP, qK, qD, qT⟩ := q; exact ⟨q0, q1, qP, kK.moved (u := U) (U := U.calling g mk a) (Vm.Alike.refl U.vm) qK, qD, tK.same rfl rfl qT⟩, va_recv hK hPc (ci := 15) (q0 := 0) rfl rfl, fun U hU hW => ⟨rfl, by rw [hU], by rw [hU]; exact hPc, kK.moved hW.alike hKK, hDc.weaken (fun _ _ _ _ => trivial), tK.at hTK hS hU hW hFc⟩⟩ rfl rfl hl.1 rfl (lv_room (Nat.le_of_ble_eq_true rfl)) dL_walk_4 ⟨(Nat.le_of_ble_eq_true rfl), (Nat.le_of_ble_eq_true rfl)⟩) hS (fun q _ h => hFc q h) hFc (fun q _ h => hFc q h) (fun E9 ce q9 u t H1 locs ht hvm hpx hBX hz1 hk1 hS hce hcv hcl => ?_) (fun r1 u2 t H1 locs ht hvm hw hB hz1 hk1 hS => ?_)
  · skip
    rcases hBX with rfl
    obtain ⟨hP, hD⟩ := va_join (wr := [(ou, .inl (cy 2, 1, .inr (.inl (fun _ => 0))))]) (w1 := []) hP hD [0] [1] rfl rfl (by decide) (by decide) hk1 hFc va_P0 va_D0
    generalize H1 = H at hP hS hce ⊢
    have hP : va_P D vwCl [(ou, .inl (cy 2, 1, .inr (.inl (fun _ => 0))))] H := hP
    have hD : va_D A [(ou, .inl (cy 2, 1, .inr (.inl (fun _ => 0))))] := hD
    refine vx_catch (own := RL) (name := "java/lang/IllegalStateException") hown [] ⟨0, 9, 12, 30⟩ [⟨0, 9, 15, 19⟩] htab (fun z hz => by cases hz) (by decide) (by decide) (hts (.classLink RL 30 "java/lang/IllegalStateException") (List.mem_of_getElem? (i := 1) rfl)) (va_Nw.use rfl (hTK.2.2.1 "java/lang/IllegalStateException" (by decide))) hce hcv hcl ?_
    refine W.widen (k := 1) (n := 6) (Nat.le_of_ble_eq_true rfl) (Nat.le_of_ble_eq_true rfl) ?_
    refine lv_astore_n (lv' := [(3, .ref q9), (0, .ref h0), (1, .int p1), (2, .ref ou)]) hx hb dL_walk_12 rfl hl (by decide) rfl (fun ls hl => ?_)
    refine lv_iconst (v := 1) hx hb dL_walk_13 (by decide) ?_
    refine W.widen (k := 1) (n := 6) (Nat.le_of_ble_eq_true rfl) (Nat.le_of_ble_eq_true rfl) ?_
    exact W.iret (v := 1) hx hb hr (fun t ht hW => ⟨⟨1, 0, rfl, ⟨rfl, rfl⟩, (fun _ => 0), by rw [ht]; exact hP.sub [0] rfl, hD.sub [0] (by decide) rfl, rfl⟩, hS.F ht⟩) hS.2.2 dL_walk_14
  · skip
    exact hw.elim
def wq_c_L_played : List Cond := .codeWith yL_played cL_played 4 (some .int) [(0, 8, 11, 25)] :: ([.classLink RL 25 "java/lang/IndexOutOfBoundsException"] ++ (wsV RL 78 RX12 yX12_played wq_c_X12_played))
set_option maxRecDepth 100000 in
theorem g_c_L_played_0 : GoodIn wq_c_L_played (wsV RL 78 RX12 yX12_played wq_c_X12_played) := goodIn_sub (fun w h => List.mem_cons_of_mem _ (List.mem_append_right _ (h))) (by decide +kernel)
set_option maxHeartbeats 4000000 in
set_option maxRecDepth 100000 in
theorem c_L_played (l : Launch) (D : va_G) (cy : Nat → ClassId) (h0 q1 q26 q6 q16 q35 q41 q88 q111 q127 q132 q134 q136 q138 q140 ou : Nat) (p1 : Int32) (sz : Nat) (hst : l.stackTraces = false) : Met l yL_played wq_c_L_played ({ frames := 7, cells := 1, slots := 6, locals := 104 }) (va_Pc [.ref h0, .int p1, .ref ou] (fun U => U.heap.size = sz ∧ va_P D vwCl [(h0, .inr (15, [.ref q1, .ref q26, .ref q6, .ref q16, .int 0, .int 0, .ref q35, .ref q41, .ref q88, .ref q111, .ref q127, .ref q132, .int 0, .int 0, .ref q134, .ref q136, .ref q138, .ref q140])), (ou, .inl (cy 2, 1, .inr (.inl (fun _ => 0))))] U.heap ∧ kK D cy U ∧ va_D (fun _ => True) [(h0, .inr (15, [.ref q1, .ref q26, .ref q6, .ref q16, .int 0, .int 0, .ref q35, .ref q41, .ref q88, .ref q111, .ref q127, .ref q132, .int 0, .int 0, .ref q134, .ref q136, .ref q138, .ref q140])), (ou, .inl (cy 2, 1, .inr (.inl (fun _ => 0))))] ∧ tK (va_A [(h0, .inr (15, [.ref q1, .ref q26, .ref q6, .ref q16, .int 0, .int 0, .ref q35, .ref q41, .ref q88, .ref q111, .ref q127, .ref q132, .int 0, .int 0, .ref q134, .ref q136, .ref q138, .ref q140])), (ou, .inl (cy 2, 1, .inr (.inl (fun _ => 0))))] sz) U)) (va_Qi (fun (r : Int32) (u : Int64) => (p1 < 0 ∧ r = 1 ∧ u = 0) ∨ (¬ p1 < 0 ∧ ¬ p1 < 5 ∧ r = 1 ∧ u = 0) ∨ (¬ p1 < 0 ∧ p1 < 5 ∧ r = 0 ∧ u = 0)) (fun (u : Int64) t => ∃ f : Nat → Int64, va_P D vwCl [(ou, .inl (cy 2, 1, .inr (.inl f)))] t.heap ∧ va_D (va_A [(h0, .inr (15, [.ref q1, .ref q26, .ref q6, .ref q16, .int 0, .int 0, .ref q35, .ref q41, .ref q88, .ref q111, .ref q127, .ref q132, .int 0, .int 0, .ref q134, .ref q136, .ref q138, .ref q140])), (ou, .inl (cy 2, 1, .inr (.inl (fun _ => 0))))] sz) [(ou, .inl (cy 2, 1, .inr (.inl f)))] ∧ f 0 = u) (va_A [(h0, .inr (15, [.ref q1, .ref q26, .ref q6, .ref q16, .int 0, .int 0, .ref q35, .ref q41, .ref q88, .ref q111, .ref q127, .ref q132, .int 0, .int 0, .ref q134, .ref q136, .ref q138, .ref q140])), (ou, .inl (cy 2, 1, .inr (.inl (fun _ => 0))))] sz)) 1 6 (va_A [(h0, .inr (15, [.ref q1, .ref q26, .ref q6, .ref q16, .int 0, .int 0, .ref q35, .ref q41, .ref q88, .ref q111, .ref q127, .ref q132, .int 0, .int 0, .ref q134, .ref q136, .ref q138, .ref q140])), (ou, .inl (cy 2, 1, .inr (.inl (fun _ => 0))))] sz) := by
  refine va_MetW (cc := cL_played) (maxL := 4) (ret := (some .int)) (by decide) rfl ?_
  intro p e s m args below meth c s₁ B hml hv
  obtain ⟨rfl, hsz, hP, hKK, hD0, hTK⟩ := hv
  have hK := hKK.1
  have hx := B.exec
  have hb := B.bytes
  have hr := B.returns
  have hts := atoms_spec (ws := wq_c_L_played) B.pre
  have hown : s.vm.findClass RL = some m.cls := findClass_of_methodNamed B.named
  have hlocks := B.notSynchronized
  have htab := vx_table (x := yL_played) B (hts _ List.mem_cons_self)
  subst hsz
  have hD := hD0.self (sz := s.heap.size)
  generalize hAe : va_A [(h0, .inr (15, [.ref q1, .ref q26, .ref q6, .ref q16, .int 0, .int 0, .ref q35, .ref q41, .ref q88, .ref q111, .ref q127, .ref q132, .int 0, .int 0, .ref q134, .ref q136, .ref q138, .ref q140])), (ou, .inl (cy 2, 1, .inr (.inl (fun _ => 0))))] s.heap.size = A at hD hTK ⊢
  have hA : ∀ q : Nat, s.heap.size ≤ q → A q := fun q h => by rw [← hAe]; exact Or.inr h
  obtain ⟨H, hS, hP, hgo⟩ : ∃ H, va_S A s.heap H [] ∧ va_P D vwCl [(h0, .inr (15, [.ref q1, .ref q26, .ref q6, .ref q16, .int 0, .int 0, .ref q35, .ref q41, .ref q88, .ref q111, .ref q127, .ref q132, .int 0, .int 0, .ref q134, .ref q136, .ref q138, .ref q140])), (ou, .inl (cy 2, 1, .inr (.inl (fun _ => 0))))] H ∧ H = s.heap := ⟨s.heap, va_S.rf, hP, rfl⟩
  rw [← hgo]
  have hl := lv_entry ([.ref h0, .int p1, .ref ou]) (n := 4) (Nat.le_of_ble_eq_true rfl)
  rw [lg_entry_eq]
  generalize (lg_sl ([.ref h0, .int p1, .ref ou]) ++ List.replicate (4 - (lg_sl ([.ref h0, .int p1, .ref ou])).length) Slot.unset).toArray = ls at hl ⊢
  have hl : lv_has ls 4 [(0, .ref h0), (1, .int p1), (2, .ref ou)] := hl
  refine lv_aload_n hx hb dL_played_0 rfl (lv_at hl 2 rfl) ?_
  refine lv_iconst (v := 0) hx hb dL_played_1 (by decide) ?_
  refine lv_aload_n hx hb dL_played_2 rfl (lv_at hl 0 rfl) ?_
  refine lv_iload_n hx hb dL_played_3 rfl (lv_at hl 1 rfl) ?_
  have hPc := hP.sub (ws' := [(h0, .inr (15, [.ref q1, .ref q26, .ref q6, .ref q16, .int 0, .int 0, .ref q35, .ref q41, .ref q88, .ref q111, .ref q127, .ref q132, .int 0, .int 0, .ref q134, .ref q136, .ref q138, .ref q140]))]) [0] rfl
  have hDc := hD.sub (ws' := [(h0, .inr (15, [.ref q1, .ref q26, .ref q6, .ref q16, .int 0, .int 0, .ref q35, .ref q41, .ref q88, .ref q111, .ref q127, .ref q132, .int 0, .int 0, .ref q134, .ref q136, .ref q138, .ref q140]))]) [0] (by decide) rfl
  have hFc := va_free (wc := [(h0, .inr (15, [.ref q1, .ref q26, .ref q6, .ref q16, .int 0, .int 0, .ref q35, .ref q41, .ref q88, .ref q111, .ref q127, .ref q132, .int 0, .int 0, .ref q134, .ref q136, .ref q138, .ref q140]))]) hD hS hA [0] rfl
  refine vx_calll (vx_runV (As := [.int p1]) (rest := [.int 0, .ref ou]) ⟨hx, hb, hml, hown, hts⟩ (c_X12_played l D cy h0 q1 q26 q6 q16 q35 q41 q88 q111 q127 q132 q134 q136 q138 q140 p1 H.size hst) (cwV 1 hts g_c_L_played_0 rfl rfl rfl (by decide +kernel) ⟨(Nat.le_of_ble_eq_true rfl), (Nat.le_of_ble_eq_true rfl)⟩) ⟨fun a U g mk q => by obtain ⟨q0, q1, qP, qK, qD, qT⟩ := q; exact ⟨q0, q1, qP, kK.moved (u := U) (U := U.calling g mk a) (Vm.Alike.refl U.vm) qK, qD, tK.same rfl rfl qT⟩, va_recv hK hPc (ci := 15) (q0 := 0) rfl rfl, fun U hU hW => ⟨rfl, by rw [hU], by rw [hU]; exact hPc, kK.moved hW.alike hKK, hDc.weaken (fun _ _ _ _ => trivial), tK.at hTK hS hU hW hFc⟩⟩ rfl rfl hl.1 rfl (lv_room (Nat.le_of_ble_eq_true rfl)) dL_played_4 ⟨(Nat.le_of_ble_eq_true rfl), (Nat.le_of_ble_eq_true rfl)⟩) hS (fun q _ h => hFc q h) hFc (fun q _ h => hFc q h) (fun E9 ce q9 u t H1 locs ht hvm hpx hBX hz1 hk1 hS hce hcv hcl => ?_) (fun r1 u2 t H1 locs ht hvm hw hB hz1 hk1 hS => ?_)
  · skip
    rcases hBX with ⟨rfl, c3⟩ | ⟨rfl, c4, c5⟩
    · skip
      obtain ⟨hP, hD⟩ := va_join (wr := [(ou, .inl (cy 2, 1, .inr (.inl (fun _ => 0))))]) (w1 := []) hP hD [0] [1] rfl rfl (by decide) (by decide) hk1 hFc va_P0 va_D0
      generalize H1 = H at hP hS hce ⊢
      have hP : va_P D vwCl [(ou, .inl (cy 2, 1, .inr (.inl (fun _ => 0))))] H := hP
      have hD : va_D A [(ou, .inl (cy 2, 1, .inr (.inl (fun _ => 0))))] := hD
      refine vx_catch (own := RL) (name := "java/lang/IndexOutOfBoundsException") hown [] ⟨0, 8, 11, 25⟩ [] htab (fun z hz => by cases hz) (by decide) (by decide) (hts (.classLink RL 25 "java/lang/IndexOutOfBoundsException") (List.mem_of_getElem? (i := 1) rfl)) (va_Nw.use rfl (hTK.2.2.1 "java/lang/IndexOutOfBoundsException" (by decide))) hce hcv hcl ?_
      refine W.widen (k := 1) (n := 6) (Nat.le_of_ble_eq_true rfl) (Nat.le_of_ble_eq_true rfl) ?_
      refine lv_astore_n (lv' := [(3, .ref q9), (0, .ref h0), (1, .int p1), (2, .ref ou)]) hx hb dL_played_11 rfl hl (by decide) rfl (fun ls hl => ?_)
      refine lv_iconst (v := 1) hx hb dL_played_12 (by decide) ?_
      refine W.widen (k := 1) (n := 6) (Nat.le_of_ble_eq_true rfl) (Nat.le_of_ble_eq_true rfl) ?_
      exact W.iret (v := 1) hx hb hr (fun t ht hW => ⟨⟨1, 0, rfl, Or.inl (⟨c3, rfl, rfl⟩), (fun _ => 0), by rw [ht]; exact hP.sub [0] rfl, hD.sub [0] (by decide) rfl, rfl⟩, hS.F ht⟩) hS.2.2 dL_played_13
    · skip
      obtain ⟨hP, hD⟩ := va_join (wr := [(ou, .inl (cy 2, 1, .inr (.inl (fun _ => 0))))]) (w1 := []) hP hD [0] [1] rfl rfl (by decide) (by decide) hk1 hFc va_P0 va_D0
      generalize H1 = H at hP hS hce ⊢
      have hP : va_P D vwCl [(ou, .inl (cy 2, 1, .inr (.inl (fun _ => 0))))] H := hP
      have hD : va_D A [(ou, .inl (cy 2, 1, .inr (.inl (fun _ => 0))))] := hD
      refine vx_catch (own := RL) (name := "java/lang/IndexOutOfBoundsException") hown [] ⟨0, 8, 11, 25⟩ [] htab (fun z hz => by cases hz) (by decide) (by decide) (hts (.classLink RL 25 "java/lang/IndexOutOfBoundsException") (List.mem_of_getElem? (i := 1) rfl)) (va_Nw.use rfl (hTK.2.2.1 "java/lang/IndexOutOfBoundsException" (by decide))) hce hcv hcl ?_
      refine W.widen (k := 1) (n := 6) (Nat.le_of_ble_eq_true rfl) (Nat.le_of_ble_eq_true rfl) ?_
      refine lv_astore_n (lv' := [(3, .ref q9), (0, .ref h0), (1, .int p1), (2, .ref ou)]) hx hb dL_played_11 rfl hl (by decide) rfl (fun ls hl => ?_)
      refine lv_iconst (v := 1) hx hb dL_played_12 (by decide) ?_
      refine W.widen (k := 1) (n := 6) (Nat.le_of_ble_eq_true rfl) (Nat.le_of_ble_eq_true rfl) ?_
      exact W.iret (v := 1) hx hb hr (fun t ht hW => ⟨⟨1, 0, rfl, Or.inr (Or.inl (⟨c4, c5, rfl, rfl⟩)), (fun _ => 0), by rw [ht]; exact hP.sub [0] rfl, hD.sub [0] (by decide) rfl, rfl⟩, hS.F ht⟩) hS.2.2 dL_played_13
  · skip
    obtain ⟨hP, hD⟩ := va_join (wr := [(ou, .inl (cy 2, 1, .inr (.inl (fun _ => 0))))]) (w1 := []) hP hD [0] [1] rfl rfl (by decide) (by decide) hk1 hFc va_P0 va_D0
    generalize H1 = H at hP hS ⊢
    have hP : va_P D vwCl [(ou, .inl (cy 2, 1, .inr (.inl (fun _ => 0))))] H := hP
    have hD : va_D A [(ou, .inl (cy 2, 1, .inr (.inl (fun _ => 0))))] := hD
    refine W.widen (k := 1) (n := 6) (Nat.le_of_ble_eq_true rfl) (Nat.le_of_ble_eq_true rfl) ?_
    rcases hw with ⟨c6, c7, rfl⟩
    refine va_last hx hb hK hP hD hS 0 2 rfl rfl (by unfold vp_in; decide) dL_played_7 (fun H locs hP hD hS => ?_)
    have hP : va_P D vwCl [(ou, .inl (cy 2, 1, .inr (.inl (vp_updL (fun _ => 0) 0 0))))] H := hP
    have hD : va_D A [(ou, .inl (cy 2, 1, .inr (.inl (vp_updL (fun _ => 0) 0 0))))] := hD
    refine lv_goto (tgt := 14) hx hb dL_played_8 (by decide) ?_
    refine lv_iconst (v := 0) hx hb dL_played_14 (by decide) ?_
    refine W.widen (k := 1) (n := 6) (Nat.le_of_ble_eq_true rfl) (Nat.le_of_ble_eq_true rfl) ?_
    exact W.iret (v := 0) hx hb hr (fun t ht hW => ⟨⟨0, 0, rfl, Or.inr (Or.inr (⟨c6, c7, rfl, rfl⟩)), (vp_updL (fun _ => 0) 0 0), by rw [ht]; exact hP.sub [0] rfl, hD.sub [0] (by decide) rfl, rfl⟩, hS.F ht⟩) hS.2.2 dL_played_15
def wq_c_L_independent : List Cond := .codeWith yL_independent cL_independent 5 (some .int) [(0, 17, 20, 30), (0, 17, 24, 25)] :: ([.classLink RL 30 "java/lang/IllegalStateException"] ++ (wsV RL 82 RX12 yX12_independent wq_c_X12_independent))
set_option maxRecDepth 100000 in
theorem g_c_L_independent_0 : GoodIn wq_c_L_independent (wsV RL 82 RX12 yX12_independent wq_c_X12_independent) := goodIn_sub (fun w h => List.mem_cons_of_mem _ (List.mem_append_right _ (h))) (by decide +kernel)
set_option maxHeartbeats 4000000 in
set_option maxRecDepth 100000 in
theorem c_L_independent (l : Launch) (D : va_G) (cy : Nat → ClassId) (h0 q1 q26 q6 q16 q35 q41 q88 q111 q127 q132 q134 q136 q138 q140 q42 q74 q89 q90 q91 q93 q98 q100 q102 q104 q106 q108 q109 q110 ou : Nat) (p1 p2 : Int32) (sz : Nat) (hst : l.stackTraces = false) : Met l yL_independent wq_c_L_independent ({ frames := 7, cells := 1, slots := 6, locals := 104 }) (va_Pc [.ref h0, .int p1, .int p2, .ref ou] (fun U => U.heap.size = sz ∧ va_P D vwCl [(h0, .inr (15, [.ref q1, .ref q26, .ref q6, .ref q16, .int 0, .int 0, .ref q35, .ref q41, .ref q88, .ref q111, .ref q127, .ref q132, .int 0, .int 0, .ref q134, .ref q136, .ref q138, .ref q140])), (q88, .inr (12, [.ref q41, .ref q42, .ref q74, .int 0, .int 0, .ref q89, .ref q90, .ref q91, .ref q93, .ref q98, .ref q100, .ref q102, .ref q104, .ref q106, .ref q108, .ref q109, .ref q110])), (ou, .inl (cy 2, 1, .inr (.inl (fun _ => 0))))] U.heap ∧ kK D cy U ∧ va_D (fun _ => True) [(h0, .inr (15, [.ref q1, .ref q26, .ref q6, .ref q16, .int 0, .int 0, .ref q35, .ref q41, .ref q88, .ref q111, .ref q127, .ref q132, .int 0, .int 0, .ref q134, .ref q136, .ref q138, .ref q140])), (q88, .inr (12, [.ref q41, .ref q42, .ref q74, .int 0, .int 0, .ref q89, .ref q90, .ref q91, .ref q93, .ref q98, .ref q100, .ref q102, .ref q104, .ref q106, .ref q108, .ref q109, .ref q110])), (ou, .inl (cy 2, 1, .inr (.inl (fun _ => 0))))] ∧ tK (va_A [(h0, .inr (15, [.ref q1, .ref q26, .ref q6, .ref q16, .int 0, .int 0, .ref q35, .ref q41, .ref q88, .ref q111, .ref q127, .ref q132, .int 0, .int 0, .ref q134, .ref q136, .ref q138, .ref q140])), (q88, .inr (12, [.ref q41, .ref q42, .ref q74, .int 0, .int 0, .ref q89, .ref q90, .ref q91, .ref q93, .ref q98, .ref q100, .ref q102, .ref q104, .ref q106, .ref q108, .ref q109, .ref q110])), (ou, .inl (cy 2, 1, .inr (.inl (fun _ => 0))))] sz) U)) (va_Qi (fun (r : Int32) (u : Int64) => (r = 1 ∧ u = 0)) (fun (u : Int64) t => ∃ f : Nat → Int64, va_P D vwCl [(ou, .inl (cy 2, 1, .inr (.inl f)))] t.heap ∧ va_D (va_A [(h0, .inr (15, [.ref q1, .ref q26, .ref q6, .ref q16, .int 0, .int 0, .ref q35, .ref q41, .ref q88, .ref q111, .ref q127, .ref q132, .int 0, .int 0, .ref q134, .ref q136, .ref q138, .ref q140])), (q88, .inr (12, [.ref q41, .ref q42, .ref q74, .int 0, .int 0, .ref q89, .ref q90, .ref q91, .ref q93, .ref q98, .ref q100, .ref q102, .ref q104, .ref q106, .ref q108, .ref q109, .ref q110])), (ou, .inl (cy 2, 1, .inr (.inl (fun _ => 0))))] sz) [(ou, .inl (cy 2, 1, .inr (.inl f)))] ∧ f 0 = u) (va_A [(h0, .inr (15, [.ref q1, .ref q26, .ref q6, .ref q16, .int 0, .int 0, .ref q35, .ref q41, .ref q88, .ref q111, .ref q127, .ref q132, .int 0, .int 0, .ref q134, .ref q136, .ref q138, .ref q140])), (q88, .inr (12, [.ref q41, .ref q42, .ref q74, .int 0, .int 0, .ref q89, .ref q90, .ref q91, .ref q93, .ref q98, .ref q100, .ref q102, .ref q104, .ref q106, .ref q108, .ref q109, .ref q110])), (ou, .inl (cy 2, 1, .inr (.inl (fun _ => 0))))] sz)) 1 6 (va_A [(h0, .inr (15, [.ref q1, .ref q26, .ref q6, .ref q16, .int 0, .int 0, .ref q35, .ref q41, .ref q88, .ref q111, .ref q127, .ref q132, .int 0, .int 0, .ref q134, .ref q136, .ref q138, .ref q140])), (q88, .inr (12, [.ref q41, .ref q42, .ref q74, .int 0, .int 0, .ref q89, .ref q90, .ref q91, .ref q93, .ref q98, .ref q100, .ref q102, .ref q104, .ref q106, .ref q108, .ref q109, .ref q110])), (ou, .inl (cy 2, 1, .inr (.inl (fun _ => 0))))] sz) := by
  refine va_MetW (cc := cL_independent) (maxL := 5) (ret := (some .int)) (by decide) rfl ?_
  intro p e s m args below meth c s₁ B hml hv
  obtain ⟨rfl, hsz, hP, hKK, hD0, hTK⟩ := hv
  have hK := hKK.1
  have hx := B.exec
  have hb := B.bytes
  have hr := B.returns
  have hts := atoms_spec (ws := wq_c_L_independent) B.pre
  have hown : s.vm.findClass RL = some m.cls := findClass_of_methodNamed B.named
  have hlocks := B.notSynchronized
  have htab := vx_table (x := yL_independent) B (hts _ List.mem_cons_self)
  subst hsz
  have hD := hD0.self (sz := s.heap.size)
  generalize hAe : va_A [(h0, .inr (15, [.ref q1, .ref q26, .ref q6, .ref q16, .int 0, .int 0, .ref q35, .ref q41, .ref q88, .ref q111, .ref q127, .ref q132, .int 0, .int 0, .ref q134, .ref q136, .ref q138, .ref q140])), (q88, .inr (12, [.ref q41, .ref q42, .ref q74, .int 0, .int 0, .ref q89, .ref q90, .ref q91, .ref q93, .ref q98, .ref q100, .ref q102, .ref q104, .ref q106, .ref q108, .ref q109, .ref q110])), (ou, .inl (cy 2, 1, .inr (.inl (fun _ => 0))))] s.heap.size = A at hD hTK ⊢
  have hA : ∀ q : Nat, s.heap.size ≤ q → A q := fun q h => by rw [← hAe]; exact Or.inr h
  obtain ⟨H, hS, hP, hgo⟩ : ∃ H, va_S A s.heap H [] ∧ va_P D vwCl [(h0, .inr (15, [.ref q1, .ref q26, .ref q6, .ref q16, .int 0, .int 0, .ref q35, .ref q41, .ref q88, .ref q111, .ref q127, .ref q132, .int 0, .int 0, .ref q134, .ref q136, .ref q138, .ref q140])), (q88, .inr (12, [.ref q41, .ref q42, .ref q74, .int 0, .int 0, .ref q89, .ref q90, .ref q91, .ref q93, .ref q98, .ref q100, .ref q102, .ref q104, .ref q106, .ref q108, .ref q109, .ref q110])), (ou, .inl (cy 2, 1, .inr (.inl (fun _ => 0))))] H ∧ H = s.heap := ⟨s.heap, va_S.rf, hP, rfl⟩
  rw [← hgo]
  have hl := lv_entry ([.ref h0, .int p1, .int p2, .ref ou]) (n := 5) (Nat.le_of_ble_eq_true rfl)
  rw [lg_entry_eq]
  generalize (lg_sl ([.ref h0, .int p1, .int p2, .ref ou]) ++ List.replicate (5 - (lg_sl ([.ref h0, .int p1, .int p2, .ref ou])).length) Slot.unset).toArray = ls at hl ⊢
  have hl : lv_has ls 5 [(0, .ref h0), (1, .int p1), (2, .int p2), (3, .ref ou)] := hl
  refine lv_aload_n hx hb dL_independent_0 rfl (lv_at hl 3 rfl) ?_
  refine lv_iconst (v := 0) hx hb dL_independent_1 (by decide) ?_
  refine lv_aload_n hx hb dL_independent_2 rfl (lv_at hl 0 rfl) ?_
  refine lv_iload_n hx hb dL_independent_3 rfl (lv_at hl 1 rfl) ?_
  refine lv_iload_n hx hb dL_independent_4 rfl (lv_at hl 2 rfl) ?_
  have hPc := hP.sub (ws' := [(h0, .inr (15, [.ref q1, .ref q26, .ref q6, .ref q16, .int 0, .int 0, .ref q35, .ref q41, .ref q88, .ref q111, .ref q127, .ref q132, .int 0, .int 0, .ref q134, .ref q136, .ref q138, .ref q140])), (q88, .inr (12, [.ref q41, .ref q42, .ref q74, .int 0, .int 0, .ref q89, .ref q90, .ref q91, .ref q93, .ref q98, .ref q100, .ref q102, .ref q104, .ref q106, .ref q108, .ref q109, .ref q110]))]) [0, 1] rfl
  have hDc := hD.sub (ws' := [(h0, .inr (15, [.ref q1, .ref q26, .ref q6, .ref q16, .int 0, .int 0, .ref q35, .ref q41, .ref q88, .ref q111, .ref q127, .ref q132, .int 0, .int 0, .ref q134, .ref q136, .ref q138, .ref q140])), (q88, .inr (12, [.ref q41, .ref q42, .ref q74, .int 0, .int 0, .ref q89, .ref q90, .ref q91, .ref q93, .ref q98, .ref q100, .ref q102, .ref q104, .ref q106, .ref q108, .ref q109, .ref q110]))]) [0, 1] (by decide) rfl
  have hFc := va_free (wc := [(h0, .inr (15, [.ref q1, .ref q26, .ref q6, .ref q16, .int 0, .int 0, .ref q35, .ref q41, .ref q88, .ref q111, .ref q127, .ref q132, .int 0, .int 0, .ref q134, .ref q136, .ref q138, .ref q140])), (q88, .inr (12, [.ref q41, .ref q42, .ref q74, .int 0, .int 0, .ref q89, .ref q90, .ref q91, .ref q93, .ref q98, .ref q100, .ref q102, .ref q104, .ref q106, .ref q108, .ref q109, .ref q110]))]) hD hS hA [0, 1] rfl
  refine vx_calli (vx_runV (As := [.int p1, .int p2]) (rest := [.int 0, .ref ou]) ⟨hx, hb, hml, hown, hts⟩ (c_X12_independent l D cy h0 q1 q26 q6 q16 q35 q41 q88 q111 q127 q132 q134 q136 q138 q140 q42 q74 q89 q90 q91 q93 q98 q100 q102 q104 q106 q108 q109 q110 p1 p2 H.size hst) (cwV 2 hts g_c_L_independent_0 rfl rfl rfl (by decide +kernel) ⟨(Nat.le_of_ble_eq_true rfl), (Nat.le_of_ble_eq_true rfl)⟩) ⟨fun a U g mk q => by obtain ⟨q0, q1, qP, qK, qD, qT⟩ := q; exact ⟨q0, q1, qP, kK.moved (u := U) (U := U.calling g mk a) (Vm.Alike.refl U.vm) qK, qD, tK.same rfl rfl qT⟩, va_recv hK hPc (ci := 15) (q0 := 0) rfl rfl, fun U hU hW => ⟨rfl, by rw [hU], by rw [hU]; exact hPc, kK.moved hW.alike hKK, hDc.weaken (fun _ _ _ _ => trivial), tK.at hTK hS hU hW hFc⟩⟩ rfl rfl hl.1 rfl (lv_room (Nat.le_of_ble_eq_true rfl)) dL_independent_5 ⟨(Nat.le_of_ble_eq_true rfl), (Nat.le_of_ble_eq_true rfl)⟩) hS (fun q _ h => hFc q h) hFc (fun q _ h => hFc q h) (fun E9 ce q9 u t H1 locs ht hvm hpx hBX hz1 hk1 hS hce hcv hcl => ?_) (fun r1 u2 t H1 locs ht hvm hw hB hz1 hk1 hS => ?_)
  · skip
    rcases hBX with rfl
    obtain ⟨hP, hD⟩ := va_join (wr := [(ou, .inl (cy 2, 1, .inr (.inl (fun _ => 0))))]) (w1 := []) hP hD [0, 1] [2] rfl rfl (by decide) (by decide) hk1 hFc va_P0 va_D0
    generalize H1 = H at hP hS hce ⊢
    have hP : va_P D vwCl [(ou, .inl (cy 2, 1, .inr (.inl (fun _ => 0))))] H := hP
    have hD : va_D A [(ou, .inl (cy 2, 1, .inr (.inl (fun _ => 0))))] := hD
    refine vx_catch (own := RL) (name := "java/lang/IllegalStateException") hown [] ⟨0, 17, 20, 30⟩ [⟨0, 17, 24, 25⟩] htab (fun z hz => by cases hz) (by decide) (by decide) (hts (.classLink RL 30 "java/lang/IllegalStateException") (List.mem_of_getElem? (i := 1) rfl)) (va_Nw.use rfl (hTK.2.2.1 "java/lang/IllegalStateException" (by decide))) hce hcv hcl ?_
    refine W.widen (k := 1) (n := 6) (Nat.le_of_ble_eq_true rfl) (Nat.le_of_ble_eq_true rfl) ?_
    refine lv_astore (lv' := [(4, .ref q9), (0, .ref h0), (1, .int p1), (2, .int p2), (3, .ref ou)]) hx hb dL_independent_20 hl (by decide) rfl (fun ls hl => ?_)
    refine lv_iconst (v := 1) hx hb dL_independent_22 (by decide) ?_
    refine W.widen (k := 1) (n := 6) (Nat.le_of_ble_eq_true rfl) (Nat.le_of_ble_eq_true rfl) ?_
    exact W.iret (v := 1) hx hb hr (fun t ht hW => ⟨⟨1, 0, rfl, ⟨rfl, rfl⟩, (fun _ => 0), by rw [ht]; exact hP.sub [0] rfl, hD.sub [0] (by decide) rfl, rfl⟩, hS.F ht⟩) hS.2.2 dL_independent_23
  · skip
    exact hw.elim
def wq_c_L_given : List Cond := .codeWith yL_given cL_given 6 (some .int) [(0, 19, 22, 30), (0, 19, 26, 25)] :: ([.classLink RL 30 "java/lang/IllegalStateException"] ++ (wsV RL 86 RX12 yX12_given wq_c_X12_given))
set_option maxRecDepth 100000 in
theorem g_c_L_given_0 : GoodIn wq_c_L_given (wsV RL 86 RX12 yX12_given wq_c_X12_given) := goodIn_sub (fun w h => List.mem_cons_of_mem _ (List.mem_append_right _ (h))) (by decide +kernel)
set_option maxHeartbeats 4000000 in
set_option maxRecDepth 100000 in
theorem c_L_given (l : Launch) (D : va_G) (cy : Nat → ClassId) (h0 q1 q26 q6 q16 q35 q41 q88 q111 q127 q132 q134 q136 q138 q140 q42 q74 q89 q90 q91 q93 q98 q100 q102 q104 q106 q108 q109 q110 ou : Nat) (p1 p2 p3 : Int32) (sz : Nat) (hst : l.stackTraces = false) : Met l yL_given wq_c_L_given ({ frames := 7, cells := 1, slots := 6, locals := 105 }) (va_Pc [.ref h0, .int p1, .int p2, .int p3, .ref ou] (fun U => U.heap.size = sz ∧ va_P D vwCl [(h0, .inr (15, [.ref q1, .ref q26, .ref q6, .ref q16, .int 0, .int 0, .ref q35, .ref q41, .ref q88, .ref q111, .ref q127, .ref q132, .int 0, .int 0, .ref q134, .ref q136, .ref q138, .ref q140])), (q88, .inr (12, [.ref q41, .ref q42, .ref q74, .int 0, .int 0, .ref q89, .ref q90, .ref q91, .ref q93, .ref q98, .ref q100, .ref q102, .ref q104, .ref q106, .ref q108, .ref q109, .ref q110])), (ou, .inl (cy 2, 1, .inr (.inl (fun _ => 0))))] U.heap ∧ kK D cy U ∧ va_D (fun _ => True) [(h0, .inr (15, [.ref q1, .ref q26, .ref q6, .ref q16, .int 0, .int 0, .ref q35, .ref q41, .ref q88, .ref q111, .ref q127, .ref q132, .int 0, .int 0, .ref q134, .ref q136, .ref q138, .ref q140])), (q88, .inr (12, [.ref q41, .ref q42, .ref q74, .int 0, .int 0, .ref q89, .ref q90, .ref q91, .ref q93, .ref q98, .ref q100, .ref q102, .ref q104, .ref q106, .ref q108, .ref q109, .ref q110])), (ou, .inl (cy 2, 1, .inr (.inl (fun _ => 0))))] ∧ tK (va_A [(h0, .inr (15, [.ref q1, .ref q26, .ref q6, .ref q16, .int 0, .int 0, .ref q35, .ref q41, .ref q88, .ref q111, .ref q127, .ref q132, .int 0, .int 0, .ref q134, .ref q136, .ref q138, .ref q140])), (q88, .inr (12, [.ref q41, .ref q42, .ref q74, .int 0, .int 0, .ref q89, .ref q90, .ref q91, .ref q93, .ref q98, .ref q100, .ref q102, .ref q104, .ref q106, .ref q108, .ref q109, .ref q110])), (ou, .inl (cy 2, 1, .inr (.inl (fun _ => 0))))] sz) U)) (va_Qi (fun (r : Int32) (u : Int64) => (r = 1 ∧ u = 0)) (fun (u : Int64) t => ∃ f : Nat → Int64, va_P D vwCl [(ou, .inl (cy 2, 1, .inr (.inl f)))] t.heap ∧ va_D (va_A [(h0, .inr (15, [.ref q1, .ref q26, .ref q6, .ref q16, .int 0, .int 0, .ref q35, .ref q41, .ref q88, .ref q111, .ref q127, .ref q132, .int 0, .int 0, .ref q134, .ref q136, .ref q138, .ref q140])), (q88, .inr (12, [.ref q41, .ref q42, .ref q74, .int 0, .int 0, .ref q89, .ref q90, .ref q91, .ref q93, .ref q98, .ref q100, .ref q102, .ref q104, .ref q106, .ref q108, .ref q109, .ref q110])), (ou, .inl (cy 2, 1, .inr (.inl (fun _ => 0))))] sz) [(ou, .inl (cy 2, 1, .inr (.inl f)))] ∧ f 0 = u) (va_A [(h0, .inr (15, [.ref q1, .ref q26, .ref q6, .ref q16, .int 0, .int 0, .ref q35, .ref q41, .ref q88, .ref q111, .ref q127, .ref q132, .int 0, .int 0, .ref q134, .ref q136, .ref q138, .ref q140])), (q88, .inr (12, [.ref q41, .ref q42, .ref q74, .int 0, .int 0, .ref q89, .ref q90, .ref q91, .ref q93, .ref q98, .ref q100, .ref q102, .ref q104, .ref q106, .ref q108, .ref q109, .ref q110])), (ou, .inl (cy 2, 1, .inr (.inl (fun _ => 0))))] sz)) 1 6 (va_A [(h0, .inr (15, [.ref q1, .ref q26, .ref q6, .ref q16, .int 0, .int 0, .ref q35, .ref q41, .ref q88, .ref q111, .ref q127, .ref q132, .int 0, .int 0, .ref q134, .ref q136, .ref q138, .ref q140])), (q88, .inr (12, [.ref q41, .ref q42, .ref q74, .int 0, .int 0, .ref q89, .ref q90, .ref q91, .ref q93, .ref q98, .ref q100, .ref q102, .ref q104, .ref q106, .ref q108, .ref q109, .ref q110])), (ou, .inl (cy 2, 1, .inr (.inl (fun _ => 0))))] sz) := by
  refine va_MetW (cc := cL_given) (maxL := 6) (ret := (some .int)) (by decide) rfl ?_
  intro p e s m args below meth c s₁ B hml hv
  obtain ⟨rfl, hsz, hP, hKK, hD0, hTK⟩ := hv
  have hK := hKK.1
  have hx := B.exec
  have hb := B.bytes
  have hr := B.returns
  have hts := atoms_spec (ws := wq_c_L_given) B.pre
  have hown : s.vm.findClass RL = some m.cls := findClass_of_methodNamed B.named
  have hlocks := B.notSynchronized
  have htab := vx_table (x := yL_given) B (hts _ List.mem_cons_self)
  subst hsz
  have hD := hD0.self (sz := s.heap.size)
  generalize hAe : va_A [(h0, .inr (15, [.ref q1, .ref q26, .ref q6, .ref q16, .int 0, .int 0, .ref q35, .ref q41, .ref q88, .ref q111, .ref q127, .ref q132, .int 0, .int 0, .ref q134, .ref q136, .ref q138, .ref q140])), (q88, .inr (12, [.ref q41, .ref q42, .ref q74, .int 0, .int 0, .ref q89, .ref q90, .ref q91, .ref q93, .ref q98, .ref q100, .ref q102, .ref q104, .ref q106, .ref q108, .ref q109, .ref q110])), (ou, .inl (cy 2, 1, .inr (.inl (fun _ => 0))))] s.heap.size = A at hD hTK ⊢
  have hA : ∀ q : Nat, s.heap.size ≤ q → A q := fun q h => by rw [← hAe]; exact Or.inr h
  obtain ⟨H, hS, hP, hgo⟩ : ∃ H, va_S A s.heap H [] ∧ va_P D vwCl [(h0, .inr (15, [.ref q1, .ref q26, .ref q6, .ref q16, .int 0, .int 0, .ref q35, .ref q41, .ref q88, .ref q111, .ref q127, .ref q132, .int 0, .int 0, .ref q134, .ref q136, .ref q138, .ref q140])), (q88, .inr (12, [.ref q41, .ref q42, .ref q74, .int 0, .int 0, .ref q89, .ref q90, .ref q91, .ref q93, .ref q98, .ref q100, .ref q102, .ref q104, .ref q106, .ref q108, .ref q109, .ref q110])), (ou, .inl (cy 2, 1, .inr (.inl (fun _ => 0))))] H ∧ H = s.heap := ⟨s.heap, va_S.rf, hP, rfl⟩
  rw [← hgo]
  have hl := lv_entry ([.ref h0, .int p1, .int p2, .int p3, .ref ou]) (n := 6) (Nat.le_of_ble_eq_true rfl)
  rw [lg_entry_eq]
  generalize (lg_sl ([.ref h0, .int p1, .int p2, .int p3, .ref ou]) ++ List.replicate (6 - (lg_sl ([.ref h0, .int p1, .int p2, .int p3, .ref ou])).length) Slot.unset).toArray = ls at hl ⊢
  have hl : lv_has ls 6 [(0, .ref h0), (1, .int p1), (2, .int p2), (3, .int p3), (4, .ref ou)] := hl
  refine lv_aload hx hb dL_given_0 (lv_at hl 4 rfl) ?_
  refine lv_iconst (v := 0) hx hb dL_given_2 (by decide) ?_
  refine lv_aload_n hx hb dL_given_3 rfl (lv_at hl 0 rfl) ?_
  refine lv_iload_n hx hb dL_given_4 rfl (lv_at hl 1 rfl) ?_
  refine lv_iload_n hx hb dL_given_5 rfl (lv_at hl 2 rfl) ?_
  refine lv_iload_n hx hb dL_given_6 rfl (lv_at hl 3 rfl) ?_
  have hPc := hP.sub (ws' := [(h0, .inr (15, [.ref q1, .ref q26, .ref q6, .ref q16, .int 0, .int 0, .ref q35, .ref q41, .ref q88, .ref q111, .ref q127, .ref q132, .int 0, .int 0, .ref q134, .ref q136, .ref q138, .ref q140])), (q88, .inr (12, [.ref q41, .ref q42, .ref q74, .int 0, .int 0, .ref q89, .ref q90, .ref q91, .ref q93, .ref q98, .ref q100, .ref q102, .ref q104, .ref q106, .ref q108, .ref q109, .ref q110]))]) [0, 1] rfl
  have hDc := hD.sub (ws' := [(h0, .inr (15, [.ref q1, .ref q26, .ref q6, .ref q16, .int 0, .int 0, .ref q35, .ref q41, .ref q88, .ref q111, .ref q127, .ref q132, .int 0, .int 0, .ref q134, .ref q136, .ref q138, .ref q140])), (q88, .inr (12, [.ref q41, .ref q42, .ref q74, .int 0, .int 0, .ref q89, .ref q90, .ref q91, .ref q93, .ref q98, .ref q100, .ref q102, .ref q104, .ref q106, .ref q108, .ref q109, .ref q110]))]) [0, 1] (by decide) rfl
  have hFc := va_free (wc := [(h0, .inr (15, [.ref q1, .ref q26, .ref q6, .ref q16, .int 0, .int 0, .ref q35, .ref q41, .ref q88, .ref q111, .ref q127, .ref q132, .int 0, .int 0, .ref q134, .ref q136, .ref q138, .ref q140])), (q88, .inr (12, [.ref q41, .ref q42, .ref q74, .int 0, .int 0, .ref q89, .ref q90, .ref q91, .ref q93, .ref q98, .ref q100, .ref q102, .ref q104, .ref q106, .ref q108, .ref q109, .ref q110]))]) hD hS hA [0, 1] rfl
  refine vx_calli (vx_runV (As := [.int p1, .int p2, .int p3]) (rest := [.int 0, .ref ou]) ⟨hx, hb, hml, hown, hts⟩ (c_X12_given l D cy h0 q1 q26 q6 q16 q35 q41 q88 q111 q127 q132 q134 q136 q138 q140 q42 q74 q89 q90 q91 q93 q98 q100 q102 q104 q106 q108 q109 q110 p1 p2 p3 H.size hst) (cwV 3 hts g_c_L_given_0 rfl rfl rfl (by decide +kernel) ⟨(Nat.le_of_ble_eq_true rfl), (Nat.le_of_ble_eq_true rfl)⟩) ⟨fun a U g mk q => by obtain ⟨q0, q1, qP, qK, qD, qT⟩ := q; exact ⟨q0, q1, qP, kK.moved (u := U) (U := U.calling g mk a) (Vm.Alike.refl U.vm) qK, qD, tK.same rfl rfl qT⟩, va_recv hK hPc (ci := 15) (q0 := 0) rfl rfl, fun U hU hW => ⟨rfl, by rw [hU], by rw [hU]; exact hPc, kK.moved hW.alike hKK, hDc.weaken (fun _ _ _ _ => trivial), tK.at hTK hS hU hW hFc⟩⟩ rfl rfl hl.1 rfl (lv_room (Nat.le_of_ble_eq_true rfl)) dL_given_7 ⟨(Nat.le_of_ble_eq_true rfl), (Nat.le_of_ble_eq_true rfl)⟩) hS (fun q _ h => hFc q h) hFc (fun q _ h => hFc q h) (fun E9 ce q9 u t H1 locs ht hvm hpx hBX hz1 hk1 hS hce hcv hcl => ?_) (fun r1 u2 t H1 locs ht hvm hw hB hz1 hk1 hS => ?_)
  · skip
    rcases hBX with rfl
    obtain ⟨hP, hD⟩ := va_join (wr := [(ou, .inl (cy 2, 1, .inr (.inl (fun _ => 0))))]) (w1 := []) hP hD [0, 1] [2] rfl rfl (by decide) (by decide) hk1 hFc va_P0 va_D0
    generalize H1 = H at hP hS hce ⊢
    have hP : va_P D vwCl [(ou, .inl (cy 2, 1, .inr (.inl (fun _ => 0))))] H := hP
    have hD : va_D A [(ou, .inl (cy 2, 1, .inr (.inl (fun _ => 0))))] := hD
    refine vx_catch (own := RL) (name := "java/lang/IllegalStateException") hown [] ⟨0, 19, 22, 30⟩ [⟨0, 19, 26, 25⟩] htab (fun z hz => by cases hz) (by decide) (by decide) (hts (.classLink RL 30 "java/lang/IllegalStateException") (List.mem_of_getElem? (i := 1) rfl)) (va_Nw.use rfl (hTK.2.2.1 "java/lang/IllegalStateException" (by decide))) hce hcv hcl ?_
    refine W.widen (k := 1) (n := 6) (Nat.le_of_ble_eq_true rfl) (Nat.le_of_ble_eq_true rfl) ?_
    refine lv_astore (lv' := [(5, .ref q9), (0, .ref h0), (1, .int p1), (2, .int p2), (3, .int p3), (4, .ref ou)]) hx hb dL_given_22 hl (by decide) rfl (fun ls hl => ?_)
    refine lv_iconst (v := 1) hx hb dL_given_24 (by decide) ?_
    refine W.widen (k := 1) (n := 6) (Nat.le_of_ble_eq_true rfl) (Nat.le_of_ble_eq_true rfl) ?_
    exact W.iret (v := 1) hx hb hr (fun t ht hW => ⟨⟨1, 0, rfl, ⟨rfl, rfl⟩, (fun _ => 0), by rw [ht]; exact hP.sub [0] rfl, hD.sub [0] (by decide) rfl, rfl⟩, hS.F ht⟩) hS.2.2 dL_given_25
  · skip
    exact hw.elim
