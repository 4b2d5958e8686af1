def wq_c_X5_init2 : List Cond := .code yX5_init cX5_init 2 none :: ([.methodLink RX5 1 objectInit, .instanceMethod objectInit, .code objectInit ⟨#[0xb1]⟩ 1 none, .methodLink RX5 7 Lib.Math.max.name, .static Lib.Math.max.name, .initialized "java/lang/Math", .code Lib.Math.max.name Lib.Math.max.code 2 (some .int), .arrayClass .int, .fieldLink RX5 13 "ChanceWorks$Num" "limbs" "[I"] ++ (u_ws RX5 TX5 2))
theorem i_c_X5_init2_X5 : ∀ w ∈ u_ws RX5 TX5 2, w ∈ wq_c_X5_init2 := fun w h => List.mem_cons_of_mem _ (List.mem_append_right _ (h))
set_option maxHeartbeats 4000000 in
set_option maxRecDepth 100000 in
theorem c_X5_init2 (l : Launch) (D : va_G) (cy : Nat → ClassId) (h0 : Nat) (sz : Nat) : Met l yX5_init wq_c_X5_init2 ({ frames := 1, cells := 1, slots := 2, locals := 14 }) (va_Pc [.ref h0, .int 2] (fun U => U.heap.size = sz ∧ va_P D vwCl [(h0, .inr (8, [.null, .int 0]))] U.heap ∧ kK D cy U ∧ va_D (fun _ => True) [(h0, .inr (8, [.null, .int 0]))])) (va_Qv (fun _ : Unit => True) (fun _ t => ∃ (q1 : Nat), va_P D vwCl [(h0, .inr (8, [.ref q1, .int 0])), (q1, .inl (cy 0, 2, .inl (fun _ => 0)))] t.heap ∧ va_D (va_A [(h0, .inr (8, [.null, .int 0]))] sz) [(h0, .inr (8, [.ref q1, .int 0])), (q1, .inl (cy 0, 2, .inl (fun _ => 0)))]) (va_A [(h0, .inr (8, [.null, .int 0]))] sz)) 1 2 (va_A [(h0, .inr (8, [.null, .int 0]))] sz) := by
  refine Met.ofW (cc := cX5_init) (maxL := 2) (ret := none) (by decide) rfl ?_
  intro p e s m args below meth c s₁ B hml hv
  obtain ⟨rfl, hsz, hP, hKK, hD0⟩ := hv
  have hK := hKK.1
  have hx := B.exec
  have hb := B.bytes
  have hr := B.returns
  have hts := atoms_spec (ws := wq_c_X5_init2) B.pre
  have hown : s.vm.findClass RX5 = some m.cls := findClass_of_methodNamed B.named
  have hlocks := B.notSynchronized
  have hin : meth.name = "<init>" := (name_of_methodNamed B.named B.method).1
  subst hsz
  have hD := hD0.self (sz := s.heap.size)
  generalize hAe : va_A [(h0, .inr (8, [.null, .int 0]))] s.heap.size = A at hD ⊢
  have hA : ∀ q : Nat, s.heap.size ≤ q → A q := fun q h => by rw [← hAe]; exact Or.inr h
  have hS : va_S A s.heap s.heap [] := va_S.rf
  have hP : va_P D vwCl [(h0, .inr (8, [.null, .int 0]))] s.heap := hP
  have hl := lv_entry ([.ref h0, .int 2]) (n := 2) (Nat.le_of_ble_eq_true rfl)
  rw [lg_entry_eq]
  generalize (lg_sl ([.ref h0, .int 2]) ++ List.replicate (2 - (lg_sl ([.ref h0, .int 2])).length) Slot.unset).toArray = ls at hl ⊢
  have hl : lv_has ls 2 [(0, .ref h0), (1, .int 2)] := hl
  refine lv_aload_n hx hb dX5_init_0 rfl (lv_at hl 0 rfl) ?_
  refine W.objInit hx hb hown (hts (.methodLink RX5 1 objectInit) (List.mem_of_getElem? (i := 1) rfl)) (hts (.instanceMethod objectInit) (List.mem_of_getElem? (i := 2) rfl)) (hts (.code objectInit ⟨#[0xb1]⟩ 1 none) (List.mem_of_getElem? (i := 3) rfl)) rfl (by rw [hml]; exact hl.1) rfl dX5_init_1 (Nat.le_of_ble_eq_true rfl) (Nat.le_of_ble_eq_true rfl) ?_
  refine W.eq (g2 := F0 m 4 ls []) rfl ?_
  refine lv_aload_n hx hb dX5_init_4 rfl (lv_at hl 0 rfl) ?_
  refine lv_iload_n hx hb dX5_init_5 rfl (lv_at hl 1 rfl) ?_
  refine lv_iconst (v := 2) hx hb dX5_init_6 (by decide) ?_
  refine va_mmax hx hb (hml.trans hl.1.symm) hown (hts (.methodLink RX5 7 Lib.Math.max.name) (List.mem_of_getElem? (i := 4) rfl)) (hts (.static Lib.Math.max.name) (List.mem_of_getElem? (i := 5) rfl)) (hts (.initialized "java/lang/Math") (List.mem_of_getElem? (i := 6) rfl)) (hts (.code Lib.Math.max.name Lib.Math.max.code 2 (some .int)) (List.mem_of_getElem? (i := 7) rfl)) (Nat.le_of_ble_eq_true rfl) (Nat.le_of_ble_eq_true rfl) (Nat.le_of_ble_eq_true rfl) (Nat.le_of_ble_eq_true rfl) dX5_init_7 ?_
  rw [show (if (2 : Int32) < 2 then (2 : Int32) else 2) = 2 by decide]
  refine va_newa (atype := .int) (ty := .int) hx hb (hts (.arrayClass .int) (List.mem_of_getElem? (i := 8) rfl)) rfl hK hP hD hS hA (a0 := (2, .inl (fun _ => 0))) (N' := 2) (fun _ => rfl) (by decide) (by decide) (Nat.le_of_ble_eq_true rfl) (Nat.le_of_ble_eq_true rfl) (Nat.le_of_ble_eq_true rfl) dX5_init_10 (fun q1 c2 H hK9 hP hD hS => ?_)
  obtain rfl := k_one hK9 0 6 (ty := .int) rfl rfl
  have hP : va_P D vwCl [(h0, .inr (8, [.null, .int 0])), (q1, .inl (cy 0, 2, .inl (fun _ => 0)))] H := hP
  have hD : va_D A [(h0, .inr (8, [.null, .int 0])), (q1, .inl (cy 0, 2, .inl (fun _ => 0)))] := hD
  refine W.widen (k := 1) (n := 2) (Nat.le_of_ble_eq_true rfl) (Nat.le_of_ble_eq_true rfl) ?_
  refine va_put (D := D) (ci := 8) (v := .ref q1) (ty := .array .int) (C := RX5) (T := TX5) (N := 2) hx hb hts i_c_X5_init2_X5 tyX5 tyX5_ok nmX5 hown hK hP hD hS 0 rfl rfl 0 (by decide) (hts (.fieldLink RX5 13 "ChanceWorks$Num" "limbs" "[I") (List.mem_of_getElem? (i := 9) rfl)) (fun _ h9 => h9) rfl (by decide +kernel) rfl rfl (Nat.le_of_ble_eq_true rfl) dX5_init_12 (fun H locs hP hD hS => ?_)
  have hP : va_P D vwCl [(h0, .inr (8, [.ref q1, .int 0])), (q1, .inl (cy 0, 2, .inl (fun _ => 0)))] H := hP
  have hD : va_D A [(h0, .inr (8, [.ref q1, .int 0])), (q1, .inl (cy 0, 2, .inl (fun _ => 0)))] := hD
  exact W.vret hx hb hr (fun t ht hW => ⟨⟨(), rfl, trivial, q1, by rw [ht]; exact hP, hD⟩, hS.F ht⟩) hS.2.2 dX5_init_15
def wq_c_X5_init4 : List Cond := .code yX5_init cX5_init 2 none :: ([.methodLink RX5 1 objectInit, .instanceMethod objectInit, .code objectInit ⟨#[0xb1]⟩ 1 none, .methodLink RX5 7 Lib.Math.max.name, .static Lib.Math.max.name, .initialized "java/lang/Math", .code Lib.Math.max.name Lib.Math.max.code 2 (some .int), .arrayClass .int, .fieldLink RX5 13 "ChanceWorks$Num" "limbs" "[I"] ++ (u_ws RX5 TX5 2))
theorem i_c_X5_init4_X5 : ∀ w ∈ u_ws RX5 TX5 2, w ∈ wq_c_X5_init4 := fun w h => List.mem_cons_of_mem _ (List.mem_append_right _ (h))
set_option maxHeartbeats 4000000 in
set_option maxRecDepth 100000 in
theorem c_X5_init4 (l : Launch) (D : va_G) (cy : Nat → ClassId) (h0 : Nat) (sz : Nat) : Met l yX5_init wq_c_X5_init4 ({ frames := 1, cells := 1, slots := 4, locals := 14 }) (va_Pc [.ref h0, .int 4] (fun U => U.heap.size = sz ∧ va_P D vwCl [(h0, .inr (8, [.null, .int 0]))] U.heap ∧ kK D cy U ∧ va_D (fun _ => True) [(h0, .inr (8, [.null, .int 0]))])) (va_Qv (fun _ : Unit => True) (fun _ t => ∃ (q1 : Nat), va_P D vwCl [(h0, .inr (8, [.ref q1, .int 0])), (q1, .inl (cy 0, 4, .inl (fun _ => 0)))] t.heap ∧ va_D (va_A [(h0, .inr (8, [.null, .int 0]))] sz) [(h0, .inr (8, [.ref q1, .int 0])), (q1, .inl (cy 0, 4, .inl (fun _ => 0)))]) (va_A [(h0, .inr (8, [.null, .int 0]))] sz)) 1 4 (va_A [(h0, .inr (8, [.null, .int 0]))] sz) := by
  refine Met.ofW (cc := cX5_init) (maxL := 2) (ret := none) (by decide) rfl ?_
  intro p e s m args below meth c s₁ B hml hv
  obtain ⟨rfl, hsz, hP, hKK, hD0⟩ := hv
  have hK := hKK.1
  have hx := B.exec
  have hb := B.bytes
  have hr := B.returns
  have hts := atoms_spec (ws := wq_c_X5_init4) B.pre
  have hown : s.vm.findClass RX5 = some m.cls := findClass_of_methodNamed B.named
  have hlocks := B.notSynchronized
  have hin : meth.name = "<init>" := (name_of_methodNamed B.named B.method).1
  subst hsz
  have hD := hD0.self (sz := s.heap.size)
  generalize hAe : va_A [(h0, .inr (8, [.null, .int 0]))] s.heap.size = A at hD ⊢
  have hA : ∀ q : Nat, s.heap.size ≤ q → A q := fun q h => by rw [← hAe]; exact Or.inr h
  have hS : va_S A s.heap s.heap [] := va_S.rf
  have hP : va_P D vwCl [(h0, .inr (8, [.null, .int 0]))] s.heap := hP
  have hl := lv_entry ([.ref h0, .int 4]) (n := 2) (Nat.le_of_ble_eq_true rfl)
  rw [lg_entry_eq]
  generalize (lg_sl ([.ref h0, .int 4]) ++ List.replicate (2 - (lg_sl ([.ref h0, .int 4])).length) Slot.unset).toArray = ls at hl ⊢
  have hl : lv_has ls 2 [(0, .ref h0), (1, .int 4)] := hl
  refine lv_aload_n hx hb dX5_init_0 rfl (lv_at hl 0 rfl) ?_
  refine W.objInit hx hb hown (hts (.methodLink RX5 1 objectInit) (List.mem_of_getElem? (i := 1) rfl)) (hts (.instanceMethod objectInit) (List.mem_of_getElem? (i := 2) rfl)) (hts (.code objectInit ⟨#[0xb1]⟩ 1 none) (List.mem_of_getElem? (i := 3) rfl)) rfl (by rw [hml]; exact hl.1) rfl dX5_init_1 (Nat.le_of_ble_eq_true rfl) (Nat.le_of_ble_eq_true rfl) ?_
  refine W.eq (g2 := F0 m 4 ls []) rfl ?_
  refine lv_aload_n hx hb dX5_init_4 rfl (lv_at hl 0 rfl) ?_
  refine lv_iload_n hx hb dX5_init_5 rfl (lv_at hl 1 rfl) ?_
  refine lv_iconst (v := 2) hx hb dX5_init_6 (by decide) ?_
  refine va_mmax hx hb (hml.trans hl.1.symm) hown (hts (.methodLink RX5 7 Lib.Math.max.name) (List.mem_of_getElem? (i := 4) rfl)) (hts (.static Lib.Math.max.name) (List.mem_of_getElem? (i := 5) rfl)) (hts (.initialized "java/lang/Math") (List.mem_of_getElem? (i := 6) rfl)) (hts (.code Lib.Math.max.name Lib.Math.max.code 2 (some .int)) (List.mem_of_getElem? (i := 7) rfl)) (Nat.le_of_ble_eq_true rfl) (Nat.le_of_ble_eq_true rfl) (Nat.le_of_ble_eq_true rfl) (Nat.le_of_ble_eq_true rfl) dX5_init_7 ?_
  rw [show (if (4 : Int32) < 2 then (2 : Int32) else 4) = 4 by decide]
  refine va_newa (atype := .int) (ty := .int) hx hb (hts (.arrayClass .int) (List.mem_of_getElem? (i := 8) rfl)) rfl hK hP hD hS hA (a0 := (4, .inl (fun _ => 0))) (N' := 4) (fun _ => rfl) (by decide) (by decide) (Nat.le_of_ble_eq_true rfl) (Nat.le_of_ble_eq_true rfl) (Nat.le_of_ble_eq_true rfl) dX5_init_10 (fun q1 c2 H hK9 hP hD hS => ?_)
  obtain rfl := k_one hK9 0 6 (ty := .int) rfl rfl
  have hP : va_P D vwCl [(h0, .inr (8, [.null, .int 0])), (q1, .inl (cy 0, 4, .inl (fun _ => 0)))] H := hP
  have hD : va_D A [(h0, .inr (8, [.null, .int 0])), (q1, .inl (cy 0, 4, .inl (fun _ => 0)))] := hD
  refine W.widen (k := 1) (n := 4) (Nat.le_of_ble_eq_true rfl) (Nat.le_of_ble_eq_true rfl) ?_
  refine va_put (D := D) (ci := 8) (v := .ref q1) (ty := .array .int) (C := RX5) (T := TX5) (N := 2) hx hb hts i_c_X5_init4_X5 tyX5 tyX5_ok nmX5 hown hK hP hD hS 0 rfl rfl 0 (by decide) (hts (.fieldLink RX5 13 "ChanceWorks$Num" "limbs" "[I") (List.mem_of_getElem? (i := 9) rfl)) (fun _ h9 => h9) rfl (by decide +kernel) rfl rfl (Nat.le_of_ble_eq_true rfl) dX5_init_12 (fun H locs hP hD hS => ?_)
  have hP : va_P D vwCl [(h0, .inr (8, [.ref q1, .int 0])), (q1, .inl (cy 0, 4, .inl (fun _ => 0)))] H := hP
  have hD : va_D A [(h0, .inr (8, [.ref q1, .int 0])), (q1, .inl (cy 0, 4, .inl (fun _ => 0)))] := hD
  exact W.vret hx hb hr (fun t ht hW => ⟨⟨(), rfl, trivial, q1, by rw [ht]; exact hP, hD⟩, hS.F ht⟩) hS.2.2 dX5_init_15
def wq_c_X5_init8 : List Cond := .code yX5_init cX5_init 2 none :: ([.methodLink RX5 1 objectInit, .instanceMethod objectInit, .code objectInit ⟨#[0xb1]⟩ 1 none, .methodLink RX5 7 Lib.Math.max.name, .static Lib.Math.max.name, .initialized "java/lang/Math", .code Lib.Math.max.name Lib.Math.max.code 2 (some .int), .arrayClass .int, .fieldLink RX5 13 "ChanceWorks$Num" "limbs" "[I"] ++ (u_ws RX5 TX5 2))
theorem i_c_X5_init8_X5 : ∀ w ∈ u_ws RX5 TX5 2, w ∈ wq_c_X5_init8 := fun w h => List.mem_cons_of_mem _ (List.mem_append_right _ (h))
set_option maxHeartbeats 4000000 in
set_option maxRecDepth 100000 in
theorem c_X5_init8 (l : Launch) (D : va_G) (cy : Nat → ClassId) (h0 : Nat) (sz : Nat) : Met l yX5_init wq_c_X5_init8 ({ frames := 1, cells := 1, slots := 8, locals := 14 }) (va_Pc [.ref h0, .int 8] (fun U => U.heap.size = sz ∧ va_P D vwCl [(h0, .inr (8, [.null, .int 0]))] U.heap ∧ kK D cy U ∧ va_D (fun _ => True) [(h0, .inr (8, [.null, .int 0]))])) (va_Qv (fun _ : Unit => True) (fun _ t => ∃ (q1 : Nat), va_P D vwCl [(h0, .inr (8, [.ref q1, .int 0])), (q1, .inl (cy 0, 8, .inl (fun _ => 0)))] t.heap ∧ va_D (va_A [(h0, .inr (8, [.null, .int 0]))] sz) [(h0, .inr (8, [.ref q1, .int 0])), (q1, .inl (cy 0, 8, .inl (fun _ => 0)))]) (va_A [(h0, .inr (8, [.null, .int 0]))] sz)) 1 8 (va_A [(h0, .inr (8, [.null, .int 0]))] sz) := by
  refine Met.ofW (cc := cX5_init) (maxL := 2) (ret := none) (by decide) rfl ?_
  intro p e s m args below meth c s₁ B hml hv
  obtain ⟨rfl, hsz, hP, hKK, hD0⟩ := hv
  have hK := hKK.1
  have hx := B.exec
  have hb := B.bytes
  have hr := B.returns
  have hts := atoms_spec (ws := wq_c_X5_init8) B.pre
  have hown : s.vm.findClass RX5 = some m.cls := findClass_of_methodNamed B.named
  have hlocks := B.notSynchronized
  have hin : meth.name = "<init>" := (name_of_methodNamed B.named B.method).1
  subst hsz
  have hD := hD0.self (sz := s.heap.size)
  generalize hAe : va_A [(h0, .inr (8, [.null, .int 0]))] s.heap.size = A at hD ⊢
  have hA : ∀ q : Nat, s.heap.size ≤ q → A q := fun q h => by rw [← hAe]; exact Or.inr h
  have hS : va_S A s.heap s.heap [] := va_S.rf
  have hP : va_P D vwCl [(h0, .inr (8, [.null, .int 0]))] s.heap := hP
  have hl := lv_entry ([.ref h0, .int 8]) (n := 2) (Nat.le_of_ble_eq_true rfl)
  rw [lg_entry_eq]
  generalize (lg_sl ([.ref h0, .int 8]) ++ List.replicate (2 - (lg_sl ([.ref h0, .int 8])).length) Slot.unset).toArray = ls at hl ⊢
  have hl : lv_has ls 2 [(0, .ref h0), (1, .int 8)] := hl
  refine lv_aload_n hx hb dX5_init_0 rfl (lv_at hl 0 rfl) ?_
  refine W.objInit hx hb hown (hts (.methodLink RX5 1 objectInit) (List.mem_of_getElem? (i := 1) rfl)) (hts (.instanceMethod objectInit) (List.mem_of_getElem? (i := 2) rfl)) (hts (.code objectInit ⟨#[0xb1]⟩ 1 none) (List.mem_of_getElem? (i := 3) rfl)) rfl (by rw [hml]; exact hl.1) rfl dX5_init_1 (Nat.le_of_ble_eq_true rfl) (Nat.le_of_ble_eq_true rfl) ?_
  refine W.eq (g2 := F0 m 4 ls []) rfl ?_
  refine lv_aload_n hx hb dX5_init_4 rfl (lv_at hl 0 rfl) ?_
  refine lv_iload_n hx hb dX5_init_5 rfl (lv_at hl 1 rfl) ?_
  refine lv_iconst (v := 2) hx hb dX5_init_6 (by decide) ?_
  refine va_mmax hx hb (hml.trans hl.1.symm) hown (hts (.methodLink RX5 7 Lib.Math.max.name) (List.mem_of_getElem? (i := 4) rfl)) (hts (.static Lib.Math.max.name) (List.mem_of_getElem? (i := 5) rfl)) (hts (.initialized "java/lang/Math") (List.mem_of_getElem? (i := 6) rfl)) (hts (.code Lib.Math.max.name Lib.Math.max.code 2 (some .int)) (List.mem_of_getElem? (i := 7) rfl)) (Nat.le_of_ble_eq_true rfl) (Nat.le_of_ble_eq_true rfl) (Nat.le_of_ble_eq_true rfl) (Nat.le_of_ble_eq_true rfl) dX5_init_7 ?_
  rw [show (if (8 : Int32) < 2 then (2 : Int32) else 8) = 8 by decide]
  refine va_newa (atype := .int) (ty := .int) hx hb (hts (.arrayClass .int) (List.mem_of_getElem? (i := 8) rfl)) rfl hK hP hD hS hA (a0 := (8, .inl (fun _ => 0))) (N' := 8) (fun _ => rfl) (by decide) (by decide) (Nat.le_of_ble_eq_true rfl) (Nat.le_of_ble_eq_true rfl) (Nat.le_of_ble_eq_true rfl) dX5_init_10 (fun q1 c2 H hK9 hP hD hS => ?_)
  obtain rfl := k_one hK9 0 6 (ty := .int) rfl rfl
  have hP : va_P D vwCl [(h0, .inr (8, [.null, .int 0])), (q1, .inl (cy 0, 8, .inl (fun _ => 0)))] H := hP
  have hD : va_D A [(h0, .inr (8, [.null, .int 0])), (q1, .inl (cy 0, 8, .inl (fun _ => 0)))] := hD
  refine W.widen (k := 1) (n := 8) (Nat.le_of_ble_eq_true rfl) (Nat.le_of_ble_eq_true rfl) ?_
  refine va_put (D := D) (ci := 8) (v := .ref q1) (ty := .array .int) (C := RX5) (T := TX5) (N := 2) hx hb hts i_c_X5_init8_X5 tyX5 tyX5_ok nmX5 hown hK hP hD hS 0 rfl rfl 0 (by decide) (hts (.fieldLink RX5 13 "ChanceWorks$Num" "limbs" "[I") (List.mem_of_getElem? (i := 9) rfl)) (fun _ h9 => h9) rfl (by decide +kernel) rfl rfl (Nat.le_of_ble_eq_true rfl) dX5_init_12 (fun H locs hP hD hS => ?_)
  have hP : va_P D vwCl [(h0, .inr (8, [.ref q1, .int 0])), (q1, .inl (cy 0, 8, .inl (fun _ => 0)))] H := hP
  have hD : va_D A [(h0, .inr (8, [.ref q1, .int 0])), (q1, .inl (cy 0, 8, .inl (fun _ => 0)))] := hD
  exact W.vret hx hb hr (fun t ht hW => ⟨⟨(), rfl, trivial, q1, by rw [ht]; exact hP, hD⟩, hS.F ht⟩) hS.2.2 dX5_init_15
def wq_c_X5_put1_2 : List Cond := .code yX5_put cX5_put 3 none :: ([.fieldLink RX5 13 "ChanceWorks$Num" "limbs" "[I", .constantLong RX5 29 (2147483647), .fieldLink RX5 25 "ChanceWorks$Num" "length" "I"] ++ (u_ws RX5 TX5 2))
theorem i_c_X5_put1_2_X5 : ∀ w ∈ u_ws RX5 TX5 2, w ∈ wq_c_X5_put1_2 := fun w h => List.mem_cons_of_mem _ (List.mem_append_right _ (h))
set_option maxHeartbeats 4000000 in
set_option maxRecDepth 100000 in
theorem c_X5_put1_2 (l : Launch) (D : va_G) (cy : Nat → ClassId) (h0 : Nat) (sz : Nat) (h1 : Nat) : Met l yX5_put wq_c_X5_put1_2 ({ frames := 0, cells := 0, slots := 0, locals := 0 }) (va_Pc [.ref h0, .long 1] (fun U => U.heap.size = sz ∧ va_P D vwCl [(h0, .inr (8, [.ref h1, .int 0])), (h1, .inl (cy 0, 2, .inl (fun _ => 0)))] U.heap ∧ kK D cy U ∧ va_D (fun _ => True) [(h0, .inr (8, [.ref h1, .int 0])), (h1, .inl (cy 0, 2, .inl (fun _ => 0)))])) (va_Qv (fun _ : Unit => True) (fun _ t => va_P D vwCl [(h0, .inr (8, [.ref h1, .int 1])), (h1, .inl (cy 0, 2, .inl (upd (upd (fun _ => 0) 0 1) 1 0)))] t.heap ∧ va_D (va_A [(h0, .inr (8, [.ref h1, .int 0])), (h1, .inl (cy 0, 2, .inl (fun _ => 0)))] sz) [(h0, .inr (8, [.ref h1, .int 1])), (h1, .inl (cy 0, 2, .inl (upd (upd (fun _ => 0) 0 1) 1 0)))]) (va_A [(h0, .inr (8, [.ref h1, .int 0])), (h1, .inl (cy 0, 2, .inl (fun _ => 0)))] sz)) 0 0 (va_A [(h0, .inr (8, [.ref h1, .int 0])), (h1, .inl (cy 0, 2, .inl (fun _ => 0)))] sz) := by
  refine Met.ofW (cc := cX5_put) (maxL := 3) (ret := none) (by decide) rfl ?_
  intro p e s m args below meth c s₁ B hml hv
  obtain ⟨rfl, hsz, hP, hKK, hD0⟩ := hv
  have hK := hKK.1
  have hx := B.exec
  have hb := B.bytes
  have hr := B.returns
  have hts := atoms_spec (ws := wq_c_X5_put1_2) B.pre
  have hown : s.vm.findClass RX5 = some m.cls := findClass_of_methodNamed B.named
  have hlocks := B.notSynchronized
  subst hsz
  have hD := hD0.self (sz := s.heap.size)
  generalize hAe : va_A [(h0, .inr (8, [.ref h1, .int 0])), (h1, .inl (cy 0, 2, .inl (fun _ => 0)))] s.heap.size = A at hD ⊢
  have hA : ∀ q : Nat, s.heap.size ≤ q → A q := fun q h => by rw [← hAe]; exact Or.inr h
  have hS : va_S A s.heap s.heap [] := va_S.rf
  have hP : va_P D vwCl [(h0, .inr (8, [.ref h1, .int 0])), (h1, .inl (cy 0, 2, .inl (fun _ => 0)))] s.heap := hP
  have hl := lv_entry ([.ref h0, .long 1]) (n := 3) (Nat.le_of_ble_eq_true rfl)
  rw [lg_entry_eq]
  generalize (lg_sl ([.ref h0, .long 1]) ++ List.replicate (3 - (lg_sl ([.ref h0, .long 1])).length) Slot.unset).toArray = ls at hl ⊢
  have hl : lv_has ls 3 [(0, .ref h0), (1, .long 1)] := hl
  refine lv_aload_n hx hb dX5_put_0 rfl (lv_at hl 0 rfl) ?_
  refine va_get (D := D) (ci := 8) (v := .ref h1) (C := RX5) (T := TX5) (N := 2) hx hb hts i_c_X5_put1_2_X5 hown hK hP 0 rfl rfl 0 (by decide) (hts (.fieldLink RX5 13 "ChanceWorks$Num" "limbs" "[I") (List.mem_of_getElem? (i := 1) rfl)) (fun _ h9 => h9) rfl dX5_put_1 ?_
  refine lv_iconst (v := 0) hx hb dX5_put_4 (by decide) ?_
  refine lv_lload_n hx hb dX5_put_5 rfl (lv_at hl 1 rfl) ?_
  refine lv_ldc2 (v := 2147483647) hx hb hown (hts (.constantLong RX5 29 (2147483647)) (List.mem_of_getElem? (i := 2) rfl)) dX5_put_6 ?_
  refine lv_land hx hb dX5_put_9 ?_
  rw [show (1 : Int64) &&& 2147483647 = 1 by decide]
  refine lv_l2i (v := 1) hx hb dX5_put_10 (by decide) ?_
  refine va_iast hx hb hK hP hD hS 1 0 rfl rfl (by unfold vp_in; decide) dX5_put_11 (fun H locs hP hD hS => ?_)
  have hP : va_P D vwCl [(h0, .inr (8, [.ref h1, .int 0])), (h1, .inl (cy 0, 2, .inl (upd (fun _ => 0) 0 1)))] H := hP
  have hD : va_D A [(h0, .inr (8, [.ref h1, .int 0])), (h1, .inl (cy 0, 2, .inl (upd (fun _ => 0) 0 1)))] := hD
  refine lv_aload_n hx hb dX5_put_12 rfl (lv_at hl 0 rfl) ?_
  refine va_get (D := D) (ci := 8) (v := .ref h1) (C := RX5) (T := TX5) (N := 2) hx hb hts i_c_X5_put1_2_X5 hown hK hP 0 rfl rfl 0 (by decide) (hts (.fieldLink RX5 13 "ChanceWorks$Num" "limbs" "[I") (List.mem_of_getElem? (i := 1) rfl)) (fun _ h9 => h9) rfl dX5_put_13 ?_
  refine lv_iconst (v := 1) hx hb dX5_put_16 (by decide) ?_
  refine lv_lload_n hx hb dX5_put_17 rfl (lv_at hl 1 rfl) ?_
  refine lv_bipush (v := 31) hx hb dX5_put_18 (by decide) ?_
  refine lv_lushr (v := 0) hx hb dX5_put_20 (by decide) ?_
  refine lv_l2i (v := 0) hx hb dX5_put_21 (by decide) ?_
  refine va_iast hx hb hK hP hD hS 1 0 rfl rfl (by unfold vp_in; decide) dX5_put_22 (fun H locs hP hD hS => ?_)
  have hP : va_P D vwCl [(h0, .inr (8, [.ref h1, .int 0])), (h1, .inl (cy 0, 2, .inl (upd (upd (fun _ => 0) 0 1) 1 0)))] H := hP
  have hD : va_D A [(h0, .inr (8, [.ref h1, .int 0])), (h1, .inl (cy 0, 2, .inl (upd (upd (fun _ => 0) 0 1) 1 0)))] := hD
  refine lv_aload_n hx hb dX5_put_23 rfl (lv_at hl 0 rfl) ?_
  refine lv_aload_n hx hb dX5_put_24 rfl (lv_at hl 0 rfl) ?_
  refine va_get (D := D) (ci := 8) (v := .ref h1) (C := RX5) (T := TX5) (N := 2) hx hb hts i_c_X5_put1_2_X5 hown hK hP 0 rfl rfl 0 (by decide) (hts (.fieldLink RX5 13 "ChanceWorks$Num" "limbs" "[I") (List.mem_of_getElem? (i := 1) rfl)) (fun _ h9 => h9) rfl dX5_put_25 ?_
  refine lv_iconst (v := 1) hx hb dX5_put_28 (by decide) ?_
  refine va_iald hx hb hK hP 1 0 rfl rfl (by unfold vp_in; decide) dX5_put_29 ?_
  rw [show (upd (upd (fun _ => 0) 0 1) 1 0) (1 : Int32).toNatClampNeg = (0 : Int32) from rfl]
  refine lv_if_eq (tgt := 37) hx hb dX5_put_30 (by decide) (fun _ => ?_) (fun c9 => absurd (by decide) c9)
  refine lv_aload_n hx hb dX5_put_37 rfl (lv_at hl 0 rfl) ?_
  refine va_get (D := D) (ci := 8) (v := .ref h1) (C := RX5) (T := TX5) (N := 2) hx hb hts i_c_X5_put1_2_X5 hown hK hP 0 rfl rfl 0 (by decide) (hts (.fieldLink RX5 13 "ChanceWorks$Num" "limbs" "[I") (List.mem_of_getElem? (i := 1) rfl)) (fun _ h9 => h9) rfl dX5_put_38 ?_
  refine lv_iconst (v := 0) hx hb dX5_put_41 (by decide) ?_
  refine va_iald hx hb hK hP 1 0 rfl rfl (by unfold vp_in; decide) dX5_put_42 ?_
  rw [show (upd (upd (fun _ => 0) 0 1) 1 0) (0 : Int32).toNatClampNeg = (1 : Int32) from rfl]
  refine lv_if_eq (tgt := 50) hx hb dX5_put_43 (by decide) (fun c9 => absurd c9 (by decide)) (fun _ => ?_)
  refine lv_iconst (v := 1) hx hb dX5_put_46 (by decide) ?_
  refine lv_goto (tgt := 51) hx hb dX5_put_47 (by decide) ?_
  refine va_put (D := D) (ci := 8) (v := .int 1) (ty := .int) (C := RX5) (T := TX5) (N := 2) hx hb hts i_c_X5_put1_2_X5 tyX5 tyX5_ok nmX5 hown hK hP hD hS 0 rfl rfl 1 (by decide) (hts (.fieldLink RX5 25 "ChanceWorks$Num" "length" "I") (List.mem_of_getElem? (i := 3) rfl)) (fun _ h9 => h9) rfl (by decide +kernel) rfl rfl (Nat.le_of_ble_eq_true rfl) dX5_put_51 (fun H locs hP hD hS => ?_)
  have hP : va_P D vwCl [(h0, .inr (8, [.ref h1, .int 1])), (h1, .inl (cy 0, 2, .inl (upd (upd (fun _ => 0) 0 1) 1 0)))] H := hP
  have hD : va_D A [(h0, .inr (8, [.ref h1, .int 1])), (h1, .inl (cy 0, 2, .inl (upd (upd (fun _ => 0) 0 1) 1 0)))] := hD
  exact W.vret hx hb hr (fun t ht hW => ⟨⟨(), rfl, trivial, by rw [ht]; exact hP, hD⟩, hS.F ht⟩) hS.2.2 dX5_put_54
def wq_c_X5_put1_4 : List Cond := .code yX5_put cX5_put 3 none :: ([.fieldLink RX5 13 "ChanceWorks$Num" "limbs" "[I", .constantLong RX5 29 (2147483647), .fieldLink RX5 25 "ChanceWorks$Num" "length" "I"] ++ (u_ws RX5 TX5 2))
theorem i_c_X5_put1_4_X5 : ∀ w ∈ u_ws RX5 TX5 2, w ∈ wq_c_X5_put1_4 := fun w h => List.mem_cons_of_mem _ (List.mem_append_right _ (h))
set_option maxHeartbeats 4000000 in
set_option maxRecDepth 100000 in
theorem c_X5_put1_4 (l : Launch) (D : va_G) (cy : Nat → ClassId) (h0 : Nat) (sz : Nat) (h1 : Nat) : Met l yX5_put wq_c_X5_put1_4 ({ frames := 0, cells := 0, slots := 0, locals := 0 }) (va_Pc [.ref h0, .long 1] (fun U => U.heap.size = sz ∧ va_P D vwCl [(h0, .inr (8, [.ref h1, .int 0])), (h1, .inl (cy 0, 4, .inl (fun _ => 0)))] U.heap ∧ kK D cy U ∧ va_D (fun _ => True) [(h0, .inr (8, [.ref h1, .int 0])), (h1, .inl (cy 0, 4, .inl (fun _ => 0)))])) (va_Qv (fun _ : Unit => True) (fun _ t => va_P D vwCl [(h0, .inr (8, [.ref h1, .int 1])), (h1, .inl (cy 0, 4, .inl (upd (upd (fun _ => 0) 0 1) 1 0)))] t.heap ∧ va_D (va_A [(h0, .inr (8, [.ref h1, .int 0])), (h1, .inl (cy 0, 4, .inl (fun _ => 0)))] sz) [(h0, .inr (8, [.ref h1, .int 1])), (h1, .inl (cy 0, 4, .inl (upd (upd (fun _ => 0) 0 1) 1 0)))]) (va_A [(h0, .inr (8, [.ref h1, .int 0])), (h1, .inl (cy 0, 4, .inl (fun _ => 0)))] sz)) 0 0 (va_A [(h0, .inr (8, [.ref h1, .int 0])), (h1, .inl (cy 0, 4, .inl (fun _ => 0)))] sz) := by
  refine Met.ofW (cc := cX5_put) (maxL := 3) (ret := none) (by decide) rfl ?_
  intro p e s m args below meth c s₁ B hml hv
  obtain ⟨rfl, hsz, hP, hKK, hD0⟩ := hv
  have hK := hKK.1
  have hx := B.exec
  have hb := B.bytes
  have hr := B.returns
  have hts := atoms_spec (ws := wq_c_X5_put1_4) B.pre
  have hown : s.vm.findClass RX5 = some m.cls := findClass_of_methodNamed B.named
  have hlocks := B.notSynchronized
  subst hsz
  have hD := hD0.self (sz := s.heap.size)
  generalize hAe : va_A [(h0, .inr (8, [.ref h1, .int 0])), (h1, .inl (cy 0, 4, .inl (fun _ => 0)))] s.heap.size = A at hD ⊢
  have hA : ∀ q : Nat, s.heap.size ≤ q → A q := fun q h => by rw [← hAe]; exact Or.inr h
  have hS : va_S A s.heap s.heap [] := va_S.rf
  have hP : va_P D vwCl [(h0, .inr (8, [.ref h1, .int 0])), (h1, .inl (cy 0, 4, .inl (fun _ => 0)))] s.heap := hP
  have hl := lv_entry ([.ref h0, .long 1]) (n := 3) (Nat.le_of_ble_eq_true rfl)
  rw [lg_entry_eq]
  generalize (lg_sl ([.ref h0, .long 1]) ++ List.replicate (3 - (lg_sl ([.ref h0, .long 1])).length) Slot.unset).toArray = ls at hl ⊢
  have hl : lv_has ls 3 [(0, .ref h0), (1, .long 1)] := hl
  refine lv_aload_n hx hb dX5_put_0 rfl (lv_at hl 0 rfl) ?_
  refine va_get (D := D) (ci := 8) (v := .ref h1) (C := RX5) (T := TX5) (N := 2) hx hb hts i_c_X5_put1_4_X5 hown hK hP 0 rfl rfl 0 (by decide) (hts (.fieldLink RX5 13 "ChanceWorks$Num" "limbs" "[I") (List.mem_of_getElem? (i := 1) rfl)) (fun _ h9 => h9) rfl dX5_put_1 ?_
  refine lv_iconst (v := 0) hx hb dX5_put_4 (by decide) ?_
  refine lv_lload_n hx hb dX5_put_5 rfl (lv_at hl 1 rfl) ?_
  refine lv_ldc2 (v := 2147483647) hx hb hown (hts (.constantLong RX5 29 (2147483647)) (List.mem_of_getElem? (i := 2) rfl)) dX5_put_6 ?_
  refine lv_land hx hb dX5_put_9 ?_
  rw [show (1 : Int64) &&& 2147483647 = 1 by decide]
  refine lv_l2i (v := 1) hx hb dX5_put_10 (by decide) ?_
  refine va_iast hx hb hK hP hD hS 1 0 rfl rfl (by unfold vp_in; decide) dX5_put_11 (fun H locs hP hD hS => ?_)
  have hP : va_P D vwCl [(h0, .inr (8, [.ref h1, .int 0])), (h1, .inl (cy 0, 4, .inl (upd (fun _ => 0) 0 1)))] H := hP
  have hD : va_D A [(h0, .inr (8, [.ref h1, .int 0])), (h1, .inl (cy 0, 4, .inl (upd (fun _ => 0) 0 1)))] := hD
  refine lv_aload_n hx hb dX5_put_12 rfl (lv_at hl 0 rfl) ?_
  refine va_get (D := D) (ci := 8) (v := .ref h1) (C := RX5) (T := TX5) (N := 2) hx hb hts i_c_X5_put1_4_X5 hown hK hP 0 rfl rfl 0 (by decide) (hts (.fieldLink RX5 13 "ChanceWorks$Num" "limbs" "[I") (List.mem_of_getElem? (i := 1) rfl)) (fun _ h9 => h9) rfl dX5_put_13 ?_
  refine lv_iconst (v := 1) hx hb dX5_put_16 (by decide) ?_
  refine lv_lload_n hx hb dX5_put_17 rfl (lv_at hl 1 rfl) ?_
  refine lv_bipush (v := 31) hx hb dX5_put_18 (by decide) ?_
  refine lv_lushr (v := 0) hx hb dX5_put_20 (by decide) ?_
  refine lv_l2i (v := 0) hx hb dX5_put_21 (by decide) ?_
  refine va_iast hx hb hK hP hD hS 1 0 rfl rfl (by unfold vp_in; decide) dX5_put_22 (fun H locs hP hD hS => ?_)
  have hP : va_P D vwCl [(h0, .inr (8, [.ref h1, .int 0])), (h1, .inl (cy 0, 4, .inl (upd (upd (fun _ => 0) 0 1) 1 0)))] H := hP
  have hD : va_D A [(h0, .inr (8, [.ref h1, .int 0])), (h1, .inl (cy 0, 4, .inl (upd (upd (fun _ => 0) 0 1) 1 0)))] := hD
  refine lv_aload_n hx hb dX5_put_23 rfl (lv_at hl 0 rfl) ?_
  refine lv_aload_n hx hb dX5_put_24 rfl (lv_at hl 0 rfl) ?_
  refine va_get (D := D) (ci := 8) (v := .ref h1) (C := RX5) (T := TX5) (N := 2) hx hb hts i_c_X5_put1_4_X5 hown hK hP 0 rfl rfl 0 (by decide) (hts (.fieldLink RX5 13 "ChanceWorks$Num" "limbs" "[I") (List.mem_of_getElem? (i := 1) rfl)) (fun _ h9 => h9) rfl dX5_put_25 ?_
  refine lv_iconst (v := 1) hx hb dX5_put_28 (by decide) ?_
  refine va_iald hx hb hK hP 1 0 rfl rfl (by unfold vp_in; decide) dX5_put_29 ?_
  rw [show (upd (upd (fun _ => 0) 0 1) 1 0) (1 : Int32).toNatClampNeg = (0 : Int32) from rfl]
  refine lv_if_eq (tgt := 37) hx hb dX5_put_30 (by decide) (fun _ => ?_) (fun c9 => absurd (by decide) c9)
  refine lv_aload_n hx hb dX5_put_37 rfl (lv_at hl 0 rfl) ?_
  refine va_get (D := D) (ci := 8) (v := .ref h1) (C := RX5) (T := TX5) (N := 2) hx hb hts i_c_X5_put1_4_X5 hown hK hP 0 rfl rfl 0 (by decide) (hts (.fieldLink RX5 13 "ChanceWorks$Num" "limbs" "[I") (List.mem_of_getElem? (i := 1) rfl)) (fun _ h9 => h9) rfl dX5_put_38 ?_
  refine lv_iconst (v := 0) hx hb dX5_put_41 (by decide) ?_
  refine va_iald hx hb hK hP 1 0 rfl rfl (by unfold vp_in; decide) dX5_put_42 ?_
  rw [show (upd (upd (fun _ => 0) 0 1) 1 0) (0 : Int32).toNatClampNeg = (1 : Int32) from rfl]
  refine lv_if_eq (tgt := 50) hx hb dX5_put_43 (by decide) (fun c9 => absurd c9 (by decide)) (fun _ => ?_)
  refine lv_iconst (v := 1) hx hb dX5_put_46 (by decide) ?_
  refine lv_goto (tgt := 51) hx hb dX5_put_47 (by decide) ?_
  refine va_put (D := D) (ci := 8) (v := .int 1) (ty := .int) (C := RX5) (T := TX5) (N := 2) hx hb hts i_c_X5_put1_4_X5 tyX5 tyX5_ok nmX5 hown hK hP hD hS 0 rfl rfl 1 (by decide) (hts (.fieldLink RX5 25 "ChanceWorks$Num" "length" "I") (List.mem_of_getElem? (i := 3) rfl)) (fun _ h9 => h9) rfl (by decide +kernel) rfl rfl (Nat.le_of_ble_eq_true rfl) dX5_put_51 (fun H locs hP hD hS => ?_)
  have hP : va_P D vwCl [(h0, .inr (8, [.ref h1, .int 1])), (h1, .inl (cy 0, 4, .inl (upd (upd (fun _ => 0) 0 1) 1 0)))] H := hP
  have hD : va_D A [(h0, .inr (8, [.ref h1, .int 1])), (h1, .inl (cy 0, 4, .inl (upd (upd (fun _ => 0) 0 1) 1 0)))] := hD
  exact W.vret hx hb hr (fun t ht hW => ⟨⟨(), rfl, trivial, by rw [ht]; exact hP, hD⟩, hS.F ht⟩) hS.2.2 dX5_put_54
