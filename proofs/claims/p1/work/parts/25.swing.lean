def wq_c_X13_swing : List Cond := .code yX13_swing cX13_swing 5 none :: ([.fieldLink RX13 116 "ChanceWorksModel" "kept" "[I", .fieldLink RX13 484 "ChanceWorksModel" "cursor" "I"] ++ (u_ws RX13 TX13 126))
theorem iX13_swing_X13 : ∀ w ∈ u_ws RX13 TX13 126, w ∈ wq_c_X13_swing := fun w h => List.mem_cons_of_mem _ (List.mem_append_right _ h)
set_option maxHeartbeats 4000000 in
set_option maxRecDepth 100000 in
theorem sw_loop0 {p : Program} {l : Launch} {e : Env} {R : Room} {s : State} {m : MethodId} {args : Array Value} {below : List Frame} {meth : Method} {c : Code} {Q : State → Prop} {A : Nat → Prop} {D : va_G} {cy : Nat → ClassId} (hx : p.tables.exec = Jvm.exec) (hb : c.code = cX13_swing) (hts : ∀ w ∈ wq_c_X13_swing, w.before args s = true) (hown : s.vm.findClass RX13 = some m.cls) (hK : va_K D vwCl (tyK cy) s) {h0 qk qr nr n c0 : Nat} {fs : List Value} (hlen : fs.length = 126) (hkf : fs[54]? = some (.ref qk)) (hn : n ≤ nr) (hnr : nr ≤ 2048) (hc : c0 + n ≤ 2048)
    (kx : ∀ (g f : Nat → Int32) (H : Heap) (locs : List Loc) (ls : Array Slot), va_P D vwCl [(h0, .inr (16, fs.set 55 (.int (nI (c0 + n))))), (qk, .inl (cy 0, 2048, .inl g)), (qr, .inl (cy 0, nr, .inl f))] H → va_D A [(h0, .inr (16, fs.set 55 (.int (nI (c0 + n))))), (qk, .inl (cy 0, 2048, .inl g)), (qr, .inl (cy 0, nr, .inl f))] → va_S A s.heap H locs → W p l e R s m args below meth c H locs 0 0 Q (F0 m 58 ls [])) :
    ∀ (j i : Nat) (g f : Nat → Int32) (H : Heap) (locs : List Loc) (ls : Array Slot), i + j = n → va_P D vwCl [(h0, .inr (16, fs.set 55 (.int (nI (c0 + i))))), (qk, .inl (cy 0, 2048, .inl g)), (qr, .inl (cy 0, nr, .inl f))] H → va_D A [(h0, .inr (16, fs.set 55 (.int (nI (c0 + i))))), (qk, .inl (cy 0, 2048, .inl g)), (qr, .inl (cy 0, nr, .inl f))] → va_S A s.heap H locs → lv_has ls 5 [(4, .int (nI i)), (0, .ref h0), (1, .ref qr), (2, .int (nI n)), (3, .int 0)] → W p l e R s m args below meth c H locs 0 0 Q (F0 m 3 ls []) := by
  intro j
  induction j with
  | zero =>
    intro i g f H locs ls hi hP hD hS hl
    have hin : i = n := by omega
    subst hin
    refine lv_iload hx hb dX13_swing_3 (lv_at hl 0 rfl) ?_
    refine lv_iload_n hx hb dX13_swing_5 rfl (lv_at hl 3 rfl) ?_
    refine lv_icmp_ge (tgt := 58) hx hb dX13_swing_6 (by decide) (fun _ => ?_) (fun c9 => absurd (nI_le (Nat.le_refl i) (by omega)) c9)
    exact kx g f H locs ls hP hD hS
  | succ j ih =>
    intro i g f H locs ls hi hP hD hS hl
    have hlt : i < n := by omega
    have hk1 : (fs.set 55 (.int (nI (c0 + i))))[54]? = some (.ref qk) := by rw [List.getElem?_set_ne (by decide)]; exact hkf
    have hc1 : (fs.set 55 (.int (nI (c0 + i))))[55]? = some (.int (nI (c0 + i))) := by rw [List.getElem?_set_self (by omega)]
    have ir : vp_in (nI i) nr := vp_in_nI (by omega) (by omega)
    have ik : vp_in (nI (c0 + i)) 2048 := vp_in_nI (by omega) (by decide)
    refine lv_iload hx hb dX13_swing_3 (lv_at hl 0 rfl) ?_
    refine lv_iload_n hx hb dX13_swing_5 rfl (lv_at hl 3 rfl) ?_
    refine lv_icmp_ge (tgt := 58) hx hb dX13_swing_6 (by decide) (fun c9 => absurd c9 (nI_ge hlt (by omega))) (fun _ => ?_)
    refine lv_iload_n hx hb dX13_swing_9 rfl (lv_at hl 4 rfl) ?_
    refine lv_if_eq (tgt := 29) hx hb dX13_swing_10 (by decide) (fun _ => ?_) (fun c9 => absurd (by decide) c9)
    refine lv_aload_n hx hb dX13_swing_29 rfl (lv_at hl 1 rfl) ?_
    refine va_get (D := D) (ci := 16) (v := .ref qk) (C := RX13) (T := TX13) (N := 126) hx hb hts iX13_swing_X13 hown hK hP 0 rfl rfl 54 (by decide) (hts (.fieldLink RX13 116 "ChanceWorksModel" "kept" "[I") (List.mem_of_getElem? (i := 1) rfl)) (fun _ h9 => h9) hk1 dX13_swing_30 ?_
    refine lv_aload_n hx hb dX13_swing_33 rfl (lv_at hl 1 rfl) ?_
    refine va_get (D := D) (ci := 16) (v := .int (nI (c0 + i))) (C := RX13) (T := TX13) (N := 126) hx hb hts iX13_swing_X13 hown hK hP 0 rfl rfl 55 (by decide) (hts (.fieldLink RX13 484 "ChanceWorksModel" "cursor" "I") (List.mem_of_getElem? (i := 2) rfl)) (fun _ h9 => h9) hc1 dX13_swing_34 ?_
    refine lv_aload_n hx hb dX13_swing_37 rfl (lv_at hl 2 rfl) ?_
    refine lv_iload hx hb dX13_swing_38 (lv_at hl 0 rfl) ?_
    refine va_iald hx hb hK hP 2 0 rfl rfl ir dX13_swing_40 ?_
    refine lv_topi (fun v9 _ => ?_)
    refine va_iast hx hb hK hP hD hS 1 0 rfl rfl ik dX13_swing_41 (fun H locs hP hD hS => ?_)
    generalize upd g (nI (c0 + i)).toNatClampNeg v9 = g at hP hD
    have hP : va_P D vwCl [(h0, .inr (16, fs.set 55 (.int (nI (c0 + i))))), (qk, .inl (cy 0, 2048, .inl g)), (qr, .inl (cy 0, nr, .inl f))] H := hP
    have hD : va_D A [(h0, .inr (16, fs.set 55 (.int (nI (c0 + i))))), (qk, .inl (cy 0, 2048, .inl g)), (qr, .inl (cy 0, nr, .inl f))] := hD
    refine lv_aload_n hx hb dX13_swing_42 rfl (lv_at hl 1 rfl) ?_
    refine lv_dup hx hb dX13_swing_43 rfl ?_
    refine va_get (D := D) (ci := 16) (v := .int (nI (c0 + i))) (C := RX13) (T := TX13) (N := 126) hx hb hts iX13_swing_X13 hown hK hP 0 rfl rfl 55 (by decide) (hts (.fieldLink RX13 484 "ChanceWorksModel" "cursor" "I") (List.mem_of_getElem? (i := 2) rfl)) (fun _ h9 => h9) hc1 dX13_swing_44 ?_
    refine lv_iconst (v := 1) hx hb dX13_swing_47 (by decide) ?_
    refine lv_iadd hx hb dX13_swing_48 ?_
    rw [nI_1]
    refine va_put (D := D) (ci := 16) (v := .int (nI (c0 + i + 1))) (ty := .int) (C := RX13) (T := TX13) (N := 126) hx hb hts iX13_swing_X13 tyX13 tyX13_ok nmX13 hown hK hP hD hS 0 rfl rfl 55 (by decide) (hts (.fieldLink RX13 484 "ChanceWorksModel" "cursor" "I") (List.mem_of_getElem? (i := 2) rfl)) (fun _ h9 => h9) rfl (by decide +kernel) rfl rfl (by rw [List.length_set, hlen]; decide) dX13_swing_49 (fun H locs hP hD hS => ?_)
    have hP : va_P D vwCl [(h0, .inr (16, (fs.set 55 (.int (nI (c0 + i)))).set 55 (.int (nI (c0 + i + 1))))), (qk, .inl (cy 0, 2048, .inl g)), (qr, .inl (cy 0, nr, .inl f))] H := hP
    have hD : va_D A [(h0, .inr (16, (fs.set 55 (.int (nI (c0 + i)))).set 55 (.int (nI (c0 + i + 1))))), (qk, .inl (cy 0, 2048, .inl g)), (qr, .inl (cy 0, nr, .inl f))] := hD
    rw [List.set_set] at hP hD
    refine lv_iinc (v := nI (i + 1)) (lv' := [(4, .int (nI (i + 1))), (0, .ref h0), (1, .ref qr), (2, .int (nI n)), (3, .int 0)]) hx hb dX13_swing_52 hl (k := 0) rfl (nI_1 i) (by decide) rfl (fun ls hl => ?_)
    refine lv_goto (tgt := 3) hx hb dX13_swing_55 (by decide) ?_
    exact ih (i + 1) g f H locs ls (by omega) hP hD hS hl
set_option maxHeartbeats 4000000 in
set_option maxRecDepth 100000 in
theorem c_X13_swing0 (l : Launch) (D : va_G) (cy : Nat → ClassId) (h0 qk qr : Nat) (sz : Nat) (fs : List Value) (nr n c0 : Nat) (g f : Nat → Int32) (hlen : fs.length = 126) (hkf : fs[54]? = some (.ref qk)) (hn : n ≤ nr) (hnr : nr ≤ 2048) (hc : c0 + n ≤ 2048) : Met l yX13_swing wq_c_X13_swing ({ frames := 0, cells := 0, slots := 0, locals := 0 }) (va_Pc [.ref h0, .ref qr, .int (nI n), .int 0] (fun U => U.heap.size = sz ∧ va_P D vwCl [(h0, .inr (16, fs.set 55 (.int (nI (c0))))), (qk, .inl (cy 0, 2048, .inl g)), (qr, .inl (cy 0, nr, .inl f))] U.heap ∧ kK D cy U ∧ va_D (fun _ => True) [(h0, .inr (16, fs.set 55 (.int (nI (c0))))), (qk, .inl (cy 0, 2048, .inl g)), (qr, .inl (cy 0, nr, .inl f))])) (va_Qv (fun _ : Unit => True) (fun _ t => ∃ (g1 f1 : Nat → Int32), va_P D vwCl [(h0, .inr (16, fs.set 55 (.int (nI (c0 + n))))), (qk, .inl (cy 0, 2048, .inl g1)), (qr, .inl (cy 0, nr, .inl f1))] t.heap ∧ va_D (va_A [(h0, .inr (16, fs.set 55 (.int (nI (c0))))), (qk, .inl (cy 0, 2048, .inl g)), (qr, .inl (cy 0, nr, .inl f))] sz) [(h0, .inr (16, fs.set 55 (.int (nI (c0 + n))))), (qk, .inl (cy 0, 2048, .inl g1)), (qr, .inl (cy 0, nr, .inl f1))]) (va_A [(h0, .inr (16, fs.set 55 (.int (nI (c0))))), (qk, .inl (cy 0, 2048, .inl g)), (qr, .inl (cy 0, nr, .inl f))] sz)) 0 0 (va_A [(h0, .inr (16, fs.set 55 (.int (nI (c0))))), (qk, .inl (cy 0, 2048, .inl g)), (qr, .inl (cy 0, nr, .inl f))] sz) := by
  refine Met.ofW (cc := cX13_swing) (maxL := 5) (ret := none) (by decide) rfl ?_
  intro p e s m args below meth c s₁ B hml hv
  obtain ⟨rfl, hsz, hP, hKK, hD0⟩ := hv
  have hK := hKK.1
  have hx := B.exec
  have hb := B.bytes
  have hr := B.returns
  have hts := atoms_spec (ws := wq_c_X13_swing) B.pre
  have hown : s.vm.findClass RX13 = some m.cls := findClass_of_methodNamed B.named
  have hlocks := B.notSynchronized
  subst hsz
  have hD := hD0.self (sz := s.heap.size)
  generalize hAe : va_A [(h0, .inr (16, fs.set 55 (.int (nI (c0))))), (qk, .inl (cy 0, 2048, .inl g)), (qr, .inl (cy 0, nr, .inl f))] s.heap.size = A at hD ⊢
  have hS : va_S A s.heap s.heap [] := va_S.rf
  have hl := lv_entry ([.ref h0, .ref qr, .int (nI n), .int 0]) (n := 5) (Nat.le_of_ble_eq_true rfl)
  rw [lg_entry_eq]
  generalize (lg_sl ([.ref h0, .ref qr, .int (nI n), .int 0]) ++ List.replicate (5 - (lg_sl ([.ref h0, .ref qr, .int (nI n), .int 0])).length) Slot.unset).toArray = ls at hl ⊢
  have hl : lv_has ls 5 [(0, .ref h0), (1, .ref qr), (2, .int (nI n)), (3, .int 0)] := hl
  refine lv_iconst (v := 0) hx hb dX13_swing_0 (by decide) ?_
  refine lv_istore (lv' := [(4, .int 0), (0, .ref h0), (1, .ref qr), (2, .int (nI n)), (3, .int 0)]) hx hb dX13_swing_1 hl (by decide) rfl (fun ls hl => ?_)
  exact sw_loop0 hx hb hts hown hK hlen hkf hn hnr hc (fun g f H locs ls hP hD hS => W.vret hx hb hr (fun t ht hW => ⟨⟨(), rfl, trivial, g, f, by rw [ht]; exact hP, hD⟩, hS.F ht⟩) hS.2.2 dX13_swing_58) n 0 g f s.heap [] ls (by omega) hP hD hS hl
set_option maxHeartbeats 4000000 in
set_option maxRecDepth 100000 in
theorem sw_loop1 {p : Program} {l : Launch} {e : Env} {R : Room} {s : State} {m : MethodId} {args : Array Value} {below : List Frame} {meth : Method} {c : Code} {Q : State → Prop} {A : Nat → Prop} {D : va_G} {cy : Nat → ClassId} (hx : p.tables.exec = Jvm.exec) (hb : c.code = cX13_swing) (hts : ∀ w ∈ wq_c_X13_swing, w.before args s = true) (hown : s.vm.findClass RX13 = some m.cls) (hK : va_K D vwCl (tyK cy) s) {h0 qk qr nr n c0 : Nat} {fs : List Value} (hlen : fs.length = 126) (hkf : fs[54]? = some (.ref qk)) (hn : n ≤ nr) (hnr : nr ≤ 2048) (hc : c0 + n ≤ 2048)
    (kx : ∀ (g f : Nat → Int32) (H : Heap) (locs : List Loc) (ls : Array Slot), va_P D vwCl [(h0, .inr (16, fs.set 55 (.int (nI (c0 + n))))), (qk, .inl (cy 0, 2048, .inl g)), (qr, .inl (cy 0, nr, .inl f))] H → va_D A [(h0, .inr (16, fs.set 55 (.int (nI (c0 + n))))), (qk, .inl (cy 0, 2048, .inl g)), (qr, .inl (cy 0, nr, .inl f))] → va_S A s.heap H locs → W p l e R s m args below meth c H locs 0 0 Q (F0 m 58 ls [])) :
    ∀ (j i : Nat) (g f : Nat → Int32) (H : Heap) (locs : List Loc) (ls : Array Slot), i + j = n → va_P D vwCl [(h0, .inr (16, fs.set 55 (.int (nI (c0 + i))))), (qk, .inl (cy 0, 2048, .inl g)), (qr, .inl (cy 0, nr, .inl f))] H → va_D A [(h0, .inr (16, fs.set 55 (.int (nI (c0 + i))))), (qk, .inl (cy 0, 2048, .inl g)), (qr, .inl (cy 0, nr, .inl f))] → va_S A s.heap H locs → lv_has ls 5 [(4, .int (nI i)), (0, .ref h0), (1, .ref qr), (2, .int (nI n)), (3, .int 1)] → W p l e R s m args below meth c H locs 0 0 Q (F0 m 3 ls []) := by
  intro j
  induction j with
  | zero =>
    intro i g f H locs ls hi hP hD hS hl
    have hin : i = n := by omega
    subst hin
    refine lv_iload hx hb dX13_swing_3 (lv_at hl 0 rfl) ?_
    refine lv_iload_n hx hb dX13_swing_5 rfl (lv_at hl 3 rfl) ?_
    refine lv_icmp_ge (tgt := 58) hx hb dX13_swing_6 (by decide) (fun _ => ?_) (fun c9 => absurd (nI_le (Nat.le_refl i) (by omega)) c9)
    exact kx g f H locs ls hP hD hS
  | succ j ih =>
    intro i g f H locs ls hi hP hD hS hl
    have hlt : i < n := by omega
    have hk1 : (fs.set 55 (.int (nI (c0 + i))))[54]? = some (.ref qk) := by rw [List.getElem?_set_ne (by decide)]; exact hkf
    have hc1 : (fs.set 55 (.int (nI (c0 + i))))[55]? = some (.int (nI (c0 + i))) := by rw [List.getElem?_set_self (by omega)]
    have ir : vp_in (nI i) nr := vp_in_nI (by omega) (by omega)
    have ik : vp_in (nI (c0 + i)) 2048 := vp_in_nI (by omega) (by decide)
    refine lv_iload hx hb dX13_swing_3 (lv_at hl 0 rfl) ?_
    refine lv_iload_n hx hb dX13_swing_5 rfl (lv_at hl 3 rfl) ?_
    refine lv_icmp_ge (tgt := 58) hx hb dX13_swing_6 (by decide) (fun c9 => absurd c9 (nI_ge hlt (by omega))) (fun _ => ?_)
    refine lv_iload_n hx hb dX13_swing_9 rfl (lv_at hl 4 rfl) ?_
    refine lv_if_eq (tgt := 29) hx hb dX13_swing_10 (by decide) (fun c9 => absurd c9 (by decide)) (fun _ => ?_)
    refine lv_aload_n hx hb dX13_swing_13 rfl (lv_at hl 2 rfl) ?_
    refine lv_iload hx hb dX13_swing_14 (lv_at hl 0 rfl) ?_
    refine lv_aload_n hx hb dX13_swing_16 rfl (lv_at hl 1 rfl) ?_
    refine va_get (D := D) (ci := 16) (v := .ref qk) (C := RX13) (T := TX13) (N := 126) hx hb hts iX13_swing_X13 hown hK hP 0 rfl rfl 54 (by decide) (hts (.fieldLink RX13 116 "ChanceWorksModel" "kept" "[I") (List.mem_of_getElem? (i := 1) rfl)) (fun _ h9 => h9) hk1 dX13_swing_17 ?_
    refine lv_aload_n hx hb dX13_swing_20 rfl (lv_at hl 1 rfl) ?_
    refine va_get (D := D) (ci := 16) (v := .int (nI (c0 + i))) (C := RX13) (T := TX13) (N := 126) hx hb hts iX13_swing_X13 hown hK hP 0 rfl rfl 55 (by decide) (hts (.fieldLink RX13 484 "ChanceWorksModel" "cursor" "I") (List.mem_of_getElem? (i := 2) rfl)) (fun _ h9 => h9) hc1 dX13_swing_21 ?_
    refine va_iald hx hb hK hP 1 0 rfl rfl ik dX13_swing_24 ?_
    refine lv_topi (fun v9 _ => ?_)
    refine va_iast hx hb hK hP hD hS 2 0 rfl rfl ir dX13_swing_25 (fun H locs hP hD hS => ?_)
    generalize upd f (nI i).toNatClampNeg v9 = f at hP hD
    refine lv_goto (tgt := 42) hx hb dX13_swing_26 (by decide) ?_
    have hP : va_P D vwCl [(h0, .inr (16, fs.set 55 (.int (nI (c0 + i))))), (qk, .inl (cy 0, 2048, .inl g)), (qr, .inl (cy 0, nr, .inl f))] H := hP
    have hD : va_D A [(h0, .inr (16, fs.set 55 (.int (nI (c0 + i))))), (qk, .inl (cy 0, 2048, .inl g)), (qr, .inl (cy 0, nr, .inl f))] := hD
    refine lv_aload_n hx hb dX13_swing_42 rfl (lv_at hl 1 rfl) ?_
    refine lv_dup hx hb dX13_swing_43 rfl ?_
    refine va_get (D := D) (ci := 16) (v := .int (nI (c0 + i))) (C := RX13) (T := TX13) (N := 126) hx hb hts iX13_swing_X13 hown hK hP 0 rfl rfl 55 (by decide) (hts (.fieldLink RX13 484 "ChanceWorksModel" "cursor" "I") (List.mem_of_getElem? (i := 2) rfl)) (fun _ h9 => h9) hc1 dX13_swing_44 ?_
    refine lv_iconst (v := 1) hx hb dX13_swing_47 (by decide) ?_
    refine lv_iadd hx hb dX13_swing_48 ?_
    rw [nI_1]
    refine va_put (D := D) (ci := 16) (v := .int (nI (c0 + i + 1))) (ty := .int) (C := RX13) (T := TX13) (N := 126) hx hb hts iX13_swing_X13 tyX13 tyX13_ok nmX13 hown hK hP hD hS 0 rfl rfl 55 (by decide) (hts (.fieldLink RX13 484 "ChanceWorksModel" "cursor" "I") (List.mem_of_getElem? (i := 2) rfl)) (fun _ h9 => h9) rfl (by decide +kernel) rfl rfl (by rw [List.length_set, hlen]; decide) dX13_swing_49 (fun H locs hP hD hS => ?_)
    have hP : va_P D vwCl [(h0, .inr (16, (fs.set 55 (.int (nI (c0 + i)))).set 55 (.int (nI (c0 + i + 1))))), (qk, .inl (cy 0, 2048, .inl g)), (qr, .inl (cy 0, nr, .inl f))] H := hP
    have hD : va_D A [(h0, .inr (16, (fs.set 55 (.int (nI (c0 + i)))).set 55 (.int (nI (c0 + i + 1))))), (qk, .inl (cy 0, 2048, .inl g)), (qr, .inl (cy 0, nr, .inl f))] := hD
    rw [List.set_set] at hP hD
    refine lv_iinc (v := nI (i + 1)) (lv' := [(4, .int (nI (i + 1))), (0, .ref h0), (1, .ref qr), (2, .int (nI n)), (3, .int 1)]) hx hb dX13_swing_52 hl (k := 0) rfl (nI_1 i) (by decide) rfl (fun ls hl => ?_)
    refine lv_goto (tgt := 3) hx hb dX13_swing_55 (by decide) ?_
    exact ih (i + 1) g f H locs ls (by omega) hP hD hS hl
set_option maxHeartbeats 4000000 in
set_option maxRecDepth 100000 in
theorem c_X13_swing1 (l : Launch) (D : va_G) (cy : Nat → ClassId) (h0 qk qr : Nat) (sz : Nat) (fs : List Value) (nr n c0 : Nat) (g f : Nat → Int32) (hlen : fs.length = 126) (hkf : fs[54]? = some (.ref qk)) (hn : n ≤ nr) (hnr : nr ≤ 2048) (hc : c0 + n ≤ 2048) : Met l yX13_swing wq_c_X13_swing ({ frames := 0, cells := 0, slots := 0, locals := 0 }) (va_Pc [.ref h0, .ref qr, .int (nI n), .int 1] (fun U => U.heap.size = sz ∧ va_P D vwCl [(h0, .inr (16, fs.set 55 (.int (nI (c0))))), (qk, .inl (cy 0, 2048, .inl g)), (qr, .inl (cy 0, nr, .inl f))] U.heap ∧ kK D cy U ∧ va_D (fun _ => True) [(h0, .inr (16, fs.set 55 (.int (nI (c0))))), (qk, .inl (cy 0, 2048, .inl g)), (qr, .inl (cy 0, nr, .inl f))])) (va_Qv (fun _ : Unit => True) (fun _ t => ∃ (g1 f1 : Nat → Int32), va_P D vwCl [(h0, .inr (16, fs.set 55 (.int (nI (c0 + n))))), (qk, .inl (cy 0, 2048, .inl g1)), (qr, .inl (cy 0, nr, .inl f1))] t.heap ∧ va_D (va_A [(h0, .inr (16, fs.set 55 (.int (nI (c0))))), (qk, .inl (cy 0, 2048, .inl g)), (qr, .inl (cy 0, nr, .inl f))] sz) [(h0, .inr (16, fs.set 55 (.int (nI (c0 + n))))), (qk, .inl (cy 0, 2048, .inl g1)), (qr, .inl (cy 0, nr, .inl f1))]) (va_A [(h0, .inr (16, fs.set 55 (.int (nI (c0))))), (qk, .inl (cy 0, 2048, .inl g)), (qr, .inl (cy 0, nr, .inl f))] sz)) 0 0 (va_A [(h0, .inr (16, fs.set 55 (.int (nI (c0))))), (qk, .inl (cy 0, 2048, .inl g)), (qr, .inl (cy 0, nr, .inl f))] sz) := by
  refine Met.ofW (cc := cX13_swing) (maxL := 5) (ret := none) (by decide) rfl ?_
  intro p e s m args below meth c s₁ B hml hv
  obtain ⟨rfl, hsz, hP, hKK, hD0⟩ := hv
  have hK := hKK.1
  have hx := B.exec
  have hb := B.bytes
  have hr := B.returns
  have hts := atoms_spec (ws := wq_c_X13_swing) B.pre
  have hown : s.vm.findClass RX13 = some m.cls := findClass_of_methodNamed B.named
  have hlocks := B.notSynchronized
  subst hsz
  have hD := hD0.self (sz := s.heap.size)
  generalize hAe : va_A [(h0, .inr (16, fs.set 55 (.int (nI (c0))))), (qk, .inl (cy 0, 2048, .inl g)), (qr, .inl (cy 0, nr, .inl f))] s.heap.size = A at hD ⊢
  have hS : va_S A s.heap s.heap [] := va_S.rf
  have hl := lv_entry ([.ref h0, .ref qr, .int (nI n), .int 1]) (n := 5) (Nat.le_of_ble_eq_true rfl)
  rw [lg_entry_eq]
  generalize (lg_sl ([.ref h0, .ref qr, .int (nI n), .int 1]) ++ List.replicate (5 - (lg_sl ([.ref h0, .ref qr, .int (nI n), .int 1])).length) Slot.unset).toArray = ls at hl ⊢
  have hl : lv_has ls 5 [(0, .ref h0), (1, .ref qr), (2, .int (nI n)), (3, .int 1)] := hl
  refine lv_iconst (v := 0) hx hb dX13_swing_0 (by decide) ?_
  refine lv_istore (lv' := [(4, .int 0), (0, .ref h0), (1, .ref qr), (2, .int (nI n)), (3, .int 1)]) hx hb dX13_swing_1 hl (by decide) rfl (fun ls hl => ?_)
  exact sw_loop1 hx hb hts hown hK hlen hkf hn hnr hc (fun g f H locs ls hP hD hS => W.vret hx hb hr (fun t ht hW => ⟨⟨(), rfl, trivial, g, f, by rw [ht]; exact hP, hD⟩, hS.F ht⟩) hS.2.2 dX13_swing_58) n 0 g f s.heap [] ls (by omega) hP hD hS hl
