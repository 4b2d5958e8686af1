set_option maxHeartbeats 4000000 in
set_option maxRecDepth 100000 in
theorem law_count {p : Program} {l : Launch} {e : Env} {s : State} {m : MethodId} {below : List Frame} {meth : Method} {c : Code} {b : Nat} {xs : Nat → Int32} {D : va_G} {cy : Nat → ClassId} {A : Nat → Prop} (hst : l.stackTraces = false) (hx : p.tables.exec = Jvm.exec) (hb : c.code = code) (hr : meth.sig.returnType = ret) (hml : c.maxLocals = 8) (hown : s.vm.findClass R_law = some m.cls) (hts : ∀ w ∈ lw_tbl, w.before #[Value.ref b] s = true) (hX : va_X b 6 xs s s.heap) (hbl : b < s.heap.size) (hlocks : meth.locks = false) (hKK : kK D cy s) (hTK : tK A s) (hA : ∀ q, s.heap.size ≤ q → A q) (hbA : ¬ A b) (hAr : ∀ q, A q → s.heap.size ≤ q) {xx q1 q26 q6 q16 q35 q41 q88 q111 q127 q132 q134 q136 q138 q140 q2 q3 q4 q5 q42 q57 q61 q65 q66 q67 q68 q69 q70 q71 q72 q73 mm n1 n3 n5 n7 n9 n11 n13 n15 n17 n19 n21 n23 n25 n27 n29 n31 n33 n35 n37 n39 n41 n43 n45 n47 n49 n51 n53 n55 n57 n59 n61 n63 n65 n67 n69 n71 n73 n75 n77 n79 n81 n83 n85 n87 n89 n91 n93 n95 n97 n99 n101 n103 n105 n107 n109 n111 n113 n115 n117 n119 n121 n123 n125 n127 n129 n131 n133 n135 n137 n139 n141 n143 n145 n147 n149 ou : Nat} {H : Heap} {locs : List Loc} (hP : va_P D vwCl [(xx, .inr (15, [.ref q1, .ref q26, .ref q6, .ref q16, .int 0, .int 0, .ref q35, .ref q41, .ref q88, .ref q111, .ref q127, .ref q132, .int 0, .int 0, .ref q134, .ref q136, .ref q138, .ref q140])), (q1, .inr (13, [.ref q2, .int 0, .ref q3, .ref q4, .ref q5, .int 0])), (q41, .inr (3, [.ref q35, .ref q42, .ref q57, .ref q61, .int 0, .ref q6, .ref q65, .ref q66, .ref q67, .ref q68, .ref q69, .ref q70, .ref q71, .ref q72, .ref q73, .int 0, .int 0, .int 0])), (mm, .inr (16, [.int 0, .ref n1, .int 0, .int 0, .int 0, .ref n3, .ref n5, .ref n7, .ref n9, .ref n11, .int 0, .int 0, .int 0, .int 0, .int 0, .int 0, .int 0, .int 0, .int 0, .int 0, .ref n13, .ref n15, .ref n17, .ref n19, .ref n21, .ref n23, .ref n25, .ref n27, .ref n29, .ref n31, .ref n33, .ref n35, .ref n37, .ref n39, .ref n41, .ref n43, .ref n45, .ref n47, .ref n49, .ref n51, .int 0, .int 0, .int 0, .ref n53, .ref n55, .ref n57, .int 0, .int 0, .int 0, .int 0, .ref n59, .ref n61, .ref n63, .int 0, .ref n65, .int 0, .ref n67, .ref n69, .int 0, .ref n71, .ref n73, .int 0, .int 0, .int 0, .ref n75, .ref n77, .int 0, .int 0, .ref n79, .int 0, .int 0, .int 0, .int 0, .ref n81, .ref n83, .ref n85, .ref n87, .ref n89, .ref n91, .ref n93, .ref n95, .ref n97, .ref n99, .ref n101, .ref n103, .int 0, .ref n105, .ref n107, .int 0, .int 0, .ref n109, .ref n111, .int 0, .ref n113, .int 0, .ref n115, .ref n117, .ref n119, .ref n121, .ref n123, .int 0, .ref n125, .ref n127, .int 0, .int 0, .ref n129, .int (-1), .int 0, .int 0, .int 0, .long 0, .ref n131, .long 0, .int 0, .int 0, .ref n133, .ref n135, .ref n137, .ref n139, .ref n141, .ref n143, .ref n145, .ref n147, .ref n149, .int 0, .int 0])), (ou, .inl (cy 2, 1, .inr (.inl (fun _ => 0))))] H) (hD : va_D A [(xx, .inr (15, [.ref q1, .ref q26, .ref q6, .ref q16, .int 0, .int 0, .ref q35, .ref q41, .ref q88, .ref q111, .ref q127, .ref q132, .int 0, .int 0, .ref q134, .ref q136, .ref q138, .ref q140])), (q1, .inr (13, [.ref q2, .int 0, .ref q3, .ref q4, .ref q5, .int 0])), (q41, .inr (3, [.ref q35, .ref q42, .ref q57, .ref q61, .int 0, .ref q6, .ref q65, .ref q66, .ref q67, .ref q68, .ref q69, .ref q70, .ref q71, .ref q72, .ref q73, .int 0, .int 0, .int 0])), (mm, .inr (16, [.int 0, .ref n1, .int 0, .int 0, .int 0, .ref n3, .ref n5, .ref n7, .ref n9, .ref n11, .int 0, .int 0, .int 0, .int 0, .int 0, .int 0, .int 0, .int 0, .int 0, .int 0, .ref n13, .ref n15, .ref n17, .ref n19, .ref n21, .ref n23, .ref n25, .ref n27, .ref n29, .ref n31, .ref n33, .ref n35, .ref n37, .ref n39, .ref n41, .ref n43, .ref n45, .ref n47, .ref n49, .ref n51, .int 0, .int 0, .int 0, .ref n53, .ref n55, .ref n57, .int 0, .int 0, .int 0, .int 0, .ref n59, .ref n61, .ref n63, .int 0, .ref n65, .int 0, .ref n67, .ref n69, .int 0, .ref n71, .ref n73, .int 0, .int 0, .int 0, .ref n75, .ref n77, .int 0, .int 0, .ref n79, .int 0, .int 0, .int 0, .int 0, .ref n81, .ref n83, .ref n85, .ref n87, .ref n89, .ref n91, .ref n93, .ref n95, .ref n97, .ref n99, .ref n101, .ref n103, .int 0, .ref n105, .ref n107, .int 0, .int 0, .ref n109, .ref n111, .int 0, .ref n113, .int 0, .ref n115, .ref n117, .ref n119, .ref n121, .ref n123, .int 0, .ref n125, .ref n127, .int 0, .int 0, .ref n129, .int (-1), .int 0, .int 0, .int 0, .long 0, .ref n131, .long 0, .int 0, .int 0, .ref n133, .ref n135, .ref n137, .ref n139, .ref n141, .ref n143, .ref n145, .ref n147, .ref n149, .int 0, .int 0])), (ou, .inl (cy 2, 1, .inr (.inl (fun _ => 0))))]) (hS : va_S A s.heap H locs) {ls : Array Slot} (hl : lv_has ls 8 [(4, .int 0), (3, .ref ou), (2, .ref mm), (1, .ref xx), (0, .ref b)]) : W p l e room_1 s m #[Value.ref b] below meth c H locs 214 3199238 (lw_Z below #[Value.ref b] s) (F0 m 318 ls []) := by
  have hK := hKK.1
  refine lv_aload_n hx hb dL_law_318 rfl (lv_at hl 3 rfl) ?_
  refine lv_aload_n hx hb dL_law_319 rfl (lv_at hl 4 rfl) ?_
  refine lv_iload hx hb dL_law_320 (lv_at hl 0 rfl) ?_
  refine lv_iconst (v := 1) hx hb dL_law_322 (by decide) ?_
  refine lv_iadd hx hb dL_law_323 ?_
  rw [show (0 : Int32) + 1 = 1 by decide]
  refine va_sld hx hb hX hbl hbA hS (by unfold vp_in; decide) dL_law_324 ?_
  rw [show (1 : Int32).toNatClampNeg = 1 from rfl]
  refine lv_aload_n hx hb dL_law_325 rfl (lv_at hl 1 rfl) ?_
  have hPc := hP.sub (ws' := [(xx, .inr (15, [.ref q1, .ref q26, .ref q6, .ref q16, .int 0, .int 0, .ref q35, .ref q41, .ref q88, .ref q111, .ref q127, .ref q132, .int 0, .int 0, .ref q134, .ref q136, .ref q138, .ref q140])), (q1, .inr (13, [.ref q2, .int 0, .ref q3, .ref q4, .ref q5, .int 0])), (q41, .inr (3, [.ref q35, .ref q42, .ref q57, .ref q61, .int 0, .ref q6, .ref q65, .ref q66, .ref q67, .ref q68, .ref q69, .ref q70, .ref q71, .ref q72, .ref q73, .int 0, .int 0, .int 0])), (ou, .inl (cy 2, 1, .inr (.inl (fun _ => 0))))]) [0, 1, 2, 4] rfl
  have hDc := hD.sub (ws' := [(xx, .inr (15, [.ref q1, .ref q26, .ref q6, .ref q16, .int 0, .int 0, .ref q35, .ref q41, .ref q88, .ref q111, .ref q127, .ref q132, .int 0, .int 0, .ref q134, .ref q136, .ref q138, .ref q140])), (q1, .inr (13, [.ref q2, .int 0, .ref q3, .ref q4, .ref q5, .int 0])), (q41, .inr (3, [.ref q35, .ref q42, .ref q57, .ref q61, .int 0, .ref q6, .ref q65, .ref q66, .ref q67, .ref q68, .ref q69, .ref q70, .ref q71, .ref q72, .ref q73, .int 0, .int 0, .int 0])), (ou, .inl (cy 2, 1, .inr (.inl (fun _ => 0))))]) [0, 1, 2, 4] (by decide) rfl
  have hFc := va_free (wc := [(xx, .inr (15, [.ref q1, .ref q26, .ref q6, .ref q16, .int 0, .int 0, .ref q35, .ref q41, .ref q88, .ref q111, .ref q127, .ref q132, .int 0, .int 0, .ref q134, .ref q136, .ref q138, .ref q140])), (q1, .inr (13, [.ref q2, .int 0, .ref q3, .ref q4, .ref q5, .int 0])), (q41, .inr (3, [.ref q35, .ref q42, .ref q57, .ref q61, .int 0, .ref q6, .ref q65, .ref q66, .ref q67, .ref q68, .ref q69, .ref q70, .ref q71, .ref q72, .ref q73, .int 0, .int 0, .int 0])), (ou, .inl (cy 2, 1, .inr (.inl (fun _ => 0))))]) hD hS hA [0, 1, 2, 4] rfl
  refine va_calli (vx_runSW (As := [.ref xx, .int (xs 1), .ref ou]) (rest := []) ⟨hx, hb, hml, hown, hts⟩ (c_L_count l D cy xx q1 q26 q6 q16 q35 q41 q88 q111 q127 q132 q134 q136 q138 q140 q2 q3 q4 q5 q42 q57 q61 q65 q66 q67 q68 q69 q70 q71 q72 q73 ou ((xs 1)) H.size hst) (vx_cwSW 3 hts g_law_9 rfl rfl rfl (by decide +kernel) ⟨(Nat.le_of_ble_eq_true rfl), (Nat.le_of_ble_eq_true rfl)⟩) ⟨fun a U g mk q => by obtain ⟨q0, q1, qP, qK, qD, qT⟩ := q; exact ⟨q0, q1, qP, kK.moved (u := U) (U := U.calling g mk a) (Vm.Alike.refl U.vm) qK, qD, tK.same rfl rfl qT⟩, fun U hU hW => ⟨rfl, by rw [hU], by rw [hU]; exact hPc, kK.moved hW.alike hKK, hDc.weaken (fun _ _ _ _ => trivial), tK.at hTK hS hU hW hFc⟩⟩ rfl rfl hl.1 rfl (lv_room (Nat.le_of_ble_eq_true rfl)) dL_law_326 ⟨(Nat.le_of_ble_eq_true rfl), (Nat.le_of_ble_eq_true rfl)⟩) hS (fun q _ h => hFc q h) hFc (fun r1 u2 t H1 locs ht hvm hw hB hz1 hk1 hS => ?_)
  obtain ⟨f3, hP1, hD1, hf4⟩ := hB
  rw [ht] at hP1
  obtain ⟨hP, hD⟩ := va_join (wr := [(mm, .inr (16, [.int 0, .ref n1, .int 0, .int 0, .int 0, .ref n3, .ref n5, .ref n7, .ref n9, .ref n11, .int 0, .int 0, .int 0, .int 0, .int 0, .int 0, .int 0, .int 0, .int 0, .int 0, .ref n13, .ref n15, .ref n17, .ref n19, .ref n21, .ref n23, .ref n25, .ref n27, .ref n29, .ref n31, .ref n33, .ref n35, .ref n37, .ref n39, .ref n41, .ref n43, .ref n45, .ref n47, .ref n49, .ref n51, .int 0, .int 0, .int 0, .ref n53, .ref n55, .ref n57, .int 0, .int 0, .int 0, .int 0, .ref n59, .ref n61, .ref n63, .int 0, .ref n65, .int 0, .ref n67, .ref n69, .int 0, .ref n71, .ref n73, .int 0, .int 0, .int 0, .ref n75, .ref n77, .int 0, .int 0, .ref n79, .int 0, .int 0, .int 0, .int 0, .ref n81, .ref n83, .ref n85, .ref n87, .ref n89, .ref n91, .ref n93, .ref n95, .ref n97, .ref n99, .ref n101, .ref n103, .int 0, .ref n105, .ref n107, .int 0, .int 0, .ref n109, .ref n111, .int 0, .ref n113, .int 0, .ref n115, .ref n117, .ref n119, .ref n121, .ref n123, .int 0, .ref n125, .ref n127, .int 0, .int 0, .ref n129, .int (-1), .int 0, .int 0, .int 0, .long 0, .ref n131, .long 0, .int 0, .int 0, .ref n133, .ref n135, .ref n137, .ref n139, .ref n141, .ref n143, .ref n145, .ref n147, .ref n149, .int 0, .int 0]))]) (w1 := [(ou, .inl (cy 2, 1, .inr (.inl f3)))]) hP hD [0, 1, 2, 4] [3] rfl rfl (by decide) (by decide) hk1 hFc hP1 hD1
  generalize H1 = H at hP hS ⊢
  have hP : va_P D vwCl [(mm, .inr (16, [.int 0, .ref n1, .int 0, .int 0, .int 0, .ref n3, .ref n5, .ref n7, .ref n9, .ref n11, .int 0, .int 0, .int 0, .int 0, .int 0, .int 0, .int 0, .int 0, .int 0, .int 0, .ref n13, .ref n15, .ref n17, .ref n19, .ref n21, .ref n23, .ref n25, .ref n27, .ref n29, .ref n31, .ref n33, .ref n35, .ref n37, .ref n39, .ref n41, .ref n43, .ref n45, .ref n47, .ref n49, .ref n51, .int 0, .int 0, .int 0, .ref n53, .ref n55, .ref n57, .int 0, .int 0, .int 0, .int 0, .ref n59, .ref n61, .ref n63, .int 0, .ref n65, .int 0, .ref n67, .ref n69, .int 0, .ref n71, .ref n73, .int 0, .int 0, .int 0, .ref n75, .ref n77, .int 0, .int 0, .ref n79, .int 0, .int 0, .int 0, .int 0, .ref n81, .ref n83, .ref n85, .ref n87, .ref n89, .ref n91, .ref n93, .ref n95, .ref n97, .ref n99, .ref n101, .ref n103, .int 0, .ref n105, .ref n107, .int 0, .int 0, .ref n109, .ref n111, .int 0, .ref n113, .int 0, .ref n115, .ref n117, .ref n119, .ref n121, .ref n123, .int 0, .ref n125, .ref n127, .int 0, .int 0, .ref n129, .int (-1), .int 0, .int 0, .int 0, .long 0, .ref n131, .long 0, .int 0, .int 0, .ref n133, .ref n135, .ref n137, .ref n139, .ref n141, .ref n143, .ref n145, .ref n147, .ref n149, .int 0, .int 0])), (ou, .inl (cy 2, 1, .inr (.inl f3)))] H := hP
  have hD : va_D A [(mm, .inr (16, [.int 0, .ref n1, .int 0, .int 0, .int 0, .ref n3, .ref n5, .ref n7, .ref n9, .ref n11, .int 0, .int 0, .int 0, .int 0, .int 0, .int 0, .int 0, .int 0, .int 0, .int 0, .ref n13, .ref n15, .ref n17, .ref n19, .ref n21, .ref n23, .ref n25, .ref n27, .ref n29, .ref n31, .ref n33, .ref n35, .ref n37, .ref n39, .ref n41, .ref n43, .ref n45, .ref n47, .ref n49, .ref n51, .int 0, .int 0, .int 0, .ref n53, .ref n55, .ref n57, .int 0, .int 0, .int 0, .int 0, .ref n59, .ref n61, .ref n63, .int 0, .ref n65, .int 0, .ref n67, .ref n69, .int 0, .ref n71, .ref n73, .int 0, .int 0, .int 0, .ref n75, .ref n77, .int 0, .int 0, .ref n79, .int 0, .int 0, .int 0, .int 0, .ref n81, .ref n83, .ref n85, .ref n87, .ref n89, .ref n91, .ref n93, .ref n95, .ref n97, .ref n99, .ref n101, .ref n103, .int 0, .ref n105, .ref n107, .int 0, .int 0, .ref n109, .ref n111, .int 0, .ref n113, .int 0, .ref n115, .ref n117, .ref n119, .ref n121, .ref n123, .int 0, .ref n125, .ref n127, .int 0, .int 0, .ref n129, .int (-1), .int 0, .int 0, .int 0, .long 0, .ref n131, .long 0, .int 0, .int 0, .ref n133, .ref n135, .ref n137, .ref n139, .ref n141, .ref n143, .ref n145, .ref n147, .ref n149, .int 0, .int 0])), (ou, .inl (cy 2, 1, .inr (.inl f3)))] := hD
  refine W.widen (k := 215) (n := 3199244) (Nat.le_of_ble_eq_true rfl) (Nat.le_of_ble_eq_true rfl) ?_
  rcases hw with ⟨c5, rfl, rfl⟩ | ⟨c6, c7, rfl, rfl⟩ | ⟨c8, c9, c10, c11, rfl, rfl⟩ | ⟨c12, c13, c14, c15, rfl, rfl⟩ | ⟨c16, c17, c18, c19, rfl, rfl⟩
  · skip
    refine lv_istore (lv' := [(5, .int 1), (4, .int 0), (3, .ref ou), (2, .ref mm), (1, .ref xx), (0, .ref b)]) hx hb dL_law_329 hl (by decide) rfl (fun ls hl => ?_)
    refine lv_aload_n hx hb dL_law_331 rfl (lv_at hl 3 rfl) ?_
    refine lv_aload_n hx hb dL_law_332 rfl (lv_at hl 5 rfl) ?_
    refine lv_iload hx hb dL_law_333 (lv_at hl 1 rfl) ?_
    refine lv_iconst (v := 1) hx hb dL_law_335 (by decide) ?_
    refine lv_iadd hx hb dL_law_336 ?_
    rw [show (0 : Int32) + 1 = 1 by decide]
    refine va_sld hx hb hX hbl hbA hS (by unfold vp_in; decide) dL_law_337 ?_
    rw [show (1 : Int32).toNatClampNeg = 1 from rfl]
    have hPc := hP.sub (ws' := [(mm, .inr (16, [.int 0, .ref n1, .int 0, .int 0, .int 0, .ref n3, .ref n5, .ref n7, .ref n9, .ref n11, .int 0, .int 0, .int 0, .int 0, .int 0, .int 0, .int 0, .int 0, .int 0, .int 0, .ref n13, .ref n15, .ref n17, .ref n19, .ref n21, .ref n23, .ref n25, .ref n27, .ref n29, .ref n31, .ref n33, .ref n35, .ref n37, .ref n39, .ref n41, .ref n43, .ref n45, .ref n47, .ref n49, .ref n51, .int 0, .int 0, .int 0, .ref n53, .ref n55, .ref n57, .int 0, .int 0, .int 0, .int 0, .ref n59, .ref n61, .ref n63, .int 0, .ref n65, .int 0, .ref n67, .ref n69, .int 0, .ref n71, .ref n73, .int 0, .int 0, .int 0, .ref n75, .ref n77, .int 0, .int 0, .ref n79, .int 0, .int 0, .int 0, .int 0, .ref n81, .ref n83, .ref n85, .ref n87, .ref n89, .ref n91, .ref n93, .ref n95, .ref n97, .ref n99, .ref n101, .ref n103, .int 0, .ref n105, .ref n107, .int 0, .int 0, .ref n109, .ref n111, .int 0, .ref n113, .int 0, .ref n115, .ref n117, .ref n119, .ref n121, .ref n123, .int 0, .ref n125, .ref n127, .int 0, .int 0, .ref n129, .int (-1), .int 0, .int 0, .int 0, .long 0, .ref n131, .long 0, .int 0, .int 0, .ref n133, .ref n135, .ref n137, .ref n139, .ref n141, .ref n143, .ref n145, .ref n147, .ref n149, .int 0, .int 0]))]) [0] rfl
    have hDc := hD.sub (ws' := [(mm, .inr (16, [.int 0, .ref n1, .int 0, .int 0, .int 0, .ref n3, .ref n5, .ref n7, .ref n9, .ref n11, .int 0, .int 0, .int 0, .int 0, .int 0, .int 0, .int 0, .int 0, .int 0, .int 0, .ref n13, .ref n15, .ref n17, .ref n19, .ref n21, .ref n23, .ref n25, .ref n27, .ref n29, .ref n31, .ref n33, .ref n35, .ref n37, .ref n39, .ref n41, .ref n43, .ref n45, .ref n47, .ref n49, .ref n51, .int 0, .int 0, .int 0, .ref n53, .ref n55, .ref n57, .int 0, .int 0, .int 0, .int 0, .ref n59, .ref n61, .ref n63, .int 0, .ref n65, .int 0, .ref n67, .ref n69, .int 0, .ref n71, .ref n73, .int 0, .int 0, .int 0, .ref n75, .ref n77, .int 0, .int 0, .ref n79, .int 0, .int 0, .int 0, .int 0, .ref n81, .ref n83, .ref n85, .ref n87, .ref n89, .ref n91, .ref n93, .ref n95, .ref n97, .ref n99, .ref n101, .ref n103, .int 0, .ref n105, .ref n107, .int 0, .int 0, .ref n109, .ref n111, .int 0, .ref n113, .int 0, .ref n115, .ref n117, .ref n119, .ref n121, .ref n123, .int 0, .ref n125, .ref n127, .int 0, .int 0, .ref n129, .int (-1), .int 0, .int 0, .int 0, .long 0, .ref n131, .long 0, .int 0, .int 0, .ref n133, .ref n135, .ref n137, .ref n139, .ref n141, .ref n143, .ref n145, .ref n147, .ref n149, .int 0, .int 0]))]) [0] (by decide) rfl
    have hFc := va_free (wc := [(mm, .inr (16, [.int 0, .ref n1, .int 0, .int 0, .int 0, .ref n3, .ref n5, .ref n7, .ref n9, .ref n11, .int 0, .int 0, .int 0, .int 0, .int 0, .int 0, .int 0, .int 0, .int 0, .int 0, .ref n13, .ref n15, .ref n17, .ref n19, .ref n21, .ref n23, .ref n25, .ref n27, .ref n29, .ref n31, .ref n33, .ref n35, .ref n37, .ref n39, .ref n41, .ref n43, .ref n45, .ref n47, .ref n49, .ref n51, .int 0, .int 0, .int 0, .ref n53, .ref n55, .ref n57, .int 0, .int 0, .int 0, .int 0, .ref n59, .ref n61, .ref n63, .int 0, .ref n65, .int 0, .ref n67, .ref n69, .int 0, .ref n71, .ref n73, .int 0, .int 0, .int 0, .ref n75, .ref n77, .int 0, .int 0, .ref n79, .int 0, .int 0, .int 0, .int 0, .ref n81, .ref n83, .ref n85, .ref n87, .ref n89, .ref n91, .ref n93, .ref n95, .ref n97, .ref n99, .ref n101, .ref n103, .int 0, .ref n105, .ref n107, .int 0, .int 0, .ref n109, .ref n111, .int 0, .ref n113, .int 0, .ref n115, .ref n117, .ref n119, .ref n121, .ref n123, .int 0, .ref n125, .ref n127, .int 0, .int 0, .ref n129, .int (-1), .int 0, .int 0, .int 0, .long 0, .ref n131, .long 0, .int 0, .int 0, .ref n133, .ref n135, .ref n137, .ref n139, .ref n141, .ref n143, .ref n145, .ref n147, .ref n149, .int 0, .int 0]))]) hD hS hA [0] rfl
    refine va_calli (va_runV (As := [.int (xs 1)]) (rest := []) ⟨hx, hb, hml, hown, hts⟩ (c_X13_count l D cy mm n1 n3 n5 n7 n9 n11 n13 n15 n17 n19 n21 n23 n25 n27 n29 n31 n33 n35 n37 n39 n41 n43 n45 n47 n49 n51 n53 n55 n57 n59 n61 n63 n65 n67 n69 n71 n73 n75 n77 n79 n81 n83 n85 n87 n89 n91 n93 n95 n97 n99 n101 n103 n105 n107 n109 n111 n113 n115 n117 n119 n121 n123 n125 n127 n129 n131 n133 n135 n137 n139 n141 n143 n145 n147 n149 ((xs 1)) H.size) (cwV 1 hts g_law_10 rfl rfl rfl (by decide +kernel) ⟨(Nat.le_of_ble_eq_true rfl), (Nat.le_of_ble_eq_true rfl)⟩) ⟨fun a U g mk q => by obtain ⟨q0, q1, qP, qK, qD⟩ := q; exact ⟨q0, q1, qP, kK.moved (u := U) (U := U.calling g mk a) (Vm.Alike.refl U.vm) qK, qD⟩, va_recv hK hPc (ci := 16) (q0 := 0) rfl rfl, fun U hU hW => ⟨rfl, by rw [hU], by rw [hU]; exact hPc, kK.moved hW.alike hKK, hDc.weaken (fun _ _ _ _ => trivial)⟩⟩ rfl rfl hl.1 rfl (lv_room (Nat.le_of_ble_eq_true rfl)) dL_law_338 ⟨(Nat.le_of_ble_eq_true rfl), (Nat.le_of_ble_eq_true rfl)⟩) hS (fun q _ h => hFc q h) hFc (fun r20 u21 t H1 locs ht hvm hw hB hz1 hk1 hS => ?_)
    obtain ⟨f22, hP1, hD1, hf23⟩ := hB
    rw [ht] at hP1
    obtain ⟨hP, hD⟩ := va_join (wr := [(ou, .inl (cy 2, 1, .inr (.inl f3)))]) (w1 := [(mm, .inr (16, f22))]) hP hD [0] [1] rfl rfl (by decide) (by decide) hk1 hFc hP1 hD1
    generalize H1 = H at hP hS ⊢
    have hP : va_P D vwCl [(ou, .inl (cy 2, 1, .inr (.inl f3))), (mm, .inr (16, f22))] H := hP
    have hD : va_D A [(ou, .inl (cy 2, 1, .inr (.inl f3))), (mm, .inr (16, f22))] := hD
    rcases hw with ⟨c24, rfl, rfl⟩ | ⟨c25, c26, rfl, rfl⟩ | ⟨c27, c28, c29, rfl, rfl⟩ | ⟨c30, c31, c32, rfl, rfl⟩ | ⟨c33, c34, c35, rfl, rfl⟩ | ⟨c36, c37, c38, rfl, rfl⟩ | ⟨c39, c40, c41, rfl, rfl⟩ | ⟨c42, c43, c44, rfl, rfl⟩ | ⟨c45, c46, c47, rfl, rfl⟩ | ⟨c48, c49, c50, rfl, rfl⟩ | ⟨c51, c52, c53, rfl, rfl⟩ | ⟨c54, c55, c56, rfl, rfl⟩ | ⟨c57, c58, c59, rfl, rfl⟩ | ⟨c60, c61, c62, rfl, rfl⟩
    · skip
      refine lv_istore (lv' := [(6, .int 0), (5, .int 1), (4, .int 0), (3, .ref ou), (2, .ref mm), (1, .ref xx), (0, .ref b)]) hx hb dL_law_341 hl (by decide) rfl (fun ls hl => ?_)
      refine lv_aload_n hx hb dL_law_343 rfl (lv_at hl 4 rfl) ?_
      have hPc := hP.sub (ws' := [(mm, .inr (16, f22))]) [1] rfl
      have hDc := hD.sub (ws' := [(mm, .inr (16, f22))]) [1] (by decide) rfl
      have hFc := va_free (wc := [(mm, .inr (16, f22))]) hD hS hA [1] rfl
      refine va_calli (va_runV (As := []) (rest := []) ⟨hx, hb, hml, hown, hts⟩ (c_X13_thrown l D cy mm f22 1 hf23 H.size) (cwV 0 hts g_law_2 rfl rfl rfl (by decide +kernel) ⟨(Nat.le_of_ble_eq_true rfl), (Nat.le_of_ble_eq_true rfl)⟩) ⟨fun a U g mk q => by obtain ⟨q0, q1, qP, qK, qD⟩ := q; exact ⟨q0, q1, qP, kK.moved (u := U) (U := U.calling g mk a) (Vm.Alike.refl U.vm) qK, qD⟩, va_recv hK hPc (ci := 16) (q0 := 0) rfl rfl, fun U hU hW => ⟨rfl, by rw [hU], by rw [hU]; exact hPc, kK.moved hW.alike hKK, hDc.weaken (fun _ _ _ _ => trivial)⟩⟩ rfl rfl hl.1 rfl (lv_room (Nat.le_of_ble_eq_true rfl)) dL_law_344 ⟨(Nat.le_of_ble_eq_true rfl), (Nat.le_of_ble_eq_true rfl)⟩) hS (fun q _ h => hFc q h) hFc (fun r63 u64 t H1 locs ht hvm hw hB hz1 hk1 hS => ?_)
      obtain ⟨hP1, hD1⟩ := hB
      rw [ht] at hP1
      obtain ⟨hP, hD⟩ := va_join (wr := [(ou, .inl (cy 2, 1, .inr (.inl f3)))]) (w1 := [(mm, .inr (16, f22))]) hP hD [1] [0] rfl rfl (by decide) (by decide) hk1 hFc hP1 hD1
      generalize H1 = H at hP hS ⊢
      have hP : va_P D vwCl [(ou, .inl (cy 2, 1, .inr (.inl f3))), (mm, .inr (16, f22))] H := hP
      have hD : va_D A [(ou, .inl (cy 2, 1, .inr (.inl f3))), (mm, .inr (16, f22))] := hD
      rcases hw with rfl
      refine lv_iload hx hb dL_law_347 (lv_at hl 1 rfl) ?_
      refine lv_icmp_eq (tgt := 354) hx hb dL_law_349 (by decide) (fun _ => ?_) (fun c9 => absurd (by decide) c9)
      refine lv_iload hx hb dL_law_354 (lv_at hl 1 rfl) ?_
      refine lv_if_ne (tgt := 371) hx hb dL_law_356 (by decide) (fun _ => ?_) (fun c9 => absurd c9 (by decide))
      refine lv_goto (tgt := 1572) hx hb dL_law_371 (by decide) ?_
      refine lv_iinc (v := 6) (lv' := [(4, .int 6), (6, .int 0), (5, .int 1), (3, .ref ou), (2, .ref mm), (1, .ref xx), (0, .ref b)]) hx hb dL_law_1572 hl (k := 2) rfl (by decide) (by decide) rfl (fun ls hl => ?_)
      refine lv_goto (tgt := 23) hx hb dL_law_1575 (by decide) ?_
      exact law_tail hst hx hb hr hml hown hts hX hbl hlocks hKK hTK hA hbA hAr (Nat.le_of_ble_eq_true rfl) (Nat.le_of_ble_eq_true rfl) hS (lv_sub hl [0, 6] rfl)
    · skip
      exact False.elim (by have e_c25 := mt i_lt.mpr c25; have e_c26 := i_lt.mp c26; have e_c5 := i_lt.mp c5; have l_0 : (0 : Int32).toInt = 0 := (by decide); have l_1 : (11 : Int32).toInt = 11 := (by decide); omega)
    · skip
      exact False.elim (by have e_c27 := i_eq.mp c27; have e_c28 := mt i_lt.mpr c28; have e_c29 := mt i_lt.mpr c29; have e_c5 := i_lt.mp c5; have l_0 : (0 : Int32).toInt = 0 := (by decide); have l_1 : (11 : Int32).toInt = 11 := (by decide); omega)
    · skip
      exact False.elim (by have e_c30 := i_eq.mp c30; have e_c31 := mt i_lt.mpr c31; have e_c32 := mt i_lt.mpr c32; have e_c5 := i_lt.mp c5; have l_0 : (0 : Int32).toInt = 0 := (by decide); have l_1 : (1 : Int32).toInt = 1 := (by decide); have l_2 : (11 : Int32).toInt = 11 := (by decide); omega)
    · skip
      exact False.elim (by have e_c33 := i_eq.mp c33; have e_c34 := mt i_lt.mpr c34; have e_c35 := mt i_lt.mpr c35; have e_c5 := i_lt.mp c5; have l_0 : (0 : Int32).toInt = 0 := (by decide); have l_1 : (2 : Int32).toInt = 2 := (by decide); have l_2 : (11 : Int32).toInt = 11 := (by decide); omega)
    · skip
      exact False.elim (by have e_c36 := i_eq.mp c36; have e_c37 := mt i_lt.mpr c37; have e_c38 := mt i_lt.mpr c38; have e_c5 := i_lt.mp c5; have l_0 : (0 : Int32).toInt = 0 := (by decide); have l_1 : (3 : Int32).toInt = 3 := (by decide); have l_2 : (11 : Int32).toInt = 11 := (by decide); omega)
    · skip
      exact False.elim (by have e_c39 := i_eq.mp c39; have e_c40 := mt i_lt.mpr c40; have e_c41 := mt i_lt.mpr c41; have e_c5 := i_lt.mp c5; have l_0 : (0 : Int32).toInt = 0 := (by decide); have l_1 : (4 : Int32).toInt = 4 := (by decide); have l_2 : (11 : Int32).toInt = 11 := (by decide); omega)
    · skip
      exact False.elim (by have e_c42 := i_eq.mp c42; have e_c43 := mt i_lt.mpr c43; have e_c44 := mt i_lt.mpr c44; have e_c5 := i_lt.mp c5; have l_0 : (0 : Int32).toInt = 0 := (by decide); have l_1 : (5 : Int32).toInt = 5 := (by decide); have l_2 : (11 : Int32).toInt = 11 := (by decide); omega)
    · skip
      exact False.elim (by have e_c45 := i_eq.mp c45; have e_c46 := mt i_lt.mpr c46; have e_c47 := mt i_lt.mpr c47; have e_c5 := i_lt.mp c5; have l_0 : (0 : Int32).toInt = 0 := (by decide); have l_1 : (6 : Int32).toInt = 6 := (by decide); have l_2 : (11 : Int32).toInt = 11 := (by decide); omega)
    · skip
      exact False.elim (by have e_c48 := i_eq.mp c48; have e_c49 := mt i_lt.mpr c49; have e_c50 := mt i_lt.mpr c50; have e_c5 := i_lt.mp c5; have l_0 : (0 : Int32).toInt = 0 := (by decide); have l_1 : (7 : Int32).toInt = 7 := (by decide); have l_2 : (11 : Int32).toInt = 11 := (by decide); omega)
    · skip
      exact False.elim (by have e_c51 := i_eq.mp c51; have e_c52 := mt i_lt.mpr c52; have e_c53 := mt i_lt.mpr c53; have e_c5 := i_lt.mp c5; have l_0 : (0 : Int32).toInt = 0 := (by decide); have l_1 : (8 : Int32).toInt = 8 := (by decide); have l_2 : (11 : Int32).toInt = 11 := (by decide); omega)
    · skip
      exact False.elim (by have e_c54 := i_eq.mp c54; have e_c55 := mt i_lt.mpr c55; have e_c56 := mt i_lt.mpr c56; have e_c5 := i_lt.mp c5; have l_0 : (0 : Int32).toInt = 0 := (by decide); have l_1 : (9 : Int32).toInt = 9 := (by decide); have l_2 : (11 : Int32).toInt = 11 := (by decide); omega)
    · skip
      exact False.elim (by have e_c57 := i_eq.mp c57; have e_c58 := mt i_lt.mpr c58; have e_c59 := mt i_lt.mpr c59; have e_c5 := i_lt.mp c5; have l_0 : (0 : Int32).toInt = 0 := (by decide); have l_1 : (10 : Int32).toInt = 10 := (by decide); have l_2 : (11 : Int32).toInt = 11 := (by decide); omega)
    · skip
      exact False.elim (by have e_c60 := i_eq.mp c60; have e_c61 := mt i_lt.mpr c61; have e_c62 := mt i_lt.mpr c62; have e_c5 := i_lt.mp c5; have l_0 : (0 : Int32).toInt = 0 := (by decide); have l_1 : (11 : Int32).toInt = 11 := (by decide); omega)
  · skip
    refine lv_istore (lv' := [(5, .int 1), (4, .int 0), (3, .ref ou), (2, .ref mm), (1, .ref xx), (0, .ref b)]) hx hb dL_law_329 hl (by decide) rfl (fun ls hl => ?_)
    refine lv_aload_n hx hb dL_law_331 rfl (lv_at hl 3 rfl) ?_
    refine lv_aload_n hx hb dL_law_332 rfl (lv_at hl 5 rfl) ?_
    refine lv_iload hx hb dL_law_333 (lv_at hl 1 rfl) ?_
    refine lv_iconst (v := 1) hx hb dL_law_335 (by decide) ?_
    refine lv_iadd hx hb dL_law_336 ?_
    rw [show (0 : Int32) + 1 = 1 by decide]
    refine va_sld hx hb hX hbl hbA hS (by unfold vp_in; decide) dL_law_337 ?_
    rw [show (1 : Int32).toNatClampNeg = 1 from rfl]
    have hPc := hP.sub (ws' := [(mm, .inr (16, [.int 0, .ref n1, .int 0, .int 0, .int 0, .ref n3, .ref n5, .ref n7, .ref n9, .ref n11, .int 0, .int 0, .int 0, .int 0, .int 0, .int 0, .int 0, .int 0, .int 0, .int 0, .ref n13, .ref n15, .ref n17, .ref n19, .ref n21, .ref n23, .ref n25, .ref n27, .ref n29, .ref n31, .ref n33, .ref n35, .ref n37, .ref n39, .ref n41, .ref n43, .ref n45, .ref n47, .ref n49, .ref n51, .int 0, .int 0, .int 0, .ref n53, .ref n55, .ref n57, .int 0, .int 0, .int 0, .int 0, .ref n59, .ref n61, .ref n63, .int 0, .ref n65, .int 0, .ref n67, .ref n69, .int 0, .ref n71, .ref n73, .int 0, .int 0, .int 0, .ref n75, .ref n77, .int 0, .int 0, .ref n79, .int 0, .int 0, .int 0, .int 0, .ref n81, .ref n83, .ref n85, .ref n87, .ref n89, .ref n91, .ref n93, .ref n95, .ref n97, .ref n99, .ref n101, .ref n103, .int 0, .ref n105, .ref n107, .int 0, .int 0, .ref n109, .ref n111, .int 0, .ref n113, .int 0, .ref n115, .ref n117, .ref n119, .ref n121, .ref n123, .int 0, .ref n125, .ref n127, .int 0, .int 0, .ref n129, .int (-1), .int 0, .int 0, .int 0, .long 0, .ref n131, .long 0, .int 0, .int 0, .ref n133, .ref n135, .ref n137, .ref n139, .ref n141, .ref n143, .ref n145, .ref n147, .ref n149, .int 0, .int 0]))]) [0] rfl
    have hDc := hD.sub (ws' := [(mm, .inr (16, [.int 0, .ref n1, .int 0, .int 0, .int 0, .ref n3, .ref n5, .ref n7, .ref n9, .ref n11, .int 0, .int 0, .int 0, .int 0, .int 0, .int 0, .int 0, .int 0, .int 0, .int 0, .ref n13, .ref n15, .ref n17, .ref n19, .ref n21, .ref n23, .ref n25, .ref n27, .ref n29, .ref n31, .ref n33, .ref n35, .ref n37, .ref n39, .ref n41, .ref n43, .ref n45, .ref n47, .ref n49, .ref n51, .int 0, .int 0, .int 0, .ref n53, .ref n55, .ref n57, .int 0, .int 0, .int 0, .int 0, .ref n59, .ref n61, .ref n63, .int 0, .ref n65, .int 0, .ref n67, .ref n69, .int 0, .ref n71, .ref n73, .int 0, .int 0, .int 0, .ref n75, .ref n77, .int 0, .int 0, .ref n79, .int 0, .int 0, .int 0, .int 0, .ref n81, .ref n83, .ref n85, .ref n87, .ref n89, .ref n91, .ref n93, .ref n95, .ref n97, .ref n99, .ref n101, .ref n103, .int 0, .ref n105, .ref n107, .int 0, .int 0, .ref n109, .ref n111, .int 0, .ref n113, .int 0, .ref n115, .ref n117, .ref n119, .ref n121, .ref n123, .int 0, .ref n125, .ref n127, .int 0, .int 0, .ref n129, .int (-1), .int 0, .int 0, .int 0, .long 0, .ref n131, .long 0, .int 0, .int 0, .ref n133, .ref n135, .ref n137, .ref n139, .ref n141, .ref n143, .ref n145, .ref n147, .ref n149, .int 0, .int 0]))]) [0] (by decide) rfl
    have hFc := va_free (wc := [(mm, .inr (16, [.int 0, .ref n1, .int 0, .int 0, .int 0, .ref n3, .ref n5, .ref n7, .ref n9, .ref n11, .int 0, .int 0, .int 0, .int 0, .int 0, .int 0, .int 0, .int 0, .int 0, .int 0, .ref n13, .ref n15, .ref n17, .ref n19, .ref n21, .ref n23, .ref n25, .ref n27, .ref n29, .ref n31, .ref n33, .ref n35, .ref n37, .ref n39, .ref n41, .ref n43, .ref n45, .ref n47, .ref n49, .ref n51, .int 0, .int 0, .int 0, .ref n53, .ref n55, .ref n57, .int 0, .int 0, .int 0, .int 0, .ref n59, .ref n61, .ref n63, .int 0, .ref n65, .int 0, .ref n67, .ref n69, .int 0, .ref n71, .ref n73, .int 0, .int 0, .int 0, .ref n75, .ref n77, .int 0, .int 0, .ref n79, .int 0, .int 0, .int 0, .int 0, .ref n81, .ref n83, .ref n85, .ref n87, .ref n89, .ref n91, .ref n93, .ref n95, .ref n97, .ref n99, .ref n101, .ref n103, .int 0, .ref n105, .ref n107, .int 0, .int 0, .ref n109, .ref n111, .int 0, .ref n113, .int 0, .ref n115, .ref n117, .ref n119, .ref n121, .ref n123, .int 0, .ref n125, .ref n127, .int 0, .int 0, .ref n129, .int (-1), .int 0, .int 0, .int 0, .long 0, .ref n131, .long 0, .int 0, .int 0, .ref n133, .ref n135, .ref n137, .ref n139, .ref n141, .ref n143, .ref n145, .ref n147, .ref n149, .int 0, .int 0]))]) hD hS hA [0] rfl
    refine va_calli (va_runV (As := [.int (xs 1)]) (rest := []) ⟨hx, hb, hml, hown, hts⟩ (c_X13_count l D cy mm n1 n3 n5 n7 n9 n11 n13 n15 n17 n19 n21 n23 n25 n27 n29 n31 n33 n35 n37 n39 n41 n43 n45 n47 n49 n51 n53 n55 n57 n59 n61 n63 n65 n67 n69 n71 n73 n75 n77 n79 n81 n83 n85 n87 n89 n91 n93 n95 n97 n99 n101 n103 n105 n107 n109 n111 n113 n115 n117 n119 n121 n123 n125 n127 n129 n131 n133 n135 n137 n139 n141 n143 n145 n147 n149 ((xs 1)) H.size) (cwV 1 hts g_law_10 rfl rfl rfl (by decide +kernel) ⟨(Nat.le_of_ble_eq_true rfl), (Nat.le_of_ble_eq_true rfl)⟩) ⟨fun a U g mk q => by obtain ⟨q0, q1, qP, qK, qD⟩ := q; exact ⟨q0, q1, qP, kK.moved (u := U) (U := U.calling g mk a) (Vm.Alike.refl U.vm) qK, qD⟩, va_recv hK hPc (ci := 16) (q0 := 0) rfl rfl, fun U hU hW => ⟨rfl, by rw [hU], by rw [hU]; exact hPc, kK.moved hW.alike hKK, hDc.weaken (fun _ _ _ _ => trivial)⟩⟩ rfl rfl hl.1 rfl (lv_room (Nat.le_of_ble_eq_true rfl)) dL_law_338 ⟨(Nat.le_of_ble_eq_true rfl), (Nat.le_of_ble_eq_true rfl)⟩) hS (fun q _ h => hFc q h) hFc (fun r65 u66 t H1 locs ht hvm hw hB hz1 hk1 hS => ?_)
    obtain ⟨f67, hP1, hD1, hf68⟩ := hB
    rw [ht] at hP1
    obtain ⟨hP, hD⟩ := va_join (wr := [(ou, .inl (cy 2, 1, .inr (.inl f3)))]) (w1 := [(mm, .inr (16, f67))]) hP hD [0] [1] rfl rfl (by decide) (by decide) hk1 hFc hP1 hD1
    generalize H1 = H at hP hS ⊢
    have hP : va_P D vwCl [(ou, .inl (cy 2, 1, .inr (.inl f3))), (mm, .inr (16, f67))] H := hP
    have hD : va_D A [(ou, .inl (cy 2, 1, .inr (.inl f3))), (mm, .inr (16, f67))] := hD
    rcases hw with ⟨c69, rfl, rfl⟩ | ⟨c70, c71, rfl, rfl⟩ | ⟨c72, c73, c74, rfl, rfl⟩ | ⟨c75, c76, c77, rfl, rfl⟩ | ⟨c78, c79, c80, rfl, rfl⟩ | ⟨c81, c82, c83, rfl, rfl⟩ | ⟨c84, c85, c86, rfl, rfl⟩ | ⟨c87, c88, c89, rfl, rfl⟩ | ⟨c90, c91, c92, rfl, rfl⟩ | ⟨c93, c94, c95, rfl, rfl⟩ | ⟨c96, c97, c98, rfl, rfl⟩ | ⟨c99, c100, c101, rfl, rfl⟩ | ⟨c102, c103, c104, rfl, rfl⟩ | ⟨c105, c106, c107, rfl, rfl⟩
    · skip
      exact False.elim (by have e_c7 := mt i_le.mpr c7; have e_c69 := i_lt.mp c69; have e_c6 := mt i_lt.mpr c6; have l_0 : (0 : Int32).toInt = 0 := (by decide); have l_1 : (11 : Int32).toInt = 11 := (by decide); omega)
    · skip
      refine lv_istore (lv' := [(6, .int 0), (5, .int 1), (4, .int 0), (3, .ref ou), (2, .ref mm), (1, .ref xx), (0, .ref b)]) hx hb dL_law_341 hl (by decide) rfl (fun ls hl => ?_)
      refine lv_aload_n hx hb dL_law_343 rfl (lv_at hl 4 rfl) ?_
      have hPc := hP.sub (ws' := [(mm, .inr (16, f67))]) [1] rfl
      have hDc := hD.sub (ws' := [(mm, .inr (16, f67))]) [1] (by decide) rfl
      have hFc := va_free (wc := [(mm, .inr (16, f67))]) hD hS hA [1] rfl
      refine va_calli (va_runV (As := []) (rest := []) ⟨hx, hb, hml, hown, hts⟩ (c_X13_thrown l D cy mm f67 1 hf68 H.size) (cwV 0 hts g_law_2 rfl rfl rfl (by decide +kernel) ⟨(Nat.le_of_ble_eq_true rfl), (Nat.le_of_ble_eq_true rfl)⟩) ⟨fun a U g mk q => by obtain ⟨q0, q1, qP, qK, qD⟩ := q; exact ⟨q0, q1, qP, kK.moved (u := U) (U := U.calling g mk a) (Vm.Alike.refl U.vm) qK, qD⟩, va_recv hK hPc (ci := 16) (q0 := 0) rfl rfl, fun U hU hW => ⟨rfl, by rw [hU], by rw [hU]; exact hPc, kK.moved hW.alike hKK, hDc.weaken (fun _ _ _ _ => trivial)⟩⟩ rfl rfl hl.1 rfl (lv_room (Nat.le_of_ble_eq_true rfl)) dL_law_344 ⟨(Nat.le_of_ble_eq_true rfl), (Nat.le_of_ble_eq_true rfl)⟩) hS (fun q _ h => hFc q h) hFc (fun r108 u109 t H1 locs ht hvm hw hB hz1 hk1 hS => ?_)
      obtain ⟨hP1, hD1⟩ := hB
      rw [ht] at hP1
      obtain ⟨hP, hD⟩ := va_join (wr := [(ou, .inl (cy 2, 1, .inr (.inl f3)))]) (w1 := [(mm, .inr (16, f67))]) hP hD [1] [0] rfl rfl (by decide) (by decide) hk1 hFc hP1 hD1
      generalize H1 = H at hP hS ⊢
      have hP : va_P D vwCl [(ou, .inl (cy 2, 1, .inr (.inl f3))), (mm, .inr (16, f67))] H := hP
      have hD : va_D A [(ou, .inl (cy 2, 1, .inr (.inl f3))), (mm, .inr (16, f67))] := hD
      rcases hw with rfl
      refine lv_iload hx hb dL_law_347 (lv_at hl 1 rfl) ?_
      refine lv_icmp_eq (tgt := 354) hx hb dL_law_349 (by decide) (fun _ => ?_) (fun c9 => absurd (by decide) c9)
      refine lv_iload hx hb dL_law_354 (lv_at hl 1 rfl) ?_
      refine lv_if_ne (tgt := 371) hx hb dL_law_356 (by decide) (fun _ => ?_) (fun c9 => absurd c9 (by decide))
      refine lv_goto (tgt := 1572) hx hb dL_law_371 (by decide) ?_
      refine lv_iinc (v := 6) (lv' := [(4, .int 6), (6, .int 0), (5, .int 1), (3, .ref ou), (2, .ref mm), (1, .ref xx), (0, .ref b)]) hx hb dL_law_1572 hl (k := 2) rfl (by decide) (by decide) rfl (fun ls hl => ?_)
      refine lv_goto (tgt := 23) hx hb dL_law_1575 (by decide) ?_
      exact law_tail hst hx hb hr hml hown hts hX hbl hlocks hKK hTK hA hbA hAr (Nat.le_of_ble_eq_true rfl) (Nat.le_of_ble_eq_true rfl) hS (lv_sub hl [0, 6] rfl)
    · skip
      exact False.elim (by have e_c6 := mt i_lt.mpr c6; have e_c72 := i_eq.mp c72; have e_c73 := mt i_lt.mpr c73; have e_c74 := mt i_lt.mpr c74; have e_c7 := mt i_le.mpr c7; have l_0 : (0 : Int32).toInt = 0 := (by decide); have l_1 : (11 : Int32).toInt = 11 := (by decide); omega)
    · skip
      exact False.elim (by have e_c6 := mt i_lt.mpr c6; have e_c75 := i_eq.mp c75; have e_c76 := mt i_lt.mpr c76; have e_c77 := mt i_lt.mpr c77; have e_c7 := mt i_le.mpr c7; have l_0 : (0 : Int32).toInt = 0 := (by decide); have l_1 : (1 : Int32).toInt = 1 := (by decide); have l_2 : (11 : Int32).toInt = 11 := (by decide); omega)
    · skip
      exact False.elim (by have e_c6 := mt i_lt.mpr c6; have e_c78 := i_eq.mp c78; have e_c79 := mt i_lt.mpr c79; have e_c80 := mt i_lt.mpr c80; have e_c7 := mt i_le.mpr c7; have l_0 : (0 : Int32).toInt = 0 := (by decide); have l_1 : (2 : Int32).toInt = 2 := (by decide); have l_2 : (11 : Int32).toInt = 11 := (by decide); omega)
    · skip
      exact False.elim (by have e_c6 := mt i_lt.mpr c6; have e_c81 := i_eq.mp c81; have e_c82 := mt i_lt.mpr c82; have e_c83 := mt i_lt.mpr c83; have e_c7 := mt i_le.mpr c7; have l_0 : (0 : Int32).toInt = 0 := (by decide); have l_1 : (3 : Int32).toInt = 3 := (by decide); have l_2 : (11 : Int32).toInt = 11 := (by decide); omega)
    · skip
      exact False.elim (by have e_c6 := mt i_lt.mpr c6; have e_c84 := i_eq.mp c84; have e_c85 := mt i_lt.mpr c85; have e_c86 := mt i_lt.mpr c86; have e_c7 := mt i_le.mpr c7; have l_0 : (0 : Int32).toInt = 0 := (by decide); have l_1 : (4 : Int32).toInt = 4 := (by decide); have l_2 : (11 : Int32).toInt = 11 := (by decide); omega)
    · skip
      exact False.elim (by have e_c6 := mt i_lt.mpr c6; have e_c87 := i_eq.mp c87; have e_c88 := mt i_lt.mpr c88; have e_c89 := mt i_lt.mpr c89; have e_c7 := mt i_le.mpr c7; have l_0 : (0 : Int32).toInt = 0 := (by decide); have l_1 : (5 : Int32).toInt = 5 := (by decide); have l_2 : (11 : Int32).toInt = 11 := (by decide); omega)
    · skip
      exact False.elim (by have e_c6 := mt i_lt.mpr c6; have e_c90 := i_eq.mp c90; have e_c91 := mt i_lt.mpr c91; have e_c92 := mt i_lt.mpr c92; have e_c7 := mt i_le.mpr c7; have l_0 : (0 : Int32).toInt = 0 := (by decide); have l_1 : (6 : Int32).toInt = 6 := (by decide); have l_2 : (11 : Int32).toInt = 11 := (by decide); omega)
    · skip
      exact False.elim (by have e_c6 := mt i_lt.mpr c6; have e_c93 := i_eq.mp c93; have e_c94 := mt i_lt.mpr c94; have e_c95 := mt i_lt.mpr c95; have e_c7 := mt i_le.mpr c7; have l_0 : (0 : Int32).toInt = 0 := (by decide); have l_1 : (7 : Int32).toInt = 7 := (by decide); have l_2 : (11 : Int32).toInt = 11 := (by decide); omega)
    · skip
      exact False.elim (by have e_c6 := mt i_lt.mpr c6; have e_c96 := i_eq.mp c96; have e_c97 := mt i_lt.mpr c97; have e_c98 := mt i_lt.mpr c98; have e_c7 := mt i_le.mpr c7; have l_0 : (0 : Int32).toInt = 0 := (by decide); have l_1 : (8 : Int32).toInt = 8 := (by decide); have l_2 : (11 : Int32).toInt = 11 := (by decide); omega)
    · skip
      exact False.elim (by have e_c6 := mt i_lt.mpr c6; have e_c99 := i_eq.mp c99; have e_c100 := mt i_lt.mpr c100; have e_c101 := mt i_lt.mpr c101; have e_c7 := mt i_le.mpr c7; have l_0 : (0 : Int32).toInt = 0 := (by decide); have l_1 : (9 : Int32).toInt = 9 := (by decide); have l_2 : (11 : Int32).toInt = 11 := (by decide); omega)
    · skip
      exact False.elim (by have e_c6 := mt i_lt.mpr c6; have e_c102 := i_eq.mp c102; have e_c103 := mt i_lt.mpr c103; have e_c104 := mt i_lt.mpr c104; have e_c7 := mt i_le.mpr c7; have l_0 : (0 : Int32).toInt = 0 := (by decide); have l_1 : (10 : Int32).toInt = 10 := (by decide); have l_2 : (11 : Int32).toInt = 11 := (by decide); omega)
    · skip
      exact False.elim (by have e_c6 := mt i_lt.mpr c6; have e_c105 := i_eq.mp c105; have e_c106 := mt i_lt.mpr c106; have e_c107 := mt i_lt.mpr c107; have e_c7 := mt i_le.mpr c7; have l_0 : (0 : Int32).toInt = 0 := (by decide); have l_1 : (11 : Int32).toInt = 11 := (by decide); omega)
  · skip
    refine lv_istore (lv' := [(5, .int 0), (4, .int 0), (3, .ref ou), (2, .ref mm), (1, .ref xx), (0, .ref b)]) hx hb dL_law_329 hl (by decide) rfl (fun ls hl => ?_)
    refine lv_aload_n hx hb dL_law_331 rfl (lv_at hl 3 rfl) ?_
    refine lv_aload_n hx hb dL_law_332 rfl (lv_at hl 5 rfl) ?_
    refine lv_iload hx hb dL_law_333 (lv_at hl 1 rfl) ?_
    refine lv_iconst (v := 1) hx hb dL_law_335 (by decide) ?_
    refine lv_iadd hx hb dL_law_336 ?_
    rw [show (0 : Int32) + 1 = 1 by decide]
    refine va_sld hx hb hX hbl hbA hS (by unfold vp_in; decide) dL_law_337 ?_
    rw [show (1 : Int32).toNatClampNeg = 1 from rfl]
    have hPc := hP.sub (ws' := [(mm, .inr (16, [.int 0, .ref n1, .int 0, .int 0, .int 0, .ref n3, .ref n5, .ref n7, .ref n9, .ref n11, .int 0, .int 0, .int 0, .int 0, .int 0, .int 0, .int 0, .int 0, .int 0, .int 0, .ref n13, .ref n15, .ref n17, .ref n19, .ref n21, .ref n23, .ref n25, .ref n27, .ref n29, .ref n31, .ref n33, .ref n35, .ref n37, .ref n39, .ref n41, .ref n43, .ref n45, .ref n47, .ref n49, .ref n51, .int 0, .int 0, .int 0, .ref n53, .ref n55, .ref n57, .int 0, .int 0, .int 0, .int 0, .ref n59, .ref n61, .ref n63, .int 0, .ref n65, .int 0, .ref n67, .ref n69, .int 0, .ref n71, .ref n73, .int 0, .int 0, .int 0, .ref n75, .ref n77, .int 0, .int 0, .ref n79, .int 0, .int 0, .int 0, .int 0, .ref n81, .ref n83, .ref n85, .ref n87, .ref n89, .ref n91, .ref n93, .ref n95, .ref n97, .ref n99, .ref n101, .ref n103, .int 0, .ref n105, .ref n107, .int 0, .int 0, .ref n109, .ref n111, .int 0, .ref n113, .int 0, .ref n115, .ref n117, .ref n119, .ref n121, .ref n123, .int 0, .ref n125, .ref n127, .int 0, .int 0, .ref n129, .int (-1), .int 0, .int 0, .int 0, .long 0, .ref n131, .long 0, .int 0, .int 0, .ref n133, .ref n135, .ref n137, .ref n139, .ref n141, .ref n143, .ref n145, .ref n147, .ref n149, .int 0, .int 0]))]) [0] rfl
    have hDc := hD.sub (ws' := [(mm, .inr (16, [.int 0, .ref n1, .int 0, .int 0, .int 0, .ref n3, .ref n5, .ref n7, .ref n9, .ref n11, .int 0, .int 0, .int 0, .int 0, .int 0, .int 0, .int 0, .int 0, .int 0, .int 0, .ref n13, .ref n15, .ref n17, .ref n19, .ref n21, .ref n23, .ref n25, .ref n27, .ref n29, .ref n31, .ref n33, .ref n35, .ref n37, .ref n39, .ref n41, .ref n43, .ref n45, .ref n47, .ref n49, .ref n51, .int 0, .int 0, .int 0, .ref n53, .ref n55, .ref n57, .int 0, .int 0, .int 0, .int 0, .ref n59, .ref n61, .ref n63, .int 0, .ref n65, .int 0, .ref n67, .ref n69, .int 0, .ref n71, .ref n73, .int 0, .int 0, .int 0, .ref n75, .ref n77, .int 0, .int 0, .ref n79, .int 0, .int 0, .int 0, .int 0, .ref n81, .ref n83, .ref n85, .ref n87, .ref n89, .ref n91, .ref n93, .ref n95, .ref n97, .ref n99, .ref n101, .ref n103, .int 0, .ref n105, .ref n107, .int 0, .int 0, .ref n109, .ref n111, .int 0, .ref n113, .int 0, .ref n115, .ref n117, .ref n119, .ref n121, .ref n123, .int 0, .ref n125, .ref n127, .int 0, .int 0, .ref n129, .int (-1), .int 0, .int 0, .int 0, .long 0, .ref n131, .long 0, .int 0, .int 0, .ref n133, .ref n135, .ref n137, .ref n139, .ref n141, .ref n143, .ref n145, .ref n147, .ref n149, .int 0, .int 0]))]) [0] (by decide) rfl
    have hFc := va_free (wc := [(mm, .inr (16, [.int 0, .ref n1, .int 0, .int 0, .int 0, .ref n3, .ref n5, .ref n7, .ref n9, .ref n11, .int 0, .int 0, .int 0, .int 0, .int 0, .int 0, .int 0, .int 0, .int 0, .int 0, .ref n13, .ref n15, .ref n17, .ref n19, .ref n21, .ref n23, .ref n25, .ref n27, .ref n29, .ref n31, .ref n33, .ref n35, .ref n37, .ref n39, .ref n41, .ref n43, .ref n45, .ref n47, .ref n49, .ref n51, .int 0, .int 0, .int 0, .ref n53, .ref n55, .ref n57, .int 0, .int 0, .int 0, .int 0, .ref n59, .ref n61, .ref n63, .int 0, .ref n65, .int 0, .ref n67, .ref n69, .int 0, .ref n71, .ref n73, .int 0, .int 0, .int 0, .ref n75, .ref n77, .int 0, .int 0, .ref n79, .int 0, .int 0, .int 0, .int 0, .ref n81, .ref n83, .ref n85, .ref n87, .ref n89, .ref n91, .ref n93, .ref n95, .ref n97, .ref n99, .ref n101, .ref n103, .int 0, .ref n105, .ref n107, .int 0, .int 0, .ref n109, .ref n111, .int 0, .ref n113, .int 0, .ref n115, .ref n117, .ref n119, .ref n121, .ref n123, .int 0, .ref n125, .ref n127, .int 0, .int 0, .ref n129, .int (-1), .int 0, .int 0, .int 0, .long 0, .ref n131, .long 0, .int 0, .int 0, .ref n133, .ref n135, .ref n137, .ref n139, .ref n141, .ref n143, .ref n145, .ref n147, .ref n149, .int 0, .int 0]))]) hD hS hA [0] rfl
    refine va_calli (va_runV (As := [.int (xs 1)]) (rest := []) ⟨hx, hb, hml, hown, hts⟩ (c_X13_count l D cy mm n1 n3 n5 n7 n9 n11 n13 n15 n17 n19 n21 n23 n25 n27 n29 n31 n33 n35 n37 n39 n41 n43 n45 n47 n49 n51 n53 n55 n57 n59 n61 n63 n65 n67 n69 n71 n73 n75 n77 n79 n81 n83 n85 n87 n89 n91 n93 n95 n97 n99 n101 n103 n105 n107 n109 n111 n113 n115 n117 n119 n121 n123 n125 n127 n129 n131 n133 n135 n137 n139 n141 n143 n145 n147 n149 ((xs 1)) H.size) (cwV 1 hts g_law_10 rfl rfl rfl (by decide +kernel) ⟨(Nat.le_of_ble_eq_true rfl), (Nat.le_of_ble_eq_true rfl)⟩) ⟨fun a U g mk q => by obtain ⟨q0, q1, qP, qK, qD⟩ := q; exact ⟨q0, q1, qP, kK.moved (u := U) (U := U.calling g mk a) (Vm.Alike.refl U.vm) qK, qD⟩, va_recv hK hPc (ci := 16) (q0 := 0) rfl rfl, fun U hU hW => ⟨rfl, by rw [hU], by rw [hU]; exact hPc, kK.moved hW.alike hKK, hDc.weaken (fun _ _ _ _ => trivial)⟩⟩ rfl rfl hl.1 rfl (lv_room (Nat.le_of_ble_eq_true rfl)) dL_law_338 ⟨(Nat.le_of_ble_eq_true rfl), (Nat.le_of_ble_eq_true rfl)⟩) hS (fun q _ h => hFc q h) hFc (fun r110 u111 t H1 locs ht hvm hw hB hz1 hk1 hS => ?_)
    obtain ⟨f112, hP1, hD1, hf113⟩ := hB
    rw [ht] at hP1
    obtain ⟨hP, hD⟩ := va_join (wr := [(ou, .inl (cy 2, 1, .inr (.inl f3)))]) (w1 := [(mm, .inr (16, f112))]) hP hD [0] [1] rfl rfl (by decide) (by decide) hk1 hFc hP1 hD1
    generalize H1 = H at hP hS ⊢
    have hP : va_P D vwCl [(ou, .inl (cy 2, 1, .inr (.inl f3))), (mm, .inr (16, f112))] H := hP
    have hD : va_D A [(ou, .inl (cy 2, 1, .inr (.inl f3))), (mm, .inr (16, f112))] := hD
    rcases hw with ⟨c114, rfl, rfl⟩ | ⟨c115, c116, rfl, rfl⟩ | ⟨c117, c118, c119, rfl, rfl⟩ | ⟨c120, c121, c122, rfl, rfl⟩ | ⟨c123, c124, c125, rfl, rfl⟩ | ⟨c126, c127, c128, rfl, rfl⟩ | ⟨c129, c130, c131, rfl, rfl⟩ | ⟨c132, c133, c134, rfl, rfl⟩ | ⟨c135, c136, c137, rfl, rfl⟩ | ⟨c138, c139, c140, rfl, rfl⟩ | ⟨c141, c142, c143, rfl, rfl⟩ | ⟨c144, c145, c146, rfl, rfl⟩ | ⟨c147, c148, c149, rfl, rfl⟩ | ⟨c150, c151, c152, rfl, rfl⟩
    · skip
      exact False.elim (by have e_c9 := i_le.mp c9; have e_c10 := mt i_eq.mpr c10; have e_c11 := i_le.mp c11; have e_c114 := i_lt.mp c114; have e_c8 := mt i_lt.mpr c8; have l_0 : (0 : Int32).toInt = 0 := (by decide); have l_1 : (4 : Int32).toInt = 4 := (by decide); have l_2 : (11 : Int32).toInt = 11 := (by decide); omega)
    · skip
      exact False.elim (by have e_c8 := mt i_lt.mpr c8; have e_c10 := mt i_eq.mpr c10; have e_c11 := i_le.mp c11; have e_c115 := mt i_lt.mpr c115; have e_c116 := i_lt.mp c116; have e_c9 := i_le.mp c9; have l_0 : (0 : Int32).toInt = 0 := (by decide); have l_1 : (4 : Int32).toInt = 4 := (by decide); have l_2 : (11 : Int32).toInt = 11 := (by decide); omega)
    · skip
      exact False.elim (by have e_c8 := mt i_lt.mpr c8; have e_c9 := i_le.mp c9; have e_c10 := mt i_eq.mpr c10; have e_c117 := i_eq.mp c117; have e_c118 := mt i_lt.mpr c118; have e_c119 := mt i_lt.mpr c119; have e_c11 := i_le.mp c11; have l_0 : (0 : Int32).toInt = 0 := (by decide); have l_1 : (4 : Int32).toInt = 4 := (by decide); have l_2 : (11 : Int32).toInt = 11 := (by decide); omega)
    · skip
      exact False.elim (by have e_c8 := mt i_lt.mpr c8; have e_c9 := i_le.mp c9; have e_c10 := mt i_eq.mpr c10; have e_c120 := i_eq.mp c120; have e_c121 := mt i_lt.mpr c121; have e_c122 := mt i_lt.mpr c122; have e_c11 := i_le.mp c11; have l_0 : (0 : Int32).toInt = 0 := (by decide); have l_1 : (1 : Int32).toInt = 1 := (by decide); have l_2 : (4 : Int32).toInt = 4 := (by decide); have l_3 : (11 : Int32).toInt = 11 := (by decide); omega)
    · skip
      exact False.elim (by have e_c8 := mt i_lt.mpr c8; have e_c9 := i_le.mp c9; have e_c10 := mt i_eq.mpr c10; have e_c123 := i_eq.mp c123; have e_c124 := mt i_lt.mpr c124; have e_c125 := mt i_lt.mpr c125; have e_c11 := i_le.mp c11; have l_0 : (0 : Int32).toInt = 0 := (by decide); have l_1 : (2 : Int32).toInt = 2 := (by decide); have l_2 : (4 : Int32).toInt = 4 := (by decide); have l_3 : (11 : Int32).toInt = 11 := (by decide); omega)
    · skip
      exact False.elim (by have e_c8 := mt i_lt.mpr c8; have e_c9 := i_le.mp c9; have e_c10 := mt i_eq.mpr c10; have e_c126 := i_eq.mp c126; have e_c127 := mt i_lt.mpr c127; have e_c128 := mt i_lt.mpr c128; have e_c11 := i_le.mp c11; have l_0 : (0 : Int32).toInt = 0 := (by decide); have l_1 : (3 : Int32).toInt = 3 := (by decide); have l_2 : (4 : Int32).toInt = 4 := (by decide); have l_3 : (11 : Int32).toInt = 11 := (by decide); omega)
    · skip
      refine lv_istore (lv' := [(6, .int 0), (5, .int 0), (4, .int 0), (3, .ref ou), (2, .ref mm), (1, .ref xx), (0, .ref b)]) hx hb dL_law_341 hl (by decide) rfl (fun ls hl => ?_)
      refine lv_aload_n hx hb dL_law_343 rfl (lv_at hl 4 rfl) ?_
      have hPc := hP.sub (ws' := [(mm, .inr (16, f112))]) [1] rfl
      have hDc := hD.sub (ws' := [(mm, .inr (16, f112))]) [1] (by decide) rfl
      have hFc := va_free (wc := [(mm, .inr (16, f112))]) hD hS hA [1] rfl
      refine va_calli (va_runV (As := []) (rest := []) ⟨hx, hb, hml, hown, hts⟩ (c_X13_thrown l D cy mm f112 0 hf113 H.size) (cwV 0 hts g_law_2 rfl rfl rfl (by decide +kernel) ⟨(Nat.le_of_ble_eq_true rfl), (Nat.le_of_ble_eq_true rfl)⟩) ⟨fun a U g mk q => by obtain ⟨q0, q1, qP, qK, qD⟩ := q; exact ⟨q0, q1, qP, kK.moved (u := U) (U := U.calling g mk a) (Vm.Alike.refl U.vm) qK, qD⟩, va_recv hK hPc (ci := 16) (q0 := 0) rfl rfl, fun U hU hW => ⟨rfl, by rw [hU], by rw [hU]; exact hPc, kK.moved hW.alike hKK, hDc.weaken (fun _ _ _ _ => trivial)⟩⟩ rfl rfl hl.1 rfl (lv_room (Nat.le_of_ble_eq_true rfl)) dL_law_344 ⟨(Nat.le_of_ble_eq_true rfl), (Nat.le_of_ble_eq_true rfl)⟩) hS (fun q _ h => hFc q h) hFc (fun r153 u154 t H1 locs ht hvm hw hB hz1 hk1 hS => ?_)
      obtain ⟨hP1, hD1⟩ := hB
      rw [ht] at hP1
      obtain ⟨hP, hD⟩ := va_join (wr := [(ou, .inl (cy 2, 1, .inr (.inl f3)))]) (w1 := [(mm, .inr (16, f112))]) hP hD [1] [0] rfl rfl (by decide) (by decide) hk1 hFc hP1 hD1
      generalize H1 = H at hP hS ⊢
      have hP : va_P D vwCl [(ou, .inl (cy 2, 1, .inr (.inl f3))), (mm, .inr (16, f112))] H := hP
      have hD : va_D A [(ou, .inl (cy 2, 1, .inr (.inl f3))), (mm, .inr (16, f112))] := hD
      rcases hw with rfl
      refine lv_iload hx hb dL_law_347 (lv_at hl 1 rfl) ?_
      refine lv_icmp_eq (tgt := 354) hx hb dL_law_349 (by decide) (fun _ => ?_) (fun c9 => absurd (by decide) c9)
      refine lv_iload hx hb dL_law_354 (lv_at hl 1 rfl) ?_
      refine lv_if_ne (tgt := 371) hx hb dL_law_356 (by decide) (fun c9 => absurd (by decide) c9) (fun _ => ?_)
      refine lv_aload_n hx hb dL_law_359 rfl (lv_at hl 3 rfl) ?_
      refine lv_iconst (v := 0) hx hb dL_law_360 (by decide) ?_
      refine va_lald hx hb hK hP 0 2 rfl rfl (by unfold vp_in; decide) dL_law_361 ?_
      rw [show f3 (0 : Int32).toNatClampNeg = (0 : Int64) from hf4]
      refine lv_iload hx hb dL_law_362 (lv_at hl 0 rfl) ?_
      refine lv_i2l (v := 0) hx hb dL_law_364 (by decide) ?_
      refine W.lcmp hx hb dL_law_365 ?_
      rw [show lg_cmp 0 0 = (0 : Int32) by decide]
      refine lv_if_eq (tgt := 371) hx hb dL_law_366 (by decide) (fun _ => ?_) (fun c9 => absurd (by decide) c9)
      refine lv_goto (tgt := 1572) hx hb dL_law_371 (by decide) ?_
      refine lv_iinc (v := 6) (lv' := [(4, .int 6), (6, .int 0), (5, .int 0), (3, .ref ou), (2, .ref mm), (1, .ref xx), (0, .ref b)]) hx hb dL_law_1572 hl (k := 2) rfl (by decide) (by decide) rfl (fun ls hl => ?_)
      refine lv_goto (tgt := 23) hx hb dL_law_1575 (by decide) ?_
      exact law_tail hst hx hb hr hml hown hts hX hbl hlocks hKK hTK hA hbA hAr (Nat.le_of_ble_eq_true rfl) (Nat.le_of_ble_eq_true rfl) hS (lv_sub hl [0, 6] rfl)
    · skip
      refine lv_istore (lv' := [(6, .int 0), (5, .int 0), (4, .int 0), (3, .ref ou), (2, .ref mm), (1, .ref xx), (0, .ref b)]) hx hb dL_law_341 hl (by decide) rfl (fun ls hl => ?_)
      refine lv_aload_n hx hb dL_law_343 rfl (lv_at hl 4 rfl) ?_
      have hPc := hP.sub (ws' := [(mm, .inr (16, f112))]) [1] rfl
      have hDc := hD.sub (ws' := [(mm, .inr (16, f112))]) [1] (by decide) rfl
      have hFc := va_free (wc := [(mm, .inr (16, f112))]) hD hS hA [1] rfl
      refine va_calli (va_runV (As := []) (rest := []) ⟨hx, hb, hml, hown, hts⟩ (c_X13_thrown l D cy mm f112 0 hf113 H.size) (cwV 0 hts g_law_2 rfl rfl rfl (by decide +kernel) ⟨(Nat.le_of_ble_eq_true rfl), (Nat.le_of_ble_eq_true rfl)⟩) ⟨fun a U g mk q => by obtain ⟨q0, q1, qP, qK, qD⟩ := q; exact ⟨q0, q1, qP, kK.moved (u := U) (U := U.calling g mk a) (Vm.Alike.refl U.vm) qK, qD⟩, va_recv hK hPc (ci := 16) (q0 := 0) rfl rfl, fun U hU hW => ⟨rfl, by rw [hU], by rw [hU]; exact hPc, kK.moved hW.alike hKK, hDc.weaken (fun _ _ _ _ => trivial)⟩⟩ rfl rfl hl.1 rfl (lv_room (Nat.le_of_ble_eq_true rfl)) dL_law_344 ⟨(Nat.le_of_ble_eq_true rfl), (Nat.le_of_ble_eq_true rfl)⟩) hS (fun q _ h => hFc q h) hFc (fun r155 u156 t H1 locs ht hvm hw hB hz1 hk1 hS => ?_)
      obtain ⟨hP1, hD1⟩ := hB
      rw [ht] at hP1
      obtain ⟨hP, hD⟩ := va_join (wr := [(ou, .inl (cy 2, 1, .inr (.inl f3)))]) (w1 := [(mm, .inr (16, f112))]) hP hD [1] [0] rfl rfl (by decide) (by decide) hk1 hFc hP1 hD1
      generalize H1 = H at hP hS ⊢
      have hP : va_P D vwCl [(ou, .inl (cy 2, 1, .inr (.inl f3))), (mm, .inr (16, f112))] H := hP
      have hD : va_D A [(ou, .inl (cy 2, 1, .inr (.inl f3))), (mm, .inr (16, f112))] := hD
      rcases hw with rfl
      refine lv_iload hx hb dL_law_347 (lv_at hl 1 rfl) ?_
      refine lv_icmp_eq (tgt := 354) hx hb dL_law_349 (by decide) (fun _ => ?_) (fun c9 => absurd (by decide) c9)
      refine lv_iload hx hb dL_law_354 (lv_at hl 1 rfl) ?_
      refine lv_if_ne (tgt := 371) hx hb dL_law_356 (by decide) (fun c9 => absurd (by decide) c9) (fun _ => ?_)
      refine lv_aload_n hx hb dL_law_359 rfl (lv_at hl 3 rfl) ?_
      refine lv_iconst (v := 0) hx hb dL_law_360 (by decide) ?_
      refine va_lald hx hb hK hP 0 2 rfl rfl (by unfold vp_in; decide) dL_law_361 ?_
      rw [show f3 (0 : Int32).toNatClampNeg = (0 : Int64) from hf4]
      refine lv_iload hx hb dL_law_362 (lv_at hl 0 rfl) ?_
      refine lv_i2l (v := 0) hx hb dL_law_364 (by decide) ?_
      refine W.lcmp hx hb dL_law_365 ?_
      rw [show lg_cmp 0 0 = (0 : Int32) by decide]
      refine lv_if_eq (tgt := 371) hx hb dL_law_366 (by decide) (fun _ => ?_) (fun c9 => absurd (by decide) c9)
      refine lv_goto (tgt := 1572) hx hb dL_law_371 (by decide) ?_
      refine lv_iinc (v := 6) (lv' := [(4, .int 6), (6, .int 0), (5, .int 0), (3, .ref ou), (2, .ref mm), (1, .ref xx), (0, .ref b)]) hx hb dL_law_1572 hl (k := 2) rfl (by decide) (by decide) rfl (fun ls hl => ?_)
      refine lv_goto (tgt := 23) hx hb dL_law_1575 (by decide) ?_
      exact law_tail hst hx hb hr hml hown hts hX hbl hlocks hKK hTK hA hbA hAr (Nat.le_of_ble_eq_true rfl) (Nat.le_of_ble_eq_true rfl) hS (lv_sub hl [0, 6] rfl)
    · skip
      refine lv_istore (lv' := [(6, .int 0), (5, .int 0), (4, .int 0), (3, .ref ou), (2, .ref mm), (1, .ref xx), (0, .ref b)]) hx hb dL_law_341 hl (by decide) rfl (fun ls hl => ?_)
      refine lv_aload_n hx hb dL_law_343 rfl (lv_at hl 4 rfl) ?_
      have hPc := hP.sub (ws' := [(mm, .inr (16, f112))]) [1] rfl
      have hDc := hD.sub (ws' := [(mm, .inr (16, f112))]) [1] (by decide) rfl
      have hFc := va_free (wc := [(mm, .inr (16, f112))]) hD hS hA [1] rfl
      refine va_calli (va_runV (As := []) (rest := []) ⟨hx, hb, hml, hown, hts⟩ (c_X13_thrown l D cy mm f112 0 hf113 H.size) (cwV 0 hts g_law_2 rfl rfl rfl (by decide +kernel) ⟨(Nat.le_of_ble_eq_true rfl), (Nat.le_of_ble_eq_true rfl)⟩) ⟨fun a U g mk q => by obtain ⟨q0, q1, qP, qK, qD⟩ := q; exact ⟨q0, q1, qP, kK.moved (u := U) (U := U.calling g mk a) (Vm.Alike.refl U.vm) qK, qD⟩, va_recv hK hPc (ci := 16) (q0 := 0) rfl rfl, fun U hU hW => ⟨rfl, by rw [hU], by rw [hU]; exact hPc, kK.moved hW.alike hKK, hDc.weaken (fun _ _ _ _ => trivial)⟩⟩ rfl rfl hl.1 rfl (lv_room (Nat.le_of_ble_eq_true rfl)) dL_law_344 ⟨(Nat.le_of_ble_eq_true rfl), (Nat.le_of_ble_eq_true rfl)⟩) hS (fun q _ h => hFc q h) hFc (fun r157 u158 t H1 locs ht hvm hw hB hz1 hk1 hS => ?_)
      obtain ⟨hP1, hD1⟩ := hB
      rw [ht] at hP1
      obtain ⟨hP, hD⟩ := va_join (wr := [(ou, .inl (cy 2, 1, .inr (.inl f3)))]) (w1 := [(mm, .inr (16, f112))]) hP hD [1] [0] rfl rfl (by decide) (by decide) hk1 hFc hP1 hD1
      generalize H1 = H at hP hS ⊢
      have hP : va_P D vwCl [(ou, .inl (cy 2, 1, .inr (.inl f3))), (mm, .inr (16, f112))] H := hP
      have hD : va_D A [(ou, .inl (cy 2, 1, .inr (.inl f3))), (mm, .inr (16, f112))] := hD
      rcases hw with rfl
      refine lv_iload hx hb dL_law_347 (lv_at hl 1 rfl) ?_
      refine lv_icmp_eq (tgt := 354) hx hb dL_law_349 (by decide) (fun _ => ?_) (fun c9 => absurd (by decide) c9)
      refine lv_iload hx hb dL_law_354 (lv_at hl 1 rfl) ?_
      refine lv_if_ne (tgt := 371) hx hb dL_law_356 (by decide) (fun c9 => absurd (by decide) c9) (fun _ => ?_)
      refine lv_aload_n hx hb dL_law_359 rfl (lv_at hl 3 rfl) ?_
      refine lv_iconst (v := 0) hx hb dL_law_360 (by decide) ?_
      refine va_lald hx hb hK hP 0 2 rfl rfl (by unfold vp_in; decide) dL_law_361 ?_
      rw [show f3 (0 : Int32).toNatClampNeg = (0 : Int64) from hf4]
      refine lv_iload hx hb dL_law_362 (lv_at hl 0 rfl) ?_
      refine lv_i2l (v := 0) hx hb dL_law_364 (by decide) ?_
      refine W.lcmp hx hb dL_law_365 ?_
      rw [show lg_cmp 0 0 = (0 : Int32) by decide]
      refine lv_if_eq (tgt := 371) hx hb dL_law_366 (by decide) (fun _ => ?_) (fun c9 => absurd (by decide) c9)
      refine lv_goto (tgt := 1572) hx hb dL_law_371 (by decide) ?_
      refine lv_iinc (v := 6) (lv' := [(4, .int 6), (6, .int 0), (5, .int 0), (3, .ref ou), (2, .ref mm), (1, .ref xx), (0, .ref b)]) hx hb dL_law_1572 hl (k := 2) rfl (by decide) (by decide) rfl (fun ls hl => ?_)
      refine lv_goto (tgt := 23) hx hb dL_law_1575 (by decide) ?_
      exact law_tail hst hx hb hr hml hown hts hX hbl hlocks hKK hTK hA hbA hAr (Nat.le_of_ble_eq_true rfl) (Nat.le_of_ble_eq_true rfl) hS (lv_sub hl [0, 6] rfl)
    · skip
      refine lv_istore (lv' := [(6, .int 0), (5, .int 0), (4, .int 0), (3, .ref ou), (2, .ref mm), (1, .ref xx), (0, .ref b)]) hx hb dL_law_341 hl (by decide) rfl (fun ls hl => ?_)
      refine lv_aload_n hx hb dL_law_343 rfl (lv_at hl 4 rfl) ?_
      have hPc := hP.sub (ws' := [(mm, .inr (16, f112))]) [1] rfl
      have hDc := hD.sub (ws' := [(mm, .inr (16, f112))]) [1] (by decide) rfl
      have hFc := va_free (wc := [(mm, .inr (16, f112))]) hD hS hA [1] rfl
      refine va_calli (va_runV (As := []) (rest := []) ⟨hx, hb, hml, hown, hts⟩ (c_X13_thrown l D cy mm f112 0 hf113 H.size) (cwV 0 hts g_law_2 rfl rfl rfl (by decide +kernel) ⟨(Nat.le_of_ble_eq_true rfl), (Nat.le_of_ble_eq_true rfl)⟩) ⟨fun a U g mk q => by obtain ⟨q0, q1, qP, qK, qD⟩ := q; exact ⟨q0, q1, qP, kK.moved (u := U) (U := U.calling g mk a) (Vm.Alike.refl U.vm) qK, qD⟩, va_recv hK hPc (ci := 16) (q0 := 0) rfl rfl, fun U hU hW => ⟨rfl, by rw [hU], by rw [hU]; exact hPc, kK.moved hW.alike hKK, hDc.weaken (fun _ _ _ _ => trivial)⟩⟩ rfl rfl hl.1 rfl (lv_room (Nat.le_of_ble_eq_true rfl)) dL_law_344 ⟨(Nat.le_of_ble_eq_true rfl), (Nat.le_of_ble_eq_true rfl)⟩) hS (fun q _ h => hFc q h) hFc (fun r159 u160 t H1 locs ht hvm hw hB hz1 hk1 hS => ?_)
      obtain ⟨hP1, hD1⟩ := hB
      rw [ht] at hP1
      obtain ⟨hP, hD⟩ := va_join (wr := [(ou, .inl (cy 2, 1, .inr (.inl f3)))]) (w1 := [(mm, .inr (16, f112))]) hP hD [1] [0] rfl rfl (by decide) (by decide) hk1 hFc hP1 hD1
      generalize H1 = H at hP hS ⊢
      have hP : va_P D vwCl [(ou, .inl (cy 2, 1, .inr (.inl f3))), (mm, .inr (16, f112))] H := hP
      have hD : va_D A [(ou, .inl (cy 2, 1, .inr (.inl f3))), (mm, .inr (16, f112))] := hD
      rcases hw with rfl
      refine lv_iload hx hb dL_law_347 (lv_at hl 1 rfl) ?_
      refine lv_icmp_eq (tgt := 354) hx hb dL_law_349 (by decide) (fun _ => ?_) (fun c9 => absurd (by decide) c9)
      refine lv_iload hx hb dL_law_354 (lv_at hl 1 rfl) ?_
      refine lv_if_ne (tgt := 371) hx hb dL_law_356 (by decide) (fun c9 => absurd (by decide) c9) (fun _ => ?_)
      refine lv_aload_n hx hb dL_law_359 rfl (lv_at hl 3 rfl) ?_
      refine lv_iconst (v := 0) hx hb dL_law_360 (by decide) ?_
      refine va_lald hx hb hK hP 0 2 rfl rfl (by unfold vp_in; decide) dL_law_361 ?_
      rw [show f3 (0 : Int32).toNatClampNeg = (0 : Int64) from hf4]
      refine lv_iload hx hb dL_law_362 (lv_at hl 0 rfl) ?_
      refine lv_i2l (v := 0) hx hb dL_law_364 (by decide) ?_
      refine W.lcmp hx hb dL_law_365 ?_
      rw [show lg_cmp 0 0 = (0 : Int32) by decide]
      refine lv_if_eq (tgt := 371) hx hb dL_law_366 (by decide) (fun _ => ?_) (fun c9 => absurd (by decide) c9)
      refine lv_goto (tgt := 1572) hx hb dL_law_371 (by decide) ?_
      refine lv_iinc (v := 6) (lv' := [(4, .int 6), (6, .int 0), (5, .int 0), (3, .ref ou), (2, .ref mm), (1, .ref xx), (0, .ref b)]) hx hb dL_law_1572 hl (k := 2) rfl (by decide) (by decide) rfl (fun ls hl => ?_)
      refine lv_goto (tgt := 23) hx hb dL_law_1575 (by decide) ?_
      exact law_tail hst hx hb hr hml hown hts hX hbl hlocks hKK hTK hA hbA hAr (Nat.le_of_ble_eq_true rfl) (Nat.le_of_ble_eq_true rfl) hS (lv_sub hl [0, 6] rfl)
    · skip
      refine lv_istore (lv' := [(6, .int 0), (5, .int 0), (4, .int 0), (3, .ref ou), (2, .ref mm), (1, .ref xx), (0, .ref b)]) hx hb dL_law_341 hl (by decide) rfl (fun ls hl => ?_)
      refine lv_aload_n hx hb dL_law_343 rfl (lv_at hl 4 rfl) ?_
      have hPc := hP.sub (ws' := [(mm, .inr (16, f112))]) [1] rfl
      have hDc := hD.sub (ws' := [(mm, .inr (16, f112))]) [1] (by decide) rfl
      have hFc := va_free (wc := [(mm, .inr (16, f112))]) hD hS hA [1] rfl
      refine va_calli (va_runV (As := []) (rest := []) ⟨hx, hb, hml, hown, hts⟩ (c_X13_thrown l D cy mm f112 0 hf113 H.size) (cwV 0 hts g_law_2 rfl rfl rfl (by decide +kernel) ⟨(Nat.le_of_ble_eq_true rfl), (Nat.le_of_ble_eq_true rfl)⟩) ⟨fun a U g mk q => by obtain ⟨q0, q1, qP, qK, qD⟩ := q; exact ⟨q0, q1, qP, kK.moved (u := U) (U := U.calling g mk a) (Vm.Alike.refl U.vm) qK, qD⟩, va_recv hK hPc (ci := 16) (q0 := 0) rfl rfl, fun U hU hW => ⟨rfl, by rw [hU], by rw [hU]; exact hPc, kK.moved hW.alike hKK, hDc.weaken (fun _ _ _ _ => trivial)⟩⟩ rfl rfl hl.1 rfl (lv_room (Nat.le_of_ble_eq_true rfl)) dL_law_344 ⟨(Nat.le_of_ble_eq_true rfl), (Nat.le_of_ble_eq_true rfl)⟩) hS (fun q _ h => hFc q h) hFc (fun r161 u162 t H1 locs ht hvm hw hB hz1 hk1 hS => ?_)
      obtain ⟨hP1, hD1⟩ := hB
      rw [ht] at hP1
      obtain ⟨hP, hD⟩ := va_join (wr := [(ou, .inl (cy 2, 1, .inr (.inl f3)))]) (w1 := [(mm, .inr (16, f112))]) hP hD [1] [0] rfl rfl (by decide) (by decide) hk1 hFc hP1 hD1
      generalize H1 = H at hP hS ⊢
      have hP : va_P D vwCl [(ou, .inl (cy 2, 1, .inr (.inl f3))), (mm, .inr (16, f112))] H := hP
      have hD : va_D A [(ou, .inl (cy 2, 1, .inr (.inl f3))), (mm, .inr (16, f112))] := hD
      rcases hw with rfl
      refine lv_iload hx hb dL_law_347 (lv_at hl 1 rfl) ?_
      refine lv_icmp_eq (tgt := 354) hx hb dL_law_349 (by decide) (fun _ => ?_) (fun c9 => absurd (by decide) c9)
      refine lv_iload hx hb dL_law_354 (lv_at hl 1 rfl) ?_
      refine lv_if_ne (tgt := 371) hx hb dL_law_356 (by decide) (fun c9 => absurd (by decide) c9) (fun _ => ?_)
      refine lv_aload_n hx hb dL_law_359 rfl (lv_at hl 3 rfl) ?_
      refine lv_iconst (v := 0) hx hb dL_law_360 (by decide) ?_
      refine va_lald hx hb hK hP 0 2 rfl rfl (by unfold vp_in; decide) dL_law_361 ?_
      rw [show f3 (0 : Int32).toNatClampNeg = (0 : Int64) from hf4]
      refine lv_iload hx hb dL_law_362 (lv_at hl 0 rfl) ?_
      refine lv_i2l (v := 0) hx hb dL_law_364 (by decide) ?_
      refine W.lcmp hx hb dL_law_365 ?_
      rw [show lg_cmp 0 0 = (0 : Int32) by decide]
      refine lv_if_eq (tgt := 371) hx hb dL_law_366 (by decide) (fun _ => ?_) (fun c9 => absurd (by decide) c9)
      refine lv_goto (tgt := 1572) hx hb dL_law_371 (by decide) ?_
      refine lv_iinc (v := 6) (lv' := [(4, .int 6), (6, .int 0), (5, .int 0), (3, .ref ou), (2, .ref mm), (1, .ref xx), (0, .ref b)]) hx hb dL_law_1572 hl (k := 2) rfl (by decide) (by decide) rfl (fun ls hl => ?_)
      refine lv_goto (tgt := 23) hx hb dL_law_1575 (by decide) ?_
      exact law_tail hst hx hb hr hml hown hts hX hbl hlocks hKK hTK hA hbA hAr (Nat.le_of_ble_eq_true rfl) (Nat.le_of_ble_eq_true rfl) hS (lv_sub hl [0, 6] rfl)
    · skip
      refine lv_istore (lv' := [(6, .int 0), (5, .int 0), (4, .int 0), (3, .ref ou), (2, .ref mm), (1, .ref xx), (0, .ref b)]) hx hb dL_law_341 hl (by decide) rfl (fun ls hl => ?_)
      refine lv_aload_n hx hb dL_law_343 rfl (lv_at hl 4 rfl) ?_
      have hPc := hP.sub (ws' := [(mm, .inr (16, f112))]) [1] rfl
      have hDc := hD.sub (ws' := [(mm, .inr (16, f112))]) [1] (by decide) rfl
      have hFc := va_free (wc := [(mm, .inr (16, f112))]) hD hS hA [1] rfl
      refine va_calli (va_runV (As := []) (rest := []) ⟨hx, hb, hml, hown, hts⟩ (c_X13_thrown l D cy mm f112 0 hf113 H.size) (cwV 0 hts g_law_2 rfl rfl rfl (by decide +kernel) ⟨(Nat.le_of_ble_eq_true rfl), (Nat.le_of_ble_eq_true rfl)⟩) ⟨fun a U g mk q => by obtain ⟨q0, q1, qP, qK, qD⟩ := q; exact ⟨q0, q1, qP, kK.moved (u := U) (U := U.calling g mk a) (Vm.Alike.refl U.vm) qK, qD⟩, va_recv hK hPc (ci := 16) (q0 := 0) rfl rfl, fun U hU hW => ⟨rfl, by rw [hU], by rw [hU]; exact hPc, kK.moved hW.alike hKK, hDc.weaken (fun _ _ _ _ => trivial)⟩⟩ rfl rfl hl.1 rfl (lv_room (Nat.le_of_ble_eq_true rfl)) dL_law_344 ⟨(Nat.le_of_ble_eq_true rfl), (Nat.le_of_ble_eq_true rfl)⟩) hS (fun q _ h => hFc q h) hFc (fun r163 u164 t H1 locs ht hvm hw hB hz1 hk1 hS => ?_)
      obtain ⟨hP1, hD1⟩ := hB
      rw [ht] at hP1
      obtain ⟨hP, hD⟩ := va_join (wr := [(ou, .inl (cy 2, 1, .inr (.inl f3)))]) (w1 := [(mm, .inr (16, f112))]) hP hD [1] [0] rfl rfl (by decide) (by decide) hk1 hFc hP1 hD1
      generalize H1 = H at hP hS ⊢
      have hP : va_P D vwCl [(ou, .inl (cy 2, 1, .inr (.inl f3))), (mm, .inr (16, f112))] H := hP
      have hD : va_D A [(ou, .inl (cy 2, 1, .inr (.inl f3))), (mm, .inr (16, f112))] := hD
      rcases hw with rfl
      refine lv_iload hx hb dL_law_347 (lv_at hl 1 rfl) ?_
      refine lv_icmp_eq (tgt := 354) hx hb dL_law_349 (by decide) (fun _ => ?_) (fun c9 => absurd (by decide) c9)
      refine lv_iload hx hb dL_law_354 (lv_at hl 1 rfl) ?_
      refine lv_if_ne (tgt := 371) hx hb dL_law_356 (by decide) (fun c9 => absurd (by decide) c9) (fun _ => ?_)
      refine lv_aload_n hx hb dL_law_359 rfl (lv_at hl 3 rfl) ?_
      refine lv_iconst (v := 0) hx hb dL_law_360 (by decide) ?_
      refine va_lald hx hb hK hP 0 2 rfl rfl (by unfold vp_in; decide) dL_law_361 ?_
      rw [show f3 (0 : Int32).toNatClampNeg = (0 : Int64) from hf4]
      refine lv_iload hx hb dL_law_362 (lv_at hl 0 rfl) ?_
      refine lv_i2l (v := 0) hx hb dL_law_364 (by decide) ?_
      refine W.lcmp hx hb dL_law_365 ?_
      rw [show lg_cmp 0 0 = (0 : Int32) by decide]
      refine lv_if_eq (tgt := 371) hx hb dL_law_366 (by decide) (fun _ => ?_) (fun c9 => absurd (by decide) c9)
      refine lv_goto (tgt := 1572) hx hb dL_law_371 (by decide) ?_
      refine lv_iinc (v := 6) (lv' := [(4, .int 6), (6, .int 0), (5, .int 0), (3, .ref ou), (2, .ref mm), (1, .ref xx), (0, .ref b)]) hx hb dL_law_1572 hl (k := 2) rfl (by decide) (by decide) rfl (fun ls hl => ?_)
      refine lv_goto (tgt := 23) hx hb dL_law_1575 (by decide) ?_
      exact law_tail hst hx hb hr hml hown hts hX hbl hlocks hKK hTK hA hbA hAr (Nat.le_of_ble_eq_true rfl) (Nat.le_of_ble_eq_true rfl) hS (lv_sub hl [0, 6] rfl)
    · skip
      refine lv_istore (lv' := [(6, .int 0), (5, .int 0), (4, .int 0), (3, .ref ou), (2, .ref mm), (1, .ref xx), (0, .ref b)]) hx hb dL_law_341 hl (by decide) rfl (fun ls hl => ?_)
      refine lv_aload_n hx hb dL_law_343 rfl (lv_at hl 4 rfl) ?_
      have hPc := hP.sub (ws' := [(mm, .inr (16, f112))]) [1] rfl
      have hDc := hD.sub (ws' := [(mm, .inr (16, f112))]) [1] (by decide) rfl
      have hFc := va_free (wc := [(mm, .inr (16, f112))]) hD hS hA [1] rfl
      refine va_calli (va_runV (As := []) (rest := []) ⟨hx, hb, hml, hown, hts⟩ (c_X13_thrown l D cy mm f112 0 hf113 H.size) (cwV 0 hts g_law_2 rfl rfl rfl (by decide +kernel) ⟨(Nat.le_of_ble_eq_true rfl), (Nat.le_of_ble_eq_true rfl)⟩) ⟨fun a U g mk q => by obtain ⟨q0, q1, qP, qK, qD⟩ := q; exact ⟨q0, q1, qP, kK.moved (u := U) (U := U.calling g mk a) (Vm.Alike.refl U.vm) qK, qD⟩, va_recv hK hPc (ci := 16) (q0 := 0) rfl rfl, fun U hU hW => ⟨rfl, by rw [hU], by rw [hU]; exact hPc, kK.moved hW.alike hKK, hDc.weaken (fun _ _ _ _ => trivial)⟩⟩ rfl rfl hl.1 rfl (lv_room (Nat.le_of_ble_eq_true rfl)) dL_law_344 ⟨(Nat.le_of_ble_eq_true rfl), (Nat.le_of_ble_eq_true rfl)⟩) hS (fun q _ h => hFc q h) hFc (fun r165 u166 t H1 locs ht hvm hw hB hz1 hk1 hS => ?_)
      obtain ⟨hP1, hD1⟩ := hB
      rw [ht] at hP1
      obtain ⟨hP, hD⟩ := va_join (wr := [(ou, .inl (cy 2, 1, .inr (.inl f3)))]) (w1 := [(mm, .inr (16, f112))]) hP hD [1] [0] rfl rfl (by decide) (by decide) hk1 hFc hP1 hD1
      generalize H1 = H at hP hS ⊢
      have hP : va_P D vwCl [(ou, .inl (cy 2, 1, .inr (.inl f3))), (mm, .inr (16, f112))] H := hP
      have hD : va_D A [(ou, .inl (cy 2, 1, .inr (.inl f3))), (mm, .inr (16, f112))] := hD
      rcases hw with rfl
      refine lv_iload hx hb dL_law_347 (lv_at hl 1 rfl) ?_
      refine lv_icmp_eq (tgt := 354) hx hb dL_law_349 (by decide) (fun _ => ?_) (fun c9 => absurd (by decide) c9)
      refine lv_iload hx hb dL_law_354 (lv_at hl 1 rfl) ?_
      refine lv_if_ne (tgt := 371) hx hb dL_law_356 (by decide) (fun c9 => absurd (by decide) c9) (fun _ => ?_)
      refine lv_aload_n hx hb dL_law_359 rfl (lv_at hl 3 rfl) ?_
      refine lv_iconst (v := 0) hx hb dL_law_360 (by decide) ?_
      refine va_lald hx hb hK hP 0 2 rfl rfl (by unfold vp_in; decide) dL_law_361 ?_
      rw [show f3 (0 : Int32).toNatClampNeg = (0 : Int64) from hf4]
      refine lv_iload hx hb dL_law_362 (lv_at hl 0 rfl) ?_
      refine lv_i2l (v := 0) hx hb dL_law_364 (by decide) ?_
      refine W.lcmp hx hb dL_law_365 ?_
      rw [show lg_cmp 0 0 = (0 : Int32) by decide]
      refine lv_if_eq (tgt := 371) hx hb dL_law_366 (by decide) (fun _ => ?_) (fun c9 => absurd (by decide) c9)
      refine lv_goto (tgt := 1572) hx hb dL_law_371 (by decide) ?_
      refine lv_iinc (v := 6) (lv' := [(4, .int 6), (6, .int 0), (5, .int 0), (3, .ref ou), (2, .ref mm), (1, .ref xx), (0, .ref b)]) hx hb dL_law_1572 hl (k := 2) rfl (by decide) (by decide) rfl (fun ls hl => ?_)
      refine lv_goto (tgt := 23) hx hb dL_law_1575 (by decide) ?_
      exact law_tail hst hx hb hr hml hown hts hX hbl hlocks hKK hTK hA hbA hAr (Nat.le_of_ble_eq_true rfl) (Nat.le_of_ble_eq_true rfl) hS (lv_sub hl [0, 6] rfl)
    · skip
      exact False.elim (by have e_c8 := mt i_lt.mpr c8; have e_c9 := i_le.mp c9; have e_c11 := i_le.mp c11; have e_c150 := i_eq.mp c150; have e_c151 := mt i_lt.mpr c151; have e_c152 := mt i_lt.mpr c152; have e_c10 := mt i_eq.mpr c10; have l_0 : (0 : Int32).toInt = 0 := (by decide); have l_1 : (4 : Int32).toInt = 4 := (by decide); have l_2 : (11 : Int32).toInt = 11 := (by decide); omega)
  · skip
    refine lv_istore (lv' := [(5, .int 0), (4, .int 0), (3, .ref ou), (2, .ref mm), (1, .ref xx), (0, .ref b)]) hx hb dL_law_329 hl (by decide) rfl (fun ls hl => ?_)
    refine lv_aload_n hx hb dL_law_331 rfl (lv_at hl 3 rfl) ?_
    refine lv_aload_n hx hb dL_law_332 rfl (lv_at hl 5 rfl) ?_
    refine lv_iload hx hb dL_law_333 (lv_at hl 1 rfl) ?_
    refine lv_iconst (v := 1) hx hb dL_law_335 (by decide) ?_
    refine lv_iadd hx hb dL_law_336 ?_
    rw [show (0 : Int32) + 1 = 1 by decide]
    refine va_sld hx hb hX hbl hbA hS (by unfold vp_in; decide) dL_law_337 ?_
    rw [show (1 : Int32).toNatClampNeg = 1 from rfl]
    have hPc := hP.sub (ws' := [(mm, .inr (16, [.int 0, .ref n1, .int 0, .int 0, .int 0, .ref n3, .ref n5, .ref n7, .ref n9, .ref n11, .int 0, .int 0, .int 0, .int 0, .int 0, .int 0, .int 0, .int 0, .int 0, .int 0, .ref n13, .ref n15, .ref n17, .ref n19, .ref n21, .ref n23, .ref n25, .ref n27, .ref n29, .ref n31, .ref n33, .ref n35, .ref n37, .ref n39, .ref n41, .ref n43, .ref n45, .ref n47, .ref n49, .ref n51, .int 0, .int 0, .int 0, .ref n53, .ref n55, .ref n57, .int 0, .int 0, .int 0, .int 0, .ref n59, .ref n61, .ref n63, .int 0, .ref n65, .int 0, .ref n67, .ref n69, .int 0, .ref n71, .ref n73, .int 0, .int 0, .int 0, .ref n75, .ref n77, .int 0, .int 0, .ref n79, .int 0, .int 0, .int 0, .int 0, .ref n81, .ref n83, .ref n85, .ref n87, .ref n89, .ref n91, .ref n93, .ref n95, .ref n97, .ref n99, .ref n101, .ref n103, .int 0, .ref n105, .ref n107, .int 0, .int 0, .ref n109, .ref n111, .int 0, .ref n113, .int 0, .ref n115, .ref n117, .ref n119, .ref n121, .ref n123, .int 0, .ref n125, .ref n127, .int 0, .int 0, .ref n129, .int (-1), .int 0, .int 0, .int 0, .long 0, .ref n131, .long 0, .int 0, .int 0, .ref n133, .ref n135, .ref n137, .ref n139, .ref n141, .ref n143, .ref n145, .ref n147, .ref n149, .int 0, .int 0]))]) [0] rfl
    have hDc := hD.sub (ws' := [(mm, .inr (16, [.int 0, .ref n1, .int 0, .int 0, .int 0, .ref n3, .ref n5, .ref n7, .ref n9, .ref n11, .int 0, .int 0, .int 0, .int 0, .int 0, .int 0, .int 0, .int 0, .int 0, .int 0, .ref n13, .ref n15, .ref n17, .ref n19, .ref n21, .ref n23, .ref n25, .ref n27, .ref n29, .ref n31, .ref n33, .ref n35, .ref n37, .ref n39, .ref n41, .ref n43, .ref n45, .ref n47, .ref n49, .ref n51, .int 0, .int 0, .int 0, .ref n53, .ref n55, .ref n57, .int 0, .int 0, .int 0, .int 0, .ref n59, .ref n61, .ref n63, .int 0, .ref n65, .int 0, .ref n67, .ref n69, .int 0, .ref n71, .ref n73, .int 0, .int 0, .int 0, .ref n75, .ref n77, .int 0, .int 0, .ref n79, .int 0, .int 0, .int 0, .int 0, .ref n81, .ref n83, .ref n85, .ref n87, .ref n89, .ref n91, .ref n93, .ref n95, .ref n97, .ref n99, .ref n101, .ref n103, .int 0, .ref n105, .ref n107, .int 0, .int 0, .ref n109, .ref n111, .int 0, .ref n113, .int 0, .ref n115, .ref n117, .ref n119, .ref n121, .ref n123, .int 0, .ref n125, .ref n127, .int 0, .int 0, .ref n129, .int (-1), .int 0, .int 0, .int 0, .long 0, .ref n131, .long 0, .int 0, .int 0, .ref n133, .ref n135, .ref n137, .ref n139, .ref n141, .ref n143, .ref n145, .ref n147, .ref n149, .int 0, .int 0]))]) [0] (by decide) rfl
    have hFc := va_free (wc := [(mm, .inr (16, [.int 0, .ref n1, .int 0, .int 0, .int 0, .ref n3, .ref n5, .ref n7, .ref n9, .ref n11, .int 0, .int 0, .int 0, .int 0, .int 0, .int 0, .int 0, .int 0, .int 0, .int 0, .ref n13, .ref n15, .ref n17, .ref n19, .ref n21, .ref n23, .ref n25, .ref n27, .ref n29, .ref n31, .ref n33, .ref n35, .ref n37, .ref n39, .ref n41, .ref n43, .ref n45, .ref n47, .ref n49, .ref n51, .int 0, .int 0, .int 0, .ref n53, .ref n55, .ref n57, .int 0, .int 0, .int 0, .int 0, .ref n59, .ref n61, .ref n63, .int 0, .ref n65, .int 0, .ref n67, .ref n69, .int 0, .ref n71, .ref n73, .int 0, .int 0, .int 0, .ref n75, .ref n77, .int 0, .int 0, .ref n79, .int 0, .int 0, .int 0, .int 0, .ref n81, .ref n83, .ref n85, .ref n87, .ref n89, .ref n91, .ref n93, .ref n95, .ref n97, .ref n99, .ref n101, .ref n103, .int 0, .ref n105, .ref n107, .int 0, .int 0, .ref n109, .ref n111, .int 0, .ref n113, .int 0, .ref n115, .ref n117, .ref n119, .ref n121, .ref n123, .int 0, .ref n125, .ref n127, .int 0, .int 0, .ref n129, .int (-1), .int 0, .int 0, .int 0, .long 0, .ref n131, .long 0, .int 0, .int 0, .ref n133, .ref n135, .ref n137, .ref n139, .ref n141, .ref n143, .ref n145, .ref n147, .ref n149, .int 0, .int 0]))]) hD hS hA [0] rfl
    refine va_calli (va_runV (As := [.int (xs 1)]) (rest := []) ⟨hx, hb, hml, hown, hts⟩ (c_X13_count l D cy mm n1 n3 n5 n7 n9 n11 n13 n15 n17 n19 n21 n23 n25 n27 n29 n31 n33 n35 n37 n39 n41 n43 n45 n47 n49 n51 n53 n55 n57 n59 n61 n63 n65 n67 n69 n71 n73 n75 n77 n79 n81 n83 n85 n87 n89 n91 n93 n95 n97 n99 n101 n103 n105 n107 n109 n111 n113 n115 n117 n119 n121 n123 n125 n127 n129 n131 n133 n135 n137 n139 n141 n143 n145 n147 n149 ((xs 1)) H.size) (cwV 1 hts g_law_10 rfl rfl rfl (by decide +kernel) ⟨(Nat.le_of_ble_eq_true rfl), (Nat.le_of_ble_eq_true rfl)⟩) ⟨fun a U g mk q => by obtain ⟨q0, q1, qP, qK, qD⟩ := q; exact ⟨q0, q1, qP, kK.moved (u := U) (U := U.calling g mk a) (Vm.Alike.refl U.vm) qK, qD⟩, va_recv hK hPc (ci := 16) (q0 := 0) rfl rfl, fun U hU hW => ⟨rfl, by rw [hU], by rw [hU]; exact hPc, kK.moved hW.alike hKK, hDc.weaken (fun _ _ _ _ => trivial)⟩⟩ rfl rfl hl.1 rfl (lv_room (Nat.le_of_ble_eq_true rfl)) dL_law_338 ⟨(Nat.le_of_ble_eq_true rfl), (Nat.le_of_ble_eq_true rfl)⟩) hS (fun q _ h => hFc q h) hFc (fun r167 u168 t H1 locs ht hvm hw hB hz1 hk1 hS => ?_)
    obtain ⟨f169, hP1, hD1, hf170⟩ := hB
    rw [ht] at hP1
    obtain ⟨hP, hD⟩ := va_join (wr := [(ou, .inl (cy 2, 1, .inr (.inl f3)))]) (w1 := [(mm, .inr (16, f169))]) hP hD [0] [1] rfl rfl (by decide) (by decide) hk1 hFc hP1 hD1
    generalize H1 = H at hP hS ⊢
    have hP : va_P D vwCl [(ou, .inl (cy 2, 1, .inr (.inl f3))), (mm, .inr (16, f169))] H := hP
    have hD : va_D A [(ou, .inl (cy 2, 1, .inr (.inl f3))), (mm, .inr (16, f169))] := hD
    rcases hw with ⟨c171, rfl, rfl⟩ | ⟨c172, c173, rfl, rfl⟩ | ⟨c174, c175, c176, rfl, rfl⟩ | ⟨c177, c178, c179, rfl, rfl⟩ | ⟨c180, c181, c182, rfl, rfl⟩ | ⟨c183, c184, c185, rfl, rfl⟩ | ⟨c186, c187, c188, rfl, rfl⟩ | ⟨c189, c190, c191, rfl, rfl⟩ | ⟨c192, c193, c194, rfl, rfl⟩ | ⟨c195, c196, c197, rfl, rfl⟩ | ⟨c198, c199, c200, rfl, rfl⟩ | ⟨c201, c202, c203, rfl, rfl⟩ | ⟨c204, c205, c206, rfl, rfl⟩ | ⟨c207, c208, c209, rfl, rfl⟩
    · skip
      exact False.elim (by have e_c13 := i_le.mp c13; have e_c14 := mt i_eq.mpr c14; have e_c15 := mt i_le.mpr c15; have e_c171 := i_lt.mp c171; have e_c12 := mt i_lt.mpr c12; have l_0 : (0 : Int32).toInt = 0 := (by decide); have l_1 : (4 : Int32).toInt = 4 := (by decide); have l_2 : (11 : Int32).toInt = 11 := (by decide); omega)
    · skip
      exact False.elim (by have e_c12 := mt i_lt.mpr c12; have e_c13 := i_le.mp c13; have e_c14 := mt i_eq.mpr c14; have e_c15 := mt i_le.mpr c15; have e_c172 := mt i_lt.mpr c172; have e_c173 := i_lt.mp c173; have l_0 : (0 : Int32).toInt = 0 := (by decide); have l_1 : (4 : Int32).toInt = 4 := (by decide); have l_2 : (11 : Int32).toInt = 11 := (by decide); omega)
    · skip
      refine lv_istore (lv' := [(6, .int 0), (5, .int 0), (4, .int 0), (3, .ref ou), (2, .ref mm), (1, .ref xx), (0, .ref b)]) hx hb dL_law_341 hl (by decide) rfl (fun ls hl => ?_)
      refine lv_aload_n hx hb dL_law_343 rfl (lv_at hl 4 rfl) ?_
      have hPc := hP.sub (ws' := [(mm, .inr (16, f169))]) [1] rfl
      have hDc := hD.sub (ws' := [(mm, .inr (16, f169))]) [1] (by decide) rfl
      have hFc := va_free (wc := [(mm, .inr (16, f169))]) hD hS hA [1] rfl
      refine va_calli (va_runV (As := []) (rest := []) ⟨hx, hb, hml, hown, hts⟩ (c_X13_thrown l D cy mm f169 0 hf170 H.size) (cwV 0 hts g_law_2 rfl rfl rfl (by decide +kernel) ⟨(Nat.le_of_ble_eq_true rfl), (Nat.le_of_ble_eq_true rfl)⟩) ⟨fun a U g mk q => by obtain ⟨q0, q1, qP, qK, qD⟩ := q; exact ⟨q0, q1, qP, kK.moved (u := U) (U := U.calling g mk a) (Vm.Alike.refl U.vm) qK, qD⟩, va_recv hK hPc (ci := 16) (q0 := 0) rfl rfl, fun U hU hW => ⟨rfl, by rw [hU], by rw [hU]; exact hPc, kK.moved hW.alike hKK, hDc.weaken (fun _ _ _ _ => trivial)⟩⟩ rfl rfl hl.1 rfl (lv_room (Nat.le_of_ble_eq_true rfl)) dL_law_344 ⟨(Nat.le_of_ble_eq_true rfl), (Nat.le_of_ble_eq_true rfl)⟩) hS (fun q _ h => hFc q h) hFc (fun r210 u211 t H1 locs ht hvm hw hB hz1 hk1 hS => ?_)
      obtain ⟨hP1, hD1⟩ := hB
      rw [ht] at hP1
      obtain ⟨hP, hD⟩ := va_join (wr := [(ou, .inl (cy 2, 1, .inr (.inl f3)))]) (w1 := [(mm, .inr (16, f169))]) hP hD [1] [0] rfl rfl (by decide) (by decide) hk1 hFc hP1 hD1
      generalize H1 = H at hP hS ⊢
      have hP : va_P D vwCl [(ou, .inl (cy 2, 1, .inr (.inl f3))), (mm, .inr (16, f169))] H := hP
      have hD : va_D A [(ou, .inl (cy 2, 1, .inr (.inl f3))), (mm, .inr (16, f169))] := hD
      rcases hw with rfl
      refine lv_iload hx hb dL_law_347 (lv_at hl 1 rfl) ?_
      refine lv_icmp_eq (tgt := 354) hx hb dL_law_349 (by decide) (fun _ => ?_) (fun c9 => absurd (by decide) c9)
      refine lv_iload hx hb dL_law_354 (lv_at hl 1 rfl) ?_
      refine lv_if_ne (tgt := 371) hx hb dL_law_356 (by decide) (fun c9 => absurd (by decide) c9) (fun _ => ?_)
      refine lv_aload_n hx hb dL_law_359 rfl (lv_at hl 3 rfl) ?_
      refine lv_iconst (v := 0) hx hb dL_law_360 (by decide) ?_
      refine va_lald hx hb hK hP 0 2 rfl rfl (by unfold vp_in; decide) dL_law_361 ?_
      rw [show f3 (0 : Int32).toNatClampNeg = (0 : Int64) from hf4]
      refine lv_iload hx hb dL_law_362 (lv_at hl 0 rfl) ?_
      refine lv_i2l (v := 0) hx hb dL_law_364 (by decide) ?_
      refine W.lcmp hx hb dL_law_365 ?_
      rw [show lg_cmp 0 0 = (0 : Int32) by decide]
      refine lv_if_eq (tgt := 371) hx hb dL_law_366 (by decide) (fun _ => ?_) (fun c9 => absurd (by decide) c9)
      refine lv_goto (tgt := 1572) hx hb dL_law_371 (by decide) ?_
      refine lv_iinc (v := 6) (lv' := [(4, .int 6), (6, .int 0), (5, .int 0), (3, .ref ou), (2, .ref mm), (1, .ref xx), (0, .ref b)]) hx hb dL_law_1572 hl (k := 2) rfl (by decide) (by decide) rfl (fun ls hl => ?_)
      refine lv_goto (tgt := 23) hx hb dL_law_1575 (by decide) ?_
      exact law_tail hst hx hb hr hml hown hts hX hbl hlocks hKK hTK hA hbA hAr (Nat.le_of_ble_eq_true rfl) (Nat.le_of_ble_eq_true rfl) hS (lv_sub hl [0, 6] rfl)
    · skip
      refine lv_istore (lv' := [(6, .int 0), (5, .int 0), (4, .int 0), (3, .ref ou), (2, .ref mm), (1, .ref xx), (0, .ref b)]) hx hb dL_law_341 hl (by decide) rfl (fun ls hl => ?_)
      refine lv_aload_n hx hb dL_law_343 rfl (lv_at hl 4 rfl) ?_
      have hPc := hP.sub (ws' := [(mm, .inr (16, f169))]) [1] rfl
      have hDc := hD.sub (ws' := [(mm, .inr (16, f169))]) [1] (by decide) rfl
      have hFc := va_free (wc := [(mm, .inr (16, f169))]) hD hS hA [1] rfl
      refine va_calli (va_runV (As := []) (rest := []) ⟨hx, hb, hml, hown, hts⟩ (c_X13_thrown l D cy mm f169 0 hf170 H.size) (cwV 0 hts g_law_2 rfl rfl rfl (by decide +kernel) ⟨(Nat.le_of_ble_eq_true rfl), (Nat.le_of_ble_eq_true rfl)⟩) ⟨fun a U g mk q => by obtain ⟨q0, q1, qP, qK, qD⟩ := q; exact ⟨q0, q1, qP, kK.moved (u := U) (U := U.calling g mk a) (Vm.Alike.refl U.vm) qK, qD⟩, va_recv hK hPc (ci := 16) (q0 := 0) rfl rfl, fun U hU hW => ⟨rfl, by rw [hU], by rw [hU]; exact hPc, kK.moved hW.alike hKK, hDc.weaken (fun _ _ _ _ => trivial)⟩⟩ rfl rfl hl.1 rfl (lv_room (Nat.le_of_ble_eq_true rfl)) dL_law_344 ⟨(Nat.le_of_ble_eq_true rfl), (Nat.le_of_ble_eq_true rfl)⟩) hS (fun q _ h => hFc q h) hFc (fun r212 u213 t H1 locs ht hvm hw hB hz1 hk1 hS => ?_)
      obtain ⟨hP1, hD1⟩ := hB
      rw [ht] at hP1
      obtain ⟨hP, hD⟩ := va_join (wr := [(ou, .inl (cy 2, 1, .inr (.inl f3)))]) (w1 := [(mm, .inr (16, f169))]) hP hD [1] [0] rfl rfl (by decide) (by decide) hk1 hFc hP1 hD1
      generalize H1 = H at hP hS ⊢
      have hP : va_P D vwCl [(ou, .inl (cy 2, 1, .inr (.inl f3))), (mm, .inr (16, f169))] H := hP
      have hD : va_D A [(ou, .inl (cy 2, 1, .inr (.inl f3))), (mm, .inr (16, f169))] := hD
      rcases hw with rfl
      refine lv_iload hx hb dL_law_347 (lv_at hl 1 rfl) ?_
      refine lv_icmp_eq (tgt := 354) hx hb dL_law_349 (by decide) (fun _ => ?_) (fun c9 => absurd (by decide) c9)
      refine lv_iload hx hb dL_law_354 (lv_at hl 1 rfl) ?_
      refine lv_if_ne (tgt := 371) hx hb dL_law_356 (by decide) (fun c9 => absurd (by decide) c9) (fun _ => ?_)
      refine lv_aload_n hx hb dL_law_359 rfl (lv_at hl 3 rfl) ?_
      refine lv_iconst (v := 0) hx hb dL_law_360 (by decide) ?_
      refine va_lald hx hb hK hP 0 2 rfl rfl (by unfold vp_in; decide) dL_law_361 ?_
      rw [show f3 (0 : Int32).toNatClampNeg = (0 : Int64) from hf4]
      refine lv_iload hx hb dL_law_362 (lv_at hl 0 rfl) ?_
      refine lv_i2l (v := 0) hx hb dL_law_364 (by decide) ?_
      refine W.lcmp hx hb dL_law_365 ?_
      rw [show lg_cmp 0 0 = (0 : Int32) by decide]
      refine lv_if_eq (tgt := 371) hx hb dL_law_366 (by decide) (fun _ => ?_) (fun c9 => absurd (by decide) c9)
      refine lv_goto (tgt := 1572) hx hb dL_law_371 (by decide) ?_
      refine lv_iinc (v := 6) (lv' := [(4, .int 6), (6, .int 0), (5, .int 0), (3, .ref ou), (2, .ref mm), (1, .ref xx), (0, .ref b)]) hx hb dL_law_1572 hl (k := 2) rfl (by decide) (by decide) rfl (fun ls hl => ?_)
      refine lv_goto (tgt := 23) hx hb dL_law_1575 (by decide) ?_
      exact law_tail hst hx hb hr hml hown hts hX hbl hlocks hKK hTK hA hbA hAr (Nat.le_of_ble_eq_true rfl) (Nat.le_of_ble_eq_true rfl) hS (lv_sub hl [0, 6] rfl)
    · skip
      refine lv_istore (lv' := [(6, .int 0), (5, .int 0), (4, .int 0), (3, .ref ou), (2, .ref mm), (1, .ref xx), (0, .ref b)]) hx hb dL_law_341 hl (by decide) rfl (fun ls hl => ?_)
      refine lv_aload_n hx hb dL_law_343 rfl (lv_at hl 4 rfl) ?_
      have hPc := hP.sub (ws' := [(mm, .inr (16, f169))]) [1] rfl
      have hDc := hD.sub (ws' := [(mm, .inr (16, f169))]) [1] (by decide) rfl
      have hFc := va_free (wc := [(mm, .inr (16, f169))]) hD hS hA [1] rfl
      refine va_calli (va_runV (As := []) (rest := []) ⟨hx, hb, hml, hown, hts⟩ (c_X13_thrown l D cy mm f169 0 hf170 H.size) (cwV 0 hts g_law_2 rfl rfl rfl (by decide +kernel) ⟨(Nat.le_of_ble_eq_true rfl), (Nat.le_of_ble_eq_true rfl)⟩) ⟨fun a U g mk q => by obtain ⟨q0, q1, qP, qK, qD⟩ := q; exact ⟨q0, q1, qP, kK.moved (u := U) (U := U.calling g mk a) (Vm.Alike.refl U.vm) qK, qD⟩, va_recv hK hPc (ci := 16) (q0 := 0) rfl rfl, fun U hU hW => ⟨rfl, by rw [hU], by rw [hU]; exact hPc, kK.moved hW.alike hKK, hDc.weaken (fun _ _ _ _ => trivial)⟩⟩ rfl rfl hl.1 rfl (lv_room (Nat.le_of_ble_eq_true rfl)) dL_law_344 ⟨(Nat.le_of_ble_eq_true rfl), (Nat.le_of_ble_eq_true rfl)⟩) hS (fun q _ h => hFc q h) hFc (fun r214 u215 t H1 locs ht hvm hw hB hz1 hk1 hS => ?_)
      obtain ⟨hP1, hD1⟩ := hB
      rw [ht] at hP1
      obtain ⟨hP, hD⟩ := va_join (wr := [(ou, .inl (cy 2, 1, .inr (.inl f3)))]) (w1 := [(mm, .inr (16, f169))]) hP hD [1] [0] rfl rfl (by decide) (by decide) hk1 hFc hP1 hD1
      generalize H1 = H at hP hS ⊢
      have hP : va_P D vwCl [(ou, .inl (cy 2, 1, .inr (.inl f3))), (mm, .inr (16, f169))] H := hP
      have hD : va_D A [(ou, .inl (cy 2, 1, .inr (.inl f3))), (mm, .inr (16, f169))] := hD
      rcases hw with rfl
      refine lv_iload hx hb dL_law_347 (lv_at hl 1 rfl) ?_
      refine lv_icmp_eq (tgt := 354) hx hb dL_law_349 (by decide) (fun _ => ?_) (fun c9 => absurd (by decide) c9)
      refine lv_iload hx hb dL_law_354 (lv_at hl 1 rfl) ?_
      refine lv_if_ne (tgt := 371) hx hb dL_law_356 (by decide) (fun c9 => absurd (by decide) c9) (fun _ => ?_)
      refine lv_aload_n hx hb dL_law_359 rfl (lv_at hl 3 rfl) ?_
      refine lv_iconst (v := 0) hx hb dL_law_360 (by decide) ?_
      refine va_lald hx hb hK hP 0 2 rfl rfl (by unfold vp_in; decide) dL_law_361 ?_
      rw [show f3 (0 : Int32).toNatClampNeg = (0 : Int64) from hf4]
      refine lv_iload hx hb dL_law_362 (lv_at hl 0 rfl) ?_
      refine lv_i2l (v := 0) hx hb dL_law_364 (by decide) ?_
      refine W.lcmp hx hb dL_law_365 ?_
      rw [show lg_cmp 0 0 = (0 : Int32) by decide]
      refine lv_if_eq (tgt := 371) hx hb dL_law_366 (by decide) (fun _ => ?_) (fun c9 => absurd (by decide) c9)
      refine lv_goto (tgt := 1572) hx hb dL_law_371 (by decide) ?_
      refine lv_iinc (v := 6) (lv' := [(4, .int 6), (6, .int 0), (5, .int 0), (3, .ref ou), (2, .ref mm), (1, .ref xx), (0, .ref b)]) hx hb dL_law_1572 hl (k := 2) rfl (by decide) (by decide) rfl (fun ls hl => ?_)
      refine lv_goto (tgt := 23) hx hb dL_law_1575 (by decide) ?_
      exact law_tail hst hx hb hr hml hown hts hX hbl hlocks hKK hTK hA hbA hAr (Nat.le_of_ble_eq_true rfl) (Nat.le_of_ble_eq_true rfl) hS (lv_sub hl [0, 6] rfl)
    · skip
      refine lv_istore (lv' := [(6, .int 0), (5, .int 0), (4, .int 0), (3, .ref ou), (2, .ref mm), (1, .ref xx), (0, .ref b)]) hx hb dL_law_341 hl (by decide) rfl (fun ls hl => ?_)
      refine lv_aload_n hx hb dL_law_343 rfl (lv_at hl 4 rfl) ?_
      have hPc := hP.sub (ws' := [(mm, .inr (16, f169))]) [1] rfl
      have hDc := hD.sub (ws' := [(mm, .inr (16, f169))]) [1] (by decide) rfl
      have hFc := va_free (wc := [(mm, .inr (16, f169))]) hD hS hA [1] rfl
      refine va_calli (va_runV (As := []) (rest := []) ⟨hx, hb, hml, hown, hts⟩ (c_X13_thrown l D cy mm f169 0 hf170 H.size) (cwV 0 hts g_law_2 rfl rfl rfl (by decide +kernel) ⟨(Nat.le_of_ble_eq_true rfl), (Nat.le_of_ble_eq_true rfl)⟩) ⟨fun a U g mk q => by obtain ⟨q0, q1, qP, qK, qD⟩ := q; exact ⟨q0, q1, qP, kK.moved (u := U) (U := U.calling g mk a) (Vm.Alike.refl U.vm) qK, qD⟩, va_recv hK hPc (ci := 16) (q0 := 0) rfl rfl, fun U hU hW => ⟨rfl, by rw [hU], by rw [hU]; exact hPc, kK.moved hW.alike hKK, hDc.weaken (fun _ _ _ _ => trivial)⟩⟩ rfl rfl hl.1 rfl (lv_room (Nat.le_of_ble_eq_true rfl)) dL_law_344 ⟨(Nat.le_of_ble_eq_true rfl), (Nat.le_of_ble_eq_true rfl)⟩) hS (fun q _ h => hFc q h) hFc (fun r216 u217 t H1 locs ht hvm hw hB hz1 hk1 hS => ?_)
      obtain ⟨hP1, hD1⟩ := hB
      rw [ht] at hP1
      obtain ⟨hP, hD⟩ := va_join (wr := [(ou, .inl (cy 2, 1, .inr (.inl f3)))]) (w1 := [(mm, .inr (16, f169))]) hP hD [1] [0] rfl rfl (by decide) (by decide) hk1 hFc hP1 hD1
      generalize H1 = H at hP hS ⊢
      have hP : va_P D vwCl [(ou, .inl (cy 2, 1, .inr (.inl f3))), (mm, .inr (16, f169))] H := hP
      have hD : va_D A [(ou, .inl (cy 2, 1, .inr (.inl f3))), (mm, .inr (16, f169))] := hD
      rcases hw with rfl
      refine lv_iload hx hb dL_law_347 (lv_at hl 1 rfl) ?_
      refine lv_icmp_eq (tgt := 354) hx hb dL_law_349 (by decide) (fun _ => ?_) (fun c9 => absurd (by decide) c9)
      refine lv_iload hx hb dL_law_354 (lv_at hl 1 rfl) ?_
      refine lv_if_ne (tgt := 371) hx hb dL_law_356 (by decide) (fun c9 => absurd (by decide) c9) (fun _ => ?_)
      refine lv_aload_n hx hb dL_law_359 rfl (lv_at hl 3 rfl) ?_
      refine lv_iconst (v := 0) hx hb dL_law_360 (by decide) ?_
      refine va_lald hx hb hK hP 0 2 rfl rfl (by unfold vp_in; decide) dL_law_361 ?_
      rw [show f3 (0 : Int32).toNatClampNeg = (0 : Int64) from hf4]
      refine lv_iload hx hb dL_law_362 (lv_at hl 0 rfl) ?_
      refine lv_i2l (v := 0) hx hb dL_law_364 (by decide) ?_
      refine W.lcmp hx hb dL_law_365 ?_
      rw [show lg_cmp 0 0 = (0 : Int32) by decide]
      refine lv_if_eq (tgt := 371) hx hb dL_law_366 (by decide) (fun _ => ?_) (fun c9 => absurd (by decide) c9)
      refine lv_goto (tgt := 1572) hx hb dL_law_371 (by decide) ?_
      refine lv_iinc (v := 6) (lv' := [(4, .int 6), (6, .int 0), (5, .int 0), (3, .ref ou), (2, .ref mm), (1, .ref xx), (0, .ref b)]) hx hb dL_law_1572 hl (k := 2) rfl (by decide) (by decide) rfl (fun ls hl => ?_)
      refine lv_goto (tgt := 23) hx hb dL_law_1575 (by decide) ?_
      exact law_tail hst hx hb hr hml hown hts hX hbl hlocks hKK hTK hA hbA hAr (Nat.le_of_ble_eq_true rfl) (Nat.le_of_ble_eq_true rfl) hS (lv_sub hl [0, 6] rfl)
    · skip
      exact False.elim (by have e_c12 := mt i_lt.mpr c12; have e_c13 := i_le.mp c13; have e_c14 := mt i_eq.mpr c14; have e_c186 := i_eq.mp c186; have e_c187 := mt i_lt.mpr c187; have e_c188 := mt i_lt.mpr c188; have e_c15 := mt i_le.mpr c15; have l_0 : (0 : Int32).toInt = 0 := (by decide); have l_1 : (4 : Int32).toInt = 4 := (by decide); have l_2 : (11 : Int32).toInt = 11 := (by decide); omega)
    · skip
      exact False.elim (by have e_c12 := mt i_lt.mpr c12; have e_c13 := i_le.mp c13; have e_c14 := mt i_eq.mpr c14; have e_c189 := i_eq.mp c189; have e_c190 := mt i_lt.mpr c190; have e_c191 := mt i_lt.mpr c191; have e_c15 := mt i_le.mpr c15; have l_0 : (0 : Int32).toInt = 0 := (by decide); have l_1 : (4 : Int32).toInt = 4 := (by decide); have l_2 : (5 : Int32).toInt = 5 := (by decide); have l_3 : (11 : Int32).toInt = 11 := (by decide); omega)
    · skip
      exact False.elim (by have e_c12 := mt i_lt.mpr c12; have e_c13 := i_le.mp c13; have e_c14 := mt i_eq.mpr c14; have e_c192 := i_eq.mp c192; have e_c193 := mt i_lt.mpr c193; have e_c194 := mt i_lt.mpr c194; have e_c15 := mt i_le.mpr c15; have l_0 : (0 : Int32).toInt = 0 := (by decide); have l_1 : (4 : Int32).toInt = 4 := (by decide); have l_2 : (6 : Int32).toInt = 6 := (by decide); have l_3 : (11 : Int32).toInt = 11 := (by decide); omega)
    · skip
      exact False.elim (by have e_c12 := mt i_lt.mpr c12; have e_c13 := i_le.mp c13; have e_c14 := mt i_eq.mpr c14; have e_c195 := i_eq.mp c195; have e_c196 := mt i_lt.mpr c196; have e_c197 := mt i_lt.mpr c197; have e_c15 := mt i_le.mpr c15; have l_0 : (0 : Int32).toInt = 0 := (by decide); have l_1 : (4 : Int32).toInt = 4 := (by decide); have l_2 : (7 : Int32).toInt = 7 := (by decide); have l_3 : (11 : Int32).toInt = 11 := (by decide); omega)
    · skip
      exact False.elim (by have e_c12 := mt i_lt.mpr c12; have e_c13 := i_le.mp c13; have e_c14 := mt i_eq.mpr c14; have e_c198 := i_eq.mp c198; have e_c199 := mt i_lt.mpr c199; have e_c200 := mt i_lt.mpr c200; have e_c15 := mt i_le.mpr c15; have l_0 : (0 : Int32).toInt = 0 := (by decide); have l_1 : (4 : Int32).toInt = 4 := (by decide); have l_2 : (8 : Int32).toInt = 8 := (by decide); have l_3 : (11 : Int32).toInt = 11 := (by decide); omega)
    · skip
      exact False.elim (by have e_c12 := mt i_lt.mpr c12; have e_c13 := i_le.mp c13; have e_c14 := mt i_eq.mpr c14; have e_c201 := i_eq.mp c201; have e_c202 := mt i_lt.mpr c202; have e_c203 := mt i_lt.mpr c203; have e_c15 := mt i_le.mpr c15; have l_0 : (0 : Int32).toInt = 0 := (by decide); have l_1 : (4 : Int32).toInt = 4 := (by decide); have l_2 : (9 : Int32).toInt = 9 := (by decide); have l_3 : (11 : Int32).toInt = 11 := (by decide); omega)
    · skip
      exact False.elim (by have e_c12 := mt i_lt.mpr c12; have e_c13 := i_le.mp c13; have e_c14 := mt i_eq.mpr c14; have e_c204 := i_eq.mp c204; have e_c205 := mt i_lt.mpr c205; have e_c206 := mt i_lt.mpr c206; have e_c15 := mt i_le.mpr c15; have l_0 : (0 : Int32).toInt = 0 := (by decide); have l_1 : (4 : Int32).toInt = 4 := (by decide); have l_2 : (10 : Int32).toInt = 10 := (by decide); have l_3 : (11 : Int32).toInt = 11 := (by decide); omega)
    · skip
      exact False.elim (by have e_c12 := mt i_lt.mpr c12; have e_c13 := i_le.mp c13; have e_c15 := mt i_le.mpr c15; have e_c207 := i_eq.mp c207; have e_c208 := mt i_lt.mpr c208; have e_c209 := mt i_lt.mpr c209; have e_c14 := mt i_eq.mpr c14; have l_0 : (0 : Int32).toInt = 0 := (by decide); have l_1 : (4 : Int32).toInt = 4 := (by decide); have l_2 : (11 : Int32).toInt = 11 := (by decide); omega)
  · skip
    refine lv_istore (lv' := [(5, .int 0), (4, .int 0), (3, .ref ou), (2, .ref mm), (1, .ref xx), (0, .ref b)]) hx hb dL_law_329 hl (by decide) rfl (fun ls hl => ?_)
    refine lv_aload_n hx hb dL_law_331 rfl (lv_at hl 3 rfl) ?_
    refine lv_aload_n hx hb dL_law_332 rfl (lv_at hl 5 rfl) ?_
    refine lv_iload hx hb dL_law_333 (lv_at hl 1 rfl) ?_
    refine lv_iconst (v := 1) hx hb dL_law_335 (by decide) ?_
    refine lv_iadd hx hb dL_law_336 ?_
    rw [show (0 : Int32) + 1 = 1 by decide]
    refine va_sld hx hb hX hbl hbA hS (by unfold vp_in; decide) dL_law_337 ?_
    rw [show (1 : Int32).toNatClampNeg = 1 from rfl]
    have hPc := hP.sub (ws' := [(mm, .inr (16, [.int 0, .ref n1, .int 0, .int 0, .int 0, .ref n3, .ref n5, .ref n7, .ref n9, .ref n11, .int 0, .int 0, .int 0, .int 0, .int 0, .int 0, .int 0, .int 0, .int 0, .int 0, .ref n13, .ref n15, .ref n17, .ref n19, .ref n21, .ref n23, .ref n25, .ref n27, .ref n29, .ref n31, .ref n33, .ref n35, .ref n37, .ref n39, .ref n41, .ref n43, .ref n45, .ref n47, .ref n49, .ref n51, .int 0, .int 0, .int 0, .ref n53, .ref n55, .ref n57, .int 0, .int 0, .int 0, .int 0, .ref n59, .ref n61, .ref n63, .int 0, .ref n65, .int 0, .ref n67, .ref n69, .int 0, .ref n71, .ref n73, .int 0, .int 0, .int 0, .ref n75, .ref n77, .int 0, .int 0, .ref n79, .int 0, .int 0, .int 0, .int 0, .ref n81, .ref n83, .ref n85, .ref n87, .ref n89, .ref n91, .ref n93, .ref n95, .ref n97, .ref n99, .ref n101, .ref n103, .int 0, .ref n105, .ref n107, .int 0, .int 0, .ref n109, .ref n111, .int 0, .ref n113, .int 0, .ref n115, .ref n117, .ref n119, .ref n121, .ref n123, .int 0, .ref n125, .ref n127, .int 0, .int 0, .ref n129, .int (-1), .int 0, .int 0, .int 0, .long 0, .ref n131, .long 0, .int 0, .int 0, .ref n133, .ref n135, .ref n137, .ref n139, .ref n141, .ref n143, .ref n145, .ref n147, .ref n149, .int 0, .int 0]))]) [0] rfl
    have hDc := hD.sub (ws' := [(mm, .inr (16, [.int 0, .ref n1, .int 0, .int 0, .int 0, .ref n3, .ref n5, .ref n7, .ref n9, .ref n11, .int 0, .int 0, .int 0, .int 0, .int 0, .int 0, .int 0, .int 0, .int 0, .int 0, .ref n13, .ref n15, .ref n17, .ref n19, .ref n21, .ref n23, .ref n25, .ref n27, .ref n29, .ref n31, .ref n33, .ref n35, .ref n37, .ref n39, .ref n41, .ref n43, .ref n45, .ref n47, .ref n49, .ref n51, .int 0, .int 0, .int 0, .ref n53, .ref n55, .ref n57, .int 0, .int 0, .int 0, .int 0, .ref n59, .ref n61, .ref n63, .int 0, .ref n65, .int 0, .ref n67, .ref n69, .int 0, .ref n71, .ref n73, .int 0, .int 0, .int 0, .ref n75, .ref n77, .int 0, .int 0, .ref n79, .int 0, .int 0, .int 0, .int 0, .ref n81, .ref n83, .ref n85, .ref n87, .ref n89, .ref n91, .ref n93, .ref n95, .ref n97, .ref n99, .ref n101, .ref n103, .int 0, .ref n105, .ref n107, .int 0, .int 0, .ref n109, .ref n111, .int 0, .ref n113, .int 0, .ref n115, .ref n117, .ref n119, .ref n121, .ref n123, .int 0, .ref n125, .ref n127, .int 0, .int 0, .ref n129, .int (-1), .int 0, .int 0, .int 0, .long 0, .ref n131, .long 0, .int 0, .int 0, .ref n133, .ref n135, .ref n137, .ref n139, .ref n141, .ref n143, .ref n145, .ref n147, .ref n149, .int 0, .int 0]))]) [0] (by decide) rfl
    have hFc := va_free (wc := [(mm, .inr (16, [.int 0, .ref n1, .int 0, .int 0, .int 0, .ref n3, .ref n5, .ref n7, .ref n9, .ref n11, .int 0, .int 0, .int 0, .int 0, .int 0, .int 0, .int 0, .int 0, .int 0, .int 0, .ref n13, .ref n15, .ref n17, .ref n19, .ref n21, .ref n23, .ref n25, .ref n27, .ref n29, .ref n31, .ref n33, .ref n35, .ref n37, .ref n39, .ref n41, .ref n43, .ref n45, .ref n47, .ref n49, .ref n51, .int 0, .int 0, .int 0, .ref n53, .ref n55, .ref n57, .int 0, .int 0, .int 0, .int 0, .ref n59, .ref n61, .ref n63, .int 0, .ref n65, .int 0, .ref n67, .ref n69, .int 0, .ref n71, .ref n73, .int 0, .int 0, .int 0, .ref n75, .ref n77, .int 0, .int 0, .ref n79, .int 0, .int 0, .int 0, .int 0, .ref n81, .ref n83, .ref n85, .ref n87, .ref n89, .ref n91, .ref n93, .ref n95, .ref n97, .ref n99, .ref n101, .ref n103, .int 0, .ref n105, .ref n107, .int 0, .int 0, .ref n109, .ref n111, .int 0, .ref n113, .int 0, .ref n115, .ref n117, .ref n119, .ref n121, .ref n123, .int 0, .ref n125, .ref n127, .int 0, .int 0, .ref n129, .int (-1), .int 0, .int 0, .int 0, .long 0, .ref n131, .long 0, .int 0, .int 0, .ref n133, .ref n135, .ref n137, .ref n139, .ref n141, .ref n143, .ref n145, .ref n147, .ref n149, .int 0, .int 0]))]) hD hS hA [0] rfl
    refine va_calli (va_runV (As := [.int (xs 1)]) (rest := []) ⟨hx, hb, hml, hown, hts⟩ (c_X13_count l D cy mm n1 n3 n5 n7 n9 n11 n13 n15 n17 n19 n21 n23 n25 n27 n29 n31 n33 n35 n37 n39 n41 n43 n45 n47 n49 n51 n53 n55 n57 n59 n61 n63 n65 n67 n69 n71 n73 n75 n77 n79 n81 n83 n85 n87 n89 n91 n93 n95 n97 n99 n101 n103 n105 n107 n109 n111 n113 n115 n117 n119 n121 n123 n125 n127 n129 n131 n133 n135 n137 n139 n141 n143 n145 n147 n149 ((xs 1)) H.size) (cwV 1 hts g_law_10 rfl rfl rfl (by decide +kernel) ⟨(Nat.le_of_ble_eq_true rfl), (Nat.le_of_ble_eq_true rfl)⟩) ⟨fun a U g mk q => by obtain ⟨q0, q1, qP, qK, qD⟩ := q; exact ⟨q0, q1, qP, kK.moved (u := U) (U := U.calling g mk a) (Vm.Alike.refl U.vm) qK, qD⟩, va_recv hK hPc (ci := 16) (q0 := 0) rfl rfl, fun U hU hW => ⟨rfl, by rw [hU], by rw [hU]; exact hPc, kK.moved hW.alike hKK, hDc.weaken (fun _ _ _ _ => trivial)⟩⟩ rfl rfl hl.1 rfl (lv_room (Nat.le_of_ble_eq_true rfl)) dL_law_338 ⟨(Nat.le_of_ble_eq_true rfl), (Nat.le_of_ble_eq_true rfl)⟩) hS (fun q _ h => hFc q h) hFc (fun r218 u219 t H1 locs ht hvm hw hB hz1 hk1 hS => ?_)
    obtain ⟨f220, hP1, hD1, hf221⟩ := hB
    rw [ht] at hP1
    obtain ⟨hP, hD⟩ := va_join (wr := [(ou, .inl (cy 2, 1, .inr (.inl f3)))]) (w1 := [(mm, .inr (16, f220))]) hP hD [0] [1] rfl rfl (by decide) (by decide) hk1 hFc hP1 hD1
    generalize H1 = H at hP hS ⊢
    have hP : va_P D vwCl [(ou, .inl (cy 2, 1, .inr (.inl f3))), (mm, .inr (16, f220))] H := hP
    have hD : va_D A [(ou, .inl (cy 2, 1, .inr (.inl f3))), (mm, .inr (16, f220))] := hD
    rcases hw with ⟨c222, rfl, rfl⟩ | ⟨c223, c224, rfl, rfl⟩ | ⟨c225, c226, c227, rfl, rfl⟩ | ⟨c228, c229, c230, rfl, rfl⟩ | ⟨c231, c232, c233, rfl, rfl⟩ | ⟨c234, c235, c236, rfl, rfl⟩ | ⟨c237, c238, c239, rfl, rfl⟩ | ⟨c240, c241, c242, rfl, rfl⟩ | ⟨c243, c244, c245, rfl, rfl⟩ | ⟨c246, c247, c248, rfl, rfl⟩ | ⟨c249, c250, c251, rfl, rfl⟩ | ⟨c252, c253, c254, rfl, rfl⟩ | ⟨c255, c256, c257, rfl, rfl⟩ | ⟨c258, c259, c260, rfl, rfl⟩
    · skip
      exact False.elim (by have e_c16 := i_eq.mp c16; have e_c18 := i_le.mp c18; have e_c19 := i_eq.mp c19; have e_c222 := i_lt.mp c222; have e_c17 := mt i_lt.mpr c17; have l_0 : (0 : Int32).toInt = 0 := (by decide); have l_1 : (11 : Int32).toInt = 11 := (by decide); omega)
    · skip
      exact False.elim (by have e_c16 := i_eq.mp c16; have e_c17 := mt i_lt.mpr c17; have e_c18 := i_le.mp c18; have e_c19 := i_eq.mp c19; have e_c223 := mt i_lt.mpr c223; have e_c224 := i_lt.mp c224; have l_0 : (0 : Int32).toInt = 0 := (by decide); have l_1 : (11 : Int32).toInt = 11 := (by decide); omega)
    · skip
      exact False.elim (by have e_c16 := i_eq.mp c16; have e_c17 := mt i_lt.mpr c17; have e_c18 := i_le.mp c18; have e_c19 := i_eq.mp c19; have e_c226 := mt i_lt.mpr c226; have e_c227 := mt i_lt.mpr c227; have e_c225 := i_eq.mp c225; have l_0 : (0 : Int32).toInt = 0 := (by decide); have l_1 : (11 : Int32).toInt = 11 := (by decide); omega)
    · skip
      exact False.elim (by have e_c16 := i_eq.mp c16; have e_c17 := mt i_lt.mpr c17; have e_c18 := i_le.mp c18; have e_c19 := i_eq.mp c19; have e_c229 := mt i_lt.mpr c229; have e_c230 := mt i_lt.mpr c230; have e_c228 := i_eq.mp c228; have l_0 : (0 : Int32).toInt = 0 := (by decide); have l_1 : (1 : Int32).toInt = 1 := (by decide); have l_2 : (11 : Int32).toInt = 11 := (by decide); omega)
    · skip
      exact False.elim (by have e_c16 := i_eq.mp c16; have e_c17 := mt i_lt.mpr c17; have e_c18 := i_le.mp c18; have e_c19 := i_eq.mp c19; have e_c232 := mt i_lt.mpr c232; have e_c233 := mt i_lt.mpr c233; have e_c231 := i_eq.mp c231; have l_0 : (0 : Int32).toInt = 0 := (by decide); have l_1 : (2 : Int32).toInt = 2 := (by decide); have l_2 : (11 : Int32).toInt = 11 := (by decide); omega)
    · skip
      exact False.elim (by have e_c16 := i_eq.mp c16; have e_c17 := mt i_lt.mpr c17; have e_c18 := i_le.mp c18; have e_c19 := i_eq.mp c19; have e_c235 := mt i_lt.mpr c235; have e_c236 := mt i_lt.mpr c236; have e_c234 := i_eq.mp c234; have l_0 : (0 : Int32).toInt = 0 := (by decide); have l_1 : (3 : Int32).toInt = 3 := (by decide); have l_2 : (11 : Int32).toInt = 11 := (by decide); omega)
    · skip
      exact False.elim (by have e_c16 := i_eq.mp c16; have e_c17 := mt i_lt.mpr c17; have e_c18 := i_le.mp c18; have e_c19 := i_eq.mp c19; have e_c238 := mt i_lt.mpr c238; have e_c239 := mt i_lt.mpr c239; have e_c237 := i_eq.mp c237; have l_0 : (0 : Int32).toInt = 0 := (by decide); have l_1 : (4 : Int32).toInt = 4 := (by decide); have l_2 : (11 : Int32).toInt = 11 := (by decide); omega)
    · skip
      exact False.elim (by have e_c16 := i_eq.mp c16; have e_c17 := mt i_lt.mpr c17; have e_c18 := i_le.mp c18; have e_c19 := i_eq.mp c19; have e_c241 := mt i_lt.mpr c241; have e_c242 := mt i_lt.mpr c242; have e_c240 := i_eq.mp c240; have l_0 : (0 : Int32).toInt = 0 := (by decide); have l_1 : (5 : Int32).toInt = 5 := (by decide); have l_2 : (11 : Int32).toInt = 11 := (by decide); omega)
    · skip
      exact False.elim (by have e_c16 := i_eq.mp c16; have e_c17 := mt i_lt.mpr c17; have e_c18 := i_le.mp c18; have e_c19 := i_eq.mp c19; have e_c244 := mt i_lt.mpr c244; have e_c245 := mt i_lt.mpr c245; have e_c243 := i_eq.mp c243; have l_0 : (0 : Int32).toInt = 0 := (by decide); have l_1 : (6 : Int32).toInt = 6 := (by decide); have l_2 : (11 : Int32).toInt = 11 := (by decide); omega)
    · skip
      exact False.elim (by have e_c16 := i_eq.mp c16; have e_c17 := mt i_lt.mpr c17; have e_c18 := i_le.mp c18; have e_c19 := i_eq.mp c19; have e_c247 := mt i_lt.mpr c247; have e_c248 := mt i_lt.mpr c248; have e_c246 := i_eq.mp c246; have l_0 : (0 : Int32).toInt = 0 := (by decide); have l_1 : (7 : Int32).toInt = 7 := (by decide); have l_2 : (11 : Int32).toInt = 11 := (by decide); omega)
    · skip
      exact False.elim (by have e_c16 := i_eq.mp c16; have e_c17 := mt i_lt.mpr c17; have e_c18 := i_le.mp c18; have e_c19 := i_eq.mp c19; have e_c250 := mt i_lt.mpr c250; have e_c251 := mt i_lt.mpr c251; have e_c249 := i_eq.mp c249; have l_0 : (0 : Int32).toInt = 0 := (by decide); have l_1 : (8 : Int32).toInt = 8 := (by decide); have l_2 : (11 : Int32).toInt = 11 := (by decide); omega)
    · skip
      exact False.elim (by have e_c16 := i_eq.mp c16; have e_c17 := mt i_lt.mpr c17; have e_c18 := i_le.mp c18; have e_c19 := i_eq.mp c19; have e_c253 := mt i_lt.mpr c253; have e_c254 := mt i_lt.mpr c254; have e_c252 := i_eq.mp c252; have l_0 : (0 : Int32).toInt = 0 := (by decide); have l_1 : (9 : Int32).toInt = 9 := (by decide); have l_2 : (11 : Int32).toInt = 11 := (by decide); omega)
    · skip
      exact False.elim (by have e_c16 := i_eq.mp c16; have e_c17 := mt i_lt.mpr c17; have e_c18 := i_le.mp c18; have e_c19 := i_eq.mp c19; have e_c256 := mt i_lt.mpr c256; have e_c257 := mt i_lt.mpr c257; have e_c255 := i_eq.mp c255; have l_0 : (0 : Int32).toInt = 0 := (by decide); have l_1 : (10 : Int32).toInt = 10 := (by decide); have l_2 : (11 : Int32).toInt = 11 := (by decide); omega)
    · skip
      refine lv_istore (lv' := [(6, .int 0), (5, .int 0), (4, .int 0), (3, .ref ou), (2, .ref mm), (1, .ref xx), (0, .ref b)]) hx hb dL_law_341 hl (by decide) rfl (fun ls hl => ?_)
      refine lv_aload_n hx hb dL_law_343 rfl (lv_at hl 4 rfl) ?_
      have hPc := hP.sub (ws' := [(mm, .inr (16, f220))]) [1] rfl
      have hDc := hD.sub (ws' := [(mm, .inr (16, f220))]) [1] (by decide) rfl
      have hFc := va_free (wc := [(mm, .inr (16, f220))]) hD hS hA [1] rfl
      refine va_calli (va_runV (As := []) (rest := []) ⟨hx, hb, hml, hown, hts⟩ (c_X13_thrown l D cy mm f220 0 hf221 H.size) (cwV 0 hts g_law_2 rfl rfl rfl (by decide +kernel) ⟨(Nat.le_of_ble_eq_true rfl), (Nat.le_of_ble_eq_true rfl)⟩) ⟨fun a U g mk q => by obtain ⟨q0, q1, qP, qK, qD⟩ := q; exact ⟨q0, q1, qP, kK.moved (u := U) (U := U.calling g mk a) (Vm.Alike.refl U.vm) qK, qD⟩, va_recv hK hPc (ci := 16) (q0 := 0) rfl rfl, fun U hU hW => ⟨rfl, by rw [hU], by rw [hU]; exact hPc, kK.moved hW.alike hKK, hDc.weaken (fun _ _ _ _ => trivial)⟩⟩ rfl rfl hl.1 rfl (lv_room (Nat.le_of_ble_eq_true rfl)) dL_law_344 ⟨(Nat.le_of_ble_eq_true rfl), (Nat.le_of_ble_eq_true rfl)⟩) hS (fun q _ h => hFc q h) hFc (fun r261 u262 t H1 locs ht hvm hw hB hz1 hk1 hS => ?_)
      obtain ⟨hP1, hD1⟩ := hB
      rw [ht] at hP1
      obtain ⟨hP, hD⟩ := va_join (wr := [(ou, .inl (cy 2, 1, .inr (.inl f3)))]) (w1 := [(mm, .inr (16, f220))]) hP hD [1] [0] rfl rfl (by decide) (by decide) hk1 hFc hP1 hD1
      generalize H1 = H at hP hS ⊢
      have hP : va_P D vwCl [(ou, .inl (cy 2, 1, .inr (.inl f3))), (mm, .inr (16, f220))] H := hP
      have hD : va_D A [(ou, .inl (cy 2, 1, .inr (.inl f3))), (mm, .inr (16, f220))] := hD
      rcases hw with rfl
      refine lv_iload hx hb dL_law_347 (lv_at hl 1 rfl) ?_
      refine lv_icmp_eq (tgt := 354) hx hb dL_law_349 (by decide) (fun _ => ?_) (fun c9 => absurd (by decide) c9)
      refine lv_iload hx hb dL_law_354 (lv_at hl 1 rfl) ?_
      refine lv_if_ne (tgt := 371) hx hb dL_law_356 (by decide) (fun c9 => absurd (by decide) c9) (fun _ => ?_)
      refine lv_aload_n hx hb dL_law_359 rfl (lv_at hl 3 rfl) ?_
      refine lv_iconst (v := 0) hx hb dL_law_360 (by decide) ?_
      refine va_lald hx hb hK hP 0 2 rfl rfl (by unfold vp_in; decide) dL_law_361 ?_
      rw [show f3 (0 : Int32).toNatClampNeg = (0 : Int64) from hf4]
      refine lv_iload hx hb dL_law_362 (lv_at hl 0 rfl) ?_
      refine lv_i2l (v := 0) hx hb dL_law_364 (by decide) ?_
      refine W.lcmp hx hb dL_law_365 ?_
      rw [show lg_cmp 0 0 = (0 : Int32) by decide]
      refine lv_if_eq (tgt := 371) hx hb dL_law_366 (by decide) (fun _ => ?_) (fun c9 => absurd (by decide) c9)
      refine lv_goto (tgt := 1572) hx hb dL_law_371 (by decide) ?_
      refine lv_iinc (v := 6) (lv' := [(4, .int 6), (6, .int 0), (5, .int 0), (3, .ref ou), (2, .ref mm), (1, .ref xx), (0, .ref b)]) hx hb dL_law_1572 hl (k := 2) rfl (by decide) (by decide) rfl (fun ls hl => ?_)
      refine lv_goto (tgt := 23) hx hb dL_law_1575 (by decide) ?_
      exact law_tail hst hx hb hr hml hown hts hX hbl hlocks hKK hTK hA hbA hAr (Nat.le_of_ble_eq_true rfl) (Nat.le_of_ble_eq_true rfl) hS (lv_sub hl [0, 6] rfl)
set_option maxHeartbeats 4000000 in
set_option maxRecDepth 100000 in
theorem law_explore {p : Program} {l : Launch} {e : Env} {s : State} {m : MethodId} {below : List Frame} {meth : Method} {c : Code} {b : Nat} {xs : Nat → Int32} {D : va_G} {cy : Nat → ClassId} {A : Nat → Prop} (hst : l.stackTraces = false) (hx : p.tables.exec = Jvm.exec) (hb : c.code = code) (hr : meth.sig.returnType = ret) (hml : c.maxLocals = 8) (hown : s.vm.findClass R_law = some m.cls) (hts : ∀ w ∈ lw_tbl, w.before #[Value.ref b] s = true) (hX : va_X b 6 xs s s.heap) (hbl : b < s.heap.size) (hlocks : meth.locks = false) (hKK : kK D cy s) (hTK : tK A s) (hA : ∀ q, s.heap.size ≤ q → A q) (hbA : ¬ A b) (hAr : ∀ q, A q → s.heap.size ≤ q) {xx q1 q26 q6 q16 q35 q41 q88 q111 q127 q132 q134 q136 q138 q140 mm n1 n3 n5 n7 n9 n11 n13 n15 n17 n19 n21 n23 n25 n27 n29 n31 n33 n35 n37 n39 n41 n43 n45 n47 n49 n51 n53 n55 n57 n59 n61 n63 n65 n67 n69 n71 n73 n75 n77 n79 n81 n83 n85 n87 n89 n91 n93 n95 n97 n99 n101 n103 n105 n107 n109 n111 n113 n115 n117 n119 n121 n123 n125 n127 n129 n131 n133 n135 n137 n139 n141 n143 n145 n147 n149 ou : Nat} {H : Heap} {locs : List Loc} (hP : va_P D vwCl [(xx, .inr (15, [.ref q1, .ref q26, .ref q6, .ref q16, .int 0, .int 0, .ref q35, .ref q41, .ref q88, .ref q111, .ref q127, .ref q132, .int 0, .int 0, .ref q134, .ref q136, .ref q138, .ref q140])), (mm, .inr (16, [.int 0, .ref n1, .int 0, .int 0, .int 0, .ref n3, .ref n5, .ref n7, .ref n9, .ref n11, .int 0, .int 0, .int 0, .int 0, .int 0, .int 0, .int 0, .int 0, .int 0, .int 0, .ref n13, .ref n15, .ref n17, .ref n19, .ref n21, .ref n23, .ref n25, .ref n27, .ref n29, .ref n31, .ref n33, .ref n35, .ref n37, .ref n39, .ref n41, .ref n43, .ref n45, .ref n47, .ref n49, .ref n51, .int 0, .int 0, .int 0, .ref n53, .ref n55, .ref n57, .int 0, .int 0, .int 0, .int 0, .ref n59, .ref n61, .ref n63, .int 0, .ref n65, .int 0, .ref n67, .ref n69, .int 0, .ref n71, .ref n73, .int 0, .int 0, .int 0, .ref n75, .ref n77, .int 0, .int 0, .ref n79, .int 0, .int 0, .int 0, .int 0, .ref n81, .ref n83, .ref n85, .ref n87, .ref n89, .ref n91, .ref n93, .ref n95, .ref n97, .ref n99, .ref n101, .ref n103, .int 0, .ref n105, .ref n107, .int 0, .int 0, .ref n109, .ref n111, .int 0, .ref n113, .int 0, .ref n115, .ref n117, .ref n119, .ref n121, .ref n123, .int 0, .ref n125, .ref n127, .int 0, .int 0, .ref n129, .int (-1), .int 0, .int 0, .int 0, .long 0, .ref n131, .long 0, .int 0, .int 0, .ref n133, .ref n135, .ref n137, .ref n139, .ref n141, .ref n143, .ref n145, .ref n147, .ref n149, .int 0, .int 0])), (ou, .inl (cy 2, 1, .inr (.inl (fun _ => 0))))] H) (hD : va_D A [(xx, .inr (15, [.ref q1, .ref q26, .ref q6, .ref q16, .int 0, .int 0, .ref q35, .ref q41, .ref q88, .ref q111, .ref q127, .ref q132, .int 0, .int 0, .ref q134, .ref q136, .ref q138, .ref q140])), (mm, .inr (16, [.int 0, .ref n1, .int 0, .int 0, .int 0, .ref n3, .ref n5, .ref n7, .ref n9, .ref n11, .int 0, .int 0, .int 0, .int 0, .int 0, .int 0, .int 0, .int 0, .int 0, .int 0, .ref n13, .ref n15, .ref n17, .ref n19, .ref n21, .ref n23, .ref n25, .ref n27, .ref n29, .ref n31, .ref n33, .ref n35, .ref n37, .ref n39, .ref n41, .ref n43, .ref n45, .ref n47, .ref n49, .ref n51, .int 0, .int 0, .int 0, .ref n53, .ref n55, .ref n57, .int 0, .int 0, .int 0, .int 0, .ref n59, .ref n61, .ref n63, .int 0, .ref n65, .int 0, .ref n67, .ref n69, .int 0, .ref n71, .ref n73, .int 0, .int 0, .int 0, .ref n75, .ref n77, .int 0, .int 0, .ref n79, .int 0, .int 0, .int 0, .int 0, .ref n81, .ref n83, .ref n85, .ref n87, .ref n89, .ref n91, .ref n93, .ref n95, .ref n97, .ref n99, .ref n101, .ref n103, .int 0, .ref n105, .ref n107, .int 0, .int 0, .ref n109, .ref n111, .int 0, .ref n113, .int 0, .ref n115, .ref n117, .ref n119, .ref n121, .ref n123, .int 0, .ref n125, .ref n127, .int 0, .int 0, .ref n129, .int (-1), .int 0, .int 0, .int 0, .long 0, .ref n131, .long 0, .int 0, .int 0, .ref n133, .ref n135, .ref n137, .ref n139, .ref n141, .ref n143, .ref n145, .ref n147, .ref n149, .int 0, .int 0])), (ou, .inl (cy 2, 1, .inr (.inl (fun _ => 0))))]) (hS : va_S A s.heap H locs) {ls : Array Slot} (hl : lv_has ls 8 [(4, .int 0), (3, .ref ou), (2, .ref mm), (1, .ref xx), (0, .ref b)]) : W p l e room_1 s m #[Value.ref b] below meth c H locs 214 3199238 (lw_Z below #[Value.ref b] s) (F0 m 374 ls []) := by
  have hK := hKK.1
  refine lv_aload_n hx hb dL_law_374 rfl (lv_at hl 3 rfl) ?_
  refine lv_aload_n hx hb dL_law_375 rfl (lv_at hl 4 rfl) ?_
  refine lv_iload hx hb dL_law_376 (lv_at hl 0 rfl) ?_
  refine lv_iconst (v := 1) hx hb dL_law_378 (by decide) ?_
  refine lv_iadd hx hb dL_law_379 ?_
  rw [show (0 : Int32) + 1 = 1 by decide]
  refine va_sld hx hb hX hbl hbA hS (by unfold vp_in; decide) dL_law_380 ?_
  rw [show (1 : Int32).toNatClampNeg = 1 from rfl]
  refine lv_aload_n hx hb dL_law_381 rfl (lv_at hl 1 rfl) ?_
  have hPc := hP.sub (ws' := [(xx, .inr (15, [.ref q1, .ref q26, .ref q6, .ref q16, .int 0, .int 0, .ref q35, .ref q41, .ref q88, .ref q111, .ref q127, .ref q132, .int 0, .int 0, .ref q134, .ref q136, .ref q138, .ref q140])), (ou, .inl (cy 2, 1, .inr (.inl (fun _ => 0))))]) [0, 2] rfl
  have hDc := hD.sub (ws' := [(xx, .inr (15, [.ref q1, .ref q26, .ref q6, .ref q16, .int 0, .int 0, .ref q35, .ref q41, .ref q88, .ref q111, .ref q127, .ref q132, .int 0, .int 0, .ref q134, .ref q136, .ref q138, .ref q140])), (ou, .inl (cy 2, 1, .inr (.inl (fun _ => 0))))]) [0, 2] (by decide) rfl
  have hFc := va_free (wc := [(xx, .inr (15, [.ref q1, .ref q26, .ref q6, .ref q16, .int 0, .int 0, .ref q35, .ref q41, .ref q88, .ref q111, .ref q127, .ref q132, .int 0, .int 0, .ref q134, .ref q136, .ref q138, .ref q140])), (ou, .inl (cy 2, 1, .inr (.inl (fun _ => 0))))]) hD hS hA [0, 2] rfl
  refine va_calli (vx_runSW (As := [.ref xx, .int (xs 1), .ref ou]) (rest := []) ⟨hx, hb, hml, hown, hts⟩ (c_L_explore l D cy xx q1 q26 q6 q16 q35 q41 q88 q111 q127 q132 q134 q136 q138 q140 ou ((xs 1)) H.size hst) (vx_cwSW 3 hts g_law_11 rfl rfl rfl (by decide +kernel) ⟨(Nat.le_of_ble_eq_true rfl), (Nat.le_of_ble_eq_true rfl)⟩) ⟨fun a U g mk q => by obtain ⟨q0, q1, qP, qK, qD, qT⟩ := q; exact ⟨q0, q1, qP, kK.moved (u := U) (U := U.calling g mk a) (Vm.Alike.refl U.vm) qK, qD, tK.same rfl rfl qT⟩, fun U hU hW => ⟨rfl, by rw [hU], by rw [hU]; exact hPc, kK.moved hW.alike hKK, hDc.weaken (fun _ _ _ _ => trivial), tK.at hTK hS hU hW hFc⟩⟩ rfl rfl hl.1 rfl (lv_room (Nat.le_of_ble_eq_true rfl)) dL_law_382 ⟨(Nat.le_of_ble_eq_true rfl), (Nat.le_of_ble_eq_true rfl)⟩) hS (fun q _ h => hFc q h) hFc (fun r1 u2 t H1 locs ht hvm hw hB hz1 hk1 hS => ?_)
  obtain ⟨f3, hP1, hD1, hf4⟩ := hB
  rw [ht] at hP1
  obtain ⟨hP, hD⟩ := va_join (wr := [(mm, .inr (16, [.int 0, .ref n1, .int 0, .int 0, .int 0, .ref n3, .ref n5, .ref n7, .ref n9, .ref n11, .int 0, .int 0, .int 0, .int 0, .int 0, .int 0, .int 0, .int 0, .int 0, .int 0, .ref n13, .ref n15, .ref n17, .ref n19, .ref n21, .ref n23, .ref n25, .ref n27, .ref n29, .ref n31, .ref n33, .ref n35, .ref n37, .ref n39, .ref n41, .ref n43, .ref n45, .ref n47, .ref n49, .ref n51, .int 0, .int 0, .int 0, .ref n53, .ref n55, .ref n57, .int 0, .int 0, .int 0, .int 0, .ref n59, .ref n61, .ref n63, .int 0, .ref n65, .int 0, .ref n67, .ref n69, .int 0, .ref n71, .ref n73, .int 0, .int 0, .int 0, .ref n75, .ref n77, .int 0, .int 0, .ref n79, .int 0, .int 0, .int 0, .int 0, .ref n81, .ref n83, .ref n85, .ref n87, .ref n89, .ref n91, .ref n93, .ref n95, .ref n97, .ref n99, .ref n101, .ref n103, .int 0, .ref n105, .ref n107, .int 0, .int 0, .ref n109, .ref n111, .int 0, .ref n113, .int 0, .ref n115, .ref n117, .ref n119, .ref n121, .ref n123, .int 0, .ref n125, .ref n127, .int 0, .int 0, .ref n129, .int (-1), .int 0, .int 0, .int 0, .long 0, .ref n131, .long 0, .int 0, .int 0, .ref n133, .ref n135, .ref n137, .ref n139, .ref n141, .ref n143, .ref n145, .ref n147, .ref n149, .int 0, .int 0]))]) (w1 := [(ou, .inl (cy 2, 1, .inr (.inl f3)))]) hP hD [0, 2] [1] rfl rfl (by decide) (by decide) hk1 hFc hP1 hD1
  generalize H1 = H at hP hS ⊢
  have hP : va_P D vwCl [(mm, .inr (16, [.int 0, .ref n1, .int 0, .int 0, .int 0, .ref n3, .ref n5, .ref n7, .ref n9, .ref n11, .int 0, .int 0, .int 0, .int 0, .int 0, .int 0, .int 0, .int 0, .int 0, .int 0, .ref n13, .ref n15, .ref n17, .ref n19, .ref n21, .ref n23, .ref n25, .ref n27, .ref n29, .ref n31, .ref n33, .ref n35, .ref n37, .ref n39, .ref n41, .ref n43, .ref n45, .ref n47, .ref n49, .ref n51, .int 0, .int 0, .int 0, .ref n53, .ref n55, .ref n57, .int 0, .int 0, .int 0, .int 0, .ref n59, .ref n61, .ref n63, .int 0, .ref n65, .int 0, .ref n67, .ref n69, .int 0, .ref n71, .ref n73, .int 0, .int 0, .int 0, .ref n75, .ref n77, .int 0, .int 0, .ref n79, .int 0, .int 0, .int 0, .int 0, .ref n81, .ref n83, .ref n85, .ref n87, .ref n89, .ref n91, .ref n93, .ref n95, .ref n97, .ref n99, .ref n101, .ref n103, .int 0, .ref n105, .ref n107, .int 0, .int 0, .ref n109, .ref n111, .int 0, .ref n113, .int 0, .ref n115, .ref n117, .ref n119, .ref n121, .ref n123, .int 0, .ref n125, .ref n127, .int 0, .int 0, .ref n129, .int (-1), .int 0, .int 0, .int 0, .long 0, .ref n131, .long 0, .int 0, .int 0, .ref n133, .ref n135, .ref n137, .ref n139, .ref n141, .ref n143, .ref n145, .ref n147, .ref n149, .int 0, .int 0])), (ou, .inl (cy 2, 1, .inr (.inl f3)))] H := hP
  have hD : va_D A [(mm, .inr (16, [.int 0, .ref n1, .int 0, .int 0, .int 0, .ref n3, .ref n5, .ref n7, .ref n9, .ref n11, .int 0, .int 0, .int 0, .int 0, .int 0, .int 0, .int 0, .int 0, .int 0, .int 0, .ref n13, .ref n15, .ref n17, .ref n19, .ref n21, .ref n23, .ref n25, .ref n27, .ref n29, .ref n31, .ref n33, .ref n35, .ref n37, .ref n39, .ref n41, .ref n43, .ref n45, .ref n47, .ref n49, .ref n51, .int 0, .int 0, .int 0, .ref n53, .ref n55, .ref n57, .int 0, .int 0, .int 0, .int 0, .ref n59, .ref n61, .ref n63, .int 0, .ref n65, .int 0, .ref n67, .ref n69, .int 0, .ref n71, .ref n73, .int 0, .int 0, .int 0, .ref n75, .ref n77, .int 0, .int 0, .ref n79, .int 0, .int 0, .int 0, .int 0, .ref n81, .ref n83, .ref n85, .ref n87, .ref n89, .ref n91, .ref n93, .ref n95, .ref n97, .ref n99, .ref n101, .ref n103, .int 0, .ref n105, .ref n107, .int 0, .int 0, .ref n109, .ref n111, .int 0, .ref n113, .int 0, .ref n115, .ref n117, .ref n119, .ref n121, .ref n123, .int 0, .ref n125, .ref n127, .int 0, .int 0, .ref n129, .int (-1), .int 0, .int 0, .int 0, .long 0, .ref n131, .long 0, .int 0, .int 0, .ref n133, .ref n135, .ref n137, .ref n139, .ref n141, .ref n143, .ref n145, .ref n147, .ref n149, .int 0, .int 0])), (ou, .inl (cy 2, 1, .inr (.inl f3)))] := hD
  refine W.widen (k := 215) (n := 3199244) (Nat.le_of_ble_eq_true rfl) (Nat.le_of_ble_eq_true rfl) ?_
  rcases hw with ⟨rfl, rfl⟩
  refine lv_istore (lv' := [(5, .int 1), (4, .int 0), (3, .ref ou), (2, .ref mm), (1, .ref xx), (0, .ref b)]) hx hb dL_law_385 hl (by decide) rfl (fun ls hl => ?_)
  refine lv_aload_n hx hb dL_law_387 rfl (lv_at hl 3 rfl) ?_
  refine lv_aload_n hx hb dL_law_388 rfl (lv_at hl 5 rfl) ?_
  refine lv_iload hx hb dL_law_389 (lv_at hl 1 rfl) ?_
  refine lv_iconst (v := 1) hx hb dL_law_391 (by decide) ?_
  refine lv_iadd hx hb dL_law_392 ?_
  rw [show (0 : Int32) + 1 = 1 by decide]
  refine va_sld hx hb hX hbl hbA hS (by unfold vp_in; decide) dL_law_393 ?_
  rw [show (1 : Int32).toNatClampNeg = 1 from rfl]
  have hPc := hP.sub (ws' := [(mm, .inr (16, [.int 0, .ref n1, .int 0, .int 0, .int 0, .ref n3, .ref n5, .ref n7, .ref n9, .ref n11, .int 0, .int 0, .int 0, .int 0, .int 0, .int 0, .int 0, .int 0, .int 0, .int 0, .ref n13, .ref n15, .ref n17, .ref n19, .ref n21, .ref n23, .ref n25, .ref n27, .ref n29, .ref n31, .ref n33, .ref n35, .ref n37, .ref n39, .ref n41, .ref n43, .ref n45, .ref n47, .ref n49, .ref n51, .int 0, .int 0, .int 0, .ref n53, .ref n55, .ref n57, .int 0, .int 0, .int 0, .int 0, .ref n59, .ref n61, .ref n63, .int 0, .ref n65, .int 0, .ref n67, .ref n69, .int 0, .ref n71, .ref n73, .int 0, .int 0, .int 0, .ref n75, .ref n77, .int 0, .int 0, .ref n79, .int 0, .int 0, .int 0, .int 0, .ref n81, .ref n83, .ref n85, .ref n87, .ref n89, .ref n91, .ref n93, .ref n95, .ref n97, .ref n99, .ref n101, .ref n103, .int 0, .ref n105, .ref n107, .int 0, .int 0, .ref n109, .ref n111, .int 0, .ref n113, .int 0, .ref n115, .ref n117, .ref n119, .ref n121, .ref n123, .int 0, .ref n125, .ref n127, .int 0, .int 0, .ref n129, .int (-1), .int 0, .int 0, .int 0, .long 0, .ref n131, .long 0, .int 0, .int 0, .ref n133, .ref n135, .ref n137, .ref n139, .ref n141, .ref n143, .ref n145, .ref n147, .ref n149, .int 0, .int 0]))]) [0] rfl
  have hDc := hD.sub (ws' := [(mm, .inr (16, [.int 0, .ref n1, .int 0, .int 0, .int 0, .ref n3, .ref n5, .ref n7, .ref n9, .ref n11, .int 0, .int 0, .int 0, .int 0, .int 0, .int 0, .int 0, .int 0, .int 0, .int 0, .ref n13, .ref n15, .ref n17, .ref n19, .ref n21, .ref n23, .ref n25, .ref n27, .ref n29, .ref n31, .ref n33, .ref n35, .ref n37, .ref n39, .ref n41, .ref n43, .ref n45, .ref n47, .ref n49, .ref n51, .int 0, .int 0, .int 0, .ref n53, .ref n55, .ref n57, .int 0, .int 0, .int 0, .int 0, .ref n59, .ref n61, .ref n63, .int 0, .ref n65, .int 0, .ref n67, .ref n69, .int 0, .ref n71, .ref n73, .int 0, .int 0, .int 0, .ref n75, .ref n77, .int 0, .int 0, .ref n79, .int 0, .int 0, .int 0, .int 0, .ref n81, .ref n83, .ref n85, .ref n87, .ref n89, .ref n91, .ref n93, .ref n95, .ref n97, .ref n99, .ref n101, .ref n103, .int 0, .ref n105, .ref n107, .int 0, .int 0, .ref n109, .ref n111, .int 0, .ref n113, .int 0, .ref n115, .ref n117, .ref n119, .ref n121, .ref n123, .int 0, .ref n125, .ref n127, .int 0, .int 0, .ref n129, .int (-1), .int 0, .int 0, .int 0, .long 0, .ref n131, .long 0, .int 0, .int 0, .ref n133, .ref n135, .ref n137, .ref n139, .ref n141, .ref n143, .ref n145, .ref n147, .ref n149, .int 0, .int 0]))]) [0] (by decide) rfl
  have hFc := va_free (wc := [(mm, .inr (16, [.int 0, .ref n1, .int 0, .int 0, .int 0, .ref n3, .ref n5, .ref n7, .ref n9, .ref n11, .int 0, .int 0, .int 0, .int 0, .int 0, .int 0, .int 0, .int 0, .int 0, .int 0, .ref n13, .ref n15, .ref n17, .ref n19, .ref n21, .ref n23, .ref n25, .ref n27, .ref n29, .ref n31, .ref n33, .ref n35, .ref n37, .ref n39, .ref n41, .ref n43, .ref n45, .ref n47, .ref n49, .ref n51, .int 0, .int 0, .int 0, .ref n53, .ref n55, .ref n57, .int 0, .int 0, .int 0, .int 0, .ref n59, .ref n61, .ref n63, .int 0, .ref n65, .int 0, .ref n67, .ref n69, .int 0, .ref n71, .ref n73, .int 0, .int 0, .int 0, .ref n75, .ref n77, .int 0, .int 0, .ref n79, .int 0, .int 0, .int 0, .int 0, .ref n81, .ref n83, .ref n85, .ref n87, .ref n89, .ref n91, .ref n93, .ref n95, .ref n97, .ref n99, .ref n101, .ref n103, .int 0, .ref n105, .ref n107, .int 0, .int 0, .ref n109, .ref n111, .int 0, .ref n113, .int 0, .ref n115, .ref n117, .ref n119, .ref n121, .ref n123, .int 0, .ref n125, .ref n127, .int 0, .int 0, .ref n129, .int (-1), .int 0, .int 0, .int 0, .long 0, .ref n131, .long 0, .int 0, .int 0, .ref n133, .ref n135, .ref n137, .ref n139, .ref n141, .ref n143, .ref n145, .ref n147, .ref n149, .int 0, .int 0]))]) hD hS hA [0] rfl
  refine va_calli (va_runV (As := [.int (xs 1)]) (rest := []) ⟨hx, hb, hml, hown, hts⟩ (c_X13_explore l D cy mm n1 n3 n5 n7 n9 n11 n13 n15 n17 n19 n21 n23 n25 n27 n29 n31 n33 n35 n37 n39 n41 n43 n45 n47 n49 n51 n53 n55 n57 n59 n61 n63 n65 n67 n69 n71 n73 n75 n77 n79 n81 n83 n85 n87 n89 n91 n93 n95 n97 n99 n101 n103 n105 n107 n109 n111 n113 n115 n117 n119 n121 n123 n125 n127 n129 n131 n133 n135 n137 n139 n141 n143 n145 n147 n149 ((xs 1)) H.size) (cwV 1 hts g_law_12 rfl rfl rfl (by decide +kernel) ⟨(Nat.le_of_ble_eq_true rfl), (Nat.le_of_ble_eq_true rfl)⟩) ⟨fun a U g mk q => by obtain ⟨q0, q1, qP, qK, qD⟩ := q; exact ⟨q0, q1, qP, kK.moved (u := U) (U := U.calling g mk a) (Vm.Alike.refl U.vm) qK, qD⟩, va_recv hK hPc (ci := 16) (q0 := 0) rfl rfl, fun U hU hW => ⟨rfl, by rw [hU], by rw [hU]; exact hPc, kK.moved hW.alike hKK, hDc.weaken (fun _ _ _ _ => trivial)⟩⟩ rfl rfl hl.1 rfl (lv_room (Nat.le_of_ble_eq_true rfl)) dL_law_394 ⟨(Nat.le_of_ble_eq_true rfl), (Nat.le_of_ble_eq_true rfl)⟩) hS (fun q _ h => hFc q h) hFc (fun r5 u6 t H1 locs ht hvm hw hB hz1 hk1 hS => ?_)
  obtain ⟨f7, hP1, hD1, hf8⟩ := hB
  rw [ht] at hP1
  obtain ⟨hP, hD⟩ := va_join (wr := [(ou, .inl (cy 2, 1, .inr (.inl f3)))]) (w1 := [(mm, .inr (16, f7))]) hP hD [0] [1] rfl rfl (by decide) (by decide) hk1 hFc hP1 hD1
  generalize H1 = H at hP hS ⊢
  have hP : va_P D vwCl [(ou, .inl (cy 2, 1, .inr (.inl f3))), (mm, .inr (16, f7))] H := hP
  have hD : va_D A [(ou, .inl (cy 2, 1, .inr (.inl f3))), (mm, .inr (16, f7))] := hD
  rcases hw with ⟨rfl, rfl⟩
  refine lv_istore (lv' := [(6, .int 0), (5, .int 1), (4, .int 0), (3, .ref ou), (2, .ref mm), (1, .ref xx), (0, .ref b)]) hx hb dL_law_397 hl (by decide) rfl (fun ls hl => ?_)
  refine lv_aload_n hx hb dL_law_399 rfl (lv_at hl 4 rfl) ?_
  have hPc := hP.sub (ws' := [(mm, .inr (16, f7))]) [1] rfl
  have hDc := hD.sub (ws' := [(mm, .inr (16, f7))]) [1] (by decide) rfl
  have hFc := va_free (wc := [(mm, .inr (16, f7))]) hD hS hA [1] rfl
  refine va_calli (va_runV (As := []) (rest := []) ⟨hx, hb, hml, hown, hts⟩ (c_X13_thrown l D cy mm f7 1 hf8 H.size) (cwV 0 hts g_law_2 rfl rfl rfl (by decide +kernel) ⟨(Nat.le_of_ble_eq_true rfl), (Nat.le_of_ble_eq_true rfl)⟩) ⟨fun a U g mk q => by obtain ⟨q0, q1, qP, qK, qD⟩ := q; exact ⟨q0, q1, qP, kK.moved (u := U) (U := U.calling g mk a) (Vm.Alike.refl U.vm) qK, qD⟩, va_recv hK hPc (ci := 16) (q0 := 0) rfl rfl, fun U hU hW => ⟨rfl, by rw [hU], by rw [hU]; exact hPc, kK.moved hW.alike hKK, hDc.weaken (fun _ _ _ _ => trivial)⟩⟩ rfl rfl hl.1 rfl (lv_room (Nat.le_of_ble_eq_true rfl)) dL_law_400 ⟨(Nat.le_of_ble_eq_true rfl), (Nat.le_of_ble_eq_true rfl)⟩) hS (fun q _ h => hFc q h) hFc (fun r9 u10 t H1 locs ht hvm hw hB hz1 hk1 hS => ?_)
  obtain ⟨hP1, hD1⟩ := hB
  rw [ht] at hP1
  obtain ⟨hP, hD⟩ := va_join (wr := [(ou, .inl (cy 2, 1, .inr (.inl f3)))]) (w1 := [(mm, .inr (16, f7))]) hP hD [1] [0] rfl rfl (by decide) (by decide) hk1 hFc hP1 hD1
  generalize H1 = H at hP hS ⊢
  have hP : va_P D vwCl [(ou, .inl (cy 2, 1, .inr (.inl f3))), (mm, .inr (16, f7))] H := hP
  have hD : va_D A [(ou, .inl (cy 2, 1, .inr (.inl f3))), (mm, .inr (16, f7))] := hD
  rcases hw with rfl
  refine lv_iload hx hb dL_law_403 (lv_at hl 1 rfl) ?_
  refine lv_icmp_eq (tgt := 410) hx hb dL_law_405 (by decide) (fun _ => ?_) (fun c9 => absurd (by decide) c9)
  refine lv_iload hx hb dL_law_410 (lv_at hl 1 rfl) ?_
  refine lv_if_ne (tgt := 427) hx hb dL_law_412 (by decide) (fun _ => ?_) (fun c9 => absurd c9 (by decide))
  refine lv_goto (tgt := 1572) hx hb dL_law_427 (by decide) ?_
  refine lv_iinc (v := 6) (lv' := [(4, .int 6), (6, .int 0), (5, .int 1), (3, .ref ou), (2, .ref mm), (1, .ref xx), (0, .ref b)]) hx hb dL_law_1572 hl (k := 2) rfl (by decide) (by decide) rfl (fun ls hl => ?_)
  refine lv_goto (tgt := 23) hx hb dL_law_1575 (by decide) ?_
  exact law_tail hst hx hb hr hml hown hts hX hbl hlocks hKK hTK hA hbA hAr (Nat.le_of_ble_eq_true rfl) (Nat.le_of_ble_eq_true rfl) hS (lv_sub hl [0, 6] rfl)
