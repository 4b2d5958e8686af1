theorem d_lk {α : Type} {l : List (Nat × α)} {j : Nat} {v : α} (h : l.lookup j = some v) : (j, v) ∈ l := by
  induction l with
  | nil => cases h
  | cons q t ih =>
    obtain ⟨a, b⟩ := q
    rw [List.lookup_cons] at h
    by_cases e : j = a
    · subst e
      simp at h
      subst h
      exact List.mem_cons_self
    · have e2 : (j == a) = false := by simp [e]
      rw [e2] at h
      exact List.mem_cons_of_mem _ (ih h)
set_option maxRecDepth 100000 in
theorem ok_m : MTs.all (fun r => plainName r.1.cls && decide (r.1.cls = nO r.2.2.2.2.2.1) && osX.contains r.2.2.2.2.2.1 && decide (r.2.2.1 ≤ 81)) = true := by decide +kernel
set_option maxRecDepth 100000 in
theorem ok_p : MTs.all (fun r => decide ((parseMethodDescriptor r.1.desc).map (fun d => d.parameters.length) = some r.2.2.2.2.2.2)) = true := by decide +kernel
set_option maxRecDepth 100000 in
theorem ok_f : osX.all (fun o => (tFL o).all (fun q => osX.contains q.2.1 && decide (q.2.2 < nN q.2.1) && decide ((nT q.2.1 q.2.2).1 = nO q.2.1))) = true := by decide +kernel
theorem ok_n : osX.all (fun o => decide (nO o ≠ "java/lang/invoke/MethodHandle") && decide (nO o ≠ "java/lang/invoke/VarHandle")) = true := by decide +kernel
theorem ok_cl : ∀ o ∈ osX, vwCl[o]? = some (nO o, nT o, nN o) := by
  intro o ho
  simp only [osX, List.mem_cons, List.mem_nil_iff, or_false] at ho
  rcases ho with rfl | rfl | rfl | rfl | rfl | rfl | rfl | rfl | rfl | rfl | rfl | rfl | rfl | rfl
  · exact rfl
  · exact rfl
  · exact rfl
  · exact rfl
  · exact rfl
  · exact rfl
  · exact rfl
  · exact rfl
  · exact rfl
  · exact rfl
  · exact rfl
  · exact rfl
  · exact rfl
  · exact rfl
theorem ok_ty : ∀ o ∈ osX, ∃ ty0 : Nat → FieldType, (∀ k, k < nN o → parseFieldDescriptor (nT o k).2.2.1 = some (ty0 k)) ∧ ∀ k ty fin, tFT o k = some (ty, fin) → k < nN o ∧ ty0 k = ty ∧ (nT o k).2.2.2 = fin := by
  intro o ho
  simp only [osX, List.mem_cons, List.mem_nil_iff, or_false] at ho
  rcases ho with rfl | rfl | rfl | rfl | rfl | rfl | rfl | rfl | rfl | rfl | rfl | rfl | rfl | rfl
  · exact ⟨tyX0, tyX0_ok, fun k ty fin h => by
      have h : (if k < 18 then some (tyX0 k, (TX0 k).2.2.2) else none) = some (ty, fin) := h
      by_cases e : k < 18
      · rw [if_pos e] at h; cases h; exact ⟨e, rfl, rfl⟩
      · rw [if_neg e] at h; cases h⟩
  · exact ⟨tyX1, tyX1_ok, fun k ty fin h => by
      have h : (if k < 7 then some (tyX1 k, (TX1 k).2.2.2) else none) = some (ty, fin) := h
      by_cases e : k < 7
      · rw [if_pos e] at h; cases h; exact ⟨e, rfl, rfl⟩
      · rw [if_neg e] at h; cases h⟩
  · exact ⟨tyX2, tyX2_ok, fun k ty fin h => by
      have h : (if k < 16 then some (tyX2 k, (TX2 k).2.2.2) else none) = some (ty, fin) := h
      by_cases e : k < 16
      · rw [if_pos e] at h; cases h; exact ⟨e, rfl, rfl⟩
      · rw [if_neg e] at h; cases h⟩
  · exact ⟨tyX3, tyX3_ok, fun k ty fin h => by
      have h : (if k < 7 then some (tyX3 k, (TX3 k).2.2.2) else none) = some (ty, fin) := h
      by_cases e : k < 7
      · rw [if_pos e] at h; cases h; exact ⟨e, rfl, rfl⟩
      · rw [if_neg e] at h; cases h⟩
  · exact ⟨tyX4, tyX4_ok, fun k ty fin h => by
      have h : (if k < 20 then some (tyX4 k, (TX4 k).2.2.2) else none) = some (ty, fin) := h
      by_cases e : k < 20
      · rw [if_pos e] at h; cases h; exact ⟨e, rfl, rfl⟩
      · rw [if_neg e] at h; cases h⟩
  · exact ⟨tyX5, tyX5_ok, fun k ty fin h => by
      have h : (if k < 2 then some (tyX5 k, (TX5 k).2.2.2) else none) = some (ty, fin) := h
      by_cases e : k < 2
      · rw [if_pos e] at h; cases h; exact ⟨e, rfl, rfl⟩
      · rw [if_neg e] at h; cases h⟩
  · exact ⟨tyX6, tyX6_ok, fun k ty fin h => by
      have h : (if k < 14 then some (tyX6 k, (TX6 k).2.2.2) else none) = some (ty, fin) := h
      by_cases e : k < 14
      · rw [if_pos e] at h; cases h; exact ⟨e, rfl, rfl⟩
      · rw [if_neg e] at h; cases h⟩
  · exact ⟨tyX7, tyX7_ok, fun k ty fin h => by
      have h : (if k < 19 then some (tyX7 k, (TX7 k).2.2.2) else none) = some (ty, fin) := h
      by_cases e : k < 19
      · rw [if_pos e] at h; cases h; exact ⟨e, rfl, rfl⟩
      · rw [if_neg e] at h; cases h⟩
  · exact ⟨tyX8, tyX8_ok, fun k ty fin h => by
      have h : (if k < 3 then some (tyX8 k, (TX8 k).2.2.2) else none) = some (ty, fin) := h
      by_cases e : k < 3
      · rw [if_pos e] at h; cases h; exact ⟨e, rfl, rfl⟩
      · rw [if_neg e] at h; cases h⟩
  · exact ⟨tyX9, tyX9_ok, fun k ty fin h => by
      have h : (if k < 17 then some (tyX9 k, (TX9 k).2.2.2) else none) = some (ty, fin) := h
      by_cases e : k < 17
      · rw [if_pos e] at h; cases h; exact ⟨e, rfl, rfl⟩
      · rw [if_neg e] at h; cases h⟩
  · exact ⟨tyX10, tyX10_ok, fun k ty fin h => by
      have h : (if k < 6 then some (tyX10 k, (TX10 k).2.2.2) else none) = some (ty, fin) := h
      by_cases e : k < 6
      · rw [if_pos e] at h; cases h; exact ⟨e, rfl, rfl⟩
      · rw [if_neg e] at h; cases h⟩
  · exact ⟨tyX11, tyX11_ok, fun k ty fin h => by
      have h : (if k < 19 then some (tyX11 k, (TX11 k).2.2.2) else none) = some (ty, fin) := h
      by_cases e : k < 19
      · rw [if_pos e] at h; cases h; exact ⟨e, rfl, rfl⟩
      · rw [if_neg e] at h; cases h⟩
  · exact ⟨tyX12, tyX12_ok, fun k ty fin h => by
      have h : (if k < 18 then some (tyX12 k, (TX12 k).2.2.2) else none) = some (ty, fin) := h
      by_cases e : k < 18
      · rw [if_pos e] at h; cases h; exact ⟨e, rfl, rfl⟩
      · rw [if_neg e] at h; cases h⟩
  · exact ⟨tyX13, tyX13_ok, fun k ty fin h => by
      have h : (if k < 126 then some (tyX13 k, (TX13 k).2.2.2) else none) = some (ty, fin) := h
      by_cases e : k < 126
      · rw [if_pos e] at h; cases h; exact ⟨e, rfl, rfl⟩
      · rw [if_neg e] at h; cases h⟩
theorem ok_nm : ∀ o ∈ osX, ∀ a, a < nN o → ∀ b, b < nN o → a ≠ b → (nT o a).2.1 ≠ (nT o b).2.1 := by
  intro o ho
  simp only [osX, List.mem_cons, List.mem_nil_iff, or_false] at ho
  rcases ho with rfl | rfl | rfl | rfl | rfl | rfl | rfl | rfl | rfl | rfl | rfl | rfl | rfl | rfl
  · exact nmX0
  · exact nmX1
  · exact nmX2
  · exact nmX3
  · exact nmX4
  · exact nmX5
  · exact nmX6
  · exact nmX7
  · exact nmX8
  · exact nmX9
  · exact nmX10
  · exact nmX11
  · exact nmX12
  · exact nmX13
theorem gw_0 {w : Cond} (h : w ∈ MTs.map (fun r => Cond.code r.1 r.2.1 r.2.2.1 r.2.2.2.1)) : w ∈ GWs := List.mem_append_left _ (h)
theorem gw_1 {w : Cond} (h : w ∈ osX.map (fun o => Cond.initialized (nO o))) : w ∈ GWs := List.mem_append_right _ (List.mem_append_left _ (h))
theorem gw_2 {w : Cond} (h : w ∈ (MTs.filter (fun r => r.2.2.2.2.1)).map (fun r => Cond.static r.1)) : w ∈ GWs := List.mem_append_right _ (List.mem_append_right _ (List.mem_append_left _ (h)))
theorem gw_3 {w : Cond} (h : w ∈ (MTs.filter (fun r => !r.2.2.2.2.1)).map (fun r => Cond.instanceMethod r.1)) : w ∈ GWs := List.mem_append_right _ (List.mem_append_right _ (List.mem_append_right _ (List.mem_append_left _ (h))))
theorem gw_4 {w : Cond} (h : w ∈ (MTs.filter (fun r => !r.2.2.2.2.1)).map (fun r => Cond.selects r.1.cls r.1 r.1)) : w ∈ GWs := List.mem_append_right _ (List.mem_append_right _ (List.mem_append_right _ (List.mem_append_right _ (List.mem_append_left _ (h)))))
theorem gw_5 {w : Cond} (h : w ∈ osX.flatMap (fun o => (tFL o).map (fun q => Cond.fieldLink (nO o) q.1 (nO q.2.1) (nT q.2.1 q.2.2).2.1 (nT q.2.1 q.2.2).2.2.1))) : w ∈ GWs := List.mem_append_right _ (List.mem_append_right _ (List.mem_append_right _ (List.mem_append_right _ (List.mem_append_right _ (List.mem_append_left _ (h))))))
theorem gw_6 {w : Cond} (h : w ∈ osX.flatMap (fun o => (tML o).filterMap (fun q => (MTs[q.2]?).map (fun r => Cond.methodLink (nO o) q.1 r.1)))) : w ∈ GWs := List.mem_append_right _ (List.mem_append_right _ (List.mem_append_right _ (List.mem_append_right _ (List.mem_append_right _ (List.mem_append_right _ (List.mem_append_left _ (h)))))))
theorem gw_7 {w : Cond} (h : w ∈ osX.flatMap (fun o => (tCN o).map (fun q => Cond.constant (nO o) q.1 q.2))) : w ∈ GWs := List.mem_append_right _ (List.mem_append_right _ (List.mem_append_right _ (List.mem_append_right _ (List.mem_append_right _ (List.mem_append_right _ (List.mem_append_right _ (List.mem_append_left _ (h))))))))
theorem gw_8 {w : Cond} (h : w ∈ osX.flatMap (fun o => (tCL o).map (fun q => Cond.constantLong (nO o) q.1 q.2))) : w ∈ GWs := List.mem_append_right _ (List.mem_append_right _ (List.mem_append_right _ (List.mem_append_right _ (List.mem_append_right _ (List.mem_append_right _ (List.mem_append_right _ (List.mem_append_right _ (List.mem_append_left _ (h)))))))))
theorem gw_9 {w : Cond} (h : w ∈ osX.flatMap (fun o => u_ws (nO o) (nT o) (nN o))) : w ∈ GWs := List.mem_append_right _ (List.mem_append_right _ (List.mem_append_right _ (List.mem_append_right _ (List.mem_append_right _ (List.mem_append_right _ (List.mem_append_right _ (List.mem_append_right _ (List.mem_append_right _ (List.mem_append_left _ (h))))))))))
theorem gw_10 {w : Cond} (h : w ∈ [Cond.arrayClass .int, Cond.arrayClass .byte, Cond.arrayClass .long, Cond.arrayClass .boolean]) : w ∈ GWs := List.mem_append_right _ (List.mem_append_right _ (List.mem_append_right _ (List.mem_append_right _ (List.mem_append_right _ (List.mem_append_right _ (List.mem_append_right _ (List.mem_append_right _ (List.mem_append_right _ (List.mem_append_right _ (h))))))))))
theorem ok_good : ∀ w ∈ GWs, goodWord w = true := by
  intro w hw
  unfold GWs at hw
  rcases List.mem_append.mp hw with h | hw
  · obtain ⟨r, -, rfl⟩ := List.mem_map.mp h; rfl
  rcases List.mem_append.mp hw with h | hw
  · obtain ⟨r, -, rfl⟩ := List.mem_map.mp h; rfl
  rcases List.mem_append.mp hw with h | hw
  · obtain ⟨r, -, rfl⟩ := List.mem_map.mp h; rfl
  rcases List.mem_append.mp hw with h | hw
  · obtain ⟨r, -, rfl⟩ := List.mem_map.mp h; rfl
  rcases List.mem_append.mp hw with h | hw
  · obtain ⟨r, -, rfl⟩ := List.mem_map.mp h; rfl
  rcases List.mem_append.mp hw with h | hw
  · obtain ⟨o, -, h⟩ := List.mem_flatMap.mp h; obtain ⟨q, -, rfl⟩ := List.mem_map.mp h; rfl
  rcases List.mem_append.mp hw with h | hw
  · obtain ⟨o, -, h⟩ := List.mem_flatMap.mp h
    obtain ⟨q, -, h⟩ := List.mem_filterMap.mp h
    cases hr : MTs[q.2]? with
    | none => rw [hr] at h; cases h
    | some r => rw [hr] at h; cases h; rfl
  rcases List.mem_append.mp hw with h | hw
  · obtain ⟨o, -, h⟩ := List.mem_flatMap.mp h; obtain ⟨q, -, rfl⟩ := List.mem_map.mp h; rfl
  rcases List.mem_append.mp hw with h | hw
  · obtain ⟨o, -, h⟩ := List.mem_flatMap.mp h; obtain ⟨q, -, rfl⟩ := List.mem_map.mp h; rfl
  rcases List.mem_append.mp hw with h | hw
  · obtain ⟨o, -, h⟩ := List.mem_flatMap.mp h
    obtain ⟨k, -, rfl⟩ := List.mem_map.mp h
    unfold u_lay
    split <;> rfl
  · simp only [List.mem_cons, List.mem_nil_iff, or_false] at hw
    rcases hw with rfl | rfl | rfl | rfl <;> rfl
theorem ok_all : dOK dEE vwCl GWs := by
  refine ⟨ok_good, ?_, ?_⟩
  · intro at0 x h
    cases at0 with
    | int => exact gw_10 (by simp [newarray.typeOf])
    | byte => exact gw_10 (by simp [newarray.typeOf])
    | long => exact gw_10 (by simp [newarray.typeOf])
    | boolean => exact gw_10 (by simp [newarray.typeOf])
    | _ => cases h
  · intro j r hj
    have hr : r ∈ MTs := List.mem_of_getElem? hj
    have h1 := List.all_eq_true.mp ok_m r hr
    have h2 := List.all_eq_true.mp ok_p r hr
    simp only [Bool.and_eq_true, decide_eq_true_eq, List.contains_iff_mem] at h1
    obtain ⟨⟨⟨a1, a2⟩, a3⟩, a4⟩ := h1
    have h3 := List.all_eq_true.mp ok_n _ a3
    simp only [Bool.and_eq_true, decide_eq_true_eq] at h3
    refine ⟨a1, gw_0 (List.mem_map.mpr ⟨r, hr, rfl⟩), ?_, ⟨?_, ?_, of_decide_eq_true h2⟩, a4, ?_, ?_, ?_, ?_, ?_, ?_⟩
    · rw [a2]; exact gw_1 (List.mem_map.mpr ⟨_, a3, rfl⟩)
    · rw [a2]; exact h3.1
    · rw [a2]; exact h3.2
    · intro hs; exact gw_2 (List.mem_map.mpr ⟨r, List.mem_filter.mpr ⟨hr, hs⟩, rfl⟩)
    · intro hs
      have hm : r ∈ MTs.filter (fun r => !r.2.2.2.2.1) := List.mem_filter.mpr ⟨hr, by rw [hs]; rfl⟩
      refine ⟨gw_3 (List.mem_map.mpr ⟨r, hm, rfl⟩), gw_4 (List.mem_map.mpr ⟨r, hm, rfl⟩), nT r.2.2.2.2.2.1, nN r.2.2.2.2.2.1, ?_⟩
      rw [a2]; exact ok_cl _ a3
    · intro idx ci k hf
      have hq := d_lk hf
      have h4 := List.all_eq_true.mp (List.all_eq_true.mp ok_f _ a3) _ hq
      simp only [Bool.and_eq_true, decide_eq_true_eq, List.contains_iff_mem] at h4
      obtain ⟨⟨b1, b2⟩, b3⟩ := h4
      obtain ⟨ty0, c1, c2⟩ := ok_ty ci b1
      refine ⟨nO ci, nT ci, nN ci, ty0, ok_cl ci b1, b2, b3, ?_, ?_, c1, ok_nm ci b1, ?_⟩
      · rw [a2]; exact gw_5 (List.mem_flatMap.mpr ⟨_, a3, List.mem_map.mpr ⟨_, hq, rfl⟩⟩)
      · intro w hw; exact gw_9 (List.mem_flatMap.mpr ⟨ci, b1, hw⟩)
      · intro ty fin ht
        obtain ⟨e1, e2, e3⟩ := c2 k ty fin ht
        exact ⟨by rw [← e2]; exact c1 k e1, e3⟩
    · intro idx j' r' hm hj'
      rw [a2]
      exact gw_6 (List.mem_flatMap.mpr ⟨_, a3, List.mem_filterMap.mpr ⟨_, d_lk hm, by show (MTs[j']?).map _ = _; rw [show MTs[j']? = some r' from hj']; rfl⟩⟩)
    · intro idx v hv; rw [a2]; exact gw_7 (List.mem_flatMap.mpr ⟨_, a3, List.mem_map.mpr ⟨_, d_lk hv, rfl⟩⟩)
    · intro idx v hv; rw [a2]; exact gw_8 (List.mem_flatMap.mpr ⟨_, a3, List.mem_map.mpr ⟨_, d_lk hv, rfl⟩⟩)
