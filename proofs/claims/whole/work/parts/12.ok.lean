theorem d_lk {α : Type} {l : List (Nat × α)} {j : Nat} {v : α} (h : l.lookup j = some v) : (j, v) ∈ l := by
  induction l with
  | nil => cases h
  | cons q t ih =>
    obtain ⟨a, b⟩ := q
    rw [List.lookup_cons] at h
    by_cases e : j = a
    · subst e
      simp at h
      subst h
      exact List.mem_cons_self
    · have e2 : (j == a) = false := by simp [e]
      rw [e2] at h
      exact List.mem_cons_of_mem _ (ih h)
theorem d_lko {α : Type} {f : Nat → List (Nat × α)} (hf : ∀ o, ¬ o ∈ osA → f o = []) {o i : Nat} {v : α} (h : (f o).lookup i = some v) : o ∈ osA ∧ (i, v) ∈ f o := by
  refine ⟨?_, d_lk h⟩
  by_cases e : o ∈ osA
  · exact e
  · rw [hf o e] at h; cases h
set_option maxRecDepth 100000 in
theorem ok_m : (MTs ++ KMs.map (fun q => q.1) ++ [rLaw]).all (fun r => plainName r.1.cls && decide (r.1.cls = nO r.2.2.2.2.2.1) && osA.contains r.2.2.2.2.2.1 && decide (r.2.2.1 ≤ 81) && (r.2.2.2.2.1 || osC.contains r.2.2.2.2.2.1) && (!r.2.2.2.2.1 || decide (r.1.name ≠ "<init>"))) = true := by decide +kernel
set_option maxRecDepth 100000 in
theorem ok_p : (MTs ++ KMs.map (fun q => q.1) ++ [rLaw]).all (fun r => decide ((parseMethodDescriptor r.1.desc).map (fun d => d.parameters.length) = some r.2.2.2.2.2.2)) = true := by decide +kernel
set_option maxRecDepth 100000 in
theorem ok_f : osA.all (fun o => (tFL o).all (fun q => osC.contains q.2.1 && decide (q.2.2 < nN q.2.1) && decide ((nT q.2.1 q.2.2).1 = nO q.2.1))) = true := by decide +kernel
theorem ok_n : osA.all (fun o => decide (nO o ≠ "java/lang/invoke/MethodHandle") && decide (nO o ≠ "java/lang/invoke/VarHandle")) = true := by decide +kernel
set_option maxRecDepth 100000 in
theorem ok_w : osA.all (fun o => (tNW o).all (fun q => osC.contains q.2)) = true := by decide +kernel
theorem ok_a : osA.all (fun o => (tAN o).all (fun q => q.2 == 4 || q.2 == 5)) = true := by decide +kernel
theorem ok_g : osA.all (fun o => (tGS o).all (fun q => decide (q.2 = 1))) = true := by decide +kernel
theorem ok_x1 : osA.all (fun o => (tX1 o).all (fun q => exs.contains q.2)) = true := by decide +kernel
theorem ok_xh : osA.all (fun o => (tXH o).all (fun q => exs.contains q.2)) = true := by decide +kernel
set_option maxRecDepth 100000 in
theorem ok_x2 : osA.all (fun o => (tX2 o).all (fun q => ((vx_atS (nO o) q.1 q.2 xnm).filter (fun w => !goodWord w)).all (fun w => decide (w ∈ xB q.2)) && (vx_atS (nO o) q.1 q.2 xnm).all vx_ot)) = true := by decide +kernel
set_option maxRecDepth 100000 in
theorem ok_s : osA.all (fun o => (tSR o).all (fun q => decide ((STs[q.2]?).map (fun z => (z.1, z.2.1)) = some (nO o, q.1)))) = true := by decide +kernel
set_option maxRecDepth 100000 in
theorem ok_mx : osA.all (fun o => (tMX o).all (fun q => match MTs[q.2]? with | some r => r.2.2.2.2.1 && decide ((nO o, q.1, r.1, "ChanceWorks") ∈ nls) | none => false)) = true := by decide +kernel
theorem em_FL : ∀ o, ¬ o ∈ osA → tFL o = [] := by
  intro o ho
  unfold tFL
  split <;> first | rfl | exact absurd (by decide) ho
theorem em_ML : ∀ o, ¬ o ∈ osA → tML o = [] := by
  intro o ho
  unfold tML
  split <;> first | rfl | exact absurd (by decide) ho
theorem em_MX : ∀ o, ¬ o ∈ osA → tMX o = [] := by
  intro o ho
  unfold tMX
  split <;> first | rfl | exact absurd (by decide) ho
theorem em_KL : ∀ o, ¬ o ∈ osA → tKL o = [] := by
  intro o ho
  unfold tKL
  split <;> first | rfl | exact absurd (by decide) ho
theorem em_CN : ∀ o, ¬ o ∈ osA → tCN o = [] := by
  intro o ho
  unfold tCN
  split <;> first | rfl | exact absurd (by decide) ho
theorem em_CL : ∀ o, ¬ o ∈ osA → tCL o = [] := by
  intro o ho
  unfold tCL
  split <;> first | rfl | exact absurd (by decide) ho
theorem em_NW : ∀ o, ¬ o ∈ osA → tNW o = [] := by
  intro o ho
  unfold tNW
  split <;> first | rfl | exact absurd (by decide) ho
theorem em_AN : ∀ o, ¬ o ∈ osA → tAN o = [] := by
  intro o ho
  unfold tAN
  split <;> first | rfl | exact absurd (by decide) ho
theorem em_BI : ∀ o, ¬ o ∈ osA → tBI o = [] := by
  intro o ho
  unfold tBI
  split <;> first | rfl | exact absurd (by decide) ho
theorem em_X1 : ∀ o, ¬ o ∈ osA → tX1 o = [] := by
  intro o ho
  unfold tX1
  split <;> first | rfl | exact absurd (by decide) ho
theorem em_X2 : ∀ o, ¬ o ∈ osA → tX2 o = [] := by
  intro o ho
  unfold tX2
  split <;> first | rfl | exact absurd (by decide) ho
theorem em_XH : ∀ o, ¬ o ∈ osA → tXH o = [] := by
  intro o ho
  unfold tXH
  split <;> first | rfl | exact absurd (by decide) ho
theorem em_GS : ∀ o, ¬ o ∈ osA → tGS o = [] := by
  intro o ho
  unfold tGS
  split <;> first | rfl | exact absurd (by decide) ho
theorem em_SR : ∀ o, ¬ o ∈ osA → tSR o = [] := by
  intro o ho
  unfold tSR
  split <;> first | rfl | exact absurd (by decide) ho
theorem em_SF : ∀ o, ¬ o ∈ osA → tSF o = [] := by
  intro o ho
  unfold tSF
  split <;> first | rfl | exact absurd (by decide) ho
theorem ok_cl : ∀ o ∈ osC, vwCl[o]? = some (nO o, nT o, nN o) := by
  intro o ho
  simp only [osC, List.mem_cons, List.mem_nil_iff, or_false] at ho
  rcases ho with rfl | rfl | rfl | rfl | rfl | rfl | rfl | rfl | rfl | rfl | rfl | rfl | rfl | rfl | rfl
  · exact rfl
  · exact rfl
  · exact rfl
  · exact rfl
  · exact rfl
  · exact rfl
  · exact rfl
  · exact rfl
  · exact rfl
  · exact rfl
  · exact rfl
  · exact rfl
  · exact rfl
  · exact rfl
  · exact rfl
theorem ok_ty : ∀ o ∈ osC, ∀ k, k < nN o → parseFieldDescriptor (nT o k).2.2.1 = some (nY o k) := by
  intro o ho
  simp only [osC, List.mem_cons, List.mem_nil_iff, or_false] at ho
  rcases ho with rfl | rfl | rfl | rfl | rfl | rfl | rfl | rfl | rfl | rfl | rfl | rfl | rfl | rfl | rfl
  · exact tyX0_ok
  · exact tyX1_ok
  · exact tyX2_ok
  · exact tyX3_ok
  · exact tyX4_ok
  · exact tyX5_ok
  · exact tyX6_ok
  · exact tyX7_ok
  · exact tyX8_ok
  · exact tyX9_ok
  · exact tyX10_ok
  · exact tyX11_ok
  · exact tyX12_ok
  · exact tyX13_ok
  · exact tyJ0_ok
theorem ok_nm : ∀ o ∈ osC, ∀ a, a < nN o → ∀ b, b < nN o → a ≠ b → (nT o a).2.1 ≠ (nT o b).2.1 := by
  intro o ho
  simp only [osC, List.mem_cons, List.mem_nil_iff, or_false] at ho
  rcases ho with rfl | rfl | rfl | rfl | rfl | rfl | rfl | rfl | rfl | rfl | rfl | rfl | rfl | rfl | rfl
  · exact nmX0
  · exact nmX1
  · exact nmX2
  · exact nmX3
  · exact nmX4
  · exact nmX5
  · exact nmX6
  · exact nmX7
  · exact nmX8
  · exact nmX9
  · exact nmX10
  · exact nmX11
  · exact nmX12
  · exact nmX13
  · exact nmJ0
theorem gw_0 {w : Cond} (h : w ∈ GS0) : w ∈ GWs := List.mem_append_left _ (h)
theorem gw_1 {w : Cond} (h : w ∈ GS1) : w ∈ GWs := List.mem_append_right _ (List.mem_append_left _ (h))
theorem gw_2 {w : Cond} (h : w ∈ GS2) : w ∈ GWs := List.mem_append_right _ (List.mem_append_right _ (List.mem_append_left _ (h)))
theorem gw_3 {w : Cond} (h : w ∈ GS3) : w ∈ GWs := List.mem_append_right _ (List.mem_append_right _ (List.mem_append_right _ (List.mem_append_left _ (h))))
theorem gw_4 {w : Cond} (h : w ∈ GS4) : w ∈ GWs := List.mem_append_right _ (List.mem_append_right _ (List.mem_append_right _ (List.mem_append_right _ (List.mem_append_left _ (h)))))
theorem gw_5 {w : Cond} (h : w ∈ GS5) : w ∈ GWs := List.mem_append_right _ (List.mem_append_right _ (List.mem_append_right _ (List.mem_append_right _ (List.mem_append_right _ (List.mem_append_left _ (h))))))
theorem gw_6 {w : Cond} (h : w ∈ GS6) : w ∈ GWs := List.mem_append_right _ (List.mem_append_right _ (List.mem_append_right _ (List.mem_append_right _ (List.mem_append_right _ (List.mem_append_right _ (List.mem_append_left _ (h)))))))
theorem gw_7 {w : Cond} (h : w ∈ GS7) : w ∈ GWs := List.mem_append_right _ (List.mem_append_right _ (List.mem_append_right _ (List.mem_append_right _ (List.mem_append_right _ (List.mem_append_right _ (List.mem_append_right _ (List.mem_append_left _ (h))))))))
theorem gw_8 {w : Cond} (h : w ∈ GS8) : w ∈ GWs := List.mem_append_right _ (List.mem_append_right _ (List.mem_append_right _ (List.mem_append_right _ (List.mem_append_right _ (List.mem_append_right _ (List.mem_append_right _ (List.mem_append_right _ (List.mem_append_left _ (h)))))))))
theorem gw_9 {w : Cond} (h : w ∈ GS9) : w ∈ GWs := List.mem_append_right _ (List.mem_append_right _ (List.mem_append_right _ (List.mem_append_right _ (List.mem_append_right _ (List.mem_append_right _ (List.mem_append_right _ (List.mem_append_right _ (List.mem_append_right _ (List.mem_append_left _ (h))))))))))
theorem gw_10 {w : Cond} (h : w ∈ GS10) : w ∈ GWs := List.mem_append_right _ (List.mem_append_right _ (List.mem_append_right _ (List.mem_append_right _ (List.mem_append_right _ (List.mem_append_right _ (List.mem_append_right _ (List.mem_append_right _ (List.mem_append_right _ (List.mem_append_right _ (List.mem_append_left _ (h)))))))))))
theorem gw_11 {w : Cond} (h : w ∈ GS11) : w ∈ GWs := List.mem_append_right _ (List.mem_append_right _ (List.mem_append_right _ (List.mem_append_right _ (List.mem_append_right _ (List.mem_append_right _ (List.mem_append_right _ (List.mem_append_right _ (List.mem_append_right _ (List.mem_append_right _ (List.mem_append_right _ (List.mem_append_left _ (h))))))))))))
theorem gw_12 {w : Cond} (h : w ∈ GS12) : w ∈ GWs := List.mem_append_right _ (List.mem_append_right _ (List.mem_append_right _ (List.mem_append_right _ (List.mem_append_right _ (List.mem_append_right _ (List.mem_append_right _ (List.mem_append_right _ (List.mem_append_right _ (List.mem_append_right _ (List.mem_append_right _ (List.mem_append_right _ (List.mem_append_left _ (h)))))))))))))
theorem gw_13 {w : Cond} (h : w ∈ GS13) : w ∈ GWs := List.mem_append_right _ (List.mem_append_right _ (List.mem_append_right _ (List.mem_append_right _ (List.mem_append_right _ (List.mem_append_right _ (List.mem_append_right _ (List.mem_append_right _ (List.mem_append_right _ (List.mem_append_right _ (List.mem_append_right _ (List.mem_append_right _ (List.mem_append_right _ (List.mem_append_left _ (h))))))))))))))
theorem gw_14 {w : Cond} (h : w ∈ GS14) : w ∈ GWs := List.mem_append_right _ (List.mem_append_right _ (List.mem_append_right _ (List.mem_append_right _ (List.mem_append_right _ (List.mem_append_right _ (List.mem_append_right _ (List.mem_append_right _ (List.mem_append_right _ (List.mem_append_right _ (List.mem_append_right _ (List.mem_append_right _ (List.mem_append_right _ (List.mem_append_right _ (List.mem_append_left _ (h)))))))))))))))
theorem gw_15 {w : Cond} (h : w ∈ GS15) : w ∈ GWs := List.mem_append_right _ (List.mem_append_right _ (List.mem_append_right _ (List.mem_append_right _ (List.mem_append_right _ (List.mem_append_right _ (List.mem_append_right _ (List.mem_append_right _ (List.mem_append_right _ (List.mem_append_right _ (List.mem_append_right _ (List.mem_append_right _ (List.mem_append_right _ (List.mem_append_right _ (List.mem_append_right _ (List.mem_append_left _ (h))))))))))))))))
theorem gw_16 {w : Cond} (h : w ∈ GS16) : w ∈ GWs := List.mem_append_right _ (List.mem_append_right _ (List.mem_append_right _ (List.mem_append_right _ (List.mem_append_right _ (List.mem_append_right _ (List.mem_append_right _ (List.mem_append_right _ (List.mem_append_right _ (List.mem_append_right _ (List.mem_append_right _ (List.mem_append_right _ (List.mem_append_right _ (List.mem_append_right _ (List.mem_append_right _ (List.mem_append_right _ (List.mem_append_left _ (h)))))))))))))))))
theorem gw_17 {w : Cond} (h : w ∈ GS17) : w ∈ GWs := List.mem_append_right _ (List.mem_append_right _ (List.mem_append_right _ (List.mem_append_right _ (List.mem_append_right _ (List.mem_append_right _ (List.mem_append_right _ (List.mem_append_right _ (List.mem_append_right _ (List.mem_append_right _ (List.mem_append_right _ (List.mem_append_right _ (List.mem_append_right _ (List.mem_append_right _ (List.mem_append_right _ (List.mem_append_right _ (List.mem_append_right _ (List.mem_append_left _ (h))))))))))))))))))
theorem gw_18 {w : Cond} (h : w ∈ GS18) : w ∈ GWs := List.mem_append_right _ (List.mem_append_right _ (List.mem_append_right _ (List.mem_append_right _ (List.mem_append_right _ (List.mem_append_right _ (List.mem_append_right _ (List.mem_append_right _ (List.mem_append_right _ (List.mem_append_right _ (List.mem_append_right _ (List.mem_append_right _ (List.mem_append_right _ (List.mem_append_right _ (List.mem_append_right _ (List.mem_append_right _ (List.mem_append_right _ (List.mem_append_right _ (List.mem_append_left _ (h)))))))))))))))))))
theorem gw_19 {w : Cond} (h : w ∈ GS19) : w ∈ GWs := List.mem_append_right _ (List.mem_append_right _ (List.mem_append_right _ (List.mem_append_right _ (List.mem_append_right _ (List.mem_append_right _ (List.mem_append_right _ (List.mem_append_right _ (List.mem_append_right _ (List.mem_append_right _ (List.mem_append_right _ (List.mem_append_right _ (List.mem_append_right _ (List.mem_append_right _ (List.mem_append_right _ (List.mem_append_right _ (List.mem_append_right _ (List.mem_append_right _ (List.mem_append_right _ (List.mem_append_left _ (h))))))))))))))))))))
theorem gw_20 {w : Cond} (h : w ∈ GS20) : w ∈ GWs := List.mem_append_right _ (List.mem_append_right _ (List.mem_append_right _ (List.mem_append_right _ (List.mem_append_right _ (List.mem_append_right _ (List.mem_append_right _ (List.mem_append_right _ (List.mem_append_right _ (List.mem_append_right _ (List.mem_append_right _ (List.mem_append_right _ (List.mem_append_right _ (List.mem_append_right _ (List.mem_append_right _ (List.mem_append_right _ (List.mem_append_right _ (List.mem_append_right _ (List.mem_append_right _ (List.mem_append_right _ (List.mem_append_left _ (h)))))))))))))))))))))
theorem gw_21 {w : Cond} (h : w ∈ GS21) : w ∈ GWs := List.mem_append_right _ (List.mem_append_right _ (List.mem_append_right _ (List.mem_append_right _ (List.mem_append_right _ (List.mem_append_right _ (List.mem_append_right _ (List.mem_append_right _ (List.mem_append_right _ (List.mem_append_right _ (List.mem_append_right _ (List.mem_append_right _ (List.mem_append_right _ (List.mem_append_right _ (List.mem_append_right _ (List.mem_append_right _ (List.mem_append_right _ (List.mem_append_right _ (List.mem_append_right _ (List.mem_append_right _ (List.mem_append_right _ (List.mem_append_left _ (h))))))))))))))))))))))
theorem gw_22 {w : Cond} (h : w ∈ GS22) : w ∈ GWs := List.mem_append_right _ (List.mem_append_right _ (List.mem_append_right _ (List.mem_append_right _ (List.mem_append_right _ (List.mem_append_right _ (List.mem_append_right _ (List.mem_append_right _ (List.mem_append_right _ (List.mem_append_right _ (List.mem_append_right _ (List.mem_append_right _ (List.mem_append_right _ (List.mem_append_right _ (List.mem_append_right _ (List.mem_append_right _ (List.mem_append_right _ (List.mem_append_right _ (List.mem_append_right _ (List.mem_append_right _ (List.mem_append_right _ (List.mem_append_right _ (List.mem_append_left _ (h)))))))))))))))))))))))
theorem gw_23 {w : Cond} (h : w ∈ GS23) : w ∈ GWs := List.mem_append_right _ (List.mem_append_right _ (List.mem_append_right _ (List.mem_append_right _ (List.mem_append_right _ (List.mem_append_right _ (List.mem_append_right _ (List.mem_append_right _ (List.mem_append_right _ (List.mem_append_right _ (List.mem_append_right _ (List.mem_append_right _ (List.mem_append_right _ (List.mem_append_right _ (List.mem_append_right _ (List.mem_append_right _ (List.mem_append_right _ (List.mem_append_right _ (List.mem_append_right _ (List.mem_append_right _ (List.mem_append_right _ (List.mem_append_right _ (List.mem_append_right _ (h)))))))))))))))))))))))
set_option maxRecDepth 100000 in
theorem ok_gb : GS16.all goodWord = true := by decide +kernel
theorem ok_good : ∀ w ∈ GWs, goodWord w = true := by
  intro w hw
  unfold GWs at hw
  rcases List.mem_append.mp hw with h | hw
  · obtain ⟨r, -, rfl⟩ := List.mem_map.mp h; rfl
  rcases List.mem_append.mp hw with h | hw
  · obtain ⟨r, -, rfl⟩ := List.mem_map.mp h; rfl
  rcases List.mem_append.mp hw with h | hw
  · obtain ⟨r, -, rfl⟩ := List.mem_map.mp h; rfl
  rcases List.mem_append.mp hw with h | hw
  · obtain ⟨r, -, rfl⟩ := List.mem_map.mp h; rfl
  rcases List.mem_append.mp hw with h | hw
  · obtain ⟨r, -, rfl⟩ := List.mem_map.mp h; rfl
  rcases List.mem_append.mp hw with h | hw
  · obtain ⟨r, -, rfl⟩ := List.mem_map.mp h; rfl
  rcases List.mem_append.mp hw with h | hw
  · obtain ⟨o, -, h⟩ := List.mem_flatMap.mp h; obtain ⟨q, -, rfl⟩ := List.mem_map.mp h; rfl
  rcases List.mem_append.mp hw with h | hw
  · obtain ⟨o, -, h⟩ := List.mem_flatMap.mp h
    obtain ⟨q, -, h⟩ := List.mem_filterMap.mp h
    cases hr : MTs[q.2]? with
    | none => rw [hr] at h; cases h
    | some r => rw [hr] at h; cases h; rfl
  rcases List.mem_append.mp hw with h | hw
  · obtain ⟨o, -, h⟩ := List.mem_flatMap.mp h
    obtain ⟨q, -, h⟩ := List.mem_filterMap.mp h
    cases hr : KMs[q.2]? with
    | none => rw [hr] at h; cases h
    | some r => rw [hr] at h; cases h; rfl
  rcases List.mem_append.mp hw with h | hw
  · obtain ⟨o, -, h⟩ := List.mem_flatMap.mp h; obtain ⟨q, -, rfl⟩ := List.mem_map.mp h; rfl
  rcases List.mem_append.mp hw with h | hw
  · obtain ⟨o, -, h⟩ := List.mem_flatMap.mp h; obtain ⟨q, -, rfl⟩ := List.mem_map.mp h; rfl
  rcases List.mem_append.mp hw with h | hw
  · obtain ⟨o, -, h⟩ := List.mem_flatMap.mp h
    obtain ⟨k, -, rfl⟩ := List.mem_map.mp h
    unfold u_lay
    split <;> rfl
  rcases List.mem_append.mp hw with h | hw
  · simp only [GS12, List.mem_cons, List.mem_nil_iff, or_false] at h
    rcases h with rfl | rfl | rfl | rfl <;> rfl
  rcases List.mem_append.mp hw with h | hw
  · obtain ⟨o, -, h⟩ := List.mem_flatMap.mp h; obtain ⟨q, -, rfl⟩ := List.mem_map.mp h; rfl
  rcases List.mem_append.mp hw with h | hw
  · obtain ⟨o, -, h⟩ := List.mem_flatMap.mp h; obtain ⟨q, -, rfl⟩ := List.mem_map.mp h; rfl
  rcases List.mem_append.mp hw with h | hw
  · obtain ⟨o, -, h⟩ := List.mem_flatMap.mp h; obtain ⟨q, -, rfl⟩ := List.mem_map.mp h; rfl
  rcases List.mem_append.mp hw with h | hw
  · exact List.all_eq_true.mp ok_gb w h
  rcases List.mem_append.mp hw with h | hw
  · obtain ⟨o, -, h⟩ := List.mem_flatMap.mp h; obtain ⟨q, -, rfl⟩ := List.mem_map.mp h; rfl
  rcases List.mem_append.mp hw with h | hw
  · obtain ⟨o, -, h⟩ := List.mem_flatMap.mp h; obtain ⟨q, -, rfl⟩ := List.mem_map.mp h; rfl
  rcases List.mem_append.mp hw with h | hw
  · obtain ⟨o, -, h⟩ := List.mem_flatMap.mp h; obtain ⟨q, -, rfl⟩ := List.mem_map.mp h; rfl
  rcases List.mem_append.mp hw with h | hw
  · obtain ⟨r, -, rfl⟩ := List.mem_map.mp h; rfl
  rcases List.mem_append.mp hw with h | hw
  · obtain ⟨o, -, h⟩ := List.mem_flatMap.mp h
    obtain ⟨q, -, h⟩ := List.mem_flatMap.mp h
    exact (List.mem_filter.mp h).2
  rcases List.mem_append.mp hw with h | hw
  · obtain ⟨o, -, h⟩ := List.mem_flatMap.mp h
    obtain ⟨q, -, rfl⟩ := List.mem_map.mp h
    split <;> rfl
  · have h := hw
    rcases List.mem_cons.mp h with rfl | h
    · rfl
    · cases h
theorem os_sub : ∀ o ∈ osC, o ∈ osA := by decide
theorem ok_row (sa : Nat → Nat) (TL : List (Nat × Nat × List Int32)) {r : dM} (hr : r ∈ MTs ++ KMs.map (fun q => q.1) ++ [rLaw]) (hi : r.2.2.2.2.1 = false → Cond.instanceMethod r.1 ∈ GWs ∧ (r.1.name ≠ "<init>" → Cond.selects r.1.cls r.1 r.1 ∈ GWs)) : dOKr (dEE sa TL) vwCl GWs (SLs sa TL) r := by
  have h1 := List.all_eq_true.mp ok_m r hr
  have h2 := List.all_eq_true.mp ok_p r hr
  simp only [Bool.and_eq_true, Bool.or_eq_true, Bool.not_eq_true', decide_eq_true_eq, List.contains_iff_mem] at h1
  obtain ⟨⟨⟨⟨⟨a1, a2⟩, a3⟩, a4⟩, a5⟩, a6⟩ := h1
  have h3 := List.all_eq_true.mp ok_n _ a3
  simp only [Bool.and_eq_true, decide_eq_true_eq] at h3
  refine ⟨a1, ?_, ⟨?_, ?_, of_decide_eq_true h2⟩, a4, ?_, ?_, ?_, ?_, ?_, ?_, ?_, ?_, ?_, ?_, ?_, ?_⟩
  · rw [a2]; exact gw_2 (List.mem_map.mpr ⟨_, a3, rfl⟩)
  · rw [a2]; exact h3.1
  · rw [a2]; exact h3.2
  · intro hs
    rcases a6 with h | h
    · rw [hs] at h; cases h
    · exact h
  · intro hs
    have hc : r.2.2.2.2.2.1 ∈ osC := by
      rcases a5 with h | h
      · rw [hs] at h; cases h
      · exact h
    refine ⟨(hi hs).1, (hi hs).2, nT r.2.2.2.2.2.1, nN r.2.2.2.2.2.1, ?_⟩
    rw [a2]; exact ok_cl _ hc
  · intro idx ci k hf
    have hq := d_lk hf
    have h4 := List.all_eq_true.mp (List.all_eq_true.mp ok_f _ a3) _ hq
    simp only [Bool.and_eq_true, decide_eq_true_eq, List.contains_iff_mem] at h4
    obtain ⟨⟨b1, b2⟩, b3⟩ := h4
    refine ⟨nO ci, nT ci, nN ci, nY ci, ok_cl ci b1, b2, b3, ?_, ?_, ok_ty ci b1, ok_nm ci b1, ?_⟩
    · rw [a2]; exact gw_6 (List.mem_flatMap.mpr ⟨_, a3, List.mem_map.mpr ⟨_, hq, rfl⟩⟩)
    · intro w hw; exact gw_11 (List.mem_flatMap.mpr ⟨ci, b1, hw⟩)
    · intro ty fin ht
      have ht : (if k < nN ci then some (nY ci k, (nT ci k).2.2.2) else none) = some (ty, fin) := ht
      rw [if_pos b2] at ht
      cases ht
      exact ⟨ok_ty ci b1 k b2, rfl⟩
  · intro idx j r' hm hj
    have hq := d_lk hm
    rcases List.mem_append.mp hq with hq | hq
    · refine Or.inl ?_
      rw [a2]
      exact gw_7 (List.mem_flatMap.mpr ⟨_, a3, List.mem_filterMap.mpr ⟨_, hq, by show (MTs[j]?).map _ = _; rw [show MTs[j]? = some r' from hj]; rfl⟩⟩)
    · have h4 := List.all_eq_true.mp (List.all_eq_true.mp ok_mx _ a3) _ hq
      dsimp only at h4
      rw [show MTs[j]? = some r' from hj] at h4
      simp only [Bool.and_eq_true, decide_eq_true_eq] at h4
      exact Or.inr ⟨h4.1, "ChanceWorks", by rw [a2]; exact h4.2⟩
  · intro idx v hv; rw [a2]; exact gw_9 (List.mem_flatMap.mpr ⟨_, a3, List.mem_map.mpr ⟨_, d_lk hv, rfl⟩⟩)
  · intro idx v hv; rw [a2]; exact gw_10 (List.mem_flatMap.mpr ⟨_, a3, List.mem_map.mpr ⟨_, d_lk hv, rfl⟩⟩)
  · intro idx ci hv fs hfs
    have hq := d_lk hv
    have b1 : ci ∈ osC := by
      have := List.all_eq_true.mp (List.all_eq_true.mp ok_w _ a3) _ hq
      simpa [List.contains_iff_mem] using this
    have hfs : (if ci ∈ osC then some ((List.range (nN ci)).map fun k => defaultValue (nY ci k)) else none) = some fs := hfs
    rw [if_pos b1] at hfs
    cases hfs
    refine ⟨nO ci, nT ci, nN ci, nY ci, ok_cl ci b1, fun w hw => gw_11 (List.mem_flatMap.mpr ⟨ci, b1, hw⟩), ok_ty ci b1, ?_, ?_, ?_, rfl⟩
    · rw [a2]; exact gw_13 (List.mem_flatMap.mpr ⟨_, a3, List.mem_map.mpr ⟨_, hq, rfl⟩⟩)
    · exact gw_14 (List.mem_flatMap.mpr ⟨_, a3, List.mem_map.mpr ⟨_, hq, rfl⟩⟩)
    · exact gw_2 (List.mem_map.mpr ⟨ci, os_sub ci b1, rfl⟩)
  · intro idx q hv
    have hq := d_lk hv
    have b1 := List.all_eq_true.mp (List.all_eq_true.mp ok_a _ a3) _ hq
    simp only [Bool.or_eq_true, beq_iff_eq] at b1
    rcases b1 with b1 | b1
    · have b1 : q = 4 := b1
      subst b1
      exact ⟨"ChanceWorks$Num", rfl, Or.inl rfl, by rw [a2]; exact gw_15 (List.mem_flatMap.mpr ⟨_, a3, List.mem_map.mpr ⟨_, hq, rfl⟩⟩)⟩
    · have b1 : q = 5 := b1
      subst b1
      exact ⟨"ChanceWorks$Ratio", rfl, Or.inr rfl, by rw [a2]; exact gw_15 (List.mem_flatMap.mpr ⟨_, a3, List.mem_map.mpr ⟨_, hq, rfl⟩⟩)⟩
  · intro idx k hv w hw
    rw [a2] at hw
    exact gw_16 (List.mem_flatMap.mpr ⟨_, a3, List.mem_flatMap.mpr ⟨_, d_lk hv, hw⟩⟩)
  · intro idx q hv
    have hv : ((tSR r.2.2.2.2.2.1).lookup idx).map sa = some q := hv
    cases hk : (tSR r.2.2.2.2.2.1).lookup idx with
    | none => rw [hk] at hv; cases hv
    | some k =>
      rw [hk] at hv
      cases hv
      have h4 := of_decide_eq_true (List.all_eq_true.mp (List.all_eq_true.mp ok_s _ a3) _ (d_lk hk))
      dsimp only at h4
      cases hz : STs[k]? with
      | none => rw [hz] at h4; cases h4
      | some z =>
        rw [hz] at h4
        have h5 : (z.1, z.2.1) = (nO r.2.2.2.2.2.1, idx) := Option.some.inj h4
        refine ⟨z.2.2, List.mem_map.mpr ⟨(z, k), List.mem_zipIdx_iff_getElem?.mpr hz, ?_⟩⟩
        have e1 : z.1 = nO r.2.2.2.2.2.1 := congrArg Prod.fst h5
        have e2 : z.2.1 = idx := congrArg Prod.snd h5
        rw [a2, ← e1, ← e2]
  · intro idx v hv
    have hv : gSt sa r.2.2.2.2.2.1 idx = some v := hv
    unfold gSt at hv
    cases hl : (tGS r.2.2.2.2.2.1).lookup idx with
    | some x =>
      rw [hl] at hv
      have hq := d_lk hl
      have h4 := of_decide_eq_true (List.all_eq_true.mp (List.all_eq_true.mp ok_g _ a3) _ hq)
      have h4 : x = 1 := h4
      refine Or.inl ⟨by rw [← Option.some.inj hv, h4], ?_⟩
      rw [a2]; exact gw_17 (List.mem_flatMap.mpr ⟨_, a3, List.mem_map.mpr ⟨_, hq, rfl⟩⟩)
    | none =>
      rw [hl] at hv
      have hv : (if r.2.2.2.2.2.1 = 0 ∧ idx = 1053 then some (pvV sa) else none) = some v := hv
      by_cases e : r.2.2.2.2.2.1 = 0 ∧ idx = 1053
      · rw [if_pos e] at hv
        refine Or.inr ⟨(Option.some.inj hv).symm, ?_⟩
        rw [a2, e.1, e.2]; exact gw_23 List.mem_cons_self
      · rw [if_neg e] at hv; cases hv
  · intro idx
    refine ⟨fun hv => ?_, fun hv => ?_⟩
    · rw [a2]; exact gw_22 (List.mem_flatMap.mpr ⟨_, a3, List.mem_map.mpr ⟨_, d_lk hv, rfl⟩⟩)
    · rw [a2]; exact gw_22 (List.mem_flatMap.mpr ⟨_, a3, List.mem_map.mpr ⟨_, d_lk hv, rfl⟩⟩)
theorem ok_inst {r : dM} (hr : r ∈ MTs ++ KMs.map (fun q => q.1)) (hs : r.2.2.2.2.1 = false) : Cond.instanceMethod r.1 ∈ GWs ∧ (r.1.name ≠ "<init>" → Cond.selects r.1.cls r.1 r.1 ∈ GWs) :=
  ⟨gw_4 (List.mem_map.mpr ⟨r, List.mem_filter.mpr ⟨hr, by rw [hs]; rfl⟩, rfl⟩), fun hn => gw_5 (List.mem_map.mpr ⟨r, List.mem_filter.mpr ⟨hr, by rw [hs]; simp [hn]⟩, rfl⟩)⟩
theorem ok_all (sa : Nat → Nat) (TL : List (Nat × Nat × List Int32)) : dOK (dEE sa TL) vwCl GWs (SLs sa TL) := by
  refine ⟨ok_good, ?_, ?_, ?_⟩
  · intro at0 x h
    cases at0 with
    | int => exact gw_12 (by simp [GS12, newarray.typeOf])
    | byte => exact gw_12 (by simp [GS12, newarray.typeOf])
    | long => exact gw_12 (by simp [GS12, newarray.typeOf])
    | boolean => exact gw_12 (by simp [GS12, newarray.typeOf])
    | _ => cases h
  · refine ⟨fun k ci h => ?_, rfl, nT 0, nN 0, ok_cl 0 (by decide)⟩
    match k, h with
    | 4, h => cases h; exact ⟨_, ok_cl 8 (by decide), rfl⟩
    | 5, h => cases h; exact ⟨_, ok_cl 11 (by decide), rfl⟩
  · intro j r hj
    have hr : r ∈ MTs := List.mem_of_getElem? hj
    have hr2 : r ∈ MTs ++ KMs.map (fun q => q.1) := List.mem_append_left _ hr
    exact ⟨⟨gw_0 (List.mem_map.mpr ⟨r, hr, rfl⟩), fun hs => gw_3 (List.mem_map.mpr ⟨r, List.mem_filter.mpr ⟨hr2, hs⟩, rfl⟩)⟩, ok_row sa TL (List.mem_append_left _ hr2) (ok_inst hr2)⟩
theorem ok_x (sa : Nat → Nat) (TL : List (Nat × Nat × List Int32)) : dOKx (dEE sa TL) dXX GWs := by
  intro j r hj
  have hr : r ∈ MTs ++ KMs.map (fun q => q.1) ++ [rLaw] := List.mem_append_left _ (List.mem_append_left _ (List.mem_of_getElem? hj))
  have h1 := List.all_eq_true.mp ok_m r hr
  simp only [Bool.and_eq_true, Bool.or_eq_true, Bool.not_eq_true', decide_eq_true_eq, List.contains_iff_mem] at h1
  obtain ⟨⟨⟨⟨⟨a1, a2⟩, a3⟩, a4⟩, a5⟩, a6⟩ := h1
  refine ⟨fun ik cls hv => ?_, fun ic cls hv => ?_⟩
  · have hq := d_lk hv
    have h4 : cls ∈ exs := by
      have := List.all_eq_true.mp (List.all_eq_true.mp ok_x1 _ a3) _ hq
      simpa [List.contains_iff_mem] using this
    refine ⟨h4, ?_, gw_20 (List.mem_map.mpr ⟨cls, h4, rfl⟩)⟩
    rw [a2]; exact gw_18 (List.mem_flatMap.mpr ⟨_, a3, List.mem_map.mpr ⟨_, hq, rfl⟩⟩)
  · have hq := d_lk hv
    have h4 := List.all_eq_true.mp (List.all_eq_true.mp ok_x2 _ a3) _ hq
    simp only [Bool.and_eq_true] at h4
    rw [a2]
    exact ⟨fun w hw => gw_21 (List.mem_flatMap.mpr ⟨_, a3, List.mem_flatMap.mpr ⟨_, hq, hw⟩⟩), fun w hw => of_decide_eq_true (List.all_eq_true.mp h4.1 w hw), fun w hw => List.all_eq_true.mp h4.2 w hw⟩
theorem ok_law (sa : Nat → Nat) (TL : List (Nat × Nat × List Int32)) : dOKr (dEE sa TL) vwCl GWs (SLs sa TL) rLaw := ok_row sa TL (List.mem_append_right _ (List.mem_cons_self)) (fun h => by cases h)
theorem ok_k (sa : Nat → Nat) (TL : List (Nat × Nat × List Int32)) : dOKk (dEE sa TL) vwCl GWs (SLs sa TL) dKK rLaw := by
  refine ⟨fun j q hj => ?_, fun idx j q hk hj => ?_⟩
  · have hq : q ∈ KMs := List.mem_of_getElem? hj
    have hr2 : q.1 ∈ MTs ++ KMs.map (fun q => q.1) := List.mem_append_right _ (List.mem_map.mpr ⟨q, hq, rfl⟩)
    have hr : q.1 ∈ MTs ++ KMs.map (fun q => q.1) ++ [rLaw] := List.mem_append_left _ hr2
    have h1 := List.all_eq_true.mp ok_m q.1 hr
    simp only [Bool.and_eq_true, Bool.or_eq_true, Bool.not_eq_true', decide_eq_true_eq, List.contains_iff_mem] at h1
    obtain ⟨⟨⟨⟨⟨a1, a2⟩, a3⟩, a4⟩, a5⟩, a6⟩ := h1
    refine ⟨ok_row sa TL hr (ok_inst hr2), ⟨gw_1 (List.mem_map.mpr ⟨q, hq, rfl⟩), fun hs => gw_3 (List.mem_map.mpr ⟨q.1, List.mem_filter.mpr ⟨hr2, hs⟩, rfl⟩)⟩, fun idx nm hn => ?_⟩
    have hz := d_lk hn
    have h4 : nm ∈ exs := by
      have := List.all_eq_true.mp (List.all_eq_true.mp ok_xh _ a3) _ hz
      simpa [List.contains_iff_mem] using this
    refine ⟨h4, ?_⟩
    rw [a2]; exact gw_19 (List.mem_flatMap.mpr ⟨_, a3, List.mem_map.mpr ⟨_, hz, rfl⟩⟩)
  · have hz := d_lk hk
    exact gw_8 (List.mem_flatMap.mpr ⟨100, by decide, List.mem_filterMap.mpr ⟨_, hz, by show (KMs[j]?).map _ = _; rw [show KMs[j]? = some q from hj]; rfl⟩⟩)
