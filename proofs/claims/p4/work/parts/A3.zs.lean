/-! the class's heap steps -/
section SZ
variable {C : zC} {n0 d : Nat} {r : dM} {pc : Nat} {L : List (Option Value)} {st : List Value} {κ : zS} {Q : zU → zS → Prop}
theorem y_h {i : Instr} {len x y : Nat} {st' : List Value} {κ1 : zS} (hd : decode r.2.1 pc = .ok (i, len)) (hx : dxat (yEn C) dXX r pc = none) (h0 : ∀ lo, dpure i len pc r.2.2.1 lo st = none) (hg : ∀ cs ss, dheap (yEn C) (yb C) d r i len st (zH C κ) cs ss = some (st', zH C κ1, cs + x, ss + y)) (hc : zc κ1 = zc κ + x ∧ zs κ1 = zs κ + y) (hM : zM n0 κ κ1) (K : zG C n0 d r (pc + len) L st' κ1 Q) : zG C n0 d r pc L st κ Q := by
  intro lo cs ss hl
  obtain ⟨o, κ', x9, y9, h1, h2, h3, h4, h5, h6⟩ := K lo (cs + x) (ss + y) hl
  refine ⟨o, κ', x + x9, y + y9, gg_heap hx hd (h0 lo) (hg cs ss) ?_, by omega, by omega, h4, hM.tr h5, h6⟩
  rw [show cs + (x + x9) = cs + x + x9 from by omega, show ss + (y + y9) = ss + y + y9 from by omega]
  exact h1
theorem y_h0 {i : Instr} {len : Nat} {st' : List Value} {κ1 : zS} (hd : decode r.2.1 pc = .ok (i, len)) (hi : iNew i = false) (h0 : ∀ lo, dpure i len pc r.2.2.1 lo st = none) (hg : ∀ cs ss, dheap (yEn C) (yb C) d r i len st (zH C κ) cs ss = some (st', zH C κ1, cs, ss)) (hc : zc κ1 = zc κ ∧ zs κ1 = zs κ) (hM : zM n0 κ κ1) (K : zG C n0 d r (pc + len) L st' κ1 Q) : zG C n0 d r pc L st κ Q := y_h (x := 0) (y := 0) hd (dx_no hd hi) h0 hg hc hM K
theorem y_get {idx o ci k a : Nat} {v : Value} (hd : decode r.2.1 pc = .ok (.getfield idx, 3)) (ho : r.2.2.2.2.2.1 = o) (hf : (tFL o).lookup idx = some (ci, k)) (hk : k < nN ci ∧ 0 < ci ∧ ci < 20) (hB : zBo κ a ci) (hv : zV κ a (100 * ci + k) = v) (K : zG C n0 d r (pc + 3) L (v :: st) κ Q) : zG C n0 d r pc L (.ref a :: st) κ Q := by
  refine y_h0 hd rfl (fun _ => rfl) (fun cs ss => ?_) ⟨rfl, rfl⟩ zM.rf K
  have h1 : dgetf (yEn C) r.2.2.2.2.2.1 3 idx (.ref a :: st) (zH C κ) cs ss = some (v :: st, zH C κ, cs, ss) := by
    have hf' : eFL (yEn C) o idx = some (ci, k) := hf
    unfold dgetf
    simp only [zH_ob hB hk.2.1 hk.2.2, ho, hf', zFs_at hk.1, hv]
    rfl
  show dor (dgetf (yEn C) r.2.2.2.2.2.1 3 idx (.ref a :: st) (zH C κ) cs ss) _ = _
  rw [h1]
  rfl
theorem y_put {idx o ci k a : Nat} {v : Value} {κ1 : zS} {ty : FieldType} {fin : Bool} (hd : decode r.2.1 pc = .ok (.putfield idx, 3)) (ho : r.2.2.2.2.2.1 = o) (hf : (tFL o).lookup idx = some (ci, k)) (hk : k < nN ci ∧ 0 < ci ∧ ci < 20) (ht : tFT ci k = some (ty, fin)) (hfin : fin = false ∨ (r.1.name = "<init>" ∧ o = ci)) (hn : narrow ty v = v ∧ fits ty v = true) (hB : zBo κ a ci) (hb : yb C ≤ a) (he : dupd (zH C κ) a (.inr (ci, (zFs κ a ci).set k v)) = zH C κ1) (hc : zc κ1 = zc κ ∧ zs κ1 = zs κ) (hM : zM n0 κ κ1) (K : zG C n0 d r (pc + 3) L st κ1 Q) : zG C n0 d r pc L (v :: .ref a :: st) κ Q := by
  refine y_h0 hd rfl (fun _ => rfl) (fun cs ss => ?_) hc hM K
  show dputf (yEn C) (yb C) r.2.2.2.2.2.1 3 idx _ (v :: .ref a :: st) (zH C κ) cs ss = _
  have hf' : eFL (yEn C) o idx = some (ci, k) := hf
  have ht' : eFT (yEn C) ci k = some (ty, fin) := ht
  unfold dputf
  simp only [zH_ob hB hk.2.1 hk.2.2, ho, hf', ht']
  have hq : fin = false ∨ (decide (r.1.name = "<init>") = true ∧ o = ci) := by
    rcases hfin with z | z
    · exact Or.inl z
    · exact Or.inr ⟨decide_eq_true z.1, z.2⟩
  rw [if_pos ⟨trivial, hb, trivial, hq, hn.1, hn.2, by rw [zFs_len]; exact hk.1⟩, he]
theorem zW_b {a : Nat} (W : zW C n0 κ) (h : zT κ a ≠ 0) : yb C ≤ a ∧ a < zn κ ∧ a ≠ 0 := ⟨(W.2.1 a h).1.1, (W.2.1 a h).2, by have := (W.2.1 a h).1.1; have := W.1.1.1; omega⟩
theorem zB_nz {a ci : Nat} (hB : zBo κ a ci) (h0 : 0 < ci) : zT κ a ≠ 0 := by rcases hB with h | h <;> omega
theorem zV_i {a f : Nat} (hr : zr f = none) : zV κ a f = .int (zI κ f a) := by unfold zV; rw [hr]
theorem zV_r {a f t : Nat} (hr : zr f = some t) (h : zR κ f a ≠ 0) : zV κ a f = .ref (zR κ f a) := by unfold zV; rw [hr]; show (if zR κ f a = 0 then _ else _) = _; rw [if_neg h]
theorem y_geti {idx o ci k a : Nat} (hd : decode r.2.1 pc = .ok (.getfield idx, 3)) (ho : r.2.2.2.2.2.1 = o) (hf : (tFL o).lookup idx = some (ci, k)) (hk : (k < nN ci ∧ 0 < ci ∧ ci < 20) ∧ zr (100 * ci + k) = none) (hB : zBo κ a ci) (K : zG C n0 d r (pc + 3) L (.int (zI κ (100 * ci + k) a) :: st) κ Q) : zG C n0 d r pc L (.ref a :: st) κ Q := y_get hd ho hf hk.1 hB (zV_i hk.2) K
theorem y_getr {idx o ci k a t : Nat} (W : zW C n0 κ) (hd : decode r.2.1 pc = .ok (.getfield idx, 3)) (ho : r.2.2.2.2.2.1 = o) (hf : (tFL o).lookup idx = some (ci, k)) (hk : (k < nN ci ∧ 0 < ci ∧ ci < 20) ∧ zr (100 * ci + k) = some (t + 1)) (hB : zBo κ a ci) (hT : zT κ (zR κ (100 * ci + k) a) = t + 1) (K : zG C n0 d r (pc + 3) L (.ref (zR κ (100 * ci + k) a) :: st) κ Q) : zG C n0 d r pc L (.ref a :: st) κ Q := y_get hd ho hf hk.1 hB (zV_r hk.2 (zW_b W (by omega)).2.2) K
theorem y_puti {idx o ci k a : Nat} {x : Int32} {ty : FieldType} {fin : Bool} (W : zW C n0 κ) (hd : decode r.2.1 pc = .ok (.putfield idx, 3)) (ho : r.2.2.2.2.2.1 = o) (hf : (tFL o).lookup idx = some (ci, k)) (hk : (k < nN ci ∧ 0 < ci ∧ ci < 20) ∧ zr (100 * ci + k) = none) (ht : tFT ci k = some (ty, fin)) (hfin : fin = false ∨ (r.1.name = "<init>" ∧ o = ci)) (hn : narrow ty (.int x) = .int x ∧ fits ty (.int x) = true) (hB : zBo κ a ci) (K : ∀ κ1, κ1 = ui κ (100 * ci + k) a x → zG C n0 d r (pc + 3) L st κ1 Q) : zG C n0 d r pc L (.int x :: .ref a :: st) κ Q := by
  refine y_put (κ1 := ui κ (100 * ci + k) a x) hd ho hf hk.1 ht hfin hn hB (zW_b W (zB_nz hB hk.1.2.1)).1 ?_ ⟨rfl, rfl⟩ (zM.of rfl rfl rfl) (K _ rfl)
  exact zH_put hB hk.1.2.1 hk.1.2.2 rfl rfl rfl rfl rfl rfl (zV_ui hk.2) (fun j hj => zV_ui2 (by omega)) (fun b g hb => zV_ui2 (fun z => hb z.2))
theorem y_putr {idx o ci k a v t : Nat} {ty : FieldType} {fin : Bool} (W : zW C n0 κ) (hd : decode r.2.1 pc = .ok (.putfield idx, 3)) (ho : r.2.2.2.2.2.1 = o) (hf : (tFL o).lookup idx = some (ci, k)) (hk : (k < nN ci ∧ 0 < ci ∧ ci < 20) ∧ zr (100 * ci + k) = some (t + 1)) (ht : tFT ci k = some (ty, fin)) (hfin : fin = false ∨ (r.1.name = "<init>" ∧ o = ci)) (hn : ∀ v, narrow ty (.ref v) = .ref v ∧ fits ty (.ref v) = true) (hB : zBo κ a ci) (hv : zT κ v = t + 1) (K : ∀ κ1, κ1 = ur κ (100 * ci + k) a v → zG C n0 d r (pc + 3) L st κ1 Q) : zG C n0 d r pc L (.ref v :: .ref a :: st) κ Q := by
  refine y_put (κ1 := ur κ (100 * ci + k) a v) hd ho hf hk.1 ht hfin (hn v) hB (zW_b W (zB_nz hB hk.1.2.1)).1 ?_ ⟨rfl, rfl⟩ (zM.of rfl rfl rfl) (K _ rfl)
  exact zH_put hB hk.1.2.1 hk.1.2.2 rfl rfl rfl rfl rfl rfl (zV_ur hk.2 (zW_b W (by omega)).2.2 (if_pos ⟨rfl, rfl⟩)) (fun j hj => zV_ur2 (by omega)) (fun b g hb => zV_ur2 (fun z => hb z.2))
theorem y_puto {idx o ci k a v t : Nat} {ty : FieldType} {fin : Bool} (W : zW C n0 κ) (hd : decode r.2.1 pc = .ok (.putfield idx, 3)) (ho : r.2.2.2.2.2.1 = o) (hf : (tFL o).lookup idx = some (ci, k)) (hk : (k < nN ci ∧ 0 < ci ∧ ci < 20) ∧ zr (100 * ci + k) = some (t + 1)) (ht : tFT ci k = some (ty, fin)) (hfin : fin = false ∨ (r.1.name = "<init>" ∧ o = ci)) (hn : ∀ v, narrow ty (.ref v) = .ref v ∧ fits ty (.ref v) = true) (hB : zBo κ a ci) (hv : zT κ v = t + 1) (K : ∀ κ1, κ1 = uo κ (100 * ci + k) a v → zG C n0 d r (pc + 3) L st κ1 Q) : zG C n0 d r pc L (.ref v :: .ref a :: st) κ Q := by
  refine y_put (κ1 := uo κ (100 * ci + k) a v) hd ho hf hk.1 ht hfin (hn v) hB (zW_b W (zB_nz hB hk.1.2.1)).1 ?_ ⟨rfl, rfl⟩ (zM.of rfl rfl rfl) (K _ rfl)
  exact zH_put hB hk.1.2.1 hk.1.2.2 rfl rfl rfl rfl rfl rfl (zV_ur hk.2 (zW_b W (by omega)).2.2 (if_pos ⟨rfl, rfl⟩)) (fun j hj => zV_uo2 (by omega)) (fun b g hb => zV_uo2 (fun z => hb z.2))
theorem daldI_z {t len : Nat} {a : Nat} {i : Int32} {cs ss : Nat} (hT : zT κ a = 20 + t) (ht : t = 0 ∨ t = 1 ∨ t = 3) (hin : inb i (zN κ a)) : daldI t 1 (.int i :: .ref a :: st) (zH C κ) cs ss = some (.int (zA κ a i.toNatClampNeg) :: st, zH C κ, cs, ss) := by
  have hin : ¬ (i < 0 ∨ zN κ a ≤ i.toNatClampNeg) := hin
  unfold daldI
  simp only [zH_i hT ht]
  simp [hin]
theorem daldI_n {t t' : Nat} {a : Nat} {i : Int32} {cs ss : Nat} (hT : zT κ a = 20 + t') (ht : t' = 0 ∨ t' = 1 ∨ t' = 3) (hne : t' ≠ t) : daldI t 1 (.int i :: .ref a :: st) (zH C κ) cs ss = none := by
  unfold daldI
  simp only [zH_i hT ht]
  simp [hne]
theorem y_ald {a : Nat} {i : Int32} (hd : decode r.2.1 pc = .ok (.iaload, 1)) (hT : zT κ a = 20) (hin : inb i (zN κ a)) (K : zG C n0 d r (pc + 1) L (.int (zA κ a i.toNatClampNeg) :: st) κ Q) : zG C n0 d r pc L (.int i :: .ref a :: st) κ Q :=
  y_h0 hd rfl (fun _ => rfl) (fun cs ss => daldI_z (t := 0) (len := 1) hT (Or.inl rfl) hin) ⟨rfl, rfl⟩ zM.rf K
theorem y_bld {a : Nat} {i : Int32} (hd : decode r.2.1 pc = .ok (.baload, 1)) (hT : zT κ a = 21) (hin : inb i (zN κ a)) (K : zG C n0 d r (pc + 1) L (.int (zA κ a i.toNatClampNeg) :: st) κ Q) : zG C n0 d r pc L (.int i :: .ref a :: st) κ Q := by
  refine y_h0 hd rfl (fun _ => rfl) (fun cs ss => ?_) ⟨rfl, rfl⟩ zM.rf K
  show dor (daldI 1 1 (.int i :: .ref a :: st) (zH C κ) cs ss) _ = _
  rw [daldI_z (t := 1) (len := 1) hT (by decide) hin]
  rfl
theorem y_zld {a : Nat} {i : Int32} (hd : decode r.2.1 pc = .ok (.baload, 1)) (hT : zT κ a = 23) (hin : inb i (zN κ a)) (K : zG C n0 d r (pc + 1) L (.int (zA κ a i.toNatClampNeg) :: st) κ Q) : zG C n0 d r pc L (.int i :: .ref a :: st) κ Q := by
  refine y_h0 hd rfl (fun _ => rfl) (fun cs ss => ?_) ⟨rfl, rfl⟩ zM.rf K
  show dor (daldI 1 1 (.int i :: .ref a :: st) (zH C κ) cs ss) (dor (daldI 3 1 (.int i :: .ref a :: st) (zH C κ) cs ss) _) = _
  rw [daldI_n (t' := 3) hT (by decide) (by decide), daldI_z (t := 3) (len := 1) hT (by decide) hin]
  rfl
theorem y_lld {a : Nat} {i : Int32} (hd : decode r.2.1 pc = .ok (.laload, 1)) (hT : zT κ a = 22) (hin : inb i (zN κ a)) (K : zG C n0 d r (pc + 1) L (.long (zJ κ a i.toNatClampNeg) :: st) κ Q) : zG C n0 d r pc L (.int i :: .ref a :: st) κ Q := by
  refine y_h0 hd rfl (fun _ => rfl) (fun cs ss => ?_) ⟨rfl, rfl⟩ zM.rf K
  have hin : ¬ (i < 0 ∨ zN κ a ≤ i.toNatClampNeg) := hin
  show daldL 1 (.int i :: .ref a :: st) (zH C κ) cs ss = _
  unfold daldL
  simp only [zH_j hT]
  simp [hin]
theorem y_qld {a t : Nat} {i : Int32} (hd : decode r.2.1 pc = .ok (.aaload, 1)) (hT : zT κ a = 20 + t) (ht : t = 4 ∨ t = 5) (hin : inb i (zN κ a)) (K : zG C n0 d r (pc + 1) L (va_rf (zQ κ a i.toNatClampNeg) :: st) κ Q) : zG C n0 d r pc L (.int i :: .ref a :: st) κ Q := by
  refine y_h0 hd rfl (fun _ => rfl) (fun cs ss => ?_) ⟨rfl, rfl⟩ zM.rf K
  have hin : ¬ (i < 0 ∨ zN κ a ≤ i.toNatClampNeg) := hin
  show daldQ 1 (.int i :: .ref a :: st) (zH C κ) cs ss = _
  unfold daldQ
  simp only [zH_q hT ht]
  have h2 : (dobj t).isSome = true := by rcases ht with rfl | rfl <;> rfl
  simp [hin, h2]
theorem zCell_i {C : zC} {a t : Nat} (h : zT κ a = 20 + t) (ht : t = 0 ∨ t = 1 ∨ t = 3) : zCell κ a = .inl (t, zN κ a, .inl (zA κ a)) := by
  have := zH_i (C := C) h ht
  have h1 : (if zT κ a = 0 then (yh C).2 a else some (zCell κ a)) = _ := this
  rw [if_neg (by omega)] at h1
  exact Option.some.inj h1
theorem dastI_z {a t : Nat} {i x : Int32} {nr : Int32 → Int32} {cs ss : Nat} (W : zW C n0 κ) (hT : zT κ a = 20 + t) (ht : t = 0 ∨ t = 1 ∨ t = 3) (hin : inb i (zN κ a)) : dastI (yb C) t 1 nr (.int x :: .int i :: .ref a :: st) (zH C κ) cs ss = some (st, zH C (ua κ a i.toNatClampNeg (nr x)), cs, ss) := by
  have hin : ¬ (i < 0 ∨ zN κ a ≤ i.toNatClampNeg) := hin
  have hb := (zW_b W (a := a) (by omega)).1
  have he : dupd (zH C κ) a (.inl (t, zN κ a, .inl (upd (zA κ a) i.toNatClampNeg (nr x)))) = zH C (ua κ a i.toNatClampNeg (nr x)) := by
    refine zH_ast rfl rfl rfl rfl rfl (by omega) ?_ (fun b hb => ⟨if_neg hb, rfl, rfl⟩)
    rw [zCell_i (C := C) (κ := ua κ a i.toNatClampNeg (nr x)) hT ht]
    show (Sum.inl (t, zN κ a, .inl (if a = a then _ else _)) : dC) = _
    rw [if_pos rfl]
  unfold dastI
  simp only [zH_i hT ht]
  simp [hin, hb, he]
theorem dastI_n {a t t' : Nat} {i x : Int32} {nr : Int32 → Int32} {cs ss : Nat} (hT : zT κ a = 20 + t') (ht : t' = 0 ∨ t' = 1 ∨ t' = 3) (hne : t' ≠ t) : dastI (yb C) t 1 nr (.int x :: .int i :: .ref a :: st) (zH C κ) cs ss = none := by
  unfold dastI
  simp only [zH_i hT ht]
  simp [hne]
theorem y_ast {a : Nat} {i x : Int32} (W : zW C n0 κ) (hd : decode r.2.1 pc = .ok (.iastore, 1)) (hT : zT κ a = 20) (hin : inb i (zN κ a)) (K : ∀ κ1, κ1 = ua κ a i.toNatClampNeg x → zG C n0 d r (pc + 1) L st κ1 Q) : zG C n0 d r pc L (.int x :: .int i :: .ref a :: st) κ Q :=
  y_h0 (κ1 := ua κ a i.toNatClampNeg x) hd rfl (fun _ => rfl) (fun cs ss => by
    show dastI (yb C) 0 1 (fun x => x) (.int x :: .int i :: .ref a :: st) (zH C κ) cs ss = _
    exact dastI_z (t := 0) (nr := fun x => x) W hT (Or.inl rfl) hin) ⟨rfl, rfl⟩ (zM.of rfl rfl rfl) (K _ rfl)
theorem y_bst {a : Nat} {i x : Int32} (W : zW C n0 κ) (hd : decode r.2.1 pc = .ok (.bastore, 1)) (hT : zT κ a = 21) (hin : inb i (zN κ a)) (K : ∀ κ1, κ1 = ua κ a i.toNatClampNeg (vp_nar .byte x) → zG C n0 d r (pc + 1) L st κ1 Q) : zG C n0 d r pc L (.int x :: .int i :: .ref a :: st) κ Q := by
  refine y_h0 (κ1 := ua κ a i.toNatClampNeg (vp_nar .byte x)) hd rfl (fun _ => rfl) (fun cs ss => ?_) ⟨rfl, rfl⟩ (zM.of rfl rfl rfl) (K _ rfl)
  show (match dastI (yb C) 1 1 (vp_nar .byte) (.int x :: .int i :: .ref a :: st) (zH C κ) cs ss with | some g => some g | none => _) = _
  rw [dastI_z (t := 1) W hT (by decide) hin]
theorem y_zst {a : Nat} {i x : Int32} (W : zW C n0 κ) (hd : decode r.2.1 pc = .ok (.bastore, 1)) (hT : zT κ a = 23) (hin : inb i (zN κ a)) (K : ∀ κ1, κ1 = ua κ a i.toNatClampNeg (vp_nar .boolean x) → zG C n0 d r (pc + 1) L st κ1 Q) : zG C n0 d r pc L (.int x :: .int i :: .ref a :: st) κ Q := by
  refine y_h0 (κ1 := ua κ a i.toNatClampNeg (vp_nar .boolean x)) hd rfl (fun _ => rfl) (fun cs ss => ?_) ⟨rfl, rfl⟩ (zM.of rfl rfl rfl) (K _ rfl)
  show (match dastI (yb C) 1 1 (vp_nar .byte) (.int x :: .int i :: .ref a :: st) (zH C κ) cs ss with | some g => some g | none => dastI (yb C) 3 1 (vp_nar .boolean) (.int x :: .int i :: .ref a :: st) (zH C κ) cs ss) = _
  rw [dastI_n (t' := 3) hT (by decide) (by decide), dastI_z (t := 3) W hT (by decide) hin]
theorem y_lst {a : Nat} {i : Int32} {x : Int64} (W : zW C n0 κ) (hd : decode r.2.1 pc = .ok (.lastore, 1)) (hT : zT κ a = 22) (hin : inb i (zN κ a)) (K : ∀ κ1, κ1 = uj κ a i.toNatClampNeg x → zG C n0 d r (pc + 1) L st κ1 Q) : zG C n0 d r pc L (.long x :: .int i :: .ref a :: st) κ Q := by
  refine y_h0 (κ1 := uj κ a i.toNatClampNeg x) hd rfl (fun _ => rfl) (fun cs ss => ?_) ⟨rfl, rfl⟩ (zM.of rfl rfl rfl) (K _ rfl)
  have hin : ¬ (i < 0 ∨ zN κ a ≤ i.toNatClampNeg) := hin
  have hb := (zW_b W (a := a) (by omega)).1
  have hcl : zCell (uj κ a i.toNatClampNeg x) a = .inl (2, zN κ a, .inr (.inl (vp_updL (zJ κ a) i.toNatClampNeg x))) := by
    have h1 : (if zT κ a = 0 then (yh C).2 a else some (zCell (uj κ a i.toNatClampNeg x) a)) = _ := zH_j (C := C) (κ := uj κ a i.toNatClampNeg x) hT
    rw [if_neg (by omega)] at h1
    rw [Option.some.inj h1]
    show (Sum.inl (2, zN κ a, .inr (.inl (if a = a then _ else _))) : dC) = _
    rw [if_pos rfl]
  have he : dupd (zH C κ) a (.inl (2, zN κ a, .inr (.inl (vp_updL (zJ κ a) i.toNatClampNeg x)))) = zH C (uj κ a i.toNatClampNeg x) := zH_ast rfl rfl rfl rfl rfl (by omega) hcl (fun b hb => ⟨rfl, if_neg hb, rfl⟩)
  show dastL (yb C) 1 (.long x :: .int i :: .ref a :: st) (zH C κ) cs ss = _
  unfold dastL
  simp only [zH_j hT]
  simp [hin, hb, he]
theorem y_qst {a t v ci : Nat} {i : Int32} (W : zW C n0 κ) (hd : decode r.2.1 pc = .ok (.aastore, 1)) (hT : zT κ a = 20 + t) (ht : (t = 4 ∧ ci = 8) ∨ (t = 5 ∧ ci = 11)) (hv : zT κ v = ci) (hin : inb i (zN κ a)) (K : ∀ κ1, κ1 = uq κ a i.toNatClampNeg (some v) → zG C n0 d r (pc + 1) L st κ1 Q) : zG C n0 d r pc L (.ref v :: .int i :: .ref a :: st) κ Q := by
  refine y_h0 (κ1 := uq κ a i.toNatClampNeg (some v)) hd rfl (fun _ => rfl) (fun cs ss => ?_) ⟨rfl, rfl⟩ (zM.of rfl rfl rfl) (K _ rfl)
  have hin : ¬ (i < 0 ∨ zN κ a ≤ i.toNatClampNeg) := hin
  have hb := (zW_b W (a := a) (by omega)).1
  have ht2 : t = 4 ∨ t = 5 := by omega
  have hcl : zCell (uq κ a i.toNatClampNeg (some v)) a = .inl (t, zN κ a, .inr (.inr (.inr (.inr (va_up (zQ κ a) i.toNatClampNeg (some v)))))) := by
    have h1 : (if zT κ a = 0 then (yh C).2 a else some (zCell (uq κ a i.toNatClampNeg (some v)) a)) = _ := zH_q (C := C) (κ := uq κ a i.toNatClampNeg (some v)) hT ht2
    rw [if_neg (by omega)] at h1
    rw [Option.some.inj h1]
    show (Sum.inl (t, zN κ a, .inr (.inr (.inr (.inr (if a = a then _ else _))))) : dC) = _
    rw [if_pos rfl]
  have he : dupd (zH C κ) a (.inl (t, zN κ a, .inr (.inr (.inr (.inr (va_up (zQ κ a) i.toNatClampNeg (some v))))))) = zH C (uq κ a i.toNatClampNeg (some v)) := zH_ast rfl rfl rfl rfl rfl (by omega) hcl (fun b hb => ⟨rfl, rfl, if_neg hb⟩)
  have hob : dobj t = some ci := by rcases ht with ⟨rfl, rfl⟩ | ⟨rfl, rfl⟩ <;> rfl
  show dastQ (yb C) 1 (.ref v :: .int i :: .ref a :: st) (zH C κ) cs ss = _
  unfold dastQ
  simp only [zH_q hT ht2, zH_ob (ci := ci) (Or.inl hv) (by omega) (by omega)]
  simp [hin, hb, he, hob]
theorem y_alen {a t : Nat} (hd : decode r.2.1 pc = .ok (.arraylength, 1)) (hT : zT κ a = 20 + t) (ht : t < 6) (K : zG C n0 d r (pc + 1) L (.int (Int32.ofNat (zN κ a)) :: st) κ Q) : zG C n0 d r pc L (.ref a :: st) κ Q := by
  refine y_h0 hd rfl (fun _ => rfl) (fun cs ss => ?_) ⟨rfl, rfl⟩ zM.rf K
  have e : ∃ x, (zH C κ).2 a = some (.inl (t, zN κ a, x)) := by
    have hh : t = 0 ∨ t = 1 ∨ t = 2 ∨ t = 3 ∨ t = 4 ∨ t = 5 := by omega
    rcases hh with rfl | rfl | rfl | rfl | rfl | rfl
    · exact ⟨_, zH_i hT (by decide)⟩
    · exact ⟨_, zH_i hT (by decide)⟩
    · exact ⟨_, zH_j hT⟩
    · exact ⟨_, zH_i hT (by decide)⟩
    · exact ⟨_, zH_q hT (by decide)⟩
    · exact ⟨_, zH_q hT (by decide)⟩
  obtain ⟨x, e⟩ := e
  have h2 : (dty t).isSome = true := by
    have hh : t = 0 ∨ t = 1 ∨ t = 2 ∨ t = 3 ∨ t = 4 ∨ t = 5 := by omega
    rcases hh with rfl | rfl | rfl | rfl | rfl | rfl <;> rfl
  have h1 : dalen 1 (.ref a :: st) (zH C κ) cs ss = some (.int (Int32.ofNat (zN κ a)) :: st, zH C κ, cs, ss) := by
    unfold dalen
    simp only [e]
    simp [h2]
  show dor (dalen 1 (.ref a :: st) (zH C κ) cs ss) _ = _
  rw [h1]
  rfl
end SZ
