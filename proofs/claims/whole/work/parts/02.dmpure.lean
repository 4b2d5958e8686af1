theorem dpush_inv {len n pc : Nat} {lo : dL0} {st : List Value} {v : Value} {z : dP} (h : dpush len n pc lo st v = some z) : len = n ∧ z = (pc + n, lo, v :: st) := by
  unfold dpush at h
  by_cases e : len = n
  · rw [if_pos e] at h; cases h; exact ⟨e, rfl⟩
  · rw [if_neg e] at h; cases h
theorem dbin_inv {len pc : Nat} {lo : dL0} {st : List Value} {f : Int32 → Int32 → Option Int32} {z : dP} (h : dbin len pc lo st f = some z) : ∃ x y r v, st = .int y :: .int x :: r ∧ len = 1 ∧ f x y = some v ∧ z = (pc + 1, lo, .int v :: r) := by
  unfold dbin at h
  split at h
  next y x r =>
    by_cases e : len = 1
    · rw [if_pos e] at h
      cases hf : f x y with
      | none => rw [hf] at h; cases h
      | some v => rw [hf] at h; cases h; exact ⟨x, y, r, v, rfl, e, hf, rfl⟩
    · rw [if_neg e] at h; cases h
  next => cases h
theorem dbinL_inv {len pc : Nat} {lo : dL0} {st : List Value} {f : Int64 → Int64 → Option Int64} {z : dP} (h : dbinL len pc lo st f = some z) : ∃ x y r v, st = .long y :: .long x :: r ∧ len = 1 ∧ f x y = some v ∧ z = (pc + 1, lo, .long v :: r) := by
  unfold dbinL at h
  split at h
  next y x r =>
    by_cases e : len = 1
    · rw [if_pos e] at h
      cases hf : f x y with
      | none => rw [hf] at h; cases h
      | some v => rw [hf] at h; cases h; exact ⟨x, y, r, v, rfl, e, hf, rfl⟩
    · rw [if_neg e] at h; cases h
  next => cases h
theorem dshL_inv {len pc : Nat} {lo : dL0} {st : List Value} {f : Int64 → Int32 → Int64} {z : dP} (h : dshL len pc lo st f = some z) : ∃ x y r, st = .int y :: .long x :: r ∧ len = 1 ∧ z = (pc + 1, lo, .long (f x y) :: r) := by
  unfold dshL at h
  split at h
  next y x r =>
    by_cases e : len = 1
    · rw [if_pos e] at h; cases h; exact ⟨x, y, r, rfl, e, rfl⟩
    · rw [if_neg e] at h; cases h
  next => cases h
theorem dun_inv {len pc : Nat} {lo : dL0} {st : List Value} {f : Int32 → Value} {z : dP} (h : dun len pc lo st f = some z) : ∃ x r, st = .int x :: r ∧ len = 1 ∧ z = (pc + 1, lo, f x :: r) := by
  unfold dun at h
  split at h
  next x r =>
    by_cases e : len = 1
    · rw [if_pos e] at h; cases h; exact ⟨x, r, rfl, e, rfl⟩
    · rw [if_neg e] at h; cases h
  next => cases h
theorem dunL_inv {len pc : Nat} {lo : dL0} {st : List Value} {f : Int64 → Value} {z : dP} (h : dunL len pc lo st f = some z) : ∃ x r, st = .long x :: r ∧ len = 1 ∧ z = (pc + 1, lo, f x :: r) := by
  unfold dunL at h
  split at h
  next x r =>
    by_cases e : len = 1
    · rw [if_pos e] at h; cases h; exact ⟨x, r, rfl, e, rfl⟩
    · rw [if_neg e] at h; cases h
  next => cases h
theorem dldI_inv {len n pc i : Nat} {lo : dL0} {st : List Value} {z : dP} (h : dldI len n pc i lo st = some z) : ∃ x, lo i = some (.int x) ∧ len = n ∧ z = (pc + n, lo, .int x :: st) := by
  unfold dldI at h
  split at h
  next x hx =>
    by_cases e : len = n
    · rw [if_pos e] at h; cases h; exact ⟨x, hx, e, rfl⟩
    · rw [if_neg e] at h; cases h
  next => cases h
theorem dldL_inv {len n pc i : Nat} {lo : dL0} {st : List Value} {z : dP} (h : dldL len n pc i lo st = some z) : ∃ x, lo i = some (.long x) ∧ len = n ∧ z = (pc + n, lo, .long x :: st) := by
  unfold dldL at h
  split at h
  next x hx =>
    by_cases e : len = n
    · rw [if_pos e] at h; cases h; exact ⟨x, hx, e, rfl⟩
    · rw [if_neg e] at h; cases h
  next => cases h
theorem dldA_inv {len n pc i : Nat} {lo : dL0} {st : List Value} {z : dP} (h : dldA len n pc i lo st = some z) : len = n ∧ ((∃ x, lo i = some (.ref x) ∧ z = (pc + n, lo, .ref x :: st)) ∨ (lo i = some .null ∧ z = (pc + n, lo, .null :: st))) := by
  unfold dldA at h
  split at h
  next x hx =>
    by_cases e : len = n
    · rw [if_pos e] at h; cases h; exact ⟨e, Or.inl ⟨x, hx, rfl⟩⟩
    · rw [if_neg e] at h; cases h
  next hx =>
    by_cases e : len = n
    · rw [if_pos e] at h; cases h; exact ⟨e, Or.inr ⟨hx, rfl⟩⟩
    · rw [if_neg e] at h; cases h
  next => cases h
theorem dstI_inv {len n pc i nL : Nat} {lo : dL0} {st : List Value} {z : dP} (h : dstI len n pc i nL lo st = some z) : ∃ x r, st = .int x :: r ∧ len = n ∧ i < nL ∧ z = (pc + n, dset1 lo i (.int x), r) := by
  unfold dstI at h
  split at h
  next x r =>
    by_cases e : len = n ∧ i < nL
    · rw [if_pos e] at h; cases h; exact ⟨x, r, rfl, e.1, e.2, rfl⟩
    · rw [if_neg e] at h; cases h
  next => cases h
theorem dstL_inv {len n pc i nL : Nat} {lo : dL0} {st : List Value} {z : dP} (h : dstL len n pc i nL lo st = some z) : ∃ x r, st = .long x :: r ∧ len = n ∧ i + 1 < nL ∧ z = (pc + n, dset2 lo i (.long x), r) := by
  unfold dstL at h
  split at h
  next x r =>
    by_cases e : len = n ∧ i + 1 < nL
    · rw [if_pos e] at h; cases h; exact ⟨x, r, rfl, e.1, e.2, rfl⟩
    · rw [if_neg e] at h; cases h
  next => cases h
theorem dstA_inv {len n pc i nL : Nat} {lo : dL0} {st : List Value} {z : dP} (h : dstA len n pc i nL lo st = some z) : len = n ∧ i < nL ∧ ((∃ x r, st = .ref x :: r ∧ z = (pc + n, dset1 lo i (.ref x), r)) ∨ (∃ r, st = .null :: r ∧ z = (pc + n, dset1 lo i .null, r))) := by
  unfold dstA at h
  split at h
  next x r =>
    by_cases e : len = n ∧ i < nL
    · rw [if_pos e] at h; cases h; exact ⟨e.1, e.2, Or.inl ⟨x, r, rfl, rfl⟩⟩
    · rw [if_neg e] at h; cases h
  next r =>
    by_cases e : len = n ∧ i < nL
    · rw [if_pos e] at h; cases h; exact ⟨e.1, e.2, Or.inr ⟨r, rfl, rfl⟩⟩
    · rw [if_neg e] at h; cases h
  next => cases h
theorem dif_inv {len pc : Nat} {lo : dL0} {r : List Value} {off : Int} {b : Bool} {z : dP} (h : dif len pc lo r off b = some z) : ∃ t : Nat, len = 3 ∧ (pc : Int) + off = (t : Int) ∧ z = (if b = true then t else pc + 3, lo, r) := by
  unfold dif at h
  by_cases e : len = 3
  · rw [if_pos e] at h
    cases ht : dto pc off with
    | none => rw [ht] at h; cases h
    | some t => rw [ht] at h; cases h; exact ⟨t, e, dto_eq ht, rfl⟩
  · rw [if_neg e] at h; cases h
section DMP
variable {p : Program} {l : Launch} {e : Env} {R : Room} {s : State} {m : MethodId} {args : Array Value} {below : List Frame} {meth : Method} {c : Code} {H : Heap} {locs : List Loc} {cells slots : Nat} {Q : State → Prop} {cc : ByteArray} {pc : Nat} {ls : Array Slot}
theorem dif_I (hx : p.tables.exec = Jvm.exec) (hb : c.code = cc) {d : ClassFile.Cond} {off : Int} {x : Int32} {r : List Value} {t : Nat} (hd : decode cc pc = .ok (.ifCond d off, 3)) (ht : (pc : Int) + off = (t : Int))
    (k : W p l e R s m args below meth c H locs cells slots Q (F0 m (if dcnd d x 0 = true then t else pc + 3) ls r)) : W p l e R s m args below meth c H locs cells slots Q (F0 m pc ls (.int x :: r)) := by
  cases d with
  | eq => exact lv_if_eq hx hb hd ht (fun h => by have h9 : dcnd .eq x 0 = true := decide_eq_true h; rw [if_pos h9] at k; exact k) (fun h => by have h9 : ¬ dcnd .eq x 0 = true := fun q => absurd h (not_not_intro (of_decide_eq_true q)); rw [if_neg h9] at k; exact k)
  | ne => exact lv_if_ne hx hb hd ht (fun h => by have h9 : dcnd .ne x 0 = true := decide_eq_true h; rw [if_pos h9] at k; exact k) (fun h => by have h9 : ¬ dcnd .ne x 0 = true := fun q => absurd h (of_decide_eq_true q); rw [if_neg h9] at k; exact k)
  | lt => exact lv_if_lt hx hb hd ht (fun h => by have h9 : dcnd .lt x 0 = true := decide_eq_true h; rw [if_pos h9] at k; exact k) (fun h => by have h9 : ¬ dcnd .lt x 0 = true := fun q => absurd h (not_not_intro (of_decide_eq_true q)); rw [if_neg h9] at k; exact k)
  | ge => exact lv_if_ge hx hb hd ht (fun h => by have h9 : dcnd .ge x 0 = true := decide_eq_true h; rw [if_pos h9] at k; exact k) (fun h => by have h9 : ¬ dcnd .ge x 0 = true := fun q => absurd h (not_not_intro (of_decide_eq_true q)); rw [if_neg h9] at k; exact k)
  | gt => exact lv_if_gt hx hb hd ht (fun h => by have h9 : dcnd .gt x 0 = true := decide_eq_true h; rw [if_pos h9] at k; exact k) (fun h => by have h9 : ¬ dcnd .gt x 0 = true := fun q => absurd h (not_not_intro (of_decide_eq_true q)); rw [if_neg h9] at k; exact k)
  | le => exact lv_if_le hx hb hd ht (fun h => by have h9 : dcnd .le x 0 = true := decide_eq_true h; rw [if_pos h9] at k; exact k) (fun h => by have h9 : ¬ dcnd .le x 0 = true := fun q => absurd h (not_not_intro (of_decide_eq_true q)); rw [if_neg h9] at k; exact k)
theorem dif_II (hx : p.tables.exec = Jvm.exec) (hb : c.code = cc) {d : ClassFile.Cond} {off : Int} {x y : Int32} {r : List Value} {t : Nat} (hd : decode cc pc = .ok (.if_icmp d off, 3)) (ht : (pc : Int) + off = (t : Int))
    (k : W p l e R s m args below meth c H locs cells slots Q (F0 m (if dcnd d x y = true then t else pc + 3) ls r)) : W p l e R s m args below meth c H locs cells slots Q (F0 m pc ls (.int y :: .int x :: r)) := by
  cases d with
  | eq => exact lv_icmp_eq hx hb hd ht (fun h => by have h9 : dcnd .eq x y = true := decide_eq_true h; rw [if_pos h9] at k; exact k) (fun h => by have h9 : ¬ dcnd .eq x y = true := fun q => absurd h (not_not_intro (of_decide_eq_true q)); rw [if_neg h9] at k; exact k)
  | ne => exact lv_icmp_ne hx hb hd ht (fun h => by have h9 : dcnd .ne x y = true := decide_eq_true h; rw [if_pos h9] at k; exact k) (fun h => by have h9 : ¬ dcnd .ne x y = true := fun q => absurd h (of_decide_eq_true q); rw [if_neg h9] at k; exact k)
  | lt => exact lv_icmp_lt hx hb hd ht (fun h => by have h9 : dcnd .lt x y = true := decide_eq_true h; rw [if_pos h9] at k; exact k) (fun h => by have h9 : ¬ dcnd .lt x y = true := fun q => absurd h (not_not_intro (of_decide_eq_true q)); rw [if_neg h9] at k; exact k)
  | ge => exact lv_icmp_ge hx hb hd ht (fun h => by have h9 : dcnd .ge x y = true := decide_eq_true h; rw [if_pos h9] at k; exact k) (fun h => by have h9 : ¬ dcnd .ge x y = true := fun q => absurd h (not_not_intro (of_decide_eq_true q)); rw [if_neg h9] at k; exact k)
  | gt => exact lv_icmp_gt hx hb hd ht (fun h => by have h9 : dcnd .gt x y = true := decide_eq_true h; rw [if_pos h9] at k; exact k) (fun h => by have h9 : ¬ dcnd .gt x y = true := fun q => absurd h (not_not_intro (of_decide_eq_true q)); rw [if_neg h9] at k; exact k)
  | le => exact lv_icmp_le hx hb hd ht (fun h => by have h9 : dcnd .le x y = true := decide_eq_true h; rw [if_pos h9] at k; exact k) (fun h => by have h9 : ¬ dcnd .le x y = true := fun q => absurd h (not_not_intro (of_decide_eq_true q)); rw [if_neg h9] at k; exact k)
theorem dpure_sim (hx : p.tables.exec = Jvm.exec) (hb : c.code = cc) {i : Instr} {len nL : Nat} {lo : dL0} {st : List Value} {z : dP} (hd : decode cc pc = .ok (i, len)) (h : dpure i len pc nL lo st = some z) (hl : dL lo ls nL)
    (k : ∀ ls', dL z.2.1 ls' nL → W p l e R s m args below meth c H locs cells slots Q (F0 m z.1 ls' z.2.2)) : W p l e R s m args below meth c H locs cells slots Q (F0 m pc ls st) := by
  cases i with
  | iconst n => obtain ⟨rfl, rfl⟩ := dpush_inv h; exact lv_iconst hx hb hd rfl (k ls hl)
  | bipush n => obtain ⟨rfl, rfl⟩ := dpush_inv h; exact lv_bipush hx hb hd rfl (k ls hl)
  | sipush n => obtain ⟨rfl, rfl⟩ := dpush_inv h; exact lv_sipush hx hb hd rfl (k ls hl)
  | lconst n => obtain ⟨rfl, rfl⟩ := dpush_inv h; exact lv_lconst hx hb hd rfl (k ls hl)
  | aconst_null => obtain ⟨rfl, rfl⟩ := dpush_inv h; exact lv_null hx hb hd (k ls hl)
  | iload_n n => obtain ⟨x, hv, rfl, rfl⟩ := dldI_inv h; exact lv_iload_n hx hb hd rfl (hl.2.2 _ _ hv) (k ls hl)
  | iload n => obtain ⟨x, hv, rfl, rfl⟩ := dldI_inv h; exact lv_iload hx hb hd (hl.2.2 _ _ hv) (k ls hl)
  | lload_n n => obtain ⟨x, hv, rfl, rfl⟩ := dldL_inv h; exact lv_lload_n hx hb hd rfl (hl.2.2 _ _ hv) (k ls hl)
  | lload n => obtain ⟨x, hv, rfl, rfl⟩ := dldL_inv h; exact lv_lload hx hb hd (hl.2.2 _ _ hv) (k ls hl)
  | aload_n n =>
    obtain ⟨rfl, ⟨x, hv, rfl⟩ | ⟨hv, rfl⟩⟩ := dldA_inv h
    · exact lv_aload_n hx hb hd rfl (hl.2.2 _ _ hv) (k ls hl)
    · exact lv_aload_nN hx hb hd rfl (hl.2.2 _ _ hv) (k ls hl)
  | aload n =>
    obtain ⟨rfl, ⟨x, hv, rfl⟩ | ⟨hv, rfl⟩⟩ := dldA_inv h
    · exact lv_aload hx hb hd (hl.2.2 _ _ hv) (k ls hl)
    · exact lv_aloadN hx hb hd (hl.2.2 _ _ hv) (k ls hl)
  | istore_n n => obtain ⟨x, r, rfl, rfl, hn, rfl⟩ := dstI_inv h; exact lv_istore_n hx hb hd rfl (dL_has hl) hn rfl (fun ls' h' => k ls' (dL_set1 hl h'))
  | istore n => obtain ⟨x, r, rfl, rfl, hn, rfl⟩ := dstI_inv h; exact lv_istore hx hb hd (dL_has hl) hn rfl (fun ls' h' => k ls' (dL_set1 hl h'))
  | lstore_n n => obtain ⟨x, r, rfl, rfl, hn, rfl⟩ := dstL_inv h; exact lv_lstore_n hx hb hd rfl (dL_has hl) hn rfl (fun ls' h' => k ls' (dL_set2 hl h'))
  | lstore n => obtain ⟨x, r, rfl, rfl, hn, rfl⟩ := dstL_inv h; exact lv_lstore hx hb hd (dL_has hl) hn rfl (fun ls' h' => k ls' (dL_set2 hl h'))
  | astore_n n =>
    obtain ⟨rfl, hn, ⟨x, r, rfl, rfl⟩ | ⟨r, rfl, rfl⟩⟩ := dstA_inv h
    · exact lv_astore_n hx hb hd rfl (dL_has hl) hn rfl (fun ls' h' => k ls' (dL_set1 hl h'))
    · exact lv_astore_nN hx hb hd rfl (dL_has hl) hn rfl (fun ls' h' => k ls' (dL_set1 hl h'))
  | astore n =>
    obtain ⟨rfl, hn, ⟨x, r, rfl, rfl⟩ | ⟨r, rfl, rfl⟩⟩ := dstA_inv h
    · exact lv_astore hx hb hd (dL_has hl) hn rfl (fun ls' h' => k ls' (dL_set1 hl h'))
    · exact lv_astoreN hx hb hd (dL_has hl) hn rfl (fun ls' h' => k ls' (dL_set1 hl h'))
  | iinc n q =>
    have h : dinc len pc nL n q lo st = some z := h
    unfold dinc at h
    split at h
    next x hv =>
      by_cases e9 : len = 3 ∧ n < nL
      · rw [if_pos e9] at h
        cases h
        obtain ⟨rfl, hn⟩ := e9
        obtain ⟨j, hj⟩ := List.getElem?_of_mem (dlv_mem hv hn)
        exact lv_iinc hx hb hd (dL_has hl) hj rfl hn rfl (fun ls' h' => k ls' (dL_set1 hl h'))
      · rw [if_neg e9] at h; cases h
    next => cases h
  | iadd => obtain ⟨x, y, r, v, rfl, rfl, hf, rfl⟩ := dbin_inv h; cases hf; exact lv_iadd hx hb hd (k ls hl)
  | isub => obtain ⟨x, y, r, v, rfl, rfl, hf, rfl⟩ := dbin_inv h; cases hf; exact lv_isub hx hb hd (k ls hl)
  | imul => obtain ⟨x, y, r, v, rfl, rfl, hf, rfl⟩ := dbin_inv h; cases hf; exact lv_imul hx hb hd (k ls hl)
  | iand => obtain ⟨x, y, r, v, rfl, rfl, hf, rfl⟩ := dbin_inv h; cases hf; exact lv_iand hx hb hd (k ls hl)
  | ior => obtain ⟨x, y, r, v, rfl, rfl, hf, rfl⟩ := dbin_inv h; cases hf; exact lv_ior hx hb hd (k ls hl)
  | ixor => obtain ⟨x, y, r, v, rfl, rfl, hf, rfl⟩ := dbin_inv h; cases hf; exact lv_ixor hx hb hd (k ls hl)
  | ishl => obtain ⟨x, y, r, v, rfl, rfl, hf, rfl⟩ := dbin_inv h; cases hf; exact lv_ishl hx hb hd (k ls hl)
  | ishr => obtain ⟨x, y, r, v, rfl, rfl, hf, rfl⟩ := dbin_inv h; cases hf; exact lv_ishr hx hb hd (k ls hl)
  | iushr => obtain ⟨x, y, r, v, rfl, rfl, hf, rfl⟩ := dbin_inv h; cases hf; exact lv_iushr hx hb hd rfl (k ls hl)
  | idiv =>
    obtain ⟨x, y, r, v, rfl, rfl, hf, rfl⟩ := dbin_inv h
    by_cases e9 : y = 0
    · rw [if_pos e9] at hf; cases hf
    · rw [if_neg e9] at hf; cases hf; exact lv_idiv hx hb hd e9 (k ls hl)
  | irem =>
    obtain ⟨x, y, r, v, rfl, rfl, hf, rfl⟩ := dbin_inv h
    by_cases e9 : y = 0
    · rw [if_pos e9] at hf; cases hf
    · rw [if_neg e9] at hf; cases hf; exact lv_irem hx hb hd e9 (k ls hl)
  | ineg => obtain ⟨x, r, rfl, rfl, rfl⟩ := dun_inv h; exact lv_ineg hx hb hd (k ls hl)
  | i2l => obtain ⟨x, r, rfl, rfl, rfl⟩ := dun_inv h; exact lv_i2l hx hb hd rfl (k ls hl)
  | i2b => obtain ⟨x, r, rfl, rfl, rfl⟩ := dun_inv h; exact lv_i2b hx hb hd rfl (k ls hl)
  | i2c => obtain ⟨x, r, rfl, rfl, rfl⟩ := dun_inv h; exact lv_i2c hx hb hd rfl (k ls hl)
  | l2i => obtain ⟨x, r, rfl, rfl, rfl⟩ := dunL_inv h; exact lv_l2i hx hb hd rfl (k ls hl)
  | lneg => obtain ⟨x, r, rfl, rfl, rfl⟩ := dunL_inv h; exact lv_lneg hx hb hd (k ls hl)
  | ladd => obtain ⟨x, y, r, v, rfl, rfl, hf, rfl⟩ := dbinL_inv h; cases hf; exact lv_ladd hx hb hd (k ls hl)
  | lsub => obtain ⟨x, y, r, v, rfl, rfl, hf, rfl⟩ := dbinL_inv h; cases hf; exact lv_lsub hx hb hd (k ls hl)
  | lmul => obtain ⟨x, y, r, v, rfl, rfl, hf, rfl⟩ := dbinL_inv h; cases hf; exact lv_lmul hx hb hd (k ls hl)
  | land => obtain ⟨x, y, r, v, rfl, rfl, hf, rfl⟩ := dbinL_inv h; cases hf; exact lv_land hx hb hd (k ls hl)
  | lor => obtain ⟨x, y, r, v, rfl, rfl, hf, rfl⟩ := dbinL_inv h; cases hf; exact lv_lor hx hb hd (k ls hl)
  | ldiv =>
    obtain ⟨x, y, r, v, rfl, rfl, hf, rfl⟩ := dbinL_inv h
    by_cases e9 : y = 0
    · rw [if_pos e9] at hf; cases hf
    · rw [if_neg e9] at hf; cases hf; exact lv_ldiv hx hb hd e9 (k ls hl)
  | lrem =>
    obtain ⟨x, y, r, v, rfl, rfl, hf, rfl⟩ := dbinL_inv h
    by_cases e9 : y = 0
    · rw [if_pos e9] at hf; cases hf
    · rw [if_neg e9] at hf; cases hf; exact lv_lrem hx hb hd e9 (k ls hl)
  | lshl => obtain ⟨x, y, r, rfl, rfl, rfl⟩ := dshL_inv h; exact lv_lshl hx hb hd rfl (k ls hl)
  | lshr => obtain ⟨x, y, r, rfl, rfl, rfl⟩ := dshL_inv h; exact lv_lshr hx hb hd rfl (k ls hl)
  | lushr => obtain ⟨x, y, r, rfl, rfl, rfl⟩ := dshL_inv h; exact lv_lushr hx hb hd rfl (k ls hl)
  | lcmp =>
    have h : dcmpL len pc lo st = some z := h
    unfold dcmpL at h
    split at h
    next y x r =>
      by_cases e9 : len = 1
      · rw [if_pos e9] at h; cases h; subst e9; exact W.lcmp hx hb hd (k ls hl)
      · rw [if_neg e9] at h; cases h
    next => cases h
  | dup =>
    have h : ddup len pc lo st = some z := h
    unfold ddup at h
    cases st with
    | nil => cases h
    | cons v r =>
      dsimp only at h
      by_cases e9 : len = 1 ∧ v.category = 1
      · rw [if_pos e9] at h; cases h; obtain ⟨rfl, hv⟩ := e9; exact lv_dup hx hb hd hv (k ls hl)
      · rw [if_neg e9] at h; cases h
  | pop =>
    have h : dpop len pc lo st = some z := h
    unfold dpop at h
    cases st with
    | nil => cases h
    | cons v r =>
      dsimp only at h
      by_cases e9 : len = 1 ∧ v.category = 1
      · rw [if_pos e9] at h; cases h; obtain ⟨rfl, hv⟩ := e9; exact lv_pop hx hb hd hv (k ls hl)
      · rw [if_neg e9] at h; cases h
  | dup2 =>
    have h : ddup2 len pc lo st = some z := h
    unfold ddup2 at h
    cases st with
    | nil => cases h
    | cons v r =>
     cases r with
     | nil => cases h
     | cons w r =>
      dsimp only at h
      by_cases e9 : len = 1 ∧ v.category = 1 ∧ w.category = 1
      · rw [if_pos e9] at h; cases h; obtain ⟨rfl, hv, hw⟩ := e9; exact lv_dup2_11 hx hb hd hv hw (k ls hl)
      · rw [if_neg e9] at h; cases h
  | ifCond d off =>
    have h : difI len pc lo st d off = some z := h
    unfold difI at h
    split at h
    next x r => obtain ⟨t, rfl, ht, rfl⟩ := dif_inv h; exact dif_I hx hb hd ht (k ls hl)
    next => cases h
  | if_icmp d off =>
    have h : difII len pc lo st d off = some z := h
    unfold difII at h
    split at h
    next y x r => obtain ⟨t, rfl, ht, rfl⟩ := dif_inv h; exact dif_II hx hb hd ht (k ls hl)
    next => cases h
  | ifnull off =>
    have h : difN len pc lo st off true = some z := h
    unfold difN at h
    split at h
    next x r => obtain ⟨t, rfl, ht, rfl⟩ := dif_inv h; exact lv_ifnull hx hb hd (k ls hl)
    next r => obtain ⟨t, rfl, ht, rfl⟩ := dif_inv h; exact lv_ifnullN hx hb hd ht (k ls hl)
    next => cases h
  | ifnonnull off =>
    have h : difN len pc lo st off false = some z := h
    unfold difN at h
    split at h
    next x r => obtain ⟨t, rfl, ht, rfl⟩ := dif_inv h; exact lv_ifnonnull hx hb hd ht (k ls hl)
    next r => obtain ⟨t, rfl, ht, rfl⟩ := dif_inv h; exact lv_ifnonnullN hx hb hd (k ls hl)
    next => cases h
  | goto off => obtain ⟨t, rfl, ht, rfl⟩ := dif_inv h; exact lv_goto hx hb hd ht (k ls hl)
  | tableswitch d low hi offs =>
    have h : dswI pc lo st d low hi offs = some z := h
    unfold dswI at h
    cases st with
    | nil => cases h
    | cons v r =>
     cases v with
     | int x =>
      have h : dsw pc lo r d low hi offs x = some z := h
      unfold dsw at h
      by_cases e9 : x.toInt < low ∨ hi < x.toInt
      · rw [if_pos e9] at h
        cases ht : dto pc d with
        | none => rw [ht] at h; cases h
        | some t => rw [ht] at h; cases h; exact lv_tableOut hx hb hd e9 (dto_eq ht) (k ls hl)
      · rw [if_neg e9] at h
        split at h
        next off ho =>
          cases ht : dto pc off with
          | none => rw [ht] at h; cases h
          | some t => rw [ht] at h; cases h; exact lv_tableIn hx hb hd (fun q => e9 (Or.inl q)) (fun q => e9 (Or.inr q)) ho (dto_eq ht) (k ls hl)
        next => cases h
     | _ => cases h
  | lookupswitch d ps =>
    have h : dlkI pc lo st d ps = some z := h
    unfold dlkI at h
    cases st with
    | nil => cases h
    | cons v r =>
     cases v with
     | int x =>
      have h : dlk pc lo r d ps x = some z := h
      unfold dlk at h
      by_cases e9 : (ps.toList.zip (ps.toList.drop 1)).all (fun (a, next) => a.1 < next.1) = true
      · rw [if_pos e9] at h
        cases ht : dto pc (Op.lookupswitch.offset ps.toList d x.toInt) with
        | none => rw [ht] at h; cases h
        | some t => rw [ht] at h; cases h; exact lv_lookup hx hb hd e9 rfl (dto_eq ht) (k ls hl)
      · rw [if_neg e9] at h; cases h
     | _ => cases h
  | _ => cases h
end DMP
