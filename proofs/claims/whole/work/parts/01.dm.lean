/-! a small machine of one's own, over the cells that a method can reach: its pure steps.
    locals: place -> value; a cell: a row (number of its type, length, contents) or an object (number of its class, fields) -/
abbrev dL0 : Type := Nat → Option Value
def dset1 (lo : dL0) (i : Nat) (v : Value) : dL0 := fun j => if j = i then some v else match lo j with
  | some w => if j + 1 = i ∧ w.category = 2 then none else some w
  | none => none
def dset2 (lo : dL0) (i : Nat) (v : Value) : dL0 := fun j => if j = i then some v else if j = i + 1 then none else match lo j with
  | some w => if j + 1 = i ∧ w.category = 2 then none else some w
  | none => none
def dL (lo : dL0) (ls : Array Slot) (nL : Nat) : Prop := ls.size = nL ∧ lv_wf ls ∧ ∀ i v, lo i = some v → ls[i]? = some (.val v)
def dlv (lo : dL0) (nL : Nat) : List (Nat × Value) := (List.range nL).filterMap fun i => (lo i).map fun v => (i, v)
theorem dlv_mem {lo : dL0} {nL j : Nat} {w : Value} (h : lo j = some w) (hj : j < nL) : (j, w) ∈ dlv lo nL :=
  List.mem_filterMap.mpr ⟨j, List.mem_range.mpr hj, by rw [h]; rfl⟩
theorem dL_has {lo : dL0} {ls : Array Slot} {nL : Nat} (h : dL lo ls nL) : lv_has ls nL (dlv lo nL) := by
  refine ⟨h.1, h.2.1, fun q hq => ?_⟩
  obtain ⟨i, -, hi⟩ := List.mem_filterMap.mp hq
  cases hv : lo i with
  | none => rw [hv] at hi; cases hi
  | some v => rw [hv] at hi; cases hi; exact h.2.2 i v hv
theorem dL_lt {lo : dL0} {ls : Array Slot} {nL i : Nat} {v : Value} (h : dL lo ls nL) (hi : lo i = some v) : i < nL := by
  have := lv_lt (h.2.2 i v hi)
  rw [h.1] at this
  exact this
theorem dL_set1 {lo : dL0} {ls ls' : Array Slot} {nL i : Nat} {v : Value} (h0 : dL lo ls nL) (h : lv_has ls' nL ((i, v) :: (dlv lo nL).filter (fun q => !(q.1 == i) && !(q.1 + 1 == i && q.2.category == 2)))) : dL (dset1 lo i v) ls' nL := by
  refine ⟨h.1, h.2.1, fun j w hj => ?_⟩
  unfold dset1 at hj
  by_cases e : j = i
  · rw [if_pos e] at hj
    cases hj
    subst e
    exact h.2.2 (j, v) List.mem_cons_self
  · rw [if_neg e] at hj
    cases hw : lo j with
    | none => rw [hw] at hj; cases hj
    | some w' =>
      rw [hw] at hj
      by_cases e2 : j + 1 = i ∧ w'.category = 2
      · simp only [if_pos e2] at hj; cases hj
      · simp only [if_neg e2] at hj
        cases hj
        refine h.2.2 (j, w) (List.mem_cons_of_mem _ (List.mem_filter.mpr ⟨dlv_mem hw (dL_lt h0 hw), ?_⟩))
        by_cases e3 : j + 1 = i
        · have e4 : ¬ w.category = 2 := fun q => e2 ⟨e3, q⟩
          simp [e, e4]
        · simp [e, e3]
theorem dL_set2 {lo : dL0} {ls ls' : Array Slot} {nL i : Nat} {v : Value} (h0 : dL lo ls nL) (h : lv_has ls' nL ((i, v) :: (dlv lo nL).filter (fun q => !(q.1 == i) && (!(q.1 == i + 1) && !(q.1 + 1 == i && q.2.category == 2))))) : dL (dset2 lo i v) ls' nL := by
  refine ⟨h.1, h.2.1, fun j w hj => ?_⟩
  unfold dset2 at hj
  by_cases e : j = i
  · rw [if_pos e] at hj
    cases hj
    subst e
    exact h.2.2 (j, v) List.mem_cons_self
  · rw [if_neg e] at hj
    by_cases e5 : j = i + 1
    · rw [if_pos e5] at hj; cases hj
    · rw [if_neg e5] at hj
      cases hw : lo j with
      | none => rw [hw] at hj; cases hj
      | some w' =>
        rw [hw] at hj
        by_cases e2 : j + 1 = i ∧ w'.category = 2
        · simp only [if_pos e2] at hj; cases hj
        · simp only [if_neg e2] at hj
          cases hj
          refine h.2.2 (j, w) (List.mem_cons_of_mem _ (List.mem_filter.mpr ⟨dlv_mem hw (dL_lt h0 hw), ?_⟩))
          by_cases e3 : j + 1 = i
          · have e4 : ¬ w.category = 2 := fun q => e2 ⟨e3, q⟩
            simp [e, e5, e4]
          · simp [e, e5, e3]
def dent (vs : List Value) : dL0 := fun j => (lv_args 0 vs).lookup j
theorem d_lookup {l : List (Nat × Value)} {j : Nat} {v : Value} (h : l.lookup j = some v) : (j, v) ∈ l := by
  induction l with
  | nil => cases h
  | cons q t ih =>
    obtain ⟨a, b⟩ := q
    rw [List.lookup_cons] at h
    by_cases e : j = a
    · subst e
      simp at h
      subst h
      exact List.mem_cons_self
    · have e2 : (j == a) = false := by simp [e]
      rw [e2] at h
      exact List.mem_cons_of_mem _ (ih h)
theorem dL_entry {vs : List Value} {n : Nat} (h : (lg_sl vs).length ≤ n) : dL (dent vs) ((lg_sl vs ++ List.replicate (n - (lg_sl vs).length) Slot.unset).toArray) n := by
  have h1 := lv_entry vs (n := n) h
  exact ⟨h1.1, h1.2.1, fun i v hv => h1.2.2 (i, v) (d_lookup hv)⟩
/-- the place that is jumped to -/
def dto (pc : Nat) (off : Int) : Option Nat := if 0 ≤ (pc : Int) + off then some ((pc : Int) + off).toNat else none
theorem dto_eq {pc t : Nat} {off : Int} (h : dto pc off = some t) : (pc : Int) + off = (t : Int) := by
  unfold dto at h
  by_cases e : 0 ≤ (pc : Int) + off
  · rw [if_pos e] at h
    cases h
    exact (Int.toNat_of_nonneg e).symm
  · rw [if_neg e] at h; cases h
abbrev dP : Type := Nat × dL0 × List Value
def dpush (len n pc : Nat) (lo : dL0) (st : List Value) (v : Value) : Option dP := if len = n then some (pc + n, lo, v :: st) else none
def dbin (len pc : Nat) (lo : dL0) (st : List Value) (f : Int32 → Int32 → Option Int32) : Option dP := match st with
  | .int y :: .int x :: r => if len = 1 then (f x y).map fun v => (pc + 1, lo, .int v :: r) else none
  | _ => none
def dbinL (len pc : Nat) (lo : dL0) (st : List Value) (f : Int64 → Int64 → Option Int64) : Option dP := match st with
  | .long y :: .long x :: r => if len = 1 then (f x y).map fun v => (pc + 1, lo, .long v :: r) else none
  | _ => none
def dshL (len pc : Nat) (lo : dL0) (st : List Value) (f : Int64 → Int32 → Int64) : Option dP := match st with
  | .int y :: .long x :: r => if len = 1 then some (pc + 1, lo, .long (f x y) :: r) else none
  | _ => none
def dun (len pc : Nat) (lo : dL0) (st : List Value) (f : Int32 → Value) : Option dP := match st with
  | .int x :: r => if len = 1 then some (pc + 1, lo, f x :: r) else none
  | _ => none
def dunL (len pc : Nat) (lo : dL0) (st : List Value) (f : Int64 → Value) : Option dP := match st with
  | .long x :: r => if len = 1 then some (pc + 1, lo, f x :: r) else none
  | _ => none
def dldI (len n pc i : Nat) (lo : dL0) (st : List Value) : Option dP := match lo i with
  | some (.int x) => if len = n then some (pc + n, lo, .int x :: st) else none
  | _ => none
def dldL (len n pc i : Nat) (lo : dL0) (st : List Value) : Option dP := match lo i with
  | some (.long x) => if len = n then some (pc + n, lo, .long x :: st) else none
  | _ => none
def dldA (len n pc i : Nat) (lo : dL0) (st : List Value) : Option dP := match lo i with
  | some (.ref x) => if len = n then some (pc + n, lo, .ref x :: st) else none
  | some .null => if len = n then some (pc + n, lo, .null :: st) else none
  | _ => none
def dstI (len n pc i nL : Nat) (lo : dL0) (st : List Value) : Option dP := match st with
  | .int x :: r => if len = n ∧ i < nL then some (pc + n, dset1 lo i (.int x), r) else none
  | _ => none
def dstL (len n pc i nL : Nat) (lo : dL0) (st : List Value) : Option dP := match st with
  | .long x :: r => if len = n ∧ i + 1 < nL then some (pc + n, dset2 lo i (.long x), r) else none
  | _ => none
def dstA (len n pc i nL : Nat) (lo : dL0) (st : List Value) : Option dP := match st with
  | .ref x :: r => if len = n ∧ i < nL then some (pc + n, dset1 lo i (.ref x), r) else none
  | .null :: r => if len = n ∧ i < nL then some (pc + n, dset1 lo i .null, r) else none
  | _ => none
def dcnd (c : ClassFile.Cond) (x y : Int32) : Bool := match c with
  | .eq => decide (x = y) | .ne => decide (¬ x = y) | .lt => decide (x < y) | .ge => decide (y ≤ x) | .gt => decide (y < x) | .le => decide (x ≤ y)
def dif (len pc : Nat) (lo : dL0) (r : List Value) (off : Int) (b : Bool) : Option dP :=
  if len = 3 then (dto pc off).map fun t => (if b = true then t else pc + 3, lo, r) else none
def dsw (pc : Nat) (lo : dL0) (r : List Value) (dflt low hi : Int) (offs : Array Int) (x : Int32) : Option dP :=
  if x.toInt < low ∨ hi < x.toInt then (dto pc dflt).map fun t => (t, lo, r) else match offs[(x.toInt - low).toNat]? with
  | some off => (dto pc off).map fun t => (t, lo, r)
  | none => none
def dlk (pc : Nat) (lo : dL0) (r : List Value) (dflt : Int) (ps : Array (Int × Int)) (x : Int32) : Option dP :=
  if (ps.toList.zip (ps.toList.drop 1)).all (fun (a, next) => a.1 < next.1) = true then (dto pc (Op.lookupswitch.offset ps.toList dflt x.toInt)).map fun t => (t, lo, r) else none
def dinc (len pc nL k : Nat) (n : Int) (lo : dL0) (st : List Value) : Option dP := match lo k with
  | some (.int x) => if len = 3 ∧ k < nL then some (pc + 3, dset1 lo k (.int (x + Int32.ofInt n)), st) else none
  | _ => none
def dcmpL (len pc : Nat) (lo : dL0) (st : List Value) : Option dP := match st with
  | .long y :: .long x :: r => if len = 1 then some (pc + 1, lo, .int (lg_cmp x y) :: r) else none
  | _ => none
def ddup (len pc : Nat) (lo : dL0) (st : List Value) : Option dP := match st with
  | v :: r => if len = 1 ∧ v.category = 1 then some (pc + 1, lo, v :: v :: r) else none
  | _ => none
def dpop (len pc : Nat) (lo : dL0) (st : List Value) : Option dP := match st with
  | v :: r => if len = 1 ∧ v.category = 1 then some (pc + 1, lo, r) else none
  | _ => none
def ddup2 (len pc : Nat) (lo : dL0) (st : List Value) : Option dP := match st with
  | v :: w :: r => if len = 1 ∧ v.category = 1 ∧ w.category = 1 then some (pc + 1, lo, v :: w :: v :: w :: r) else none
  | _ => none
def difI (len pc : Nat) (lo : dL0) (st : List Value) (c : ClassFile.Cond) (off : Int) : Option dP := match st with
  | .int x :: r => dif len pc lo r off (dcnd c x 0)
  | _ => none
def difII (len pc : Nat) (lo : dL0) (st : List Value) (c : ClassFile.Cond) (off : Int) : Option dP := match st with
  | .int y :: .int x :: r => dif len pc lo r off (dcnd c x y)
  | _ => none
def difN (len pc : Nat) (lo : dL0) (st : List Value) (off : Int) (b : Bool) : Option dP := match st with
  | .ref _ :: r => dif len pc lo r off (!b)
  | .null :: r => dif len pc lo r off b
  | _ => none
def dswI (pc : Nat) (lo : dL0) (st : List Value) (d low hi : Int) (offs : Array Int) : Option dP := match st with
  | .int x :: r => dsw pc lo r d low hi offs x
  | _ => none
def dlkI (pc : Nat) (lo : dL0) (st : List Value) (d : Int) (ps : Array (Int × Int)) : Option dP := match st with
  | .int x :: r => dlk pc lo r d ps x
  | _ => none
def dpure (i : Instr) (len pc nL : Nat) (lo : dL0) (st : List Value) : Option dP := match i with
  | .iconst n => dpush len 1 pc lo st (.int (Int32.ofInt n))
  | .bipush n => dpush len 2 pc lo st (.int (Int8.ofInt n).toInt32)
  | .sipush n => dpush len 3 pc lo st (.int (Int16.ofInt n).toInt32)
  | .lconst n => dpush len 1 pc lo st (.long (Int64.ofNat (n : Nat)))
  | .aconst_null => dpush len 1 pc lo st .null
  | .iload_n k => dldI len 1 pc (k : Nat) lo st
  | .iload k => dldI len 2 pc k lo st
  | .lload_n k => dldL len 1 pc (k : Nat) lo st
  | .lload k => dldL len 2 pc k lo st
  | .aload_n k => dldA len 1 pc (k : Nat) lo st
  | .aload k => dldA len 2 pc k lo st
  | .istore_n k => dstI len 1 pc (k : Nat) nL lo st
  | .istore k => dstI len 2 pc k nL lo st
  | .lstore_n k => dstL len 1 pc (k : Nat) nL lo st
  | .lstore k => dstL len 2 pc k nL lo st
  | .astore_n k => dstA len 1 pc (k : Nat) nL lo st
  | .astore k => dstA len 2 pc k nL lo st
  | .iinc k n => dinc len pc nL k n lo st
  | .iadd => dbin len pc lo st fun x y => some (x + y)
  | .isub => dbin len pc lo st fun x y => some (x - y)
  | .imul => dbin len pc lo st fun x y => some (x * y)
  | .iand => dbin len pc lo st fun x y => some (x &&& y)
  | .ior => dbin len pc lo st fun x y => some (x ||| y)
  | .ixor => dbin len pc lo st fun x y => some (x ^^^ y)
  | .ishl => dbin len pc lo st fun x y => some (x <<< (y &&& 31))
  | .ishr => dbin len pc lo st fun x y => some (x >>> (y &&& 31))
  | .iushr => dbin len pc lo st fun x y => some (x.toUInt32 >>> (y.toUInt32 &&& Int32.toUInt32 31)).toInt32
  | .idiv => dbin len pc lo st fun x y => if y = 0 then none else some (x / y)
  | .irem => dbin len pc lo st fun x y => if y = 0 then none else some (x - x / y * y)
  | .ineg => dun len pc lo st fun x => .int (-x)
  | .i2l => dun len pc lo st fun x => .long x.toInt64
  | .i2b => dun len pc lo st fun x => .int x.toInt8.toInt32
  | .i2c => dun len pc lo st fun x => .int (x.toUInt32 % 65536).toInt32
  | .l2i => dunL len pc lo st fun x => .int x.toInt32
  | .lneg => dunL len pc lo st fun x => .long (-x)
  | .ladd => dbinL len pc lo st fun x y => some (x + y)
  | .lsub => dbinL len pc lo st fun x y => some (x - y)
  | .lmul => dbinL len pc lo st fun x y => some (x * y)
  | .land => dbinL len pc lo st fun x y => some (x &&& y)
  | .lor => dbinL len pc lo st fun x y => some (x ||| y)
  | .ldiv => dbinL len pc lo st fun x y => if y = 0 then none else some (x / y)
  | .lrem => dbinL len pc lo st fun x y => if y = 0 then none else some (x - x / y * y)
  | .lshl => dshL len pc lo st fun x y => x <<< (y.toInt64 &&& 63)
  | .lshr => dshL len pc lo st fun x y => x >>> (y.toInt64 &&& 63)
  | .lushr => dshL len pc lo st fun x y => (x.toUInt64 >>> (y.toInt64.toUInt64 &&& Int64.toUInt64 63)).toInt64
  | .lcmp => dcmpL len pc lo st
  | .dup => ddup len pc lo st
  | .pop => dpop len pc lo st
  | .dup2 => ddup2 len pc lo st
  | .ifCond c off => difI len pc lo st c off
  | .if_icmp c off => difII len pc lo st c off
  | .ifnull off => difN len pc lo st off true
  | .ifnonnull off => difN len pc lo st off false
  | .goto off => dif len pc lo st off true
  | .tableswitch d low hi offs => dswI pc lo st d low hi offs
  | .lookupswitch d ps => dlkI pc lo st d ps
  | _ => none
