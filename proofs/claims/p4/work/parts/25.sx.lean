/-! single steps, each with its own row -/
section SX
variable {C : rCx} {d : Nat} {r : dM} {pc : Nat} {L : List (Option Value)} {st : List Value} {σ : rS} {Q : Option Value → rS → Prop}
theorem s_ic {n : Int} {x : Int32} (hd : decode r.2.1 pc = .ok (.iconst n, 1)) (hx : Int32.ofInt n = x) (K : wG C d r (pc + 1) L (.int x :: st) σ Q) : wG C d r pc L st σ Q := by
  subst hx; exact s_p hd (fun _ => rfl) K
theorem s_bi {n : Int} {x : Int32} (hd : decode r.2.1 pc = .ok (.bipush n, 2)) (hx : (Int8.ofInt n).toInt32 = x) (K : wG C d r (pc + 2) L (.int x :: st) σ Q) : wG C d r pc L st σ Q := by
  subst hx; exact s_p hd (fun _ => rfl) K
theorem s_si {n : Int} {x : Int32} (hd : decode r.2.1 pc = .ok (.sipush n, 3)) (hx : (Int16.ofInt n).toInt32 = x) (K : wG C d r (pc + 3) L (.int x :: st) σ Q) : wG C d r pc L st σ Q := by
  subst hx; exact s_p hd (fun _ => rfl) K
theorem s_lc {n} {x : Int64} (hd : decode r.2.1 pc = .ok (.lconst n, 1)) (hx : Int64.ofNat (n : Nat) = x) (K : wG C d r (pc + 1) L (.long x :: st) σ Q) : wG C d r pc L st σ Q := by
  subst hx; exact s_p hd (fun _ => rfl) K
theorem s_iadd {x y : Int32} (hd : decode r.2.1 pc = .ok (.iadd, 1)) (K : wG C d r (pc + 1) L (.int (x + y) :: st) σ Q) : wG C d r pc L (.int y :: .int x :: st) σ Q := s_p hd (fun _ => rfl) K
theorem s_isub {x y : Int32} (hd : decode r.2.1 pc = .ok (.isub, 1)) (K : wG C d r (pc + 1) L (.int (x - y) :: st) σ Q) : wG C d r pc L (.int y :: .int x :: st) σ Q := s_p hd (fun _ => rfl) K
theorem s_imul {x y : Int32} (hd : decode r.2.1 pc = .ok (.imul, 1)) (K : wG C d r (pc + 1) L (.int (x * y) :: st) σ Q) : wG C d r pc L (.int y :: .int x :: st) σ Q := s_p hd (fun _ => rfl) K
theorem s_iand {x y : Int32} (hd : decode r.2.1 pc = .ok (.iand, 1)) (K : wG C d r (pc + 1) L (.int (x &&& y) :: st) σ Q) : wG C d r pc L (.int y :: .int x :: st) σ Q := s_p hd (fun _ => rfl) K
theorem s_ior {x y : Int32} (hd : decode r.2.1 pc = .ok (.ior, 1)) (K : wG C d r (pc + 1) L (.int (x ||| y) :: st) σ Q) : wG C d r pc L (.int y :: .int x :: st) σ Q := s_p hd (fun _ => rfl) K
theorem s_ishl {x y : Int32} (hd : decode r.2.1 pc = .ok (.ishl, 1)) (K : wG C d r (pc + 1) L (.int (x <<< (y &&& 31)) :: st) σ Q) : wG C d r pc L (.int y :: .int x :: st) σ Q := s_p hd (fun _ => rfl) K
theorem s_ishr {x y : Int32} (hd : decode r.2.1 pc = .ok (.ishr, 1)) (K : wG C d r (pc + 1) L (.int (x >>> (y &&& 31)) :: st) σ Q) : wG C d r pc L (.int y :: .int x :: st) σ Q := s_p hd (fun _ => rfl) K
theorem s_iushr {x y : Int32} (hd : decode r.2.1 pc = .ok (.iushr, 1)) (K : wG C d r (pc + 1) L (.int (x.toUInt32 >>> (y.toUInt32 &&& Int32.toUInt32 31)).toInt32 :: st) σ Q) : wG C d r pc L (.int y :: .int x :: st) σ Q := s_p hd (fun _ => rfl) K
theorem s_ineg {x : Int32} (hd : decode r.2.1 pc = .ok (.ineg, 1)) (K : wG C d r (pc + 1) L (.int (-x) :: st) σ Q) : wG C d r pc L (.int x :: st) σ Q := s_p hd (fun _ => rfl) K
theorem s_i2l {x : Int32} (hd : decode r.2.1 pc = .ok (.i2l, 1)) (K : wG C d r (pc + 1) L (.long x.toInt64 :: st) σ Q) : wG C d r pc L (.int x :: st) σ Q := s_p hd (fun _ => rfl) K
theorem s_i2b {x : Int32} (hd : decode r.2.1 pc = .ok (.i2b, 1)) (K : wG C d r (pc + 1) L (.int x.toInt8.toInt32 :: st) σ Q) : wG C d r pc L (.int x :: st) σ Q := s_p hd (fun _ => rfl) K
theorem s_l2i {x : Int64} (hd : decode r.2.1 pc = .ok (.l2i, 1)) (K : wG C d r (pc + 1) L (.int x.toInt32 :: st) σ Q) : wG C d r pc L (.long x :: st) σ Q := s_p hd (fun _ => rfl) K
theorem s_lneg {x : Int64} (hd : decode r.2.1 pc = .ok (.lneg, 1)) (K : wG C d r (pc + 1) L (.long (-x) :: st) σ Q) : wG C d r pc L (.long x :: st) σ Q := s_p hd (fun _ => rfl) K
theorem s_ladd {x y : Int64} (hd : decode r.2.1 pc = .ok (.ladd, 1)) (K : wG C d r (pc + 1) L (.long (x + y) :: st) σ Q) : wG C d r pc L (.long y :: .long x :: st) σ Q := s_p hd (fun _ => rfl) K
theorem s_lsub {x y : Int64} (hd : decode r.2.1 pc = .ok (.lsub, 1)) (K : wG C d r (pc + 1) L (.long (x - y) :: st) σ Q) : wG C d r pc L (.long y :: .long x :: st) σ Q := s_p hd (fun _ => rfl) K
theorem s_lmul {x y : Int64} (hd : decode r.2.1 pc = .ok (.lmul, 1)) (K : wG C d r (pc + 1) L (.long (x * y) :: st) σ Q) : wG C d r pc L (.long y :: .long x :: st) σ Q := s_p hd (fun _ => rfl) K
theorem s_land {x y : Int64} (hd : decode r.2.1 pc = .ok (.land, 1)) (K : wG C d r (pc + 1) L (.long (x &&& y) :: st) σ Q) : wG C d r pc L (.long y :: .long x :: st) σ Q := s_p hd (fun _ => rfl) K
theorem s_lor {x y : Int64} (hd : decode r.2.1 pc = .ok (.lor, 1)) (K : wG C d r (pc + 1) L (.long (x ||| y) :: st) σ Q) : wG C d r pc L (.long y :: .long x :: st) σ Q := s_p hd (fun _ => rfl) K
theorem s_lshl {x : Int64} {y : Int32} (hd : decode r.2.1 pc = .ok (.lshl, 1)) (K : wG C d r (pc + 1) L (.long (x <<< (y.toInt64 &&& 63)) :: st) σ Q) : wG C d r pc L (.int y :: .long x :: st) σ Q := s_p hd (fun _ => rfl) K
theorem s_lushr {x : Int64} {y : Int32} (hd : decode r.2.1 pc = .ok (.lushr, 1)) (K : wG C d r (pc + 1) L (.long (x.toUInt64 >>> (y.toInt64.toUInt64 &&& Int64.toUInt64 63)).toInt64 :: st) σ Q) : wG C d r pc L (.int y :: .long x :: st) σ Q := s_p hd (fun _ => rfl) K
theorem s_lcmp {x y : Int64} (hd : decode r.2.1 pc = .ok (.lcmp, 1)) (K : wG C d r (pc + 1) L (.int (lg_cmp x y) :: st) σ Q) : wG C d r pc L (.long y :: .long x :: st) σ Q := s_p hd (fun _ => rfl) K
theorem s_dup {v : Value} (hd : decode r.2.1 pc = .ok (.dup, 1)) (hv : v.category = 1) (K : wG C d r (pc + 1) L (v :: v :: st) σ Q) : wG C d r pc L (v :: st) σ Q := s_p hd (fun lo => by show ddup 1 pc lo (v :: st) = _; unfold ddup; simp only [hv, and_self, if_true]) K
theorem s_pop {v : Value} (hd : decode r.2.1 pc = .ok (.pop, 1)) (hv : v.category = 1) (K : wG C d r (pc + 1) L st σ Q) : wG C d r pc L (v :: st) σ Q := s_p hd (fun lo => by show dpop 1 pc lo (v :: st) = _; unfold dpop; simp only [hv, and_self, if_true]) K
theorem s_dup2 {v w : Value} (hd : decode r.2.1 pc = .ok (.dup2, 1)) (hv : v.category = 1) (hw : w.category = 1) (K : wG C d r (pc + 1) L (v :: w :: v :: w :: st) σ Q) : wG C d r pc L (v :: w :: st) σ Q := s_p hd (fun lo => by show ddup2 1 pc lo (v :: w :: st) = _; unfold ddup2; simp only [hv, hw, and_self, if_true]) K
theorem s_goto {off : Int} {t : Nat} (hd : decode r.2.1 pc = .ok (.goto off, 3)) (ht : dto pc off = some t) (K : wG C d r t L st σ Q) : wG C d r pc L st σ Q := s_p hd (fun lo => by show dif 3 pc lo st off true = _; unfold dif; rw [ht]; rfl) K
/-! stores, with a name for what is stored -/
theorem s_isnb {k} {x : Int32} (hd : decode r.2.1 pc = .ok (.istore_n k, 1)) (hk : (k : Nat) < r.2.2.1) (K : ∀ y, y = x → wG C d r (pc + 1) (lset1 L (k : Nat) (.int y)) st σ Q) : wG C d r pc L (.int x :: st) σ Q := s_isn hd hk rfl (K x rfl)
theorem s_isb {k : Nat} {x : Int32} (hd : decode r.2.1 pc = .ok (.istore k, 2)) (hk : k < r.2.2.1) (K : ∀ y, y = x → wG C d r (pc + 2) (lset1 L k (.int y)) st σ Q) : wG C d r pc L (.int x :: st) σ Q := s_is hd hk rfl (K x rfl)
theorem s_lsnb {k} {x : Int64} (hd : decode r.2.1 pc = .ok (.lstore_n k, 1)) (hk : (k : Nat) + 1 < r.2.2.1) (K : ∀ y, y = x → wG C d r (pc + 1) (lset2 L (k : Nat) (.long y)) st σ Q) : wG C d r pc L (.long x :: st) σ Q := s_lsn hd hk rfl (K x rfl)
theorem s_lsb {k : Nat} {x : Int64} (hd : decode r.2.1 pc = .ok (.lstore k, 2)) (hk : k + 1 < r.2.2.1) (K : ∀ y, y = x → wG C d r (pc + 2) (lset2 L k (.long y)) st σ Q) : wG C d r pc L (.long x :: st) σ Q := s_ls hd hk rfl (K x rfl)
theorem s_incb {k : Nat} {n : Int} {x m : Int32} (hd : decode r.2.1 pc = .ok (.iinc k n, 3)) (hm : Int32.ofInt n = m) (hx : L[k]? = some (some (.int x))) (hk : k < r.2.2.1) (K : ∀ y, y = x + m → wG C d r (pc + 3) (lset1 L k (.int y)) st σ Q) : wG C d r pc L st σ Q := s_inc hd hx hk (by rw [hm]) rfl (K (x + m) rfl)
theorem s_putb {idx k : Nat} {x : Int32} {ty : FieldType} (hC : cOK C) (hd : decode r.2.1 pc = .ok (.putfield idx, 3)) (ho : r.2.2.2.2.2.1 = 16) (hf : (tFL 16).lookup idx = some (16, k)) (hk : k < 126 ∧ rT k = none ∧ ¬ (k = 110 ∨ k = 112)) (ht : tFT 16 k = some (ty, false)) (hn : narrow ty (.int x) = .int x ∧ fits ty (.int x) = true) (K : ∀ σ1, σ1 = siU σ k x → wG C d r (pc + 3) L st σ1 Q) : wG C d r pc L (.int x :: .ref (co C) :: st) σ Q := s_put hC hd ho hf hk ht hn (K _ rfl)
theorem s_putlb {idx k : Nat} {x : Int64} (hC : cOK C) (hd : decode r.2.1 pc = .ok (.putfield idx, 3)) (ho : r.2.2.2.2.2.1 = 16) (hf : (tFL 16).lookup idx = some (16, k)) (hk : k < 126 ∧ rT k = none ∧ (k = 110 ∨ k = 112)) (ht : tFT 16 k = some (.long, false)) (K : ∀ σ1, σ1 = slU σ k x → wG C d r (pc + 3) L st σ1 Q) : wG C d r pc L (.long x :: .ref (co C) :: st) σ Q := s_putl hC hd ho hf hk ht (K _ rfl)
theorem s_astb {k n : Nat} {i x : Int32} (hC : cOK C) (hd : decode r.2.1 pc = .ok (.iastore, 1)) (hT : rT k = some (0, n)) (hin : inb i n) (K : ∀ σ1, σ1 = riU σ k i.toNatClampNeg x → wG C d r (pc + 1) L st σ1 Q) : wG C d r pc L (.int x :: .int i :: .ref (cad C k) :: st) σ Q := s_ast hC hd hT hin (K _ rfl)
theorem s_bstb {k n : Nat} {i x : Int32} (hC : cOK C) (hd : decode r.2.1 pc = .ok (.bastore, 1)) (hT : rT k = some (1, n)) (hin : inb i n) (K : ∀ σ1, σ1 = riU σ k i.toNatClampNeg (vp_nar .byte x) → wG C d r (pc + 1) L st σ1 Q) : wG C d r pc L (.int x :: .int i :: .ref (cad C k) :: st) σ Q := s_bst hC hd hT hin (K _ rfl)
theorem s_zstb {k n : Nat} {i x : Int32} (hC : cOK C) (hd : decode r.2.1 pc = .ok (.bastore, 1)) (hT : rT k = some (3, n)) (hin : inb i n) (K : ∀ σ1, σ1 = riU σ k i.toNatClampNeg (vp_nar .boolean x) → wG C d r (pc + 1) L st σ1 Q) : wG C d r pc L (.int x :: .int i :: .ref (cad C k) :: st) σ Q := s_zst hC hd hT hin (K _ rfl)
theorem s_lstb {k n : Nat} {i : Int32} {x : Int64} (hC : cOK C) (hd : decode r.2.1 pc = .ok (.lastore, 1)) (hT : rT k = some (2, n)) (hin : inb i n) (K : ∀ σ1, σ1 = rlU σ k i.toNatClampNeg x → wG C d r (pc + 1) L st σ1 Q) : wG C d r pc L (.long x :: .int i :: .ref (cad C k) :: st) σ Q := s_lst hC hd hT hin (K _ rfl)
end SX
theorem m_ent (as : List Value) (n : Nat) : lA (dent as) (lent as ++ List.replicate n none) := by
  have key : ∀ (as : List Value) (k j : Nat) (v : Value), (lent as ++ List.replicate n none)[j]? = some (some v) → (lv_args k as).lookup (k + j) = some v := by
    intro as
    induction as with
    | nil =>
      intro k j v h
      simp [lent, List.getElem?_replicate] at h
    | cons w t ih =>
      intro k j v h
      unfold lent at h
      unfold lv_args
      by_cases e : w.category = 2
      · rw [if_pos e] at h
        cases j with
        | zero =>
          obtain rfl : w = v := by simpa using h
          simp [List.lookup_cons]
        | succ j =>
          cases j with
          | zero => simp at h
          | succ j =>
            have h2 : (lent t ++ List.replicate n none)[j]? = some (some v) := by simpa using h
            have := ih (k + 2) j v h2
            rw [List.lookup_cons, if_pos e]
            have e2 : (k + (j + 1 + 1) == k) = false := by simp
            rw [e2, show k + (j + 1 + 1) = k + 2 + j from by omega]
            exact this
      · rw [if_neg e] at h
        cases j with
        | zero =>
          obtain rfl : w = v := by simpa using h
          simp [List.lookup_cons]
        | succ j =>
          have h2 : (lent t ++ List.replicate n none)[j]? = some (some v) := by simpa using h
          have := ih (k + 1) j v h2
          rw [List.lookup_cons, if_neg e]
          have e2 : (k + (j + 1) == k) = false := by simp
          rw [e2, show k + (j + 1) = k + 1 + j from by omega]
          exact this
  intro j v h
  have := key as 0 j v h
  rw [Nat.zero_add] at this
  exact this
