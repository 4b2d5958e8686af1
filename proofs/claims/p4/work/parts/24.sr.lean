/-! steps of the reference's methods as conditions: (texts' places, texts, b, what lies beside, the object, its rows) -/
abbrev rCx : Type := (Nat → Nat) × List (Nat × Nat × List Int32) × Nat × dH × Nat × (Nat → Nat)
abbrev cE (C : rCx) : dE := dEE C.1 C.2.1
abbrev cb (C : rCx) : Nat := C.2.2.1
abbrev co (C : rCx) : Nat := C.2.2.2.2.1
abbrev cad (C : rCx) : Nat → Nat := C.2.2.2.2.2
def cOK (C : rCx) : Prop := rA (cb C) (co C) (cad C)
abbrev cH (C : rCx) (σ : rS) : dH := rH C.2.2.2.1 (co C) (cad C) σ
def wG (C : rCx) (d : Nat) (r : dM) (pc : Nat) (L : List (Option Value)) (st : List Value) (σ : rS) (Q : Option Value → rS → Prop) : Prop :=
  ∀ lo, lA lo L → ∃ v σ', dGo (cE C) (cb C) d r pc lo st (cH C σ) 0 0 (v, cH C σ', 0, 0) ∧ Q v σ'
def qI (Q : Int32 → rS → Prop) (v : Option Value) (σ : rS) : Prop := ∃ x, v = some (.int x) ∧ Q x σ
def qL (Q : Int64 → rS → Prop) (v : Option Value) (σ : rS) : Prop := ∃ x, v = some (.long x) ∧ Q x σ
def qV (Q : rS → Prop) (v : Option Value) (σ : rS) : Prop := v = none ∧ Q σ
/-- a number that is a boolean; a place within a row -/
def nb (x : Int32) : Prop := x = 0 ∨ x = 1
def inb (i : Int32) (n : Nat) : Prop := ¬ (i < 0 ∨ n ≤ i.toNatClampNeg)
/-- a method's run from its beginning -/
def rMM (C : rCx) (d : Nat) (m : dM) (as : List Value) (σ : rS) (v : Option Value) (σ' : rS) : Prop := dGo (cE C) (cb C) d m 0 (dent as) [] (cH C σ) 0 0 (v, cH C σ', 0, 0)
def cI (C : rCx) (d : Nat) (m : dM) (as : List Value) (σ : rS) (K : Int32 → rS → Prop) : Prop := ∃ x σ', rMM C d m as σ (some (.int x)) σ' ∧ K x σ'
def cJ (C : rCx) (d : Nat) (m : dM) (as : List Value) (σ : rS) (K : Int64 → rS → Prop) : Prop := ∃ x σ', rMM C d m as σ (some (.long x)) σ' ∧ K x σ'
def cV (C : rCx) (d : Nat) (m : dM) (as : List Value) (σ : rS) (K : rS → Prop) : Prop := ∃ σ', rMM C d m as σ none σ' ∧ K σ'
section SR
variable {C : rCx} {d : Nat} {r : dM} {pc : Nat} {L : List (Option Value)} {st : List Value} {σ : rS} {Q : Option Value → rS → Prop}
theorem s_p {i : Instr} {len pc' : Nat} {st' : List Value} (hd : decode r.2.1 pc = .ok (i, len)) (hw : ∀ lo, dpure i len pc r.2.2.1 lo st = some (pc', lo, st')) (K : wG C d r pc' L st' σ Q) : wG C d r pc L st σ Q := by
  intro lo hl
  obtain ⟨v, σ', h1, h2⟩ := K lo hl
  exact ⟨v, σ', go_pure hd (hw lo) h1, h2⟩
theorem s_w {L' : List (Option Value)} (hs : lsub L' L) (K : wG C d r pc L' st σ Q) : wG C d r pc L st σ Q := fun lo hl => K lo (lA_sub hs hl)
theorem s_iln {k} {x : Int32} (hd : decode r.2.1 pc = .ok (.iload_n k, 1)) (hk : L[(k : Nat)]? = some (some (.int x))) (K : wG C d r (pc + 1) L (.int x :: st) σ Q) : wG C d r pc L st σ Q := by
  intro lo hl
  obtain ⟨v, σ', h1, h2⟩ := K lo hl
  refine ⟨v, σ', go_pure hd (w := (pc + 1, lo, .int x :: st)) ?_ h1, h2⟩
  show dldI 1 1 pc (k : Nat) lo st = _
  unfold dldI
  rw [hl _ _ hk]; rfl
theorem s_il {k : Nat} {x : Int32} (hd : decode r.2.1 pc = .ok (.iload k, 2)) (hk : L[k]? = some (some (.int x))) (K : wG C d r (pc + 2) L (.int x :: st) σ Q) : wG C d r pc L st σ Q := by
  intro lo hl
  obtain ⟨v, σ', h1, h2⟩ := K lo hl
  refine ⟨v, σ', go_pure hd (w := (pc + 2, lo, .int x :: st)) ?_ h1, h2⟩
  show dldI 2 2 pc k lo st = _
  unfold dldI
  rw [hl _ _ hk]; rfl
theorem s_lln {k} {x : Int64} (hd : decode r.2.1 pc = .ok (.lload_n k, 1)) (hk : L[(k : Nat)]? = some (some (.long x))) (K : wG C d r (pc + 1) L (.long x :: st) σ Q) : wG C d r pc L st σ Q := by
  intro lo hl
  obtain ⟨v, σ', h1, h2⟩ := K lo hl
  refine ⟨v, σ', go_pure hd (w := (pc + 1, lo, .long x :: st)) ?_ h1, h2⟩
  show dldL 1 1 pc (k : Nat) lo st = _
  unfold dldL
  rw [hl _ _ hk]; rfl
theorem s_ll {k : Nat} {x : Int64} (hd : decode r.2.1 pc = .ok (.lload k, 2)) (hk : L[k]? = some (some (.long x))) (K : wG C d r (pc + 2) L (.long x :: st) σ Q) : wG C d r pc L st σ Q := by
  intro lo hl
  obtain ⟨v, σ', h1, h2⟩ := K lo hl
  refine ⟨v, σ', go_pure hd (w := (pc + 2, lo, .long x :: st)) ?_ h1, h2⟩
  show dldL 2 2 pc k lo st = _
  unfold dldL
  rw [hl _ _ hk]; rfl
theorem s_aln {k} {x : Nat} (hd : decode r.2.1 pc = .ok (.aload_n k, 1)) (hk : L[(k : Nat)]? = some (some (.ref x))) (K : wG C d r (pc + 1) L (.ref x :: st) σ Q) : wG C d r pc L st σ Q := by
  intro lo hl
  obtain ⟨v, σ', h1, h2⟩ := K lo hl
  refine ⟨v, σ', go_pure hd (w := (pc + 1, lo, .ref x :: st)) ?_ h1, h2⟩
  show dldA 1 1 pc (k : Nat) lo st = _
  unfold dldA
  rw [hl _ _ hk]; rfl
theorem s_isn {k} {x : Int32} {L' : List (Option Value)} (hd : decode r.2.1 pc = .ok (.istore_n k, 1)) (hk : (k : Nat) < r.2.2.1) (hL : lset1 L (k : Nat) (.int x) = L') (K : wG C d r (pc + 1) L' st σ Q) : wG C d r pc L (.int x :: st) σ Q := by
  intro lo hl
  obtain ⟨v, σ', h1, h2⟩ := K _ (by rw [← hL]; exact lA_set1 hl)
  refine ⟨v, σ', go_pure hd (w := (pc + 1, dset1 lo (k : Nat) (.int x), st)) ?_ h1, h2⟩
  show dstI 1 1 pc (k : Nat) r.2.2.1 lo (.int x :: st) = _
  unfold dstI
  simp only [hk, and_self, if_true]
theorem s_is {k : Nat} {x : Int32} {L' : List (Option Value)} (hd : decode r.2.1 pc = .ok (.istore k, 2)) (hk : k < r.2.2.1) (hL : lset1 L k (.int x) = L') (K : wG C d r (pc + 2) L' st σ Q) : wG C d r pc L (.int x :: st) σ Q := by
  intro lo hl
  obtain ⟨v, σ', h1, h2⟩ := K _ (by rw [← hL]; exact lA_set1 hl)
  refine ⟨v, σ', go_pure hd (w := (pc + 2, dset1 lo k (.int x), st)) ?_ h1, h2⟩
  show dstI 2 2 pc k r.2.2.1 lo (.int x :: st) = _
  unfold dstI
  simp only [hk, and_self, if_true]
theorem s_lsn {k} {x : Int64} {L' : List (Option Value)} (hd : decode r.2.1 pc = .ok (.lstore_n k, 1)) (hk : (k : Nat) + 1 < r.2.2.1) (hL : lset2 L (k : Nat) (.long x) = L') (K : wG C d r (pc + 1) L' st σ Q) : wG C d r pc L (.long x :: st) σ Q := by
  intro lo hl
  obtain ⟨v, σ', h1, h2⟩ := K _ (by rw [← hL]; exact lA_set2 hl)
  refine ⟨v, σ', go_pure hd (w := (pc + 1, dset2 lo (k : Nat) (.long x), st)) ?_ h1, h2⟩
  show dstL 1 1 pc (k : Nat) r.2.2.1 lo (.long x :: st) = _
  unfold dstL
  simp only [hk, and_self, if_true]
theorem s_ls {k : Nat} {x : Int64} {L' : List (Option Value)} (hd : decode r.2.1 pc = .ok (.lstore k, 2)) (hk : k + 1 < r.2.2.1) (hL : lset2 L k (.long x) = L') (K : wG C d r (pc + 2) L' st σ Q) : wG C d r pc L (.long x :: st) σ Q := by
  intro lo hl
  obtain ⟨v, σ', h1, h2⟩ := K _ (by rw [← hL]; exact lA_set2 hl)
  refine ⟨v, σ', go_pure hd (w := (pc + 2, dset2 lo k (.long x), st)) ?_ h1, h2⟩
  show dstL 2 2 pc k r.2.2.1 lo (.long x :: st) = _
  unfold dstL
  simp only [hk, and_self, if_true]
theorem s_inc {k : Nat} {n : Int} {x y : Int32} {L' : List (Option Value)} (hd : decode r.2.1 pc = .ok (.iinc k n, 3)) (hx : L[k]? = some (some (.int x))) (hk : k < r.2.2.1) (hy : x + Int32.ofInt n = y) (hL : lset1 L k (.int y) = L') (K : wG C d r (pc + 3) L' st σ Q) : wG C d r pc L st σ Q := by
  intro lo hl
  subst hy
  obtain ⟨v, σ', h1, h2⟩ := K _ (by rw [← hL]; exact lA_set1 hl)
  refine ⟨v, σ', go_pure hd (w := (pc + 3, dset1 lo k (.int (x + Int32.ofInt n)), st)) ?_ h1, h2⟩
  show dinc 3 pc r.2.2.1 k n lo st = _
  unfold dinc
  rw [hl _ _ hx]
  simp only [hk, and_self, if_true]
theorem s_ii {c : ClassFile.Cond} {off : Int} {t : Nat} {x y : Int32} (P : Prop) [Decidable P] (hd : decode r.2.1 pc = .ok (.if_icmp c off, 3)) (ht : dto pc off = some t) (hP : dcnd c x y = decide P) (K1 : P → wG C d r t L st σ Q) (K2 : ¬ P → wG C d r (pc + 3) L st σ Q) : wG C d r pc L (.int y :: .int x :: st) σ Q := by
  by_cases h : P
  · refine s_p hd (fun lo => ?_) (K1 h)
    show dif 3 pc lo st off (dcnd c x y) = _
    unfold dif
    rw [hP, ht, decide_eq_true h]; rfl
  · refine s_p hd (fun lo => ?_) (K2 h)
    show dif 3 pc lo st off (dcnd c x y) = _
    unfold dif
    rw [hP, ht, decide_eq_false h]; rfl
theorem s_iin {c : ClassFile.Cond} {off : Int} {t : Nat} {x y : Int32} (P : Prop) [Decidable P] (hd : decode r.2.1 pc = .ok (.if_icmp c off, 3)) (ht : dto pc off = some t) (hP : dcnd c x y = decide (¬ P)) (K1 : ¬ P → wG C d r t L st σ Q) (K2 : P → wG C d r (pc + 3) L st σ Q) : wG C d r pc L (.int y :: .int x :: st) σ Q := s_ii (¬ P) hd ht hP K1 (fun h => K2 (Decidable.not_not.mp h))
theorem s_i {c : ClassFile.Cond} {off : Int} {t : Nat} {x : Int32} (P : Prop) [Decidable P] (hd : decode r.2.1 pc = .ok (.ifCond c off, 3)) (ht : dto pc off = some t) (hP : dcnd c x 0 = decide P) (K1 : P → wG C d r t L st σ Q) (K2 : ¬ P → wG C d r (pc + 3) L st σ Q) : wG C d r pc L (.int x :: st) σ Q := by
  by_cases h : P
  · refine s_p hd (fun lo => ?_) (K1 h)
    show dif 3 pc lo st off (dcnd c x 0) = _
    unfold dif
    rw [hP, ht, decide_eq_true h]; rfl
  · refine s_p hd (fun lo => ?_) (K2 h)
    show dif 3 pc lo st off (dcnd c x 0) = _
    unfold dif
    rw [hP, ht, decide_eq_false h]; rfl
theorem s_in {c : ClassFile.Cond} {off : Int} {t : Nat} {x : Int32} (P : Prop) [Decidable P] (hd : decode r.2.1 pc = .ok (.ifCond c off, 3)) (ht : dto pc off = some t) (hP : dcnd c x 0 = decide (¬ P)) (K1 : ¬ P → wG C d r t L st σ Q) (K2 : P → wG C d r (pc + 3) L st σ Q) : wG C d r pc L (.int x :: st) σ Q := s_i (¬ P) hd ht hP K1 (fun h => K2 (Decidable.not_not.mp h))
theorem s_swd {dflt low hi : Int} {offs : Array Int} {len t : Nat} {x : Int32} (hd : decode r.2.1 pc = .ok (.tableswitch dflt low hi offs, len)) (hx : x.toInt < low ∨ hi < x.toInt) (ht : dto pc dflt = some t) (K : wG C d r t L st σ Q) : wG C d r pc L (.int x :: st) σ Q := by
  refine s_p hd (fun lo => ?_) K
  show dsw pc lo st dflt low hi offs x = _
  unfold dsw
  rw [if_pos hx, ht]; rfl
theorem s_div {x y : Int32} (hd : decode r.2.1 pc = .ok (.idiv, 1)) (hy : ¬ y = 0) (K : wG C d r (pc + 1) L (.int (x / y) :: st) σ Q) : wG C d r pc L (.int y :: .int x :: st) σ Q := by
  refine s_p hd (fun lo => ?_) K
  show dbin 1 pc lo (.int y :: .int x :: st) (fun x y => if y = 0 then none else some (x / y)) = _
  unfold dbin
  simp only [hy, if_false, if_true, Option.map]
theorem s_rem {x y : Int32} (hd : decode r.2.1 pc = .ok (.irem, 1)) (hy : ¬ y = 0) (K : wG C d r (pc + 1) L (.int (x - x / y * y) :: st) σ Q) : wG C d r pc L (.int y :: .int x :: st) σ Q := by
  refine s_p hd (fun lo => ?_) K
  show dbin 1 pc lo (.int y :: .int x :: st) (fun x y => if y = 0 then none else some (x - x / y * y)) = _
  unfold dbin
  simp only [hy, if_false, if_true, Option.map]
theorem s_ldiv {x y : Int64} (hd : decode r.2.1 pc = .ok (.ldiv, 1)) (hy : ¬ y = 0) (K : wG C d r (pc + 1) L (.long (x / y) :: st) σ Q) : wG C d r pc L (.long y :: .long x :: st) σ Q := by
  refine s_p hd (fun lo => ?_) K
  show dbinL 1 pc lo (.long y :: .long x :: st) (fun x y => if y = 0 then none else some (x / y)) = _
  unfold dbinL
  simp only [hy, if_false, if_true, Option.map]
theorem s_lrem {x y : Int64} (hd : decode r.2.1 pc = .ok (.lrem, 1)) (hy : ¬ y = 0) (K : wG C d r (pc + 1) L (.long (x - x / y * y) :: st) σ Q) : wG C d r pc L (.long y :: .long x :: st) σ Q := by
  refine s_p hd (fun lo => ?_) K
  show dbinL 1 pc lo (.long y :: .long x :: st) (fun x y => if y = 0 then none else some (x - x / y * y)) = _
  unfold dbinL
  simp only [hy, if_false, if_true, Option.map]
/-- a step that reads or writes the object or its rows -/
theorem s_h {i : Instr} {len : Nat} {st' : List Value} {σ1 : rS} (hd : decode r.2.1 pc = .ok (i, len)) (h0 : ∀ lo, dpure i len pc r.2.2.1 lo st = none) (hg : dheap (cE C) (cb C) d r i len st (cH C σ) 0 0 = some (st', cH C σ1, 0, 0)) (K : wG C d r (pc + len) L st' σ1 Q) : wG C d r pc L st σ Q := by
  intro lo hl
  obtain ⟨v, σ', h1, h2⟩ := K lo hl
  exact ⟨v, σ', go_heap hd (h0 lo) hg h1, h2⟩
theorem s_get {idx k : Nat} (hd : decode r.2.1 pc = .ok (.getfield idx, 3)) (ho : r.2.2.2.2.2.1 = 16) (hf : (tFL 16).lookup idx = some (16, k)) (hk : k < 126) {v : Value} (hv : rV (cad C) σ k = v) (K : wG C d r (pc + 3) L (v :: st) σ Q) : wG C d r pc L (.ref (co C) :: st) σ Q := by
  intro lo hl
  obtain ⟨w, σ', h1, h2⟩ := K lo hl
  exact ⟨w, σ', rg_get hd ho hf hk hv h1, h2⟩
theorem s_put {idx k : Nat} {x : Int32} {ty : FieldType} (hC : cOK C) (hd : decode r.2.1 pc = .ok (.putfield idx, 3)) (ho : r.2.2.2.2.2.1 = 16) (hf : (tFL 16).lookup idx = some (16, k)) (hk : k < 126 ∧ rT k = none ∧ ¬ (k = 110 ∨ k = 112)) (ht : tFT 16 k = some (ty, false)) (hn : narrow ty (.int x) = .int x ∧ fits ty (.int x) = true) (K : wG C d r (pc + 3) L st (siU σ k x) Q) : wG C d r pc L (.int x :: .ref (co C) :: st) σ Q := by
  intro lo hl
  obtain ⟨w, σ', h1, h2⟩ := K lo hl
  exact ⟨w, σ', rg_puti hC hd ho hf hk.1 hk.2.1 hk.2.2 ht hn.1 hn.2 h1, h2⟩
theorem s_putl {idx k : Nat} {x : Int64} (hC : cOK C) (hd : decode r.2.1 pc = .ok (.putfield idx, 3)) (ho : r.2.2.2.2.2.1 = 16) (hf : (tFL 16).lookup idx = some (16, k)) (hk : k < 126 ∧ rT k = none ∧ (k = 110 ∨ k = 112)) (ht : tFT 16 k = some (.long, false)) (K : wG C d r (pc + 3) L st (slU σ k x) Q) : wG C d r pc L (.long x :: .ref (co C) :: st) σ Q := by
  have he : dupd (cH C σ) (co C) (.inr (16, (rF (cad C) σ).set k (.long x))) = cH C (slU σ k x) := rH_put (b := cb C) (by unfold rV slU; rw [hk.2.1]; simp [hk.2.2]) (fun j hj => by unfold rV slU; simp [hj]) rfl
  have hlen : k < (rF (cad C) σ).length := by unfold rF; simp; exact hk.1
  refine s_h hd (fun _ => rfl) ?_ K
  show dputf (cE C) (cb C) r.2.2.2.2.2.1 3 idx _ (.long x :: .ref (co C) :: st) (cH C σ) 0 0 = _
  have hf' : eFL (cE C) 16 idx = some (16, k) := hf
  have ht' : eFT (cE C) 16 k = some (.long, false) := ht
  unfold dputf
  simp only [rH_obj, ho, hf', ht']
  rw [if_pos ⟨trivial, hC.1, trivial, Or.inl trivial, rfl, rfl, hlen⟩, he]
theorem s_ald {k n : Nat} {i : Int32} (hC : cOK C) (hd : decode r.2.1 pc = .ok (.iaload, 1)) (hT : rT k = some (0, n)) (hin : inb i n) (K : wG C d r (pc + 1) L (.int (σ.2.2.1 k i.toNatClampNeg) :: st) σ Q) : wG C d r pc L (.int i :: .ref (cad C k) :: st) σ Q := by
  intro lo hl
  obtain ⟨w, σ', h1, h2⟩ := K lo hl
  exact ⟨w, σ', rg_ild hC hd hT hin h1, h2⟩
theorem s_bld {k n : Nat} {i : Int32} (hC : cOK C) (hd : decode r.2.1 pc = .ok (.baload, 1)) (hT : rT k = some (1, n)) (hin : inb i n) (K : wG C d r (pc + 1) L (.int (σ.2.2.1 k i.toNatClampNeg) :: st) σ Q) : wG C d r pc L (.int i :: .ref (cad C k) :: st) σ Q := by
  intro lo hl
  obtain ⟨w, σ', h1, h2⟩ := K lo hl
  exact ⟨w, σ', rg_bld hC hd hT hin h1, h2⟩
theorem s_zld {k n : Nat} {i : Int32} (hC : cOK C) (hd : decode r.2.1 pc = .ok (.baload, 1)) (hT : rT k = some (3, n)) (hin : inb i n) (K : wG C d r (pc + 1) L (.int (σ.2.2.1 k i.toNatClampNeg) :: st) σ Q) : wG C d r pc L (.int i :: .ref (cad C k) :: st) σ Q := by
  refine s_h hd (fun _ => rfl) ?_ K
  have hin : ¬ (i < 0 ∨ n ≤ i.toNatClampNeg) := hin
  show dor (daldI 1 1 (.int i :: .ref (cad C k) :: st) (cH C σ) 0 0) (dor (daldI 3 1 (.int i :: .ref (cad C k) :: st) (cH C σ) 0 0) _) = _
  have h1 : daldI 1 1 (.int i :: .ref (cad C k) :: st) (cH C σ) 0 0 = none := by
    unfold daldI
    simp only [rH_row hC hT, rRow]
    simp
  have h2 : daldI 3 1 (.int i :: .ref (cad C k) :: st) (cH C σ) 0 0 = some (.int (σ.2.2.1 k i.toNatClampNeg) :: st, cH C σ, 0, 0) := by
    unfold daldI
    simp only [rH_row hC hT, rRow]
    simp [hin]
  rw [h1, h2]
  rfl
theorem s_lld {k n : Nat} {i : Int32} (hC : cOK C) (hd : decode r.2.1 pc = .ok (.laload, 1)) (hT : rT k = some (2, n)) (hin : inb i n) (K : wG C d r (pc + 1) L (.long (σ.2.2.2 k i.toNatClampNeg) :: st) σ Q) : wG C d r pc L (.int i :: .ref (cad C k) :: st) σ Q := by
  refine s_h hd (fun _ => rfl) ?_ K
  have hin : ¬ (i < 0 ∨ n ≤ i.toNatClampNeg) := hin
  show daldL 1 (.int i :: .ref (cad C k) :: st) (cH C σ) 0 0 = _
  unfold daldL
  simp only [rH_row hC hT, rRow]
  simp [hin]
theorem s_ast {k n : Nat} {i x : Int32} (hC : cOK C) (hd : decode r.2.1 pc = .ok (.iastore, 1)) (hT : rT k = some (0, n)) (hin : inb i n) (K : wG C d r (pc + 1) L st (riU σ k i.toNatClampNeg x) Q) : wG C d r pc L (.int x :: .int i :: .ref (cad C k) :: st) σ Q := by
  intro lo hl
  obtain ⟨w, σ', h1, h2⟩ := K lo hl
  exact ⟨w, σ', rg_ist hC hd hT hin h1, h2⟩
theorem s_bst {k n : Nat} {i x : Int32} (hC : cOK C) (hd : decode r.2.1 pc = .ok (.bastore, 1)) (hT : rT k = some (1, n)) (hin : inb i n) (K : wG C d r (pc + 1) L st (riU σ k i.toNatClampNeg (vp_nar .byte x)) Q) : wG C d r pc L (.int x :: .int i :: .ref (cad C k) :: st) σ Q := by
  have hin : ¬ (i < 0 ∨ n ≤ i.toNatClampNeg) := hin
  have he : dupd (cH C σ) (cad C k) (rRow (riU σ k i.toNatClampNeg (vp_nar .byte x)) k (1, n)) = cH C (riU σ k i.toNatClampNeg (vp_nar .byte x)) := rH_ast hC hT rfl rfl (fun j hj => by unfold riU; simp [hj])
  have he2 : rRow (riU σ k i.toNatClampNeg (vp_nar .byte x)) k (1, n) = .inl (1, n, .inl (upd (σ.2.2.1 k) i.toNatClampNeg (vp_nar .byte x))) := by unfold rRow riU; simp
  have hb9 := (hC.2.1 k _ hT).1
  rw [he2] at he
  have h1 : dastI (cb C) 1 1 (vp_nar .byte) (.int x :: .int i :: .ref (cad C k) :: st) (cH C σ) 0 0 = some (st, cH C (riU σ k i.toNatClampNeg (vp_nar .byte x)), 0, 0) := by
    unfold dastI
    simp only [rH_row hC hT, rRow]
    simp [hin, hb9, he]
  refine s_h hd (fun _ => rfl) ?_ K
  show (match dastI (cb C) 1 1 (vp_nar .byte) (.int x :: .int i :: .ref (cad C k) :: st) (cH C σ) 0 0 with | some g => some g | none => _) = _
  rw [h1]
theorem s_zst {k n : Nat} {i x : Int32} (hC : cOK C) (hd : decode r.2.1 pc = .ok (.bastore, 1)) (hT : rT k = some (3, n)) (hin : inb i n) (K : wG C d r (pc + 1) L st (riU σ k i.toNatClampNeg (vp_nar .boolean x)) Q) : wG C d r pc L (.int x :: .int i :: .ref (cad C k) :: st) σ Q := by
  have hin : ¬ (i < 0 ∨ n ≤ i.toNatClampNeg) := hin
  have he : dupd (cH C σ) (cad C k) (rRow (riU σ k i.toNatClampNeg (vp_nar .boolean x)) k (3, n)) = cH C (riU σ k i.toNatClampNeg (vp_nar .boolean x)) := rH_ast hC hT rfl rfl (fun j hj => by unfold riU; simp [hj])
  have he2 : rRow (riU σ k i.toNatClampNeg (vp_nar .boolean x)) k (3, n) = .inl (3, n, .inl (upd (σ.2.2.1 k) i.toNatClampNeg (vp_nar .boolean x))) := by unfold rRow riU; simp
  have hb9 := (hC.2.1 k _ hT).1
  rw [he2] at he
  have h0 : dastI (cb C) 1 1 (vp_nar .byte) (.int x :: .int i :: .ref (cad C k) :: st) (cH C σ) 0 0 = none := by
    unfold dastI
    simp only [rH_row hC hT, rRow]
    simp
  have h1 : dastI (cb C) 3 1 (vp_nar .boolean) (.int x :: .int i :: .ref (cad C k) :: st) (cH C σ) 0 0 = some (st, cH C (riU σ k i.toNatClampNeg (vp_nar .boolean x)), 0, 0) := by
    unfold dastI
    simp only [rH_row hC hT, rRow]
    simp [hin, hb9, he]
  refine s_h hd (fun _ => rfl) ?_ K
  show (match dastI (cb C) 1 1 (vp_nar .byte) (.int x :: .int i :: .ref (cad C k) :: st) (cH C σ) 0 0 with | some g => some g | none => _) = _
  rw [h0]
  exact h1
theorem s_lst {k n : Nat} {i : Int32} {x : Int64} (hC : cOK C) (hd : decode r.2.1 pc = .ok (.lastore, 1)) (hT : rT k = some (2, n)) (hin : inb i n) (K : wG C d r (pc + 1) L st (rlU σ k i.toNatClampNeg x) Q) : wG C d r pc L (.long x :: .int i :: .ref (cad C k) :: st) σ Q := by
  have hin : ¬ (i < 0 ∨ n ≤ i.toNatClampNeg) := hin
  have he : dupd (cH C σ) (cad C k) (rRow (rlU σ k i.toNatClampNeg x) k (2, n)) = cH C (rlU σ k i.toNatClampNeg x) := rH_ast hC hT rfl rfl (fun j hj => by unfold rlU; simp [hj])
  have he2 : rRow (rlU σ k i.toNatClampNeg x) k (2, n) = .inl (2, n, .inr (.inl (vp_updL (σ.2.2.2 k) i.toNatClampNeg x))) := by unfold rRow rlU; simp
  have hb9 := (hC.2.1 k _ hT).1
  rw [he2] at he
  refine s_h hd (fun _ => rfl) ?_ K
  show dastL (cb C) 1 (.long x :: .int i :: .ref (cad C k) :: st) (cH C σ) 0 0 = _
  unfold dastL
  simp only [rH_row hC hT, rRow]
  simp [hin, hb9, he]
theorem s_ldc {idx : Nat} {x : Int32} (hd : decode r.2.1 pc = .ok (.ldc idx, 2)) (ho : r.2.2.2.2.2.1 = 16) (hf : (tCN 16).lookup idx = some x) (K : wG C d r (pc + 2) L (.int x :: st) σ Q) : wG C d r pc L st σ Q := by
  refine s_h hd (fun _ => rfl) ?_ K
  show (match dldc 2 2 ((eCN (cE C) r.2.2.2.2.2.1 idx).map Value.int) st (cH C σ) 0 0 with | some g => some g | none => _) = _
  have hf' : eCN (cE C) 16 idx = some x := hf
  rw [ho, hf']; rfl
theorem s_ldcw {idx : Nat} {x : Int32} (hd : decode r.2.1 pc = .ok (.ldc_w idx, 3)) (ho : r.2.2.2.2.2.1 = 16) (hf : (tCN 16).lookup idx = some x) (K : wG C d r (pc + 3) L (.int x :: st) σ Q) : wG C d r pc L st σ Q := by
  refine s_h hd (fun _ => rfl) ?_ K
  show dldc 3 3 ((eCN (cE C) r.2.2.2.2.2.1 idx).map Value.int) st (cH C σ) 0 0 = _
  have hf' : eCN (cE C) 16 idx = some x := hf
  rw [ho, hf']; rfl
theorem s_ldcl {idx : Nat} {x : Int64} (hd : decode r.2.1 pc = .ok (.ldc2_w idx, 3)) (ho : r.2.2.2.2.2.1 = 16) (hf : (tCL 16).lookup idx = some x) (K : wG C d r (pc + 3) L (.long x :: st) σ Q) : wG C d r pc L st σ Q := by
  refine s_h hd (fun _ => rfl) ?_ K
  show dldc 3 3 ((eCL (cE C) r.2.2.2.2.2.1 idx).map Value.long) st (cH C σ) 0 0 = _
  have hf' : eCL (cE C) 16 idx = some x := hf
  rw [ho, hf']; rfl
theorem nb_nar {x : Int32} (h : nb x) : narrow .boolean (.int x) = .int x ∧ fits .boolean (.int x) = true := by
  rcases h with rfl | rfl <;> exact ⟨rfl, rfl⟩
theorem in_nar {x : Int32} : narrow .int (.int x) = .int x ∧ fits .int (.int x) = true := ⟨rfl, rfl⟩
theorem s_ri {Q : Int32 → rS → Prop} {x : Int32} {ty : FieldType} (hd : decode r.2.1 pc = .ok (.ireturn, 1)) (ht : r.2.2.2.1 = some ty) (hn : narrow ty (.int x) = .int x ∧ fits ty (.int x) = true) (K : Q x σ) : wG C d r pc L [.int x] σ (qI Q) := fun lo hl => ⟨_, σ, rg_iret hd ht hn.1, x, rfl, K⟩
theorem s_rl {Q : Int64 → rS → Prop} {x : Int64} (hd : decode r.2.1 pc = .ok (.lreturn, 1)) (ht : r.2.2.2.1 = some .long) (K : Q x σ) : wG C d r pc L [.long x] σ (qL Q) := fun lo hl => ⟨_, σ, by
  refine go_ret hd rfl rfl ?_
  unfold dret
  simp [ht], x, rfl, K⟩
theorem s_rv {Q : rS → Prop} (hd : decode r.2.1 pc = .ok (.return_, 1)) (ht : r.2.2.2.1 = none) (K : Q σ) : wG C d r pc L [] σ (qV Q) := fun lo hl => ⟨_, σ, rg_vret hd ht, rfl, K⟩
theorem rMM_up {d' : Nat} {m : dM} {as : List Value} {v : Option Value} {σ' : rS} (hle : d ≤ d') (h : rMM C d m as σ v σ') : rMM C d' m as σ v σ' := go_up hle h
theorem s_call {idx j d0 : Nat} {r' : dM} {As rest : List Value} {v : Option Value} {σ' : rS} (hd : decode r.2.1 pc = .ok (.invokevirtual idx, 3)) (ho : r.2.2.2.2.2.1 = 16) (hm : (tML 16 ++ tMX 16).lookup idx = some j) (hj : MTs[j]? = some r') (hq : r'.2.2.2.2.1 = false ∧ r'.1.name ≠ "<init>" ∧ r'.2.2.2.2.2.1 = 16) (hn : As.length = r'.2.2.2.2.2.2) (hl : (lg_sl (.ref (co C) :: As)).length ≤ r'.2.2.1) (h0 : d0 ≤ d) (hc : (rest.map fun v => v.category).sum ≤ 8) (hM : rMM C d0 r' (.ref (co C) :: As) σ v σ') (K : wG C (d + 1) r (pc + 3) L (v.toList ++ rest) σ' Q) : wG C (d + 1) r pc L (As.reverse ++ .ref (co C) :: rest) σ Q := by
  intro lo hlo
  obtain ⟨w, σ2, h1, h2⟩ := K lo hlo
  exact ⟨w, σ2, rg_call hd ho hm hj hq hn hc hl (rMM_up h0 hM) h1, h2⟩
theorem s_cals {idx j d0 : Nat} {r' : dM} {As rest : List Value} {v : Option Value} {σ' : rS} (hd : decode r.2.1 pc = .ok (.invokestatic idx, 3)) (ho : r.2.2.2.2.2.1 = 16) (hm : (tML 16 ++ tMX 16).lookup idx = some j) (hbi : (tBI 16).lookup idx = none) (hj : MTs[j]? = some r') (hq : r'.2.2.2.2.1 = true) (hn : As.length = r'.2.2.2.2.2.2) (hl : (lg_sl As).length ≤ r'.2.2.1) (h0 : d0 ≤ d) (hc : (rest.map fun v => v.category).sum ≤ 8) (hM : rMM C d0 r' As σ v σ') (K : wG C (d + 1) r (pc + 3) L (v.toList ++ rest) σ' Q) : wG C (d + 1) r pc L (As.reverse ++ rest) σ Q := by
  intro lo hlo
  obtain ⟨w, σ2, h1, h2⟩ := K lo hlo
  have hdr : (As.reverse ++ rest).drop r'.2.2.2.2.2.2 = rest := by rw [← hn, ← List.length_reverse]; simp
  have htk : (As.reverse ++ rest).take r'.2.2.2.2.2.2 = As.reverse := by rw [← hn, ← List.length_reverse]; simp
  have hle : r'.2.2.2.2.2.2 ≤ (As.reverse ++ rest).length := by rw [← hn]; simp
  have hy : dinv (cE C) r.2.2.2.2.2.1 (.invokestatic idx) 3 (As.reverse ++ rest) (cH C σ) = some (r', As, rest) := by
    show dinvS (cE C) r.2.2.2.2.2.1 3 idx _ = _
    have hm' : eML (cE C) 16 idx = some j := hm
    have hj' : eMT (cE C) j = some r' := hj
    unfold dinvS
    simp only [ho, hm', hj', hdr, htk, List.reverse_reverse]
    rw [if_pos ⟨trivial, hq, hle, hc, hl⟩]
  have hh : dheap (cE C) (cb C) (d + 1) r (.invokestatic idx) 3 (As.reverse ++ rest) (cH C σ) 0 0 = none := by
    show dbi (cE C) (cb C) (d + 1) r.2.2.2.2.2.1 3 idx _ _ 0 0 = none
    have hb' : eBI (cE C) 16 idx = none := hbi
    unfold dbi
    rw [ho, hb']
  have K' : dGo (cE C) (cb C) (d + 1) r (pc + 3) lo (v.toList ++ rest) (cH C σ') (0 + 0) (0 + 0) (w, cH C σ2, 0, 0) := h1
  exact ⟨w, σ2, go_call hd rfl hh rfl hy (rMM_up h0 hM) K', h2⟩
end SR
theorem m_I {C : rCx} {d : Nat} {m : dM} {as : List Value} {σ : rS} {Q : Int32 → rS → Prop} {L : List (Option Value)} (hL : lA (dent as) L) (h : wG C d m 0 L [] σ (qI Q)) : cI C d m as σ Q := by
  obtain ⟨v, σ', h1, x, rfl, h2⟩ := h _ hL
  exact ⟨x, σ', h1, h2⟩
theorem m_J {C : rCx} {d : Nat} {m : dM} {as : List Value} {σ : rS} {Q : Int64 → rS → Prop} {L : List (Option Value)} (hL : lA (dent as) L) (h : wG C d m 0 L [] σ (qL Q)) : cJ C d m as σ Q := by
  obtain ⟨v, σ', h1, x, rfl, h2⟩ := h _ hL
  exact ⟨x, σ', h1, h2⟩
theorem m_V {C : rCx} {d : Nat} {m : dM} {as : List Value} {σ : rS} {Q : rS → Prop} {L : List (Option Value)} (hL : lA (dent as) L) (h : wG C d m 0 L [] σ (qV Q)) : cV C d m as σ Q := by
  obtain ⟨v, σ', h1, rfl, h2⟩ := h _ hL
  exact ⟨σ', h1, h2⟩
/-- the locals at a method's beginning -/
def lent : List Value → List (Option Value)
  | [] => []
  | v :: t => if v.category = 2 then some v :: none :: lent t else some v :: lent t
